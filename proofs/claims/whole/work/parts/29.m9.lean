theorem okF {A B : Prop} : ((False → A) ∧ (¬ False → B)) = B := propext ⟨fun h => h.2 id, fun h => ⟨fun z => z.elim, fun _ => h⟩⟩
theorem okT {A B : Prop} : ((True → A) ∧ (¬ True → B)) = A := propext ⟨fun h => h.1 trivial, fun h => ⟨fun _ => h, fun z => (z trivial).elim⟩⟩
theorem nf_3_4 : ((3 : Int32) = 4) = False := eq_false (by decide)
theorem nf_3_5 : ((3 : Int32) = 5) = False := eq_false (by decide)
theorem bl_3 (σ : GS) (a b c : Int32) : xr_X6_belts σ 3 a b c = (bd (xr_X6_isSize σ (σ 22 c.toNatClampNeg)) (fun v267 σ269 => if v267 = 0 then (0, σ269) else xl_X6_belts_62 100 (st (st σ269 13 a.toNatClampNeg (σ 22 c.toNatClampNeg)) 14 a.toNatClampNeg b) 3 a b c a (σ 22 c.toNatClampNeg) 0)) := by
  unfold xr_X6_belts
  simp only [nf_3_4, nf_3_5, eq_self, if_true, if_false]
theorem blo_3 (σ : GS) (a b c : Int32) (h : vp_in c 6 ∧ ((xo_X6_isSize σ (σ 22 c.toNatClampNeg)) ∧ bd (xr_X6_isSize σ (σ 22 c.toNatClampNeg)) (fun v267 σ269 => (v267 = 0 → True) ∧ (¬ (v267 = 0) → vp_in a 4 ∧ (vp_in a 4 ∧ (xlo_X6_belts_62 100 (st (st σ269 13 a.toNatClampNeg (σ 22 c.toNatClampNeg)) 14 a.toNatClampNeg b) 3 a b c a (σ 22 c.toNatClampNeg) 0)))))) : xo_X6_belts σ 3 a b c := by
  unfold xo_X6_belts
  simp only [nf_3_4, nf_3_5, eq_self, okF, okT]
  exact h
theorem nf_4_3 : ((4 : Int32) = 3) = False := eq_false (by decide)
theorem nf_4_5 : ((4 : Int32) = 5) = False := eq_false (by decide)
theorem bl_4 (σ : GS) (a b c : Int32) : xr_X6_belts σ 4 a b c = (if (σ 13 a.toNatClampNeg) = (-1) then bd (xr_X6_isThere σ 0) (fun v136 σ138 => if v136 = 0 then (0, σ138) else bd (xr_X6_isIndex σ138 (σ 22 b.toNatClampNeg) (σ138 13 a.toNatClampNeg)) (fun v140 σ142 => if v140 = 0 then (0, σ142) else if (σ142 12 c.toNatClampNeg) = (-1) then (0, st σ142 15 ((8 * a) + (σ 22 b.toNatClampNeg)).toNatClampNeg (σ142 12 c.toNatClampNeg)) else if (xr_X6_isOf (σ142 9 (σ142 12 c.toNatClampNeg).toNatClampNeg) (σ142 14 a.toNatClampNeg)) = 0 then (0, st σ142 0 27 5) else (0, st σ142 15 ((8 * a) + (σ 22 b.toNatClampNeg)).toNatClampNeg (σ142 12 c.toNatClampNeg)))) else bd (xr_X6_isThere σ 1) (fun v156 σ158 => if v156 = 0 then (0, σ158) else bd (xr_X6_isIndex σ158 (σ 22 b.toNatClampNeg) (σ158 13 a.toNatClampNeg)) (fun v160 σ162 => if v160 = 0 then (0, σ162) else if (σ162 12 c.toNatClampNeg) = (-1) then (0, st σ162 15 ((8 * a) + (σ 22 b.toNatClampNeg)).toNatClampNeg (σ162 12 c.toNatClampNeg)) else if (xr_X6_isOf (σ162 9 (σ162 12 c.toNatClampNeg).toNatClampNeg) (σ162 14 a.toNatClampNeg)) = 0 then (0, st σ162 0 27 5) else (0, st σ162 15 ((8 * a) + (σ 22 b.toNatClampNeg)).toNatClampNeg (σ162 12 c.toNatClampNeg))))) := by
  unfold xr_X6_belts
  simp only [nf_4_3, nf_4_5, eq_self, if_true, if_false]
theorem blo_4 (σ : GS) (a b c : Int32) (h : vp_in b 6 ∧ (vp_in a 4 ∧ (((σ 13 a.toNatClampNeg) = (-1) → (xo_X6_isThere σ 0) ∧ bd (xr_X6_isThere σ 0) (fun v136 σ138 => (v136 = 0 → True) ∧ (¬ (v136 = 0) → vp_in a 4 ∧ ((xo_X6_isIndex σ138 (σ 22 b.toNatClampNeg) (σ138 13 a.toNatClampNeg)) ∧ bd (xr_X6_isIndex σ138 (σ 22 b.toNatClampNeg) (σ138 13 a.toNatClampNeg)) (fun v140 σ142 => (v140 = 0 → True) ∧ (¬ (v140 = 0) → vp_in c 8 ∧ (((σ142 12 c.toNatClampNeg) = (-1) → vp_in c 8 ∧ (vp_in ((8 * a) + (σ 22 b.toNatClampNeg)) 32 ∧ (True))) ∧ (¬ ((σ142 12 c.toNatClampNeg) = (-1)) → vp_in c 8 ∧ (vp_in (σ142 12 c.toNatClampNeg) 64 ∧ (vp_in a 4 ∧ ((xo_X6_isOf (σ142 9 (σ142 12 c.toNatClampNeg).toNatClampNeg) (σ142 14 a.toNatClampNeg)) ∧ (((xr_X6_isOf (σ142 9 (σ142 12 c.toNatClampNeg).toNatClampNeg) (σ142 14 a.toNatClampNeg)) = 0 → True) ∧ (¬ ((xr_X6_isOf (σ142 9 (σ142 12 c.toNatClampNeg).toNatClampNeg) (σ142 14 a.toNatClampNeg)) = 0) → vp_in c 8 ∧ (vp_in ((8 * a) + (σ 22 b.toNatClampNeg)) 32 ∧ (True))))))))))))))) ∧ (¬ ((σ 13 a.toNatClampNeg) = (-1)) → (xo_X6_isThere σ 1) ∧ bd (xr_X6_isThere σ 1) (fun v156 σ158 => (v156 = 0 → True) ∧ (¬ (v156 = 0) → vp_in a 4 ∧ ((xo_X6_isIndex σ158 (σ 22 b.toNatClampNeg) (σ158 13 a.toNatClampNeg)) ∧ bd (xr_X6_isIndex σ158 (σ 22 b.toNatClampNeg) (σ158 13 a.toNatClampNeg)) (fun v160 σ162 => (v160 = 0 → True) ∧ (¬ (v160 = 0) → vp_in c 8 ∧ (((σ162 12 c.toNatClampNeg) = (-1) → vp_in c 8 ∧ (vp_in ((8 * a) + (σ 22 b.toNatClampNeg)) 32 ∧ (True))) ∧ (¬ ((σ162 12 c.toNatClampNeg) = (-1)) → vp_in c 8 ∧ (vp_in (σ162 12 c.toNatClampNeg) 64 ∧ (vp_in a 4 ∧ ((xo_X6_isOf (σ162 9 (σ162 12 c.toNatClampNeg).toNatClampNeg) (σ162 14 a.toNatClampNeg)) ∧ (((xr_X6_isOf (σ162 9 (σ162 12 c.toNatClampNeg).toNatClampNeg) (σ162 14 a.toNatClampNeg)) = 0 → True) ∧ (¬ ((xr_X6_isOf (σ162 9 (σ162 12 c.toNatClampNeg).toNatClampNeg) (σ162 14 a.toNatClampNeg)) = 0) → vp_in c 8 ∧ (vp_in ((8 * a) + (σ 22 b.toNatClampNeg)) 32 ∧ (True)))))))))))))))))) : xo_X6_belts σ 4 a b c := by
  unfold xo_X6_belts
  simp only [nf_4_3, nf_4_5, eq_self, okF, okT]
  exact h
theorem nf_5_3 : ((5 : Int32) = 3) = False := eq_false (by decide)
theorem nf_5_4 : ((5 : Int32) = 4) = False := eq_false (by decide)
theorem bl_5 (σ : GS) (a b c : Int32) : xr_X6_belts σ 5 a b c = (if (σ 13 b.toNatClampNeg) = (-1) then bd (xr_X6_isThere σ 0) (fun v3 σ5 => if v3 = 0 then (0, σ5) else bd (xr_X6_isIndex σ5 (σ 22 c.toNatClampNeg) (σ5 13 b.toNatClampNeg)) (fun v7 σ9 => if v7 = 0 then (0, σ9) else (0, st σ9 12 a.toNatClampNeg (σ9 15 ((8 * b) + (σ 22 c.toNatClampNeg)).toNatClampNeg)))) else bd (xr_X6_isThere σ 1) (fun v23 σ25 => if v23 = 0 then (0, σ25) else bd (xr_X6_isIndex σ25 (σ 22 c.toNatClampNeg) (σ25 13 b.toNatClampNeg)) (fun v27 σ29 => if v27 = 0 then (0, σ29) else (0, st σ29 12 a.toNatClampNeg (σ29 15 ((8 * b) + (σ 22 c.toNatClampNeg)).toNatClampNeg))))) := by
  unfold xr_X6_belts
  simp only [nf_5_3, nf_5_4, eq_self, if_true, if_false]
theorem blo_5 (σ : GS) (a b c : Int32) (h : vp_in c 6 ∧ (vp_in b 4 ∧ (((σ 13 b.toNatClampNeg) = (-1) → (xo_X6_isThere σ 0) ∧ bd (xr_X6_isThere σ 0) (fun v3 σ5 => (v3 = 0 → True) ∧ (¬ (v3 = 0) → vp_in b 4 ∧ ((xo_X6_isIndex σ5 (σ 22 c.toNatClampNeg) (σ5 13 b.toNatClampNeg)) ∧ bd (xr_X6_isIndex σ5 (σ 22 c.toNatClampNeg) (σ5 13 b.toNatClampNeg)) (fun v7 σ9 => (v7 = 0 → True) ∧ (¬ (v7 = 0) → vp_in ((8 * b) + (σ 22 c.toNatClampNeg)) 32 ∧ (vp_in a 8 ∧ (True)))))))) ∧ (¬ ((σ 13 b.toNatClampNeg) = (-1)) → (xo_X6_isThere σ 1) ∧ bd (xr_X6_isThere σ 1) (fun v23 σ25 => (v23 = 0 → True) ∧ (¬ (v23 = 0) → vp_in b 4 ∧ ((xo_X6_isIndex σ25 (σ 22 c.toNatClampNeg) (σ25 13 b.toNatClampNeg)) ∧ bd (xr_X6_isIndex σ25 (σ 22 c.toNatClampNeg) (σ25 13 b.toNatClampNeg)) (fun v27 σ29 => (v27 = 0 → True) ∧ (¬ (v27 = 0) → vp_in ((8 * b) + (σ 22 c.toNatClampNeg)) 32 ∧ (vp_in a 8 ∧ (True))))))))))) : xo_X6_belts σ 5 a b c := by
  unfold xo_X6_belts
  simp only [nf_5_3, nf_5_4, eq_self, okF, okT]
  exact h
theorem nf_8_9 : ((8 : Int32) = 9) = False := eq_false (by decide)
theorem nf_8_10 : ((8 : Int32) = 10) = False := eq_false (by decide)
theorem nf_8_12 : ((8 : Int32) = 12) = False := eq_false (by decide)
theorem on_8 (σ : GS) (a b : Int32) : xr_X6_one σ 8 a b = (if (σ 12 b.toNatClampNeg) = (-1) then bd (xr_X6_isThere σ 0) (fun v35 σ37 => if v35 = 0 then (0, σ37) else (0, st σ37 22 a.toNatClampNeg (σ37 10 (σ 12 b.toNatClampNeg).toNatClampNeg))) else bd (xr_X6_isThere σ 1) (fun v49 σ51 => if v49 = 0 then (0, σ51) else (0, st σ51 22 a.toNatClampNeg (σ51 10 (σ 12 b.toNatClampNeg).toNatClampNeg)))) := by
  unfold xr_X6_one
  simp only [nf_8_9, nf_8_10, nf_8_12, eq_self, if_true, if_false]
theorem ono_8 (σ : GS) (a b : Int32) (h : vp_in b 8 ∧ (((σ 12 b.toNatClampNeg) = (-1) → (xo_X6_isThere σ 0) ∧ bd (xr_X6_isThere σ 0) (fun v35 σ37 => (v35 = 0 → True) ∧ (¬ (v35 = 0) → vp_in (σ 12 b.toNatClampNeg) 64 ∧ (vp_in a 6 ∧ (True))))) ∧ (¬ ((σ 12 b.toNatClampNeg) = (-1)) → (xo_X6_isThere σ 1) ∧ bd (xr_X6_isThere σ 1) (fun v49 σ51 => (v49 = 0 → True) ∧ (¬ (v49 = 0) → vp_in (σ 12 b.toNatClampNeg) 64 ∧ (vp_in a 6 ∧ (True))))))) : xo_X6_one σ 8 a b := by
  unfold xo_X6_one
  simp only [nf_8_9, nf_8_10, nf_8_12, eq_self, okF, okT]
  exact h
theorem nf_9_8 : ((9 : Int32) = 8) = False := eq_false (by decide)
theorem nf_9_10 : ((9 : Int32) = 10) = False := eq_false (by decide)
theorem nf_9_12 : ((9 : Int32) = 12) = False := eq_false (by decide)
theorem on_9 (σ : GS) (a b : Int32) : xr_X6_one σ 9 a b = (if (σ 12 a.toNatClampNeg) = (-1) then bd (xr_X6_isThere σ 0) (fun v2 σ4 => if v2 = 0 then (0, σ4) else (0, st σ4 10 (σ 12 a.toNatClampNeg).toNatClampNeg (σ4 22 b.toNatClampNeg))) else bd (xr_X6_isThere σ 1) (fun v16 σ18 => if v16 = 0 then (0, σ18) else (0, st σ18 10 (σ 12 a.toNatClampNeg).toNatClampNeg (σ18 22 b.toNatClampNeg)))) := by
  unfold xr_X6_one
  simp only [nf_9_8, nf_9_10, nf_9_12, eq_self, if_true, if_false]
theorem ono_9 (σ : GS) (a b : Int32) (h : vp_in a 8 ∧ (((σ 12 a.toNatClampNeg) = (-1) → (xo_X6_isThere σ 0) ∧ bd (xr_X6_isThere σ 0) (fun v2 σ4 => (v2 = 0 → True) ∧ (¬ (v2 = 0) → vp_in b 6 ∧ (vp_in (σ 12 a.toNatClampNeg) 64 ∧ (True))))) ∧ (¬ ((σ 12 a.toNatClampNeg) = (-1)) → (xo_X6_isThere σ 1) ∧ bd (xr_X6_isThere σ 1) (fun v16 σ18 => (v16 = 0 → True) ∧ (¬ (v16 = 0) → vp_in b 6 ∧ (vp_in (σ 12 a.toNatClampNeg) 64 ∧ (True))))))) : xo_X6_one σ 9 a b := by
  unfold xo_X6_one
  simp only [nf_9_8, nf_9_10, nf_9_12, eq_self, okF, okT]
  exact h
theorem nf_10_8 : ((10 : Int32) = 8) = False := eq_false (by decide)
theorem nf_10_9 : ((10 : Int32) = 9) = False := eq_false (by decide)
theorem nf_10_12 : ((10 : Int32) = 12) = False := eq_false (by decide)
theorem on_10 (σ : GS) (a b : Int32) : xr_X6_one σ 10 a b = (if (σ 12 b.toNatClampNeg) = (-1) then bd (xr_X6_isThere σ 0) (fun v35 σ37 => if v35 = 0 then (0, σ37) else bd (xr_X6_stamped σ37 (σ 12 b.toNatClampNeg)) (fun v41 σ43 => (0, st σ43 22 a.toNatClampNeg v41))) else bd (xr_X6_isThere σ 1) (fun v49 σ51 => if v49 = 0 then (0, σ51) else bd (xr_X6_stamped σ51 (σ 12 b.toNatClampNeg)) (fun v55 σ57 => (0, st σ57 22 a.toNatClampNeg v55)))) := by
  unfold xr_X6_one
  simp only [nf_10_8, nf_10_9, nf_10_12, eq_self, if_true, if_false]
theorem ono_10 (σ : GS) (a b : Int32) (h : vp_in b 8 ∧ (((σ 12 b.toNatClampNeg) = (-1) → (xo_X6_isThere σ 0) ∧ bd (xr_X6_isThere σ 0) (fun v35 σ37 => (v35 = 0 → True) ∧ (¬ (v35 = 0) → (xo_X6_stamped σ37 (σ 12 b.toNatClampNeg)) ∧ bd (xr_X6_stamped σ37 (σ 12 b.toNatClampNeg)) (fun v41 σ43 => vp_in a 6 ∧ (True))))) ∧ (¬ ((σ 12 b.toNatClampNeg) = (-1)) → (xo_X6_isThere σ 1) ∧ bd (xr_X6_isThere σ 1) (fun v49 σ51 => (v49 = 0 → True) ∧ (¬ (v49 = 0) → (xo_X6_stamped σ51 (σ 12 b.toNatClampNeg)) ∧ bd (xr_X6_stamped σ51 (σ 12 b.toNatClampNeg)) (fun v55 σ57 => vp_in a 6 ∧ (True))))))) : xo_X6_one σ 10 a b := by
  unfold xo_X6_one
  simp only [nf_10_8, nf_10_9, nf_10_12, eq_self, okF, okT]
  exact h
theorem nf_11_8 : ((11 : Int32) = 8) = False := eq_false (by decide)
theorem nf_11_9 : ((11 : Int32) = 9) = False := eq_false (by decide)
theorem nf_11_10 : ((11 : Int32) = 10) = False := eq_false (by decide)
theorem nf_11_12 : ((11 : Int32) = 12) = False := eq_false (by decide)
theorem on_11 (σ : GS) (a b : Int32) : xr_X6_one σ 11 a b = (if (σ 12 b.toNatClampNeg) = (-1) then bd (xr_X6_isThere σ 0) (fun v35 σ37 => if v35 = 0 then (0, σ37) else bd (xr_X6_feed σ37 a (σ 12 b.toNatClampNeg)) (fun v38 σ40 => (0, σ40))) else bd (xr_X6_isThere σ 1) (fun v49 σ51 => if v49 = 0 then (0, σ51) else bd (xr_X6_feed σ51 a (σ 12 b.toNatClampNeg)) (fun v52 σ54 => (0, σ54)))) := by
  unfold xr_X6_one
  simp only [nf_11_8, nf_11_9, nf_11_10, nf_11_12, eq_self, if_true, if_false]
theorem ono_11 (σ : GS) (a b : Int32) (h : vp_in b 8 ∧ (((σ 12 b.toNatClampNeg) = (-1) → (xo_X6_isThere σ 0) ∧ bd (xr_X6_isThere σ 0) (fun v35 σ37 => (v35 = 0 → True) ∧ (¬ (v35 = 0) → (xo_X6_feed σ37 a (σ 12 b.toNatClampNeg)) ∧ bd (xr_X6_feed σ37 a (σ 12 b.toNatClampNeg)) (fun v38 σ40 => True)))) ∧ (¬ ((σ 12 b.toNatClampNeg) = (-1)) → (xo_X6_isThere σ 1) ∧ bd (xr_X6_isThere σ 1) (fun v49 σ51 => (v49 = 0 → True) ∧ (¬ (v49 = 0) → (xo_X6_feed σ51 a (σ 12 b.toNatClampNeg)) ∧ bd (xr_X6_feed σ51 a (σ 12 b.toNatClampNeg)) (fun v52 σ54 => True)))))) : xo_X6_one σ 11 a b := by
  unfold xo_X6_one
  simp only [nf_11_8, nf_11_9, nf_11_10, nf_11_12, eq_self, okF, okT]
  exact h
theorem nf_12_8 : ((12 : Int32) = 8) = False := eq_false (by decide)
theorem nf_12_9 : ((12 : Int32) = 9) = False := eq_false (by decide)
theorem nf_12_10 : ((12 : Int32) = 10) = False := eq_false (by decide)
theorem on_12 (σ : GS) (a b : Int32) : xr_X6_one σ 12 a b = (if (σ 12 a.toNatClampNeg) = (-1) then (0, st σ 0 27 0) else if (xr_X6_isOf (σ 9 (σ 12 a.toNatClampNeg).toNatClampNeg) b) = 0 then (0, st σ 0 27 4) else (0, st σ 0 27 0)) := by
  unfold xr_X6_one
  simp only [nf_12_8, nf_12_9, nf_12_10, eq_self, if_true, if_false]
theorem ono_12 (σ : GS) (a b : Int32) (h : vp_in a 8 ∧ (((σ 12 a.toNatClampNeg) = (-1) → True) ∧ (¬ ((σ 12 a.toNatClampNeg) = (-1)) → vp_in (σ 12 a.toNatClampNeg) 64 ∧ ((xo_X6_isOf (σ 9 (σ 12 a.toNatClampNeg).toNatClampNeg) b) ∧ (((xr_X6_isOf (σ 9 (σ 12 a.toNatClampNeg).toNatClampNeg) b) = 0 → True) ∧ (¬ ((xr_X6_isOf (σ 9 (σ 12 a.toNatClampNeg).toNatClampNeg) b) = 0) → True)))))) : xo_X6_one σ 12 a b := by
  unfold xo_X6_one
  simp only [nf_12_8, nf_12_9, nf_12_10, eq_self, okF, okT]
  exact h
theorem nf_13_14 : ((13 : Int32) = 14) = False := eq_false (by decide)
theorem ct_13 (σ : GS) (a b c : Int32) : xr_X6_counts σ 13 a b c = (bd (xr_X6_isSize σ (σ 22 b.toNatClampNeg)) (fun v98 σ100 => if v98 = 0 then (0, σ100) else xl_X6_counts_34 100 (st σ100 16 a.toNatClampNeg (σ 22 b.toNatClampNeg)) 13 a b c (σ 22 b.toNatClampNeg) 0)) := by
  unfold xr_X6_counts
  simp only [nf_13_14, eq_self, if_true, if_false]
theorem cto_13 (σ : GS) (a b c : Int32) (h : vp_in b 6 ∧ ((xo_X6_isSize σ (σ 22 b.toNatClampNeg)) ∧ bd (xr_X6_isSize σ (σ 22 b.toNatClampNeg)) (fun v98 σ100 => (v98 = 0 → True) ∧ (¬ (v98 = 0) → vp_in a 3 ∧ (xlo_X6_counts_34 100 (st σ100 16 a.toNatClampNeg (σ 22 b.toNatClampNeg)) 13 a b c (σ 22 b.toNatClampNeg) 0))))) : xo_X6_counts σ 13 a b c := by
  unfold xo_X6_counts
  simp only [nf_13_14, eq_self, okF, okT]
  exact h
theorem nf_14_13 : ((14 : Int32) = 13) = False := eq_false (by decide)
theorem ct_14 (σ : GS) (a b c : Int32) : xr_X6_counts σ 14 a b c = (if (σ 16 a.toNatClampNeg) = (-1) then bd (xr_X6_isThere σ 0) (fun v75 σ77 => if v75 = 0 then (0, σ77) else bd (xr_X6_isIndex σ77 (σ 22 b.toNatClampNeg) (σ77 16 a.toNatClampNeg)) (fun v79 σ81 => if v79 = 0 then (0, σ81) else (0, st σ81 17 ((8 * a) + (σ 22 b.toNatClampNeg)).toNatClampNeg ((σ81 17 ((8 * a) + (σ 22 b.toNatClampNeg)).toNatClampNeg) + 1)))) else bd (xr_X6_isThere σ 1) (fun v86 σ88 => if v86 = 0 then (0, σ88) else bd (xr_X6_isIndex σ88 (σ 22 b.toNatClampNeg) (σ88 16 a.toNatClampNeg)) (fun v90 σ92 => if v90 = 0 then (0, σ92) else (0, st σ92 17 ((8 * a) + (σ 22 b.toNatClampNeg)).toNatClampNeg ((σ92 17 ((8 * a) + (σ 22 b.toNatClampNeg)).toNatClampNeg) + 1))))) := by
  unfold xr_X6_counts
  simp only [nf_14_13, eq_self, if_true, if_false]
theorem cto_14 (σ : GS) (a b c : Int32) (h : vp_in b 6 ∧ (vp_in a 3 ∧ (((σ 16 a.toNatClampNeg) = (-1) → (xo_X6_isThere σ 0) ∧ bd (xr_X6_isThere σ 0) (fun v75 σ77 => (v75 = 0 → True) ∧ (¬ (v75 = 0) → vp_in a 3 ∧ ((xo_X6_isIndex σ77 (σ 22 b.toNatClampNeg) (σ77 16 a.toNatClampNeg)) ∧ bd (xr_X6_isIndex σ77 (σ 22 b.toNatClampNeg) (σ77 16 a.toNatClampNeg)) (fun v79 σ81 => (v79 = 0 → True) ∧ (¬ (v79 = 0) → vp_in ((8 * a) + (σ 22 b.toNatClampNeg)) 24 ∧ (vp_in ((8 * a) + (σ 22 b.toNatClampNeg)) 24 ∧ (True)))))))) ∧ (¬ ((σ 16 a.toNatClampNeg) = (-1)) → (xo_X6_isThere σ 1) ∧ bd (xr_X6_isThere σ 1) (fun v86 σ88 => (v86 = 0 → True) ∧ (¬ (v86 = 0) → vp_in a 3 ∧ ((xo_X6_isIndex σ88 (σ 22 b.toNatClampNeg) (σ88 16 a.toNatClampNeg)) ∧ bd (xr_X6_isIndex σ88 (σ 22 b.toNatClampNeg) (σ88 16 a.toNatClampNeg)) (fun v90 σ92 => (v90 = 0 → True) ∧ (¬ (v90 = 0) → vp_in ((8 * a) + (σ 22 b.toNatClampNeg)) 24 ∧ (vp_in ((8 * a) + (σ 22 b.toNatClampNeg)) 24 ∧ (True))))))))))) : xo_X6_counts σ 14 a b c := by
  unfold xo_X6_counts
  simp only [nf_14_13, eq_self, okF, okT]
  exact h
theorem nf_15_13 : ((15 : Int32) = 13) = False := eq_false (by decide)
theorem nf_15_14 : ((15 : Int32) = 14) = False := eq_false (by decide)
theorem ct_15 (σ : GS) (a b c : Int32) : xr_X6_counts σ 15 a b c = (if (σ 16 b.toNatClampNeg) = (-1) then bd (xr_X6_isThere σ 0) (fun v3 σ5 => if v3 = 0 then (0, σ5) else bd (xr_X6_isIndex σ5 (σ 22 c.toNatClampNeg) (σ5 16 b.toNatClampNeg)) (fun v7 σ9 => if v7 = 0 then (0, σ9) else (0, st σ9 22 a.toNatClampNeg (σ9 17 ((8 * b) + (σ 22 c.toNatClampNeg)).toNatClampNeg)))) else bd (xr_X6_isThere σ 1) (fun v14 σ16 => if v14 = 0 then (0, σ16) else bd (xr_X6_isIndex σ16 (σ 22 c.toNatClampNeg) (σ16 16 b.toNatClampNeg)) (fun v18 σ20 => if v18 = 0 then (0, σ20) else (0, st σ20 22 a.toNatClampNeg (σ20 17 ((8 * b) + (σ 22 c.toNatClampNeg)).toNatClampNeg))))) := by
  unfold xr_X6_counts
  simp only [nf_15_13, nf_15_14, eq_self, if_true, if_false]
theorem cto_15 (σ : GS) (a b c : Int32) (h : vp_in c 6 ∧ (vp_in b 3 ∧ (((σ 16 b.toNatClampNeg) = (-1) → (xo_X6_isThere σ 0) ∧ bd (xr_X6_isThere σ 0) (fun v3 σ5 => (v3 = 0 → True) ∧ (¬ (v3 = 0) → vp_in b 3 ∧ ((xo_X6_isIndex σ5 (σ 22 c.toNatClampNeg) (σ5 16 b.toNatClampNeg)) ∧ bd (xr_X6_isIndex σ5 (σ 22 c.toNatClampNeg) (σ5 16 b.toNatClampNeg)) (fun v7 σ9 => (v7 = 0 → True) ∧ (¬ (v7 = 0) → vp_in ((8 * b) + (σ 22 c.toNatClampNeg)) 24 ∧ (vp_in a 6 ∧ (True)))))))) ∧ (¬ ((σ 16 b.toNatClampNeg) = (-1)) → (xo_X6_isThere σ 1) ∧ bd (xr_X6_isThere σ 1) (fun v14 σ16 => (v14 = 0 → True) ∧ (¬ (v14 = 0) → vp_in b 3 ∧ ((xo_X6_isIndex σ16 (σ 22 c.toNatClampNeg) (σ16 16 b.toNatClampNeg)) ∧ bd (xr_X6_isIndex σ16 (σ 22 c.toNatClampNeg) (σ16 16 b.toNatClampNeg)) (fun v18 σ20 => (v18 = 0 → True) ∧ (¬ (v18 = 0) → vp_in ((8 * b) + (σ 22 c.toNatClampNeg)) 24 ∧ (vp_in a 6 ∧ (True))))))))))) : xo_X6_counts σ 15 a b c := by
  unfold xo_X6_counts
  simp only [nf_15_13, nf_15_14, eq_self, okF, okT]
  exact h
theorem nf_3_6 : ((3 : Int32) = 6) = False := eq_false (by decide)
theorem ba_3 (σ : GS) (a b c : Int32) : xr_X0_beltAct σ 3 a b c = (bd (xr_X4_renew σ a.toNatClampNeg b (σ 1 c.toNatClampNeg) (-1)) (fun v3 σ5 => (v3, σ5))) := by
  unfold xr_X0_beltAct
  simp only [nf_3_4, nf_3_5, nf_3_6, eq_self, if_true, if_false]
theorem bao_3 (σ : GS) (a b c : Int32) (h : vp_in a 4 ∧ (vp_in c 6 ∧ ((xo_X4_renew σ a.toNatClampNeg b (σ 1 c.toNatClampNeg) (-1)) ∧ bd (xr_X4_renew σ a.toNatClampNeg b (σ 1 c.toNatClampNeg) (-1)) (fun v3 σ5 => True)))) : xo_X0_beltAct σ 3 a b c := by
  unfold xo_X0_beltAct
  simp only [nf_3_4, nf_3_5, nf_3_6, eq_self, okF, okT]
  exact h
theorem nf_4_6 : ((4 : Int32) = 6) = False := eq_false (by decide)
theorem ba_4 (σ : GS) (a b c : Int32) : xr_X0_beltAct σ 4 a b c = (bd (xr_X0_lay σ a.toNatClampNeg (σ 1 b.toNatClampNeg) (σ 2 c.toNatClampNeg)) (fun v9 σ11 => (v9, σ11))) := by
  unfold xr_X0_beltAct
  simp only [nf_4_3, nf_4_5, nf_4_6, eq_self, if_true, if_false]
theorem bao_4 (σ : GS) (a b c : Int32) (h : vp_in a 4 ∧ (vp_in b 6 ∧ (vp_in c 8 ∧ ((xo_X0_lay σ a.toNatClampNeg (σ 1 b.toNatClampNeg) (σ 2 c.toNatClampNeg)) ∧ bd (xr_X0_lay σ a.toNatClampNeg (σ 1 b.toNatClampNeg) (σ 2 c.toNatClampNeg)) (fun v9 σ11 => True))))) : xo_X0_beltAct σ 4 a b c := by
  unfold xo_X0_beltAct
  simp only [nf_4_3, nf_4_5, nf_4_6, eq_self, okF, okT]
  exact h
theorem nf_5_6 : ((5 : Int32) = 6) = False := eq_false (by decide)
theorem ba_5 (σ : GS) (a b c : Int32) : xr_X0_beltAct σ 5 a b c = (bd (xr_X0_pick σ a b.toNatClampNeg (σ 1 c.toNatClampNeg)) (fun v14 σ16 => (v14, σ16))) := by
  unfold xr_X0_beltAct
  simp only [nf_5_3, nf_5_4, nf_5_6, eq_self, if_true, if_false]
theorem bao_5 (σ : GS) (a b c : Int32) (h : vp_in b 4 ∧ (vp_in c 6 ∧ ((xo_X0_pick σ a b.toNatClampNeg (σ 1 c.toNatClampNeg)) ∧ bd (xr_X0_pick σ a b.toNatClampNeg (σ 1 c.toNatClampNeg)) (fun v14 σ16 => True)))) : xo_X0_beltAct σ 5 a b c := by
  unfold xo_X0_beltAct
  simp only [nf_5_3, nf_5_4, nf_5_6, eq_self, okF, okT]
  exact h
theorem ca_13 (σ : GS) (a b c : Int32) : xr_X0_counterAct σ 13 a b c = (bd (xr_X4_renew σ (4 + a.toNatClampNeg) (-1) (σ 1 b.toNatClampNeg) 0) (fun v13 σ15 => (v13, σ15))) := by
  unfold xr_X0_counterAct
  simp only [nf_13_14, eq_self, if_true, if_false]
theorem cao_13 (σ : GS) (a b c : Int32) (h : vp_in a 3 ∧ (vp_in b 6 ∧ ((xo_X4_renew σ (4 + a.toNatClampNeg) (-1) (σ 1 b.toNatClampNeg) 0) ∧ bd (xr_X4_renew σ (4 + a.toNatClampNeg) (-1) (σ 1 b.toNatClampNeg) 0) (fun v13 σ15 => True)))) : xo_X0_counterAct σ 13 a b c := by
  unfold xo_X0_counterAct
  simp only [nf_13_14, eq_self, okF, okT]
  exact h
theorem ca_14 (σ : GS) (a b c : Int32) : xr_X0_counterAct σ 14 a b c = (bd (xr_X0_count σ (4 + a.toNatClampNeg) (σ 1 b.toNatClampNeg)) (fun v8 σ10 => (v8, σ10))) := by
  unfold xr_X0_counterAct
  simp only [nf_14_13, eq_self, if_true, if_false]
theorem cao_14 (σ : GS) (a b c : Int32) (h : vp_in a 3 ∧ (vp_in b 6 ∧ ((xo_X0_count σ (4 + a.toNatClampNeg) (σ 1 b.toNatClampNeg)) ∧ bd (xr_X0_count σ (4 + a.toNatClampNeg) (σ 1 b.toNatClampNeg)) (fun v8 σ10 => True)))) : xo_X0_counterAct σ 14 a b c := by
  unfold xo_X0_counterAct
  simp only [nf_14_13, eq_self, okF, okT]
  exact h
theorem ca_15 (σ : GS) (a b c : Int32) : xr_X0_counterAct σ 15 a b c = (bd (xr_X0_readCount σ a (4 + b.toNatClampNeg) (σ 1 c.toNatClampNeg)) (fun v3 σ5 => (v3, σ5))) := by
  unfold xr_X0_counterAct
  simp only [nf_15_13, nf_15_14, eq_self, if_true, if_false]
theorem cao_15 (σ : GS) (a b c : Int32) (h : vp_in b 3 ∧ (vp_in c 6 ∧ ((xo_X0_readCount σ a (4 + b.toNatClampNeg) (σ 1 c.toNatClampNeg)) ∧ bd (xr_X0_readCount σ a (4 + b.toNatClampNeg) (σ 1 c.toNatClampNeg)) (fun v3 σ5 => True)))) : xo_X0_counterAct σ 15 a b c := by
  unfold xo_X0_counterAct
  simp only [nf_15_13, nf_15_14, eq_self, okF, okT]
  exact h
theorem ai_8 (σ : GS) (a b : Int32) : xr_X0_askItem σ 8 a b = (bd (xr_X1_has σ b) (fun v1 σ3 => if v1 = 0 then (1, σ3) else (0, st σ3 1 a.toNatClampNeg (σ3 11 b.toNatClampNeg)))) := by
  unfold xr_X0_askItem
  simp only [nf_8_10, eq_self, if_true, if_false]
theorem aio_8 (σ : GS) (a b : Int32) (h : (xo_X1_has σ b) ∧ bd (xr_X1_has σ b) (fun v1 σ3 => (v1 = 0 → True) ∧ (¬ (v1 = 0) → vp_in b 64 ∧ (vp_in a 6 ∧ (True))))) : xo_X0_askItem σ 8 a b := by
  unfold xo_X0_askItem
  simp only [nf_8_10, eq_self, okF, okT]
  exact h
theorem ai_10 (σ : GS) (a b : Int32) : xr_X0_askItem σ 10 a b = (bd (xr_X1_has σ b) (fun v1 σ3 => if v1 = 0 then (1, σ3) else bd (xr_X1_stamp σ3 b) (fun v11 σ13 => (0, st σ13 1 a.toNatClampNeg v11)))) := by
  unfold xr_X0_askItem
  simp only [nf_10_8, eq_self, if_true, if_false]
theorem aio_10 (σ : GS) (a b : Int32) (h : (xo_X1_has σ b) ∧ bd (xr_X1_has σ b) (fun v1 σ3 => (v1 = 0 → True) ∧ (¬ (v1 = 0) → (xo_X1_stamp σ3 b) ∧ bd (xr_X1_stamp σ3 b) (fun v11 σ13 => vp_in a 6 ∧ (True))))) : xo_X0_askItem σ 10 a b := by
  unfold xo_X0_askItem
  simp only [nf_10_8, eq_self, okF, okT]
  exact h
theorem ai_11 (σ : GS) (a b : Int32) : xr_X0_askItem σ 11 a b = (bd (xr_X1_has σ b) (fun v1 σ3 => if v1 = 0 then (1, σ3) else bd (xr_X1_isAlive σ3 b) (fun v4 σ6 => if v4 = 0 then (4, σ6) else bd (xr_X1_feed σ6 b) (fun v7 σ9 => (0, st σ9 1 a.toNatClampNeg v7))))) := by
  unfold xr_X0_askItem
  simp only [nf_11_8, nf_11_10, eq_self, if_true, if_false]
theorem aio_11 (σ : GS) (a b : Int32) (h : (xo_X1_has σ b) ∧ bd (xr_X1_has σ b) (fun v1 σ3 => (v1 = 0 → True) ∧ (¬ (v1 = 0) → (xo_X1_isAlive σ3 b) ∧ bd (xr_X1_isAlive σ3 b) (fun v4 σ6 => (v4 = 0 → True) ∧ (¬ (v4 = 0) → (xo_X1_feed σ6 b) ∧ bd (xr_X1_feed σ6 b) (fun v7 σ9 => vp_in a 6 ∧ (True))))))) : xo_X0_askItem σ 11 a b := by
  unfold xo_X0_askItem
  simp only [nf_11_8, nf_11_10, eq_self, okF, okT]
  exact h
