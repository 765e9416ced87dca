theorem isOf_eq : ∀ i, i < 5 → ∀ k, k < 5 → xr_X5_isOf (nI i) (nI k) = xr_X6_isOf (nI i) (nI k) := by decide
theorem lt5 {P : Nat → Prop} (h0 : P 0) (h1 : P 1) (h2 : P 2) (h3 : P 3) (h4 : P 4) : ∀ j, j < 5 → P j := by
  intro j hj
  match j, hj with
  | 0, _ => exact h0
  | 1, _ => exact h1
  | 2, _ => exact h2
  | 3, _ => exact h3
  | 4, _ => exact h4
theorem nf_0_1 : ((0 : Int32) = 1) = False := eq_false (by decide)
theorem nf_0_2 : ((0 : Int32) = 2) = False := eq_false (by decide)
theorem nf_0_3 : ((0 : Int32) = 3) = False := eq_false (by decide)
theorem nf_0_4 : ((0 : Int32) = 4) = False := eq_false (by decide)
theorem nf_1_0 : ((1 : Int32) = 0) = False := eq_false (by decide)
theorem nf_1_2 : ((1 : Int32) = 2) = False := eq_false (by decide)
theorem nf_1_3 : ((1 : Int32) = 3) = False := eq_false (by decide)
theorem nf_1_4 : ((1 : Int32) = 4) = False := eq_false (by decide)
theorem nf_2_0 : ((2 : Int32) = 0) = False := eq_false (by decide)
theorem nf_2_1 : ((2 : Int32) = 1) = False := eq_false (by decide)
theorem nf_2_3 : ((2 : Int32) = 3) = False := eq_false (by decide)
theorem nf_2_4 : ((2 : Int32) = 4) = False := eq_false (by decide)
theorem nf_3_0 : ((3 : Int32) = 0) = False := eq_false (by decide)
theorem nf_3_1 : ((3 : Int32) = 1) = False := eq_false (by decide)
theorem nf_3_2 : ((3 : Int32) = 2) = False := eq_false (by decide)
theorem nf_4_0 : ((4 : Int32) = 0) = False := eq_false (by decide)
theorem nf_4_1 : ((4 : Int32) = 1) = False := eq_false (by decide)
theorem nf_4_2 : ((4 : Int32) = 2) = False := eq_false (by decide)
theorem nl_0 : ((3 : Int32) ≤ 0) = False := eq_false (by decide)
theorem nl_1 : ((3 : Int32) ≤ 1) = False := eq_false (by decide)
theorem nl_2 : ((3 : Int32) ≤ 2) = False := eq_false (by decide)
theorem nl_3 : ((3 : Int32) ≤ 3) = True := eq_true (by decide)
theorem nl_4 : ((3 : Int32) ≤ 4) = True := eq_true (by decide)
theorem stamp_eq {σ τ : GS} {v : Int32} (h10 : σ 10 = τ 9) (h11 : σ 11 = τ 10) (h12 : σ 12 = τ 11) {k : Nat} (hk : k < 5) (e : σ 10 v.toNatClampNeg = nI k) : ∃ x, xr_X1_stamp σ v = (x, st σ 12 v.toNatClampNeg (σ 12 v.toNatClampNeg + 1)) ∧ xr_X6_stamped τ v = (x, st τ 11 v.toNatClampNeg (σ 12 v.toNatClampNeg + 1)) := by
  have s1 : ∀ i x, st σ 12 i x 10 = σ 10 := fun _ _ => rfl
  have s2 : ∀ i x, st σ 12 i x 11 = σ 11 := fun _ _ => rfl
  have s3 : ∀ i x, st σ 12 i x 12 i = x := fun i x => upd_s (σ 12) i x
  have t1 : ∀ i x, st τ 11 i x 9 = τ 9 := fun _ _ => rfl
  have t2 : ∀ i x, st τ 11 i x 10 = τ 10 := fun _ _ => rfl
  have t3 : ∀ i x, st τ 11 i x 11 i = x := fun i x => upd_s (τ 11) i x
  unfold xr_X1_stamp xr_X6_stamped
  simp only [s1, s2, s3, t1, t2, t3, ← h10, ← h11, ← h12]
  revert e
  refine lt5 (P := fun k => σ 10 v.toNatClampNeg = nI k → _) ?_ ?_ ?_ ?_ ?_ k hk
  · intro e
    have e : σ 10 v.toNatClampNeg = 0 := e
    simp only [e, nf_0_1, nf_0_2, nf_0_3, nf_0_4, eq_self, if_true, if_false]
    exact ⟨_, rfl, rfl⟩
  · intro e
    have e : σ 10 v.toNatClampNeg = 1 := e
    simp only [e, nf_1_0, nf_1_2, nf_1_3, nf_1_4, eq_self, if_true, if_false]
    exact ⟨_, rfl, rfl⟩
  · intro e
    have e : σ 10 v.toNatClampNeg = 2 := e
    simp only [e, nf_2_0, nf_2_1, nf_2_3, nf_2_4, eq_self, if_true, if_false]
    exact ⟨_, rfl, rfl⟩
  · intro e
    have e : σ 10 v.toNatClampNeg = 3 := e
    simp only [e, nf_3_0, nf_3_1, nf_3_2, nf_3_4, eq_self, if_true, if_false]
    exact ⟨_, rfl, rfl⟩
  · intro e
    have e : σ 10 v.toNatClampNeg = 4 := e
    simp only [e, nf_4_0, nf_4_1, nf_4_2, nf_4_3, eq_self, if_true, if_false]
    exact ⟨_, rfl, rfl⟩
theorem stampX_ok {σ : GS} {v : Int32} (h : vp_in v 64) : xo_X1_stamp σ v := by simp [xo_X1_stamp, h]
theorem stampM_ok {σ : GS} {v : Int32} (h : vp_in v 64) : xo_X6_stamped σ v := by simp [xo_X6_stamped, h]
theorem feedX_ok {σ : GS} {v : Int32} (h : vp_in v 64) : xo_X1_feed σ v := by simp [xo_X1_feed, h]
theorem feedM_ok {σ : GS} {a v : Int32} (h : vp_in v 64) (ha : vp_in a 6) : xo_X6_feed σ a v := by simp [xo_X6_feed, h, ha]
theorem aliveX_ok {σ : GS} {v : Int32} (h : vp_in v 64) : xo_X1_isAlive σ v := by simp [xo_X1_isAlive, h]
section OPS
variable {m : Nat} {σ τ : GS}
theorem has_v (h : RH m σ τ) (hm : m < 64) (v : Int32) (z : ¬ (xr_X1_has σ v).1 = 0) : vp_in v 64 := by
  have z : ¬ xr_X5_isBelow v (σ 9 0) = 0 := z
  rw [h.1.2.1.1] at z
  obtain ⟨j, hj, rfl⟩ := bel_use (by omega) z
  exact vp_in_nI (by omega) (by decide)
theorem sp_8 (h : RH m σ τ) (hm : m < 64) (hz : τ 0 27 = 0) {a b : Nat} (ha : a < 6) (hb : b < 8) (c : Int32) : SP m τ (xo_X0_perform σ 8 (nI a) (nI b) c) (xo_X6_one τ 8 (nI a) (nI b)) (xr_X0_perform σ 8 (nI a) (nI b) c) (xr_X6_one τ 8 (nI a) (nI b)) := by
  have va : vp_in (nI a) 6 := vp_in_nI ha (by decide)
  have vb : vp_in (nI b) 8 := vp_in_nI hb (by decide)
  have h2 := h.1.1.2.1
  have h11 := h.1.1.2.2.2.2.2.2.2.1
  have hIT : IT m (σ 2 (nI b).toNatClampNeg) := by rw [nI_clamp (by omega)]; exact h.1.2.2.1 b hb
  have q1 := h.1.2.1.1
  rcases hIT.has (by omega) with ⟨w1, w2⟩ | ⟨w1, w2, j, w3, w4⟩
  · have w5 : xr_X5_isBelow (σ 2 (nI b).toNatClampNeg) (σ 9 0) = 0 := by rw [q1]; exact w2
    have w6 : τ 12 (nI b).toNatClampNeg = -1 := by rw [← h2]; exact w1
    refine ⟨pfo_8 _ _ _ _ ⟨vb, aio_8 _ _ _ ⟨o_has _ _, fun _ => trivial, fun z => absurd w5 z⟩, trivial⟩, ono_8 _ _ _ ⟨vb, fun _ => ⟨o_there0 _, fun _ => trivial, fun z => absurd rfl z⟩, fun z => absurd w6 z⟩, ?_⟩
    rw [pf_8, ai_8, on_8, has_eq, w5, if_pos w6, there0]
    exact ⟨⟨1, by omega, rfl, rfl⟩, ⟨m, by omega, h.sc _ _ (by decide)⟩, (FR.rf τ).f _⟩
  · have w5 : xr_X5_isBelow (σ 2 (nI b).toNatClampNeg) (σ 9 0) = 1 := by rw [q1]; exact w2
    have w6 : ¬ τ 12 (nI b).toNatClampNeg = -1 := by rw [← h2]; exact w1
    have vv : vp_in (σ 2 (nI b).toNatClampNeg) 64 := by rw [w4]; exact vp_in_nI (by omega) (by decide)
    refine ⟨pfo_8 _ _ _ _ ⟨vb, aio_8 _ _ _ ⟨o_has _ _, fun _ => trivial, fun z => ⟨vv, va, trivial⟩⟩, trivial⟩, ono_8 _ _ _ ⟨vb, fun z => absurd z w6, fun _ => ⟨o_there1 _, fun z => absurd z one_ne, fun _ => ⟨by rw [← h2]; exact vv, va, trivial⟩⟩⟩, ?_⟩
    rw [pf_8, ai_8, on_8, has_eq, w5, if_neg w6, there1, ← h2]
    refine ⟨⟨0, by omega, rfl, rfl⟩, ⟨m, by omega, ?_⟩, ((FR.rf τ).f _).put _ _ (by omega)⟩
    show RH m (st σ 1 _ (σ 11 _)) (st (st τ 0 27 0) 22 _ (τ 10 _))
    rw [h11]
    exact (h.sc 27 0 (by decide)).reg _ _
theorem sp_9 (h : RH m σ τ) (hm : m < 64) (hz : τ 0 27 = 0) {a b : Nat} (ha : a < 8) (hb : b < 6) (c : Int32) : SP m τ (xo_X0_perform σ 9 (nI a) (nI b) c) (xo_X6_one τ 9 (nI a) (nI b)) (xr_X0_perform σ 9 (nI a) (nI b) c) (xr_X6_one τ 9 (nI a) (nI b)) := by
  have va : vp_in (nI a) 8 := vp_in_nI ha (by decide)
  have vb : vp_in (nI b) 6 := vp_in_nI hb (by decide)
  have h1 := h.1.1.1
  have h2 := h.1.1.2.1
  have hIT : IT m (σ 2 (nI a).toNatClampNeg) := by rw [nI_clamp (by omega)]; exact h.1.2.2.1 a ha
  have q1 := h.1.2.1.1
  rcases hIT.has (by omega) with ⟨w1, w2⟩ | ⟨w1, w2, j, w3, w4⟩
  · have w5 : xr_X5_isBelow (σ 2 (nI a).toNatClampNeg) (σ 9 0) = 0 := by rw [q1]; exact w2
    have w6 : τ 12 (nI a).toNatClampNeg = -1 := by rw [← h2]; exact w1
    refine ⟨pfo_9 _ _ _ _ ⟨va, vb, ⟨o_has _ _, fun _ => trivial, fun z => absurd w5 z⟩, trivial⟩, ono_9 _ _ _ ⟨va, fun _ => ⟨o_there0 _, fun _ => trivial, fun z => absurd rfl z⟩, fun z => absurd w6 z⟩, ?_⟩
    rw [pf_9, on_9, if_pos w6, there0]
    unfold xr_X0_load
    rw [has_eq, w5]
    exact ⟨⟨1, by omega, rfl, rfl⟩, ⟨m, by omega, h.sc _ _ (by decide)⟩, (FR.rf τ).f _⟩
  · have w5 : xr_X5_isBelow (σ 2 (nI a).toNatClampNeg) (σ 9 0) = 1 := by rw [q1]; exact w2
    have w6 : ¬ τ 12 (nI a).toNatClampNeg = -1 := by rw [← h2]; exact w1
    have vv : vp_in (σ 2 (nI a).toNatClampNeg) 64 := by rw [w4]; exact vp_in_nI (by omega) (by decide)
    refine ⟨pfo_9 _ _ _ _ ⟨va, vb, ⟨o_has _ _, fun _ => trivial, fun z => ⟨vv, trivial⟩⟩, trivial⟩, ono_9 _ _ _ ⟨va, fun z => absurd z w6, fun _ => ⟨o_there1 _, fun z => absurd z one_ne, fun _ => ⟨vb, by rw [← h2]; exact vv, trivial⟩⟩⟩, ?_⟩
    rw [pf_9, on_9, if_neg w6, there1, ← h2]
    unfold xr_X0_load
    rw [has_eq, w5]
    refine ⟨⟨0, by omega, rfl, rfl⟩, ⟨m, by omega, ?_⟩, ((FR.rf τ).f _).put _ _ (by omega)⟩
    show RH m (st σ 11 _ (σ 1 _)) (st (st τ 0 27 0) 10 _ (τ 22 _))
    rw [h1]
    exact (h.sc 27 0 (by decide)).wt _ _
theorem sp_10 (h : RH m σ τ) (hm : m < 64) (hz : τ 0 27 = 0) {a b : Nat} (ha : a < 6) (hb : b < 8) (c : Int32) : SP m τ (xo_X0_perform σ 10 (nI a) (nI b) c) (xo_X6_one τ 10 (nI a) (nI b)) (xr_X0_perform σ 10 (nI a) (nI b) c) (xr_X6_one τ 10 (nI a) (nI b)) := by
  have va : vp_in (nI a) 6 := vp_in_nI ha (by decide)
  have vb : vp_in (nI b) 8 := vp_in_nI hb (by decide)
  obtain ⟨⟨h1, h2, h3, h4, h5, h6, h10, h11, h12⟩, ⟨q1, -⟩, hpl, hkd, -⟩ := h.1
  have hIT : IT m (σ 2 (nI b).toNatClampNeg) := by rw [nI_clamp (by omega)]; exact hpl b hb
  rcases hIT.has (by omega) with ⟨w1, w2⟩ | ⟨w1, w2, j, w3, w4⟩
  · have w5 : xr_X5_isBelow (σ 2 (nI b).toNatClampNeg) (σ 9 0) = 0 := by rw [q1]; exact w2
    have w6 : τ 12 (nI b).toNatClampNeg = -1 := by rw [← h2]; exact w1
    refine ⟨pfo_10 _ _ _ _ ⟨vb, aio_10 _ _ _ ⟨o_has _ _, fun _ => trivial, fun z => absurd w5 z⟩, trivial⟩, ono_10 _ _ _ ⟨vb, fun _ => ⟨o_there0 _, fun _ => trivial, fun z => absurd rfl z⟩, fun z => absurd w6 z⟩, ?_⟩
    rw [pf_10, ai_10, on_10, has_eq, w5, if_pos w6, there0]
    exact ⟨⟨1, by omega, rfl, rfl⟩, ⟨m, by omega, h.sc _ _ (by decide)⟩, (FR.rf τ).f _⟩
  · have w5 : xr_X5_isBelow (σ 2 (nI b).toNatClampNeg) (σ 9 0) = 1 := by rw [q1]; exact w2
    have w6 : ¬ τ 12 (nI b).toNatClampNeg = -1 := by rw [← h2]; exact w1
    have vv : vp_in (σ 2 (nI b).toNatClampNeg) 64 := by rw [w4]; exact vp_in_nI (by omega) (by decide)
    refine ⟨pfo_10 _ _ _ _ ⟨vb, aio_10 _ _ _ ⟨o_has _ _, fun _ => trivial, fun z => ⟨stampX_ok vv, va, trivial⟩⟩, trivial⟩, ono_10 _ _ _ ⟨vb, fun z => absurd z w6, fun _ => ⟨o_there1 _, fun z => absurd z one_ne, fun _ => ⟨stampM_ok (by rw [← h2]; exact vv), va, trivial⟩⟩⟩, ?_⟩
    rw [pf_10, ai_10, on_10, has_eq, w5, if_neg w6, there1, ← h2]
    obtain ⟨k, hk, ek⟩ := hkd j w3
    have ek2 : σ 10 (σ 2 (nI b).toNatClampNeg).toNatClampNeg = nI k := by rw [w4, nI_clamp (by omega)]; exact ek
    obtain ⟨x, e1, e2⟩ := stamp_eq (σ := σ) (τ := st τ 0 27 0) h10 h11 h12 hk ek2
    show SP_tail m τ (bd (xr_X1_stamp σ (σ 2 (nI b).toNatClampNeg)) (fun v11 σ13 => (0, st σ13 1 (nI a).toNatClampNeg v11))) (bd (xr_X6_stamped (st τ 0 27 0) (σ 2 (nI b).toNatClampNeg)) (fun v55 σ57 => ((0 : Int32), st σ57 22 (nI a).toNatClampNeg v55)))
    rw [e1, e2]
    exact ⟨⟨0, by omega, rfl, rfl⟩, ⟨m, by omega, ((h.sc 27 0 (by decide)).stp _ _).reg _ _⟩, (((FR.rf τ).f _).put _ _ (by omega)).put _ _ (by omega)⟩
end OPS
