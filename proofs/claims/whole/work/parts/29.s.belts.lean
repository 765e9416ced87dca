section OPS
variable {m : Nat} {σ τ : GS}
theorem sp_5 (h : RH m σ τ) (hm : m < 64) (hz : τ 0 27 = 0) {a b c : Nat} (ha : a < 8) (hb : b < 4) (hc : c < 6) : SP m τ (xo_X0_perform σ 5 (nI a) (nI b) (nI c)) (xo_X6_belts τ 5 (nI a) (nI b) (nI c)) (xr_X0_perform σ 5 (nI a) (nI b) (nI c)) (xr_X6_belts τ 5 (nI a) (nI b) (nI c)) := by
  have cb : (nI b).toNatClampNeg = b := nI_clamp (by omega)
  have va : vp_in (nI a) 8 := vp_in_nI ha (by decide)
  have vb : vp_in (nI b) 4 := vp_in_nI hb (by decide)
  have vc : vp_in (nI c) 6 := vp_in_nI hc (by decide)
  have l7 : (nI b).toNatClampNeg < 7 := by rw [cb]; omega
  have h1 := h.1.1.1
  obtain ⟨q1, q2⟩ := h.2.1 b hb
  have okx : (∀ z : (xr_X4_placeFailure σ b (σ 1 (nI c).toNatClampNeg)).1 = 0, vp_in (σ 1 (nI c).toNatClampNeg) 8) → xo_X0_perform σ 5 (nI a) (nI b) (nI c) := fun hv => pfo_5 _ _ _ _ ⟨bao_5 _ _ _ _ ⟨vb, vc, ⟨l7, pfail_ok _ l7 _, fun z => by rw [cb] at z ⊢; exact ⟨by omega, by omega, hv z, va, trivial⟩, fun _ => trivial⟩, trivial⟩, trivial⟩
  rcases q2 with ⟨q2, -⟩ | ⟨n, k, hn, hk, q2, -, -, q3⟩
  · have e1 : τ 13 b = -1 := q1.symm.trans q2
    have pf := pfail_n (σ 1 (nI c).toNatClampNeg) q2
    refine ⟨okx (fun z => absurd (by rw [pf] at z; exact z) one_ne), blo_5 _ _ _ _ ⟨vc, vb, fun _ => ⟨o_there0 _, fun _ => trivial, fun z => absurd rfl z⟩, fun z => absurd (by rw [cb]; exact e1) z⟩, ?_⟩
    rw [pf_5, ba_5, bl_5, cb, if_pos e1, there0]
    unfold xr_X0_pick
    rw [pf]
    exact ⟨⟨1, by omega, rfl, rfl⟩, ⟨m, by omega, h.sc _ _ (by decide)⟩, (FR.rf τ).f _⟩
  · have e0 : ¬ σ 14 b = -1 := by rw [q2]; exact nI_m1 (by omega)
    have e1 : ¬ τ 13 b = -1 := by rw [← q1]; exact e0
    have ein : xr_X6_in (σ 1 (nI c).toNatClampNeg) 0 (τ 13 b - 1) = xr_X5_isBelow (σ 1 (nI c).toNatClampNeg) (nI n) := by rw [← q1, q2]; exact idx_num _ hn
    rcases bel_cases (σ 1 (nI c).toNatClampNeg) n (by omega) with ⟨d1, d2⟩ | ⟨d1, i, d2, d3⟩
    · have pf := pfail_i (i := σ 1 (nI c).toNatClampNeg) e0 (by rw [q2]; exact d1)
      have ix : xr_X6_isIndex (st τ 0 27 0) (σ 1 (nI c).toNatClampNeg) (st τ 0 27 0 13 b) = (0, st (st τ 0 27 0) 0 27 3) := idx_0 (ein.trans d1)
      refine ⟨okx (fun z => absurd (by rw [pf] at z; exact z) three_ne), blo_5 _ _ _ _ ⟨vc, vb, fun z => absurd (by rw [cb] at z; exact z) e1, fun _ => ⟨o_there1 _, fun z => absurd z one_ne, fun _ => ⟨vb, o_idx6 _ _ _, ?_⟩⟩⟩, ?_⟩
      · rw [there1, cb, ← h1, ix]; exact ⟨fun _ => trivial, fun z => absurd rfl z⟩
      rw [pf_5, ba_5, bl_5, cb, if_neg e1, there1, ← h1]
      unfold xr_X0_pick
      rw [pf]
      show SP_tail m τ (3, σ) (bd (xr_X6_isIndex (st τ 0 27 0) (σ 1 (nI c).toNatClampNeg) (st τ 0 27 0 13 b)) (fun v90 σ92 => if v90 = 0 then ((0 : Int32), σ92) else _))
      rw [ix]
      exact ⟨⟨3, by omega, rfl, rfl⟩, ⟨m, by omega, (h.sc 27 0 (by decide)).sc 27 3 (by decide)⟩, ((FR.rf τ).f _).f _⟩
    · have pf := pfail_0 (i := σ 1 (nI c).toNatClampNeg) e0 (by rw [q2]; exact d1)
      have ix : xr_X6_isIndex (st τ 0 27 0) (σ 1 (nI c).toNatClampNeg) (st τ 0 27 0 13 b) = (1, st (st τ 0 27 0) 0 27 0) := idx_1 (ein.trans d1)
      have vi : vp_in (σ 1 (nI c).toNatClampNeg) 8 := by rw [d3]; exact vp_in_nI (by omega) (by decide)
      have vk : vp_in (8 * nI b + σ 1 (nI c).toNatClampNeg) 32 := by rw [d3, b8]; exact vp_in_nI (by omega) (by decide)
      refine ⟨okx (fun _ => vi), blo_5 _ _ _ _ ⟨vc, vb, fun z => absurd (by rw [cb] at z; exact z) e1, fun _ => ⟨o_there1 _, fun z => absurd z one_ne, fun _ => ⟨vb, o_idx6 _ _ _, ?_⟩⟩⟩, ?_⟩
      · rw [there1, cb, ← h1, ix]; exact ⟨fun _ => trivial, fun _ => ⟨vk, va, trivial⟩⟩
      rw [pf_5, ba_5, bl_5, cb, if_neg e1, there1, ← h1]
      unfold xr_X0_pick
      rw [pf]
      show SP_tail m τ (0, st σ 2 (nI a).toNatClampNeg (σ (20 + b) (σ 1 (nI c).toNatClampNeg).toNatClampNeg)) (bd (xr_X6_isIndex (st τ 0 27 0) (σ 1 (nI c).toNatClampNeg) (st τ 0 27 0 13 b)) (fun v90 σ92 => if v90 = 0 then ((0 : Int32), σ92) else (0, st σ92 12 (nI a).toNatClampNeg (σ92 15 (8 * nI b + σ 1 (nI c).toNatClampNeg).toNatClampNeg))))
      rw [ix, d3, b8, nI_clamp (n := i) (by omega), nI_clamp (n := 8 * b + i) (by omega)]
      refine ⟨⟨0, by omega, rfl, rfl⟩, ⟨m, by omega, ?_⟩, (((FR.rf τ).f _).f _).put _ _ (by omega)⟩
      show RH m (st σ 2 _ (σ (20 + b) i)) (st (st (st τ 0 27 0) 0 27 0) 12 _ (τ 15 (8 * b + i)))
      rw [← (q3 i d2).1]
      exact ((h.sc 27 0 (by decide)).sc 27 0 (by decide)).plc _ _ (q3 i d2).2
theorem lay_s {r : Nat} {i t : Int32} (l7 : r < 7) (hm : m < 64) (h : RH m σ τ) (pf : xr_X4_placeFailure σ r i = (0, σ)) (vi : vp_in i 8) : xo_X0_lay σ r i t := by
  refine ⟨l7, pfail_ok _ l7 _, ?_⟩
  rw [pf]
  exact ⟨fun _ => ⟨o_has _ _, fun _ => ⟨l7, l7, vi, trivial⟩, fun z => ⟨has_v h hm _ z, l7, o_isOf5 _ _, fun _ => trivial, fun _ => ⟨l7, l7, vi, trivial⟩⟩⟩, fun z => absurd rfl z⟩
theorem lay_f {r : Nat} {i t f : Int32} (l7 : r < 7) (pf : xr_X4_placeFailure σ r i = (f, σ)) (hf : ¬ f = 0) : xo_X0_lay σ r i t ∧ xr_X0_lay σ r i t = (f, σ) := by
  refine ⟨⟨l7, pfail_ok _ l7 _, ?_⟩, ?_⟩
  · rw [pf]
    exact ⟨fun z => absurd z hf, fun _ => trivial⟩
  · unfold xr_X0_lay
    rw [pf]
    exact if_neg hf
theorem lay_eq {r : Nat} {i t : Int32} (pf : xr_X4_placeFailure σ r i = (0, σ)) : xr_X0_lay σ r i t = if xr_X5_isBelow t (σ 9 0) = 0 then (0, st σ (20 + r) i.toNatClampNeg t) else if xr_X5_isOf (σ 10 t.toNatClampNeg) (σ 13 r) = 0 then (5, σ) else (0, st σ (20 + r) i.toNatClampNeg t) := by
  unfold xr_X0_lay
  rw [pf]
  rfl
theorem sp_4 (h : RH m σ τ) (hm : m < 64) (hz : τ 0 27 = 0) {a b c : Nat} (ha : a < 4) (hb : b < 6) (hc : c < 8) : SP m τ (xo_X0_perform σ 4 (nI a) (nI b) (nI c)) (xo_X6_belts τ 4 (nI a) (nI b) (nI c)) (xr_X0_perform σ 4 (nI a) (nI b) (nI c)) (xr_X6_belts τ 4 (nI a) (nI b) (nI c)) := by
  have ca : (nI a).toNatClampNeg = a := nI_clamp (by omega)
  have va : vp_in (nI a) 4 := vp_in_nI ha (by decide)
  have vb : vp_in (nI b) 6 := vp_in_nI hb (by decide)
  have vc : vp_in (nI c) 8 := vp_in_nI hc (by decide)
  obtain ⟨⟨h1, h2, h3, h4, h5, h6, h10, h11, h12⟩, ⟨z9, -⟩, hpl, hkd, -⟩ := h.1
  obtain ⟨q1, q2⟩ := h.2.1 a ha
  have okx : xo_X0_lay σ a (σ 1 (nI b).toNatClampNeg) (σ 2 (nI c).toNatClampNeg) → xo_X0_perform σ 4 (nI a) (nI b) (nI c) := fun hv => pfo_4 _ _ _ _ ⟨bao_4 _ _ _ _ ⟨va, vb, vc, by rw [ca]; exact hv, trivial⟩, trivial⟩
  have ex : xr_X0_perform σ 4 (nI a) (nI b) (nI c) = xr_X0_lay σ a (σ 1 (nI b).toNatClampNeg) (σ 2 (nI c).toNatClampNeg) := by rw [pf_4, ba_4, ca]
  rw [ex]
  rcases q2 with ⟨q2, -⟩ | ⟨n, k, hn, hk, q2, qk, qkm, q3⟩
  · have e1 : τ 13 a = -1 := q1.symm.trans q2
    have lf := lay_f (t := σ 2 (nI c).toNatClampNeg) (by omega) (pfail_n (σ 1 (nI b).toNatClampNeg) q2) one_ne
    refine ⟨okx lf.1, blo_4 _ _ _ _ ⟨vb, va, fun _ => ⟨o_there0 _, fun _ => trivial, fun z => absurd rfl z⟩, fun z => absurd (by rw [ca]; exact e1) z⟩, ?_⟩
    rw [lf.2, bl_4, ca, if_pos e1, there0]
    exact ⟨⟨1, by omega, rfl, rfl⟩, ⟨m, by omega, h.sc _ _ (by decide)⟩, (FR.rf τ).f _⟩
  · have e0 : ¬ σ 14 a = -1 := by rw [q2]; exact nI_m1 (by omega)
    have e1 : ¬ τ 13 a = -1 := by rw [← q1]; exact e0
    have ein : xr_X6_in (σ 1 (nI b).toNatClampNeg) 0 (τ 13 a - 1) = xr_X5_isBelow (σ 1 (nI b).toNatClampNeg) (nI n) := by rw [← q1, q2]; exact idx_num _ hn
    rcases bel_cases (σ 1 (nI b).toNatClampNeg) n (by omega) with ⟨d1, d2⟩ | ⟨d1, i, d2, d3⟩
    · have lf := lay_f (t := σ 2 (nI c).toNatClampNeg) (by omega) (pfail_i (i := σ 1 (nI b).toNatClampNeg) e0 (by rw [q2]; exact d1)) three_ne
      have ix : xr_X6_isIndex (st τ 0 27 0) (σ 1 (nI b).toNatClampNeg) (st τ 0 27 0 13 a) = (0, st (st τ 0 27 0) 0 27 3) := idx_0 (ein.trans d1)
      refine ⟨okx lf.1, blo_4 _ _ _ _ ⟨vb, va, fun z => absurd (by rw [ca] at z; exact z) e1, fun _ => ⟨o_there1 _, fun z => absurd z one_ne, fun _ => ⟨va, o_idx6 _ _ _, ?_⟩⟩⟩, ?_⟩
      · rw [there1, ca, ← h1, ix]; exact ⟨fun _ => trivial, fun z => absurd rfl z⟩
      rw [lf.2, bl_4, ca, if_neg e1, there1, ← h1]
      show SP_tail m τ (3, σ) (bd (xr_X6_isIndex (st τ 0 27 0) (σ 1 (nI b).toNatClampNeg) (st τ 0 27 0 13 a)) (fun v90 σ92 => if v90 = 0 then ((0 : Int32), σ92) else _))
      rw [ix]
      exact ⟨⟨3, by omega, rfl, rfl⟩, ⟨m, by omega, (h.sc 27 0 (by decide)).sc 27 3 (by decide)⟩, ((FR.rf τ).f _).f _⟩
    · have pf := pfail_0 (i := σ 1 (nI b).toNatClampNeg) e0 (by rw [q2]; exact d1)
      have ix : xr_X6_isIndex (st τ 0 27 0) (σ 1 (nI b).toNatClampNeg) (st τ 0 27 0 13 a) = (1, st (st τ 0 27 0) 0 27 0) := idx_1 (ein.trans d1)
      have vi : vp_in (σ 1 (nI b).toNatClampNeg) 8 := by rw [d3]; exact vp_in_nI (by omega) (by decide)
      have vk : vp_in (8 * nI a + σ 1 (nI b).toNatClampNeg) 32 := by rw [d3, b8]; exact vp_in_nI (by omega) (by decide)
      have hIT : IT m (σ 2 (nI c).toNatClampNeg) := by rw [nI_clamp (by omega)]; exact hpl c hc
      have vt : ¬ σ 2 (nI c).toNatClampNeg = -1 → vp_in (σ 2 (nI c).toNatClampNeg) 64 := fun z => by
        rcases hIT with w | ⟨j, w3, w4⟩
        · exact absurd w z
        · rw [w4]; exact vp_in_nI (by omega) (by decide)
      have okm : xo_X6_belts τ 4 (nI a) (nI b) (nI c) := by
        refine blo_4 _ _ _ _ ⟨vb, va, fun z => absurd (by rw [ca] at z; exact z) e1, fun _ => ⟨o_there1 _, fun z => absurd z one_ne, fun _ => ⟨va, o_idx6 _ _ _, ?_⟩⟩⟩
        rw [there1, ca, ← h1, ix]
        exact ⟨fun _ => trivial, fun _ => ⟨vc, fun _ => ⟨vc, vk, trivial⟩, fun z => ⟨vc, by show vp_in (τ 12 _) 64; rw [← h2]; exact vt (by rw [h2]; exact z), va, o_isOf6 _ _, fun _ => trivial, fun _ => ⟨vc, vk, trivial⟩⟩⟩⟩
      refine ⟨okx (lay_s (by omega) hm h pf vi), okm, ?_⟩
      rw [lay_eq pf, bl_4, ca, if_neg e1, there1, ← h1]
      show SP_tail m τ _ (bd (xr_X6_isIndex (st τ 0 27 0) (σ 1 (nI b).toNatClampNeg) (st τ 0 27 0 13 a)) (fun v90 σ92 => if v90 = 0 then ((0 : Int32), σ92) else if σ92 12 (nI c).toNatClampNeg = -1 then (0, st σ92 15 (8 * nI a + σ 1 (nI b).toNatClampNeg).toNatClampNeg (σ92 12 (nI c).toNatClampNeg)) else if xr_X6_isOf (σ92 9 (σ92 12 (nI c).toNatClampNeg).toNatClampNeg) (σ92 14 a) = 0 then (0, st σ92 0 27 5) else (0, st σ92 15 (8 * nI a + σ 1 (nI b).toNatClampNeg).toNatClampNeg (σ92 12 (nI c).toNatClampNeg))))
      rw [ix, d3, b8, nI_clamp (n := i) (by omega), nI_clamp (n := 8 * a + i) (by omega)]
      show SP_tail m τ _ (if τ 12 (nI c).toNatClampNeg = -1 then (0, st (st (st τ 0 27 0) 0 27 0) 15 (8 * a + i) (τ 12 (nI c).toNatClampNeg)) else if xr_X6_isOf (τ 9 (τ 12 (nI c).toNatClampNeg).toNatClampNeg) (τ 14 a) = 0 then (0, st (st (st τ 0 27 0) 0 27 0) 0 27 5) else (0, st (st (st τ 0 27 0) 0 27 0) 15 (8 * a + i) (τ 12 (nI c).toNatClampNeg)))
      rw [← h2, ← h10]
      have hh : RH m σ (st (st τ 0 27 0) 0 27 0) := (h.sc 27 0 (by decide)).sc 27 0 (by decide)
      have good : SP_tail m τ (0, st σ (20 + a) i (σ 2 (nI c).toNatClampNeg)) (0, st (st (st τ 0 27 0) 0 27 0) 15 (8 * a + i) (σ 2 (nI c).toNatClampNeg)) := ⟨⟨0, by omega, rfl, rfl⟩, ⟨m, by omega, hh.lay ha hn q2 d2 hIT⟩, (((FR.rf τ).f _).f _).put _ _ (by omega)⟩
      rcases hIT.has (by omega) with ⟨w1, w2⟩ | ⟨w1, w2, j, w3, w4⟩
      · have w5 : xr_X5_isBelow (σ 2 (nI c).toNatClampNeg) (σ 9 0) = 0 := by rw [z9]; exact w2
        rw [if_pos w5, if_pos w1]
        exact good
      · have w5 : ¬ xr_X5_isBelow (σ 2 (nI c).toNatClampNeg) (σ 9 0) = 0 := by rw [z9, w2]; exact one_ne
        obtain ⟨kk, hkk, ek⟩ := hkd j w3
        have ek2 : σ 10 (σ 2 (nI c).toNatClampNeg).toNatClampNeg = nI kk := by rw [w4, nI_clamp (by omega)]; exact ek
        rw [if_neg w5, if_neg w1, ek2, qk, qkm, isOf_eq kk hkk k hk]
        by_cases e : xr_X6_isOf (nI kk) (nI k) = 0
        · rw [if_pos e, if_pos e]
          exact ⟨⟨5, by omega, rfl, rfl⟩, ⟨m, by omega, hh.sc 27 5 (by decide)⟩, (((FR.rf τ).f _).f _).f _⟩
        · rw [if_neg e, if_neg e]
          exact good
end OPS
