theorem feed_eq {σ τ : GS} {a v : Int32} (h10 : σ 10 = τ 9) (h11 : σ 11 = τ 10) (h12 : σ 12 = τ 11) {k : Nat} (hk : k < 5) (e : σ 10 v.toNatClampNeg = nI k) : ((xr_X1_isAlive σ v).1 = 0 ∧ (xr_X1_isAlive σ v).2 = σ ∧ xr_X6_feed τ a v = (0, st τ 0 27 4)) ∨ (¬ (xr_X1_isAlive σ v).1 = 0 ∧ (xr_X1_isAlive σ v).2 = σ ∧ ∃ w x, xr_X1_feed σ v = (x, st σ 11 v.toNatClampNeg w) ∧ xr_X6_feed τ a v = (0, st (st τ 10 v.toNatClampNeg w) 22 a.toNatClampNeg x)) := by
  have s1 : ∀ i x, st σ 11 i x 12 = σ 12 := fun _ _ => rfl
  have s3 : ∀ i x, st σ 11 i x 11 i = x := fun i x => upd_s (σ 11) i x
  have t1 : ∀ i x, st τ 10 i x 11 = τ 11 := fun _ _ => rfl
  have t3 : ∀ i x, st τ 10 i x 10 i = x := fun i x => upd_s (τ 10) i x
  unfold xr_X1_isAlive xr_X6_feed xr_X1_feed
  simp only [s1, s3, t1, t3, ← h10, ← h11, ← h12]
  revert e
  refine lt5 (P := fun k => σ 10 v.toNatClampNeg = nI k → _) ?_ ?_ ?_ ?_ ?_ k hk
  · intro e
    have e : σ 10 v.toNatClampNeg = 0 := e
    simp only [e, nf_0_3, nf_0_4, nl_0, if_false]
    exact Or.inl ⟨trivial, trivial, trivial⟩
  · intro e
    have e : σ 10 v.toNatClampNeg = 1 := e
    simp only [e, nf_1_3, nf_1_4, nl_1, if_false]
    exact Or.inl ⟨trivial, trivial, trivial⟩
  · intro e
    have e : σ 10 v.toNatClampNeg = 2 := e
    simp only [e, nf_2_3, nf_2_4, nl_2, if_false]
    exact Or.inl ⟨trivial, trivial, trivial⟩
  · intro e
    have e : σ 10 v.toNatClampNeg = 3 := e
    simp only [e, nl_3, eq_self, if_true]
    exact Or.inr ⟨one_ne, trivial, _, _, rfl, rfl⟩
  · intro e
    have e : σ 10 v.toNatClampNeg = 4 := e
    simp only [e, nf_4_3, nl_4, eq_self, if_true, if_false]
    exact Or.inr ⟨one_ne, trivial, _, _, rfl, rfl⟩
theorem asKind_eq (σ : GS) (v k : Int32) : xr_X0_asKind σ v k = if xr_X5_isBelow v (σ 9 0) = 0 then (0, σ) else if xr_X5_isOf (σ 10 v.toNatClampNeg) k = 0 then (4, σ) else (0, σ) := by
  unfold xr_X0_asKind
  rw [has_eq]
  simp only [nf_1_0, eq_self, if_true, if_false, bd]
theorem asKind_ok (σ : GS) (v k : Int32) (h : ¬ xr_X5_isBelow v (σ 9 0) = 0 → vp_in v 64) : xo_X0_asKind σ v k := by
  refine ⟨o_has _ _, fun _ => ⟨fun _ => trivial, fun _ => trivial⟩, fun z => ⟨h z, o_isOf5 _ _, fun _ => ⟨fun _ => trivial, fun _ => trivial⟩, fun _ => ⟨fun _ => trivial, fun _ => trivial⟩⟩⟩
section OPS
variable {m : Nat} {σ τ : GS}
theorem sp_11 (h : RH m σ τ) (hm : m < 64) (hz : τ 0 27 = 0) {a b : Nat} (ha : a < 6) (hb : b < 8) (c : Int32) : SP m τ (xo_X0_perform σ 11 (nI a) (nI b) c) (xo_X6_one τ 11 (nI a) (nI b)) (xr_X0_perform σ 11 (nI a) (nI b) c) (xr_X6_one τ 11 (nI a) (nI b)) := by
  have va : vp_in (nI a) 6 := vp_in_nI ha (by decide)
  have vb : vp_in (nI b) 8 := vp_in_nI hb (by decide)
  obtain ⟨⟨h1, h2, h3, h4, h5, h6, h10, h11, h12⟩, ⟨q1, -⟩, hpl, hkd, -⟩ := h.1
  have hIT : IT m (σ 2 (nI b).toNatClampNeg) := by rw [nI_clamp (by omega)]; exact hpl b hb
  rcases hIT.has (by omega) with ⟨w1, w2⟩ | ⟨w1, w2, j, w3, w4⟩
  · have w5 : xr_X5_isBelow (σ 2 (nI b).toNatClampNeg) (σ 9 0) = 0 := by rw [q1]; exact w2
    have w6 : τ 12 (nI b).toNatClampNeg = -1 := by rw [← h2]; exact w1
    refine ⟨pfo_11 _ _ _ _ ⟨vb, aio_11 _ _ _ ⟨o_has _ _, fun _ => trivial, fun z => absurd w5 z⟩, trivial⟩, ono_11 _ _ _ ⟨vb, fun _ => ⟨o_there0 _, fun _ => trivial, fun z => absurd rfl z⟩, fun z => absurd w6 z⟩, ?_⟩
    rw [pf_11, ai_11, on_11, has_eq, w5, if_pos w6, there0]
    exact ⟨⟨1, by omega, rfl, rfl⟩, ⟨m, by omega, h.sc _ _ (by decide)⟩, (FR.rf τ).f _⟩
  · have w5 : xr_X5_isBelow (σ 2 (nI b).toNatClampNeg) (σ 9 0) = 1 := by rw [q1]; exact w2
    have w6 : ¬ τ 12 (nI b).toNatClampNeg = -1 := by rw [← h2]; exact w1
    have vv : vp_in (σ 2 (nI b).toNatClampNeg) 64 := by rw [w4]; exact vp_in_nI (by omega) (by decide)
    refine ⟨pfo_11 _ _ _ _ ⟨vb, aio_11 _ _ _ ⟨o_has _ _, fun _ => trivial, fun z => ⟨aliveX_ok vv, fun _ => trivial, fun _ => ⟨feedX_ok vv, va, trivial⟩⟩⟩, trivial⟩, ono_11 _ _ _ ⟨vb, fun z => absurd z w6, fun _ => ⟨o_there1 _, fun z => absurd z one_ne, fun _ => ⟨feedM_ok (by rw [← h2]; exact vv) va, trivial⟩⟩⟩, ?_⟩
    rw [pf_11, ai_11, on_11, has_eq, w5, if_neg w6, there1, ← h2]
    obtain ⟨k, hk, ek⟩ := hkd j w3
    have ek2 : σ 10 (σ 2 (nI b).toNatClampNeg).toNatClampNeg = nI k := by rw [w4, nI_clamp (by omega)]; exact ek
    show SP_tail m τ (if (xr_X1_isAlive σ (σ 2 (nI b).toNatClampNeg)).1 = 0 then (4, (xr_X1_isAlive σ (σ 2 (nI b).toNatClampNeg)).2) else bd (xr_X1_feed (xr_X1_isAlive σ (σ 2 (nI b).toNatClampNeg)).2 (σ 2 (nI b).toNatClampNeg)) (fun v7 σ9 => (0, st σ9 1 (nI a).toNatClampNeg v7))) (bd (xr_X6_feed (st τ 0 27 0) (nI a) (σ 2 (nI b).toNatClampNeg)) (fun _ σ54 => ((0 : Int32), σ54)))
    rcases feed_eq (σ := σ) (τ := st τ 0 27 0) (a := nI a) h10 h11 h12 hk ek2 with ⟨e1, e2, e3⟩ | ⟨e1, e2, w, x, e3, e4⟩
    · rw [if_pos e1, e2, e3]
      exact ⟨⟨4, by omega, rfl, rfl⟩, ⟨m, by omega, (h.sc 27 0 (by decide)).sc 27 4 (by decide)⟩, ((FR.rf τ).f _).f _⟩
    · rw [if_neg e1, e2, e3, e4]
      exact ⟨⟨0, by omega, rfl, rfl⟩, ⟨m, by omega, ((h.sc 27 0 (by decide)).wt _ _).reg _ _⟩, (((FR.rf τ).f _).put _ _ (by omega)).put _ _ (by omega)⟩
theorem sp_12 (h : RH m σ τ) (hm : m < 64) (hz : τ 0 27 = 0) {a b : Nat} (ha : a < 8) (hb : b < 5) (c : Int32) : SP m τ (xo_X0_perform σ 12 (nI a) (nI b) c) (xo_X6_one τ 12 (nI a) (nI b)) (xr_X0_perform σ 12 (nI a) (nI b) c) (xr_X6_one τ 12 (nI a) (nI b)) := by
  have va : vp_in (nI a) 8 := vp_in_nI ha (by decide)
  obtain ⟨⟨h1, h2, h3, h4, h5, h6, h10, h11, h12⟩, ⟨q1, -⟩, hpl, hkd, -⟩ := h.1
  have hIT : IT m (σ 2 (nI a).toNatClampNeg) := by rw [nI_clamp (by omega)]; exact hpl a ha
  rcases hIT.has (by omega) with ⟨w1, w2⟩ | ⟨w1, w2, j, w3, w4⟩
  · have w5 : xr_X5_isBelow (σ 2 (nI a).toNatClampNeg) (σ 9 0) = 0 := by rw [q1]; exact w2
    have w6 : τ 12 (nI a).toNatClampNeg = -1 := by rw [← h2]; exact w1
    refine ⟨pfo_12 _ _ _ _ ⟨va, asKind_ok _ _ _ (fun z => absurd w5 z), trivial⟩, ono_12 _ _ _ ⟨va, fun _ => trivial, fun z => absurd w6 z⟩, ?_⟩
    rw [pf_12, asKind_eq, on_12, if_pos w5, if_pos w6]
    exact ⟨⟨0, by omega, rfl, rfl⟩, ⟨m, by omega, h.sc _ _ (by decide)⟩, (FR.rf τ).f _⟩
  · have w5 : ¬ xr_X5_isBelow (σ 2 (nI a).toNatClampNeg) (σ 9 0) = 0 := by rw [q1, w2]; exact one_ne
    have w6 : ¬ τ 12 (nI a).toNatClampNeg = -1 := by rw [← h2]; exact w1
    have vv : vp_in (σ 2 (nI a).toNatClampNeg) 64 := by rw [w4]; exact vp_in_nI (by omega) (by decide)
    refine ⟨pfo_12 _ _ _ _ ⟨va, asKind_ok _ _ _ (fun _ => vv), trivial⟩, ono_12 _ _ _ ⟨va, fun _ => trivial, fun _ => ⟨by rw [← h2]; exact vv, o_isOf6 _ _, fun _ => trivial, fun _ => trivial⟩⟩, ?_⟩
    rw [pf_12, asKind_eq, on_12, if_neg w5, if_neg w6, ← h2, ← h10]
    obtain ⟨k, hk, ek⟩ := hkd j w3
    have ek2 : σ 10 (σ 2 (nI a).toNatClampNeg).toNatClampNeg = nI k := by rw [w4, nI_clamp (by omega)]; exact ek
    rw [ek2, isOf_eq k hk b hb]
    by_cases e : xr_X6_isOf (nI k) (nI b) = 0
    · rw [if_pos e, if_pos e]
      exact ⟨⟨4, by omega, rfl, rfl⟩, ⟨m, by omega, h.sc _ _ (by decide)⟩, (FR.rf τ).f _⟩
    · rw [if_neg e, if_neg e]
      exact ⟨⟨0, by omega, rfl, rfl⟩, ⟨m, by omega, h.sc _ _ (by decide)⟩, (FR.rf τ).f _⟩
end OPS
