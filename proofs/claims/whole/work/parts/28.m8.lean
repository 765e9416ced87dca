theorem there0 (τ : GS) : xr_X6_isThere τ 0 = (0, st τ 0 27 1) := rfl
theorem there1 (τ : GS) : xr_X6_isThere τ 1 = (1, st τ 0 27 0) := rfl
theorem ba_6 (σ : GS) (a b c : Int32) : xr_X0_beltAct σ 6 a b c = xr_X0_measure σ a b.toNatClampNeg := by
  unfold xr_X0_beltAct
  rw [if_neg (by decide), if_neg (by decide), if_neg (by decide), if_pos rfl]
theorem ba_7 (σ : GS) (a b c : Int32) : xr_X0_beltAct σ 7 a b c = (0, st (st σ 13 a.toNatClampNeg (-1)) 14 a.toNatClampNeg (-1)) := by
  unfold xr_X0_beltAct
  rw [if_neg (by decide), if_neg (by decide), if_neg (by decide), if_neg (by decide)]
  rfl
theorem thereX_n {σ : GS} {r : Nat} (h : σ 14 r = -1) : xr_X4_isThere σ r = (0, σ) := by unfold xr_X4_isThere; rw [if_pos h]
theorem thereX_y {σ : GS} {r : Nat} (h : ¬ σ 14 r = -1) : xr_X4_isThere σ r = (1, σ) := by unfold xr_X4_isThere; rw [if_neg h]
theorem thereX_ok (σ : GS) {r : Nat} (h : r < 7) : xo_X4_isThere σ r := ⟨h, h, fun _ => trivial, fun _ => trivial⟩
/-- a size, as both sides look at it -/
theorem size_cases (τ : GS) (v : Int32) : (xr_X5_sizeFailure v = 2 ∧ xr_X6_isSize τ v = (0, st τ 0 27 2)) ∨ (xr_X5_sizeFailure v = 6 ∧ xr_X6_isSize τ v = (0, st τ 0 27 6)) ∨ (xr_X5_sizeFailure v = 0 ∧ xr_X6_isSize τ v = (1, st τ 0 27 0) ∧ ∃ n, n ≤ 8 ∧ v = nI n) := by
  unfold xr_X5_sizeFailure xr_X6_isSize
  by_cases c1 : (0 : Int32) ≤ v
  · rw [if_pos c1, if_pos c1]
    by_cases c2 : v ≤ 8
    · rw [if_pos c2, if_pos c2]
      refine Or.inr (Or.inr ⟨rfl, ?_, ?_⟩)
      · exact if_pos (upd_s (τ 0) 27 0)
      · have c3 : ¬ v < 0 := fun z => by
          have z1 := Int32.lt_iff_toInt_lt.mp z
          have z2 := Int32.le_iff_toInt_le.mp c1
          omega
        obtain ⟨j, hj, rfl⟩ := nI_of c3
        exact ⟨j, (nI_leI (b := 8) hj (by decide)).mp c2, rfl⟩
    · rw [if_neg c2, if_neg c2]
      refine Or.inr (Or.inl ⟨rfl, ?_⟩)
      rw [if_neg]
      show ¬ upd (τ 0) 27 6 27 = 0
      rw [upd_s]
      decide
  · rw [if_neg c1, if_neg c1]
    refine Or.inl ⟨rfl, ?_⟩
    rw [if_neg]
    show ¬ upd (τ 0) 27 2 27 = 0
    rw [upd_s]
    decide
section OPS
variable {m : Nat} {σ τ : GS}
theorem sp_6 (h : RH m σ τ) (hm : m < 64) (hz : τ 0 27 = 0) {a b : Nat} (ha : a < 6) (hb : b < 4) (c : Int32) : SP m τ (xo_X0_perform σ 6 (nI a) (nI b) c) (xo_X6_rest τ 6 (nI a) (nI b) c) (xr_X0_perform σ 6 (nI a) (nI b) c) (xr_X6_rest τ 6 (nI a) (nI b) c) := by
  have cb : (nI b).toNatClampNeg = b := nI_clamp (by omega)
  have va : vp_in (nI a) 6 := vp_in_nI ha (by decide)
  have vb : vp_in (nI b) 4 := vp_in_nI hb (by decide)
  have q1 := (h.2.1 b hb).1
  refine ⟨pfo_6 _ _ _ _ ⟨⟨fun e => absurd e (by decide), fun _ => ⟨fun e => absurd e (by decide), fun _ => ⟨fun e => absurd e (by decide), fun _ => ⟨fun _ => ⟨vb, ⟨by rw [cb]; omega, thereX_ok _ (by rw [cb]; omega), fun _ => trivial, fun _ => ⟨by rw [cb]; omega, va, trivial⟩⟩, trivial⟩, fun z => absurd rfl z⟩⟩⟩⟩, trivial⟩, rso_6 _ _ _ _ ⟨vb, fun _ => ⟨o_there0 _, fun _ => trivial, fun z => absurd rfl z⟩, fun _ => ⟨o_there1 _, fun z => absurd z one_ne, fun _ => ⟨vb, va, trivial⟩⟩⟩, ?_⟩
  rw [pf_6, ba_6, rs_6, cb]
  unfold xr_X0_measure
  by_cases e : σ 14 b = -1
  · rw [thereX_n e, if_pos (q1.symm.trans e), there0]
    exact ⟨⟨1, by omega, rfl, rfl⟩, ⟨m, by omega, h.sc _ _ (by decide)⟩, (FR.rf τ).f _⟩
  · rw [thereX_y e, if_neg (fun z => e (q1.trans z)), there1]
    refine ⟨⟨0, by omega, rfl, rfl⟩, ⟨m, by omega, ?_⟩, ((FR.rf τ).f _).put _ _ (by omega)⟩
    show RH m (st σ 1 _ (σ 14 b)) (st (st τ 0 27 0) 22 _ (τ 13 b))
    rw [q1]
    exact (h.sc 27 0 (by decide)).reg _ _
theorem sp_7 (h : RH m σ τ) (hm : m < 64) (hz : τ 0 27 = 0) {a : Nat} (ha : a < 4) (b c : Int32) : SP m τ (xo_X0_perform σ 7 (nI a) b c) (xo_X6_rest τ 7 (nI a) b c) (xr_X0_perform σ 7 (nI a) b c) (xr_X6_rest τ 7 (nI a) b c) := by
  have ca : (nI a).toNatClampNeg = a := nI_clamp (by omega)
  have va : vp_in (nI a) 4 := vp_in_nI ha (by decide)
  have l7 : (nI a).toNatClampNeg < 7 := by rw [ca]; omega
  refine ⟨pfo_7 _ _ _ _ ⟨⟨fun e => absurd e (by decide), fun _ => ⟨fun e => absurd e (by decide), fun _ => ⟨fun e => absurd e (by decide), fun _ => ⟨fun e => absurd e (by decide), fun _ => ⟨va, ⟨l7, l7, l7, trivial⟩, trivial⟩⟩⟩⟩⟩, trivial⟩, rso_7 _ _ _ _ ⟨va, trivial⟩, ?_⟩
  rw [pf_7, ba_7, rs_7, ca]
  exact ⟨⟨0, by omega, rfl, hz⟩, ⟨m, by omega, h.drop ha⟩, (FR.rf τ).put _ _ (by omega)⟩
theorem sp_16 (h : RH m σ τ) (hm : m < 64) (hz : τ 0 27 = 0) {a b : Nat} (ha : a < 2) (hb : b < 6) (c : Int32) : SP m τ (xo_X0_perform σ 16 (nI a) (nI b) c) (xo_X6_rest τ 16 (nI a) (nI b) c) (xr_X0_perform σ 16 (nI a) (nI b) c) (xr_X6_rest τ 16 (nI a) (nI b) c) := by
  have va : vp_in (nI a) 2 := vp_in_nI ha (by decide)
  have vb : vp_in (nI b) 6 := vp_in_nI hb (by decide)
  have h1 := h.1.1.1
  refine ⟨pfo_16 _ _ _ _ ⟨vb, ⟨o_size5 _, fun _ => ⟨va, va, trivial⟩, fun _ => trivial⟩, trivial⟩, rso_16 _ _ _ _ ⟨vb, o_size6 _ _, ?_⟩, ?_⟩
  · exact ⟨fun _ => trivial, fun _ => ⟨vb, va, va, trivial⟩⟩
  rw [pf_16, rs_16, ← h1]
  unfold xr_X0_newGrid
  rcases size_cases τ (σ 1 (nI b).toNatClampNeg) with ⟨e1, e2⟩ | ⟨e1, e2⟩ | ⟨e1, e2, -⟩
  · rw [e1, e2]
    exact ⟨⟨2, by omega, rfl, rfl⟩, ⟨m, by omega, h.sc _ _ (by decide)⟩, (FR.rf τ).f _⟩
  · rw [e1, e2]
    exact ⟨⟨6, by omega, rfl, rfl⟩, ⟨m, by omega, h.sc _ _ (by decide)⟩, (FR.rf τ).f _⟩
  · rw [e1, e2]
    refine ⟨⟨0, by omega, rfl, rfl⟩, ⟨m, by omega, ?_⟩, (((FR.rf τ).f _).put _ _ (by omega)).put _ _ (by omega)⟩
    show RH m (st (st σ 3 _ (σ 1 (nI b).toNatClampNeg)) 4 _ c) (st (st (st τ 0 27 0) 18 _ (τ 22 (nI b).toNatClampNeg)) 19 _ c)
    rw [← h1]
    exact (h.sc 27 0 (by decide)).grid _ _ _
theorem sp_17 (h : RH m σ τ) (hm : m < 64) (hz : τ 0 27 = 0) {a b : Nat} (ha : a < 6) (hb : b < 2) (c : Int32) : SP m τ (xo_X0_perform σ 17 (nI a) (nI b) c) (xo_X6_rest τ 17 (nI a) (nI b) c) (xr_X0_perform σ 17 (nI a) (nI b) c) (xr_X6_rest τ 17 (nI a) (nI b) c) := by
  have va : vp_in (nI a) 6 := vp_in_nI ha (by decide)
  have vb : vp_in (nI b) 2 := vp_in_nI hb (by decide)
  have h3 := h.1.1.2.2.1
  have h4 := h.1.1.2.2.2.1
  refine ⟨pfo_17 _ _ _ _ ⟨⟨vb, fun _ => trivial, fun _ => ⟨vb, vb, va, trivial⟩⟩, trivial⟩, rso_17 _ _ _ _ ⟨vb, fun _ => ⟨o_there0 _, fun _ => trivial, fun z => absurd rfl z⟩, fun _ => ⟨o_there1 _, fun z => absurd z one_ne, fun _ => ⟨vb, vb, va, trivial⟩⟩⟩, ?_⟩
  rw [pf_17, rs_17, ← h3]
  unfold xr_X0_sumGrid
  by_cases e : σ 3 (nI b).toNatClampNeg = -1
  · rw [if_pos e, if_pos e, there0]
    exact ⟨⟨1, by omega, rfl, rfl⟩, ⟨m, by omega, h.sc _ _ (by decide)⟩, (FR.rf τ).f _⟩
  · rw [if_neg e, if_neg e, there1]
    refine ⟨⟨0, by omega, rfl, rfl⟩, ⟨m, by omega, ?_⟩, ((FR.rf τ).f _).put _ _ (by omega)⟩
    show RH m (st σ 1 _ (σ 3 _ * σ 4 _)) (st (st τ 0 27 0) 22 _ (τ 18 _ * τ 19 _))
    rw [h3, h4]
    exact (h.sc 27 0 (by decide)).reg _ _
theorem al_18 (σ : GS) (a b : Int32) : xr_X0_alarmAct σ 18 a b = (0, st (st σ 5 a.toNatClampNeg 1) 6 a.toNatClampNeg (σ 1 b.toNatClampNeg)) := by
  unfold xr_X0_alarmAct
  rw [if_neg (by decide), if_pos rfl, if_pos rfl]
  rfl
theorem al_19 (σ : GS) (a b : Int32) : xr_X0_alarmAct σ 19 a b = (0, st σ 5 a.toNatClampNeg 0) := by
  unfold xr_X0_alarmAct
  rw [if_neg (by decide), if_neg (by decide), if_neg (by decide)]
  rfl
theorem al_20 (σ : GS) (a b : Int32) : xr_X0_alarmAct σ 20 a b = if σ 5 a.toNatClampNeg = 0 then (1, σ) else (7, σ) := by
  unfold xr_X0_alarmAct
  rw [if_pos rfl]
theorem sp_18 (h : RH m σ τ) (hm : m < 64) (hz : τ 0 27 = 0) {a b : Nat} (ha : a < 3) (hb : b < 6) (c : Int32) : SP m τ (xo_X0_perform σ 18 (nI a) (nI b) c) (xo_X6_rest τ 18 (nI a) (nI b) c) (xr_X0_perform σ 18 (nI a) (nI b) c) (xr_X6_rest τ 18 (nI a) (nI b) c) := by
  have va : vp_in (nI a) 3 := vp_in_nI ha (by decide)
  have vb : vp_in (nI b) 6 := vp_in_nI hb (by decide)
  have h1 := h.1.1.1
  refine ⟨pfo_18 _ _ _ _ ⟨⟨fun e => absurd e (by decide), fun _ => ⟨fun _ => ⟨va, fun _ => ⟨vb, va, trivial⟩, fun z => absurd rfl z⟩, fun z => absurd rfl z⟩⟩, trivial⟩, rso_18 _ _ _ _ ⟨va, vb, va, trivial⟩, ?_⟩
  rw [pf_18, al_18, rs_18]
  refine ⟨⟨0, by omega, rfl, hz⟩, ⟨m, by omega, ?_⟩, ((FR.rf τ).put _ _ (by omega)).put _ _ (by omega)⟩
  show RH m (st (st σ 5 _ 1) 6 _ (σ 1 _)) (st (st τ 20 _ 1) 21 _ (τ 22 _))
  rw [h1]
  exact (h.al _ 1 (Or.inr rfl)).aln _ _
theorem sp_19 (h : RH m σ τ) (hm : m < 64) (hz : τ 0 27 = 0) {a : Nat} (ha : a < 3) (b c : Int32) : SP m τ (xo_X0_perform σ 19 (nI a) b c) (xo_X6_rest τ 19 (nI a) b c) (xr_X0_perform σ 19 (nI a) b c) (xr_X6_rest τ 19 (nI a) b c) := by
  have va : vp_in (nI a) 3 := vp_in_nI ha (by decide)
  refine ⟨pfo_19 _ _ _ _ ⟨⟨fun e => absurd e (by decide), fun _ => ⟨fun e => absurd e (by decide), fun _ => ⟨va, fun e => absurd e (by decide), fun _ => trivial⟩⟩⟩, trivial⟩, rso_19 _ _ _ _ ⟨va, trivial⟩, ?_⟩
  rw [pf_19, al_19, rs_19]
  exact ⟨⟨0, by omega, rfl, hz⟩, ⟨m, by omega, h.al _ 0 (Or.inl rfl)⟩, (FR.rf τ).put _ _ (by omega)⟩
theorem sp_21 (h : RH m σ τ) (hm : m < 64) (hz : τ 0 27 = 0) {a : Nat} (ha : a < 6) (b c : Int32) : SP m τ (xo_X0_perform σ 21 (nI a) b c) (xo_X6_rest τ 21 (nI a) b c) (xr_X0_perform σ 21 (nI a) b c) (xr_X6_rest τ 21 (nI a) b c) := by
  have va : vp_in (nI a) 6 := vp_in_nI ha (by decide)
  refine ⟨pfo_21 _ _ _ _ ⟨va, trivial⟩, rso_21 _ _ _ _ ⟨va, trivial⟩, ?_⟩
  rw [pf_21, rs_21]
  exact ⟨⟨0, by omega, rfl, hz⟩, ⟨m, by omega, h.reg _ _⟩, (FR.rf τ).put _ _ (by omega)⟩
theorem sp_22 (h : RH m σ τ) (hm : m < 64) (hz : τ 0 27 = 0) {a b : Nat} (ha : a < 6) (hb : b < 6) (c : Int32) : SP m τ (xo_X0_perform σ 22 (nI a) (nI b) c) (xo_X6_rest τ 22 (nI a) (nI b) c) (xr_X0_perform σ 22 (nI a) (nI b) c) (xr_X6_rest τ 22 (nI a) (nI b) c) := by
  have va : vp_in (nI a) 6 := vp_in_nI ha (by decide)
  have vb : vp_in (nI b) 6 := vp_in_nI hb (by decide)
  refine ⟨pfo_22 _ _ _ _ ⟨va, vb, va, trivial⟩, rso_22 _ _ _ _ ⟨va, vb, va, trivial⟩, ?_⟩
  rw [pf_22, rs_22, ← h.1.1.1]
  exact ⟨⟨0, by omega, rfl, hz⟩, ⟨m, by omega, h.reg _ _⟩, (FR.rf τ).put _ _ (by omega)⟩
end OPS
