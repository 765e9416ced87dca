def FR (τ τ' : GS) : Prop := (∀ k, ¬ k = 27 → ¬ k = 10 → τ' 0 k = τ 0 k) ∧ (∀ k, (1 ≤ k ∧ k ≤ 8) ∨ k = 23 → τ' k = τ k)
theorem FR.rf (τ : GS) : FR τ τ := ⟨fun _ _ _ => rfl, fun _ _ => rfl⟩
theorem FR.put {τ τ' : GS} (h : FR τ τ') {k : Nat} (i : Nat) (v : Int32) (hk : 8 < k ∧ ¬ k = 23) : FR τ (st τ' k i v) := ⟨fun j h1 h2 => (congrFun (st_n τ' i v (by omega)) j).trans (h.1 j h1 h2), fun j hj => (st_n τ' i v (by omega)).trans (h.2 j hj)⟩
theorem FR.f {τ τ' : GS} (h : FR τ τ') (v : Int32) : FR τ (st τ' 0 27 v) := ⟨fun j h1 h2 => (upd_n (τ' 0) v h1).trans (h.1 j h1 h2), fun j hj => (st_n τ' 27 v (by omega)).trans (h.2 j hj)⟩
theorem FR.i {τ τ' : GS} (h : FR τ τ') (v : Int32) : FR τ (st τ' 0 10 v) := ⟨fun j h1 h2 => (upd_n (τ' 0) v h2).trans (h.1 j h1 h2), fun j hj => (st_n τ' 10 v (by omega)).trans (h.2 j hj)⟩
/-- one act on both sides: what it needs, the same failure, the halls in step, the rest of the reference as it was -/
def SP (m : Nat) (τ : GS) (ox om : Prop) (x y : Int32 × GS) : Prop := ox ∧ om ∧ (∃ f, f < 7 ∧ x.1 = nI f ∧ y.2 0 27 = nI f) ∧ (∃ m', m' ≤ m + 1 ∧ RH m' x.2 y.2) ∧ FR τ y.2
abbrev SP_tail (m : Nat) (τ : GS) (x y : Int32 × GS) : Prop := (∃ f, f < 7 ∧ x.1 = nI f ∧ y.2 0 27 = nI f) ∧ (∃ m', m' ≤ m + 1 ∧ RH m' x.2 y.2) ∧ FR τ y.2
theorem pa_0 (σ : GS) (a b c : Int32) : xr_X0_placeAct σ 0 a b c = (0, st (xr_X1_add σ b (σ 1 c.toNatClampNeg)).2 2 a.toNatClampNeg (xr_X1_add σ b (σ 1 c.toNatClampNeg)).1) := by
  unfold xr_X0_placeAct
  rw [if_pos rfl]
theorem pa_1 (σ : GS) (a b c : Int32) : xr_X0_placeAct σ 1 a b c = (0, st σ 2 a.toNatClampNeg (-1)) := by
  unfold xr_X0_placeAct
  rw [if_neg (by decide), if_pos rfl]
theorem pa_2 (σ : GS) (a b c : Int32) : xr_X0_placeAct σ 2 a b c = (0, st σ 2 a.toNatClampNeg (σ 2 b.toNatClampNeg)) := by
  unfold xr_X0_placeAct
  rw [if_neg (by decide), if_neg (by decide)]
theorem add_eq (σ : GS) (a b : Int32) (h : σ 9 0 < 64) : xr_X1_add σ a b = (σ 9 0, st (st (st (st σ 10 (σ 9 0).toNatClampNeg a) 11 (σ 9 0).toNatClampNeg b) 12 (σ 9 0).toNatClampNeg 0) 9 0 (σ 9 0 + 1)) := by
  unfold xr_X1_add
  rw [if_pos h]
  rfl
section OPS
variable {m : Nat} {σ τ : GS}
theorem sp_0 (h : RH m σ τ) (hm : m < 64) (hz : τ 0 27 = 0) {a b c : Nat} (ha : a < 8) (hb : b < 5) (hc : c < 6) : SP m τ (xo_X0_perform σ 0 (nI a) (nI b) (nI c)) (xo_X6_rest τ 0 (nI a) (nI b) (nI c)) (xr_X0_perform σ 0 (nI a) (nI b) (nI c)) (xr_X6_rest τ 0 (nI a) (nI b) (nI c)) := by
  have ca : (nI a).toNatClampNeg = a := nI_clamp (by omega)
  have cc : (nI c).toNatClampNeg = c := nI_clamp (by omega)
  have cm : (nI m).toNatClampNeg = m := nI_clamp (by omega)
  have va : vp_in (nI a) 8 := vp_in_nI ha (by decide)
  have vc : vp_in (nI c) 6 := vp_in_nI hc (by decide)
  have vm : vp_in (nI m) 64 := vp_in_nI hm (by decide)
  have q1 := h.1.2.1.1
  have q2 := h.1.2.1.2
  have h1 := h.1.1.1
  have l64 : σ 9 0 < 64 := by rw [q1]; exact nI_lt (b := 64) hm (by decide)
  have vX : vp_in (σ 9 0) 64 := by rw [q1]; exact vm
  have vM : vp_in (τ 0 10) 64 := by rw [q2]; exact vm
  refine ⟨pfo_0 _ _ _ _ ⟨⟨fun _ => ⟨vc, ⟨fun _ => ⟨vX, vX, vX, trivial⟩, fun _ => trivial⟩, va, trivial⟩, fun z => absurd rfl z⟩, trivial⟩, rso_0 _ _ _ _ ⟨vM, vc, vM, vM, va, trivial⟩, ?_⟩
  rw [pf_0, pa_0, add_eq _ _ _ l64, rs_0]
  refine ⟨⟨0, by omega, rfl, ?_⟩, ⟨m + 1, by omega, ?_⟩, ?_⟩
  · exact hz
  · have key := h.make a b hb (σ 1 c)
    show RH (m + 1) (st (st (st (st (st σ 10 (σ 9 0).toNatClampNeg (nI b)) 11 (σ 9 0).toNatClampNeg (σ 1 (nI c).toNatClampNeg)) 12 (σ 9 0).toNatClampNeg 0) 9 0 (σ 9 0 + 1)) 2 (nI a).toNatClampNeg (σ 9 0)) (st (st (st (st (st τ 9 (τ 0 10).toNatClampNeg (nI b)) 10 (τ 0 10).toNatClampNeg (τ 22 (nI c).toNatClampNeg)) 11 (τ 0 10).toNatClampNeg 0) 12 (nI a).toNatClampNeg (τ 0 10)) 0 10 (τ 0 10 + 1))
    rw [q1, q2, cm, ca, cc, ← h1]
    exact key
  · exact (((((FR.rf τ).put _ _ (by omega)).put _ _ (by omega)).put _ _ (by omega)).put _ _ (by omega)).i _
theorem sp_1 (h : RH m σ τ) (hm : m < 64) (hz : τ 0 27 = 0) {a : Nat} (ha : a < 8) (b c : Int32) : SP m τ (xo_X0_perform σ 1 (nI a) b c) (xo_X6_rest τ 1 (nI a) b c) (xr_X0_perform σ 1 (nI a) b c) (xr_X6_rest τ 1 (nI a) b c) := by
  have va : vp_in (nI a) 8 := vp_in_nI ha (by decide)
  refine ⟨pfo_1 _ _ _ _ ⟨⟨fun e => absurd e (by decide), fun _ => ⟨fun _ => ⟨va, trivial⟩, fun z => absurd rfl z⟩⟩, trivial⟩, rso_1 _ _ _ _ ⟨va, trivial⟩, ?_⟩
  rw [pf_1, pa_1, rs_1]
  exact ⟨⟨0, by omega, rfl, hz⟩, ⟨m, by omega, h.plc _ _ (Or.inl rfl)⟩, (FR.rf τ).put _ _ (by omega)⟩
theorem sp_2 (h : RH m σ τ) (hm : m < 64) (hz : τ 0 27 = 0) {a b : Nat} (ha : a < 8) (hb : b < 8) (c : Int32) : SP m τ (xo_X0_perform σ 2 (nI a) (nI b) c) (xo_X6_rest τ 2 (nI a) (nI b) c) (xr_X0_perform σ 2 (nI a) (nI b) c) (xr_X6_rest τ 2 (nI a) (nI b) c) := by
  have va : vp_in (nI a) 8 := vp_in_nI ha (by decide)
  have vb : vp_in (nI b) 8 := vp_in_nI hb (by decide)
  have cb : (nI b).toNatClampNeg = b := nI_clamp (by omega)
  refine ⟨pfo_2 _ _ _ _ ⟨⟨fun e => absurd e (by decide), fun _ => ⟨fun e => absurd e (by decide), fun _ => ⟨vb, va, trivial⟩⟩⟩, trivial⟩, rso_2 _ _ _ _ ⟨vb, va, trivial⟩, ?_⟩
  rw [pf_2, pa_2, rs_2, ← h.1.1.2.1]
  exact ⟨⟨0, by omega, rfl, hz⟩, ⟨m, by omega, h.plc _ _ (by rw [cb]; exact h.1.2.2.1 b hb)⟩, (FR.rf τ).put _ _ (by omega)⟩
end OPS
