def SG (m : Nat) (τ : GS) (o a b : Int32) (ox om : Prop) (x y : Int32 × GS) : Prop :=
  ox ∧ om ∧ (∃ f, f < 8 ∧ x.1 = nI f ∧ y.2 0 27 = nI f ∧ (f = 7 → vp_in a 3)) ∧ (∃ m', m' ≤ m + 1 ∧ RH m' x.2 y.2) ∧ (∀ k, ¬ k = 27 → ¬ k = 10 → ¬ k = 25 → ¬ k = 30 → y.2 0 k = τ 0 k) ∧ (∀ k, (1 ≤ k ∧ k ≤ 8) ∨ k = 23 → y.2 k = τ k) ∧ (y.2 0 30 = if x.1 = 7 then x.2 6 a.toNatClampNeg else τ 0 30) ∧ (∀ L : Nat, L < 40 → τ 0 25 = nI (L + 1) → (∃ l, l ≤ 40 ∧ y.2 0 25 = nI l) ∧ (x.1 = 0 → xo_X0_lineBehind x.2 (nI L) o a b ∧ xr_X0_lineBehind x.2 (nI L) o a b = (y.2 0 25, x.2)))
theorem SP.toSG {m : Nat} {τ : GS} {o a b : Int32} {ox om : Prop} {x y : Int32 × GS} (h : SP m τ ox om x y) (h3 : ¬ o = 23) (h4 : ¬ o = 24) : SG m τ o a b ox om x y := by
  obtain ⟨h1, h2, ⟨f, f1, f2, f3⟩, hm, g1, g2⟩ := h
  refine ⟨h1, h2, ⟨f, by omega, f2, f3, fun z => absurd z (by omega)⟩, hm, fun k k1 k2 _ _ => g1 k k1 k2, g2, ?_, fun L hL e => ⟨⟨L + 1, by omega, ?_⟩, fun _ => ⟨⟨fun z => absurd z h3, fun _ => ⟨fun z => absurd z h4, fun _ => trivial⟩⟩, ?_⟩⟩⟩
  · rw [if_neg]
    · exact g1 30 (by decide) (by decide)
    · rw [f2]
      exact fun z => absurd ((nI_eq (b := 7) (by omega) (by decide)).mp z) (by omega)
  · rw [g1 25 (by decide) (by decide)]
    exact e
  · unfold xr_X0_lineBehind
    rw [if_neg h3, if_neg h4, g1 25 (by decide) (by decide), e, nI_1]
section OPS
variable {m : Nat} {σ τ : GS}
theorem sg_20 (h : RH m σ τ) (hm : m < 64) (hz : τ 0 27 = 0) {a : Nat} (ha : a < 3) (b c : Int32) : SG m τ 20 (nI a) b (xo_X0_perform σ 20 (nI a) b c) (xo_X6_rest τ 20 (nI a) b c) (xr_X0_perform σ 20 (nI a) b c) (xr_X6_rest τ 20 (nI a) b c) := by
  have ca : (nI a).toNatClampNeg = a := nI_clamp (by omega)
  have va : vp_in (nI a) 3 := vp_in_nI ha (by decide)
  have h5 := h.1.1.2.2.2.2.1
  have h6 := h.1.1.2.2.2.2.2.1
  have okx : xo_X0_perform σ 20 (nI a) b c := pfo_20 _ _ _ _ ⟨⟨fun _ => ⟨va, fun _ => trivial, fun _ => trivial⟩, fun z => absurd rfl z⟩, trivial⟩
  have hv := h.1.2.2.2.2 a ha
  have okm : xo_X6_rest τ 20 (nI a) b c := by
    refine rso_20 _ _ _ _ ⟨va, ?_, fun _ => trivial, fun _ => ⟨va, trivial⟩⟩
    rw [ca, ← h5]
    rcases hv with e | e <;> rw [e]
    · exact o_there0 _
    · exact o_there1 _
  rcases hv with e | e
  · refine SP.toSG (o := 20) ⟨okx, okm, ?_⟩ (by decide) (by decide)
    rw [pf_20, al_20, rs_20, ca, ← h5, e, if_pos rfl, there0]
    exact ⟨⟨1, by omega, rfl, rfl⟩, ⟨m, by omega, h.sc _ _ (by decide)⟩, (FR.rf τ).f _⟩
  · have hy : xr_X6_rest τ 20 (nI a) b c = (0, st (st (st τ 0 27 0) 0 27 7) 0 30 (τ 21 a)) := by
      rw [rs_20, ca, ← h5, e, there1]
      rfl
    have hx : xr_X0_perform σ 20 (nI a) b c = (7, σ) := by
      rw [pf_20, al_20, ca, e]
      exact if_neg one_ne
    refine ⟨okx, okm, ?_⟩
    rw [hx, hy]
    refine ⟨⟨7, by omega, rfl, rfl, fun _ => va⟩, ⟨m, by omega, ((h.sc 27 0 (by decide)).sc 27 7 (by decide)).sc 30 _ (by decide)⟩, fun k k1 k2 k3 k4 => ?_, fun k hk => ?_, ?_, fun L hL e2 => ⟨⟨L + 1, by omega, e2⟩, fun z => absurd z (show ¬ (7 : Int32) = 0 by decide)⟩⟩
    · show upd (upd (upd (τ 0) 27 0) 27 7) 30 (τ 21 a) k = τ 0 k
      rw [upd_n _ _ k4, upd_n _ _ k1, upd_n _ _ k1]
    · exact ((st_n _ _ _ (by omega)).trans (st_n _ _ _ (by omega))).trans (st_n _ _ _ (by omega))
    · rw [if_pos rfl, ca]
      show upd (upd (upd (τ 0) 27 0) 27 7) 30 (τ 21 a) 30 = σ 6 a
      rw [upd_s, h6]
theorem sg_23 (h : RH m σ τ) (hz : τ 0 27 = 0) {a : Nat} (ha : a < 41) (b c : Int32) : SG m τ 23 (nI a) b (xo_X0_perform σ 23 (nI a) b c) (xo_X6_rest τ 23 (nI a) b c) (xr_X0_perform σ 23 (nI a) b c) (xr_X6_rest τ 23 (nI a) b c) := by
  refine ⟨pfo_23 _ _ _ _, rso_23 _ _ _ _ trivial, ?_⟩
  rw [pf_23, rs_23]
  refine ⟨⟨0, by omega, rfl, hz, fun z => absurd z (by decide)⟩, ⟨m, by omega, h.sc 25 _ (by decide)⟩, fun k k1 k2 k3 k4 => upd_n (τ 0) _ k3, fun k hk => st_n _ _ _ (by omega), ?_, fun L hL e => ⟨⟨a, by omega, upd_s (τ 0) 25 _⟩, fun _ => ⟨⟨fun _ => trivial, fun z => absurd rfl z⟩, ?_⟩⟩⟩
  · rw [if_neg (show ¬ (0 : Int32) = 7 by decide)]
    rfl
  · unfold xr_X0_lineBehind
    rw [if_pos rfl]
    show _ = (upd (τ 0) 25 (nI a) 25, σ)
    rw [upd_s]
theorem sg_24 (h : RH m σ τ) (hz : τ 0 27 = 0) {a b : Nat} (ha : a < 6) (hb : b < 41) (c : Int32) : SG m τ 24 (nI a) (nI b) (xo_X0_perform σ 24 (nI a) (nI b) c) (xo_X6_rest τ 24 (nI a) (nI b) c) (xr_X0_perform σ 24 (nI a) (nI b) c) (xr_X6_rest τ 24 (nI a) (nI b) c) := by
  have va : vp_in (nI a) 6 := vp_in_nI ha (by decide)
  have h1 := h.1.1.1
  have lo : ∀ L, xo_X0_lineBehind σ L 24 (nI a) (nI b) := fun L => ⟨fun z => absurd z (by decide), fun _ => ⟨fun _ => ⟨va, fun _ => trivial, fun _ => trivial⟩, fun z => absurd rfl z⟩⟩
  have le : ∀ L, xr_X0_lineBehind σ L 24 (nI a) (nI b) = if (1 : Int32) ≤ σ 1 (nI a).toNatClampNeg then (L + 1, σ) else (nI b, σ) := fun L => by
    unfold xr_X0_lineBehind
    rw [if_neg (by decide), if_pos rfl]
  refine ⟨pfo_24 _ _ _ _, rso_24 _ _ _ _ ⟨va, fun _ => trivial, fun _ => trivial⟩, ?_⟩
  rw [pf_24, rs_24, ← h1]
  by_cases e : (1 : Int32) ≤ σ 1 (nI a).toNatClampNeg
  · rw [if_pos e]
    refine ⟨⟨0, by omega, rfl, hz, fun z => absurd z (by decide)⟩, ⟨m, by omega, h.sc 25 _ (by decide)⟩, fun k k1 k2 k3 k4 => upd_n (τ 0) _ k3, fun k hk => st_n _ _ _ (by omega), ?_, fun L hL e2 => ⟨⟨L + 1, by omega, (upd_s (τ 0) 25 _).trans e2⟩, fun _ => ⟨lo _, ?_⟩⟩⟩
    · rw [if_neg (show ¬ (0 : Int32) = 7 by decide)]
      rfl
    · show xr_X0_lineBehind σ (nI L) 24 (nI a) (nI b) = (upd (τ 0) 25 (τ 0 25) 25, σ)
      rw [le, if_pos e, upd_s, e2, nI_1]
  · rw [if_neg e]
    refine ⟨⟨0, by omega, rfl, hz, fun z => absurd z (by decide)⟩, ⟨m, by omega, h.sc 25 _ (by decide)⟩, fun k k1 k2 k3 k4 => upd_n (τ 0) _ k3, fun k hk => st_n _ _ _ (by omega), ?_, fun L hL e2 => ⟨⟨b, by omega, upd_s (τ 0) 25 _⟩, fun _ => ⟨lo _, ?_⟩⟩⟩
    · rw [if_neg (show ¬ (0 : Int32) = 7 by decide)]
      rfl
    · show xr_X0_lineBehind σ (nI L) 24 (nI a) (nI b) = (upd (τ 0) 25 (nI b) 25, σ)
      rw [le, if_neg e, upd_s]
end OPS
def fam (τ : GS) (o a b c : Int32) : Int32 × GS := if xr_X6_in o 3 5 = 0 then if xr_X6_in o 8 12 = 0 then if xr_X6_in o 13 15 = 0 then xr_X6_rest τ o a b c else xr_X6_counts τ o a b c else xr_X6_one τ o a b else xr_X6_belts τ o a b c
def famo (τ : GS) (o a b c : Int32) : Prop := (xr_X6_in o 3 5 = 0 → (xr_X6_in o 8 12 = 0 → (xr_X6_in o 13 15 = 0 → xo_X6_rest τ o a b c) ∧ (¬ xr_X6_in o 13 15 = 0 → xo_X6_counts τ o a b c)) ∧ (¬ xr_X6_in o 8 12 = 0 → xo_X6_one τ o a b)) ∧ (¬ xr_X6_in o 3 5 = 0 → xo_X6_belts τ o a b c)
theorem fam_r {m : Nat} {τ : GS} {o a b c : Int32} {ox : Prop} {x : Int32 × GS} (e1 : xr_X6_in o 3 5 = 0) (e2 : xr_X6_in o 8 12 = 0) (e3 : xr_X6_in o 13 15 = 0) (h : SG m τ o a b ox (xo_X6_rest τ o a b c) x (xr_X6_rest τ o a b c)) : SG m τ o a b ox (famo τ o a b c) x (fam τ o a b c) := by
  have ef : fam τ o a b c = xr_X6_rest τ o a b c := by unfold fam; rw [if_pos e1, if_pos e2, if_pos e3]
  rw [ef]
  exact ⟨h.1, ⟨fun _ => ⟨fun _ => ⟨fun _ => h.2.1, fun z => absurd e3 z⟩, fun z => absurd e2 z⟩, fun z => absurd e1 z⟩, h.2.2⟩
theorem fam_c {m : Nat} {τ : GS} {o a b c : Int32} {ox : Prop} {x : Int32 × GS} (e1 : xr_X6_in o 3 5 = 0) (e2 : xr_X6_in o 8 12 = 0) (e3 : ¬ xr_X6_in o 13 15 = 0) (h : SG m τ o a b ox (xo_X6_counts τ o a b c) x (xr_X6_counts τ o a b c)) : SG m τ o a b ox (famo τ o a b c) x (fam τ o a b c) := by
  have ef : fam τ o a b c = xr_X6_counts τ o a b c := by unfold fam; rw [if_pos e1, if_pos e2, if_neg e3]
  rw [ef]
  exact ⟨h.1, ⟨fun _ => ⟨fun _ => ⟨fun z => absurd z e3, fun _ => h.2.1⟩, fun z => absurd e2 z⟩, fun z => absurd e1 z⟩, h.2.2⟩
theorem fam_o {m : Nat} {τ : GS} {o a b c : Int32} {ox : Prop} {x : Int32 × GS} (e1 : xr_X6_in o 3 5 = 0) (e2 : ¬ xr_X6_in o 8 12 = 0) (h : SG m τ o a b ox (xo_X6_one τ o a b) x (xr_X6_one τ o a b)) : SG m τ o a b ox (famo τ o a b c) x (fam τ o a b c) := by
  have ef : fam τ o a b c = xr_X6_one τ o a b := by unfold fam; rw [if_pos e1, if_neg e2]
  rw [ef]
  exact ⟨h.1, ⟨fun _ => ⟨fun z => absurd z e2, fun _ => h.2.1⟩, fun z => absurd e1 z⟩, h.2.2⟩
theorem fam_b {m : Nat} {τ : GS} {o a b c : Int32} {ox : Prop} {x : Int32 × GS} (e1 : ¬ xr_X6_in o 3 5 = 0) (h : SG m τ o a b ox (xo_X6_belts τ o a b c) x (xr_X6_belts τ o a b c)) : SG m τ o a b ox (famo τ o a b c) x (fam τ o a b c) := by
  have ef : fam τ o a b c = xr_X6_belts τ o a b c := by unfold fam; rw [if_neg e1]
  rw [ef]
  exact ⟨h.1, ⟨fun z => absurd z e1, fun _ => h.2.1⟩, h.2.2⟩
theorem ne_if {p x : Int32} (h : ¬ (if p = 0 then (0 : Int32) else x) = 0) : ¬ p = 0 ∧ ¬ x = 0 := by
  by_cases e : p = 0
  · rw [if_pos e] at h; exact absurd rfl h
  · rw [if_neg e] at h; exact ⟨e, h⟩
theorem inU {n : Nat} (hn : n < 2 ^ 31 - 1) {a : Int32} (h : ¬ xr_X6_in a 0 (nI n) = 0) : ∃ j, j < n + 1 ∧ a = nI j := by
  rcases in_cases a n hn with ⟨g, -⟩ | ⟨-, g⟩
  · exact absurd g h
  · exact g
theorem plU {a : Int32} (h : ¬ xr_X6_isPlace a = 0) : ∃ j, j < 8 ∧ a = nI j := inU (n := 7) (by decide) h
theorem rgU {a : Int32} (h : ¬ xr_X6_isRegister a = 0) : ∃ j, j < 6 ∧ a = nI j := inU (n := 5) (by decide) h
