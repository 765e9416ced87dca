def gS (τ : GS) (k : Nat) : GS := st (st (st τ 0 31 (τ 0 31 + 1)) 23 (τ 0 27).toNatClampNeg (τ 23 (τ 0 27).toNatClampNeg + 1)) 0 25 (τ 8 k)
def fS (τ : GS) (x : Int32) : GS := st (st τ 0 28 (τ 0 27)) 0 29 x
theorem gx_step (F : Nat) (σ ρ : GS) (x1 x2 x3 : Int32) : xl_X2_guardFor_2 (F + 1) σ ρ x1 x2 x3 = if ρ 28 1 ≤ x3 then (-1, σ, ρ) else if x1 < ρ 33 x3.toNatClampNeg then xl_X2_guardFor_2 F σ ρ x1 x2 (x3 + 1) else if ρ 34 x3.toNatClampNeg ≤ x1 then xl_X2_guardFor_2 F σ ρ x1 x2 (x3 + 1) else if ρ 35 x3.toNatClampNeg = 0 then (x3, σ, ρ) else if ρ 35 x3.toNatClampNeg = x2 then (x3, σ, ρ) else xl_X2_guardFor_2 F σ ρ x1 x2 (x3 + 1) := by
  rw [xl_X2_guardFor_2]
  simp only [nf_1_0, eq_self, if_true, if_false]
theorem gx_ok (F : Nat) (σ ρ : GS) (x1 x2 x3 : Int32) (vx : ¬ ρ 28 1 ≤ x3 → vp_in x3 5) (R : ¬ ρ 28 1 ≤ x3 → xlo_X2_guardFor_2 F σ ρ x1 x2 (x3 + 1)) : xlo_X2_guardFor_2 (F + 1) σ ρ x1 x2 x3 :=
  And.intro (fun _ => trivial) (fun z => ⟨vx z, fun _ => ⟨fun _ => R z, fun y => absurd rfl y⟩, fun _ => ⟨vx z, fun _ => ⟨fun _ => R z, fun y => absurd rfl y⟩, fun _ => ⟨fun _ => R z, fun _ => ⟨vx z, fun _ => trivial, fun _ => ⟨vx z, fun _ => trivial, fun _ => R z⟩⟩⟩⟩⟩)
theorem gm_step (F : Nat) (τ : GS) (x1 x2 : Int32) : xl_X6_fails_2 (F + 1) τ x1 x2 = if τ 0 5 ≤ x2 then (0, fS τ x1) else if xr_X6_in x1 (τ 5 x2.toNatClampNeg) (τ 6 x2.toNatClampNeg - 1) = 0 then xl_X6_fails_2 F τ x1 (x2 + 1) else if τ 7 x2.toNatClampNeg = 0 then (0, gS τ x2.toNatClampNeg) else if τ 7 x2.toNatClampNeg = τ 0 27 then (0, gS τ x2.toNatClampNeg) else xl_X6_fails_2 F τ x1 (x2 + 1) := rfl
theorem gm_ok (F : Nat) (τ : GS) (x1 x2 : Int32) (vf : vp_in (τ 0 27) 8) (vx : ¬ τ 0 5 ≤ x2 → vp_in x2 5) (R : ¬ τ 0 5 ≤ x2 → xlo_X6_fails_2 F τ x1 (x2 + 1)) : xlo_X6_fails_2 (F + 1) τ x1 x2 :=
  And.intro (fun _ => trivial) (fun z => ⟨vx z, vx z, o_in _ _ _, fun _ => R z, fun _ => ⟨vx z, fun _ => ⟨vf, vf, vx z, trivial⟩, fun _ => ⟨vx z, fun _ => ⟨vf, vf, vx z, trivial⟩, fun _ => R z⟩⟩⟩)
theorem guards {σ ρ τ : GS} {n g : Nat} (hP : RP n g ρ τ) {L f : Nat} (hL : L < 40) (hf : f < 8) (e27 : τ 0 27 = nI f) : ∀ (d i F : Nat), i + d = g → d < F → ((∃ k, k < g ∧ xl_X2_guardFor_2 F σ ρ (nI L) (nI f) (nI i) = (nI k, σ, ρ) ∧ xl_X6_fails_2 F τ (nI L) (nI i) = (0, gS τ k)) ∨ (xl_X2_guardFor_2 F σ ρ (nI L) (nI f) (nI i) = (-1, σ, ρ) ∧ xl_X6_fails_2 F τ (nI L) (nI i) = (0, fS τ (nI L)))) ∧ xlo_X2_guardFor_2 F σ ρ (nI L) (nI f) (nI i) ∧ xlo_X6_fails_2 F τ (nI L) (nI i) := by
  obtain ⟨⟨-, -, -, -, p5, p6, p7, p8⟩, -, ⟨hg, g1, g2⟩, -, hD⟩ := hP
  have vf : vp_in (τ 0 27) 8 := by rw [e27]; exact vp_in_nI hf (by decide)
  intro d
  induction d with
  | zero =>
    intro i F hi hF
    obtain ⟨F, rfl⟩ : ∃ F', F = F' + 1 := ⟨F - 1, by omega⟩
    have hig : i = g := by omega
    subst hig
    have c1 : ρ 28 1 ≤ nI i := by rw [g1]; exact Int32.le_refl _
    have c2 : τ 0 5 ≤ nI i := by rw [g2]; exact Int32.le_refl _
    refine ⟨Or.inr ⟨?_, ?_⟩, gx_ok _ _ _ _ _ _ (fun z => absurd c1 z) (fun z => absurd c1 z), gm_ok _ _ _ _ vf (fun z => absurd c2 z) (fun z => absurd c2 z)⟩
    · rw [gx_step, if_pos c1]
    · rw [gm_step, if_pos c2]
  | succ d ih =>
    intro i F hi hF
    obtain ⟨F, rfl⟩ : ∃ F', F = F' + 1 := ⟨F - 1, by omega⟩
    have c1 : ¬ ρ 28 1 ≤ nI i := by rw [g1]; exact nI_ge (by omega) (by omega)
    have c2 : ¬ τ 0 5 ≤ nI i := by rw [g2]; exact nI_ge (by omega) (by omega)
    have vi : vp_in (nI i) 5 := vp_in_nI (by omega) (by decide)
    have cl : (nI i).toNatClampNeg = i := nI_clamp (by omega)
    obtain ⟨r1, r2, r3⟩ := ih (i + 1) F (by omega) (by omega)
    rw [← nI_1] at r1 r2 r3
    refine ⟨?_, gx_ok _ _ _ _ _ _ (fun _ => vi) (fun _ => r2), gm_ok _ _ _ _ vf (fun _ => vi) (fun _ => r3)⟩
    rw [gx_step, gm_step, if_neg c1, if_neg c2, cl, p5, p6, p7]
    obtain ⟨⟨t, t1, t2, t3⟩, -⟩ := hD i (by omega)
    have em : τ 6 i - 1 = nI (t - 1) := by
      rw [t3]
      obtain ⟨t', rfl⟩ : ∃ t', t = t' + 1 := ⟨t - 1, by omega⟩
      exact nI_pred t'
    by_cases d1 : nI L < τ 5 i
    · have e : xr_X6_in (nI L) (τ 5 i) (τ 6 i - 1) = 0 := by unfold xr_X6_in; rw [if_pos d1]
      rw [if_pos d1, if_pos e]
      exact r1
    · rw [if_neg d1]
      by_cases d2 : τ 6 i ≤ nI L
      · have e : xr_X6_in (nI L) (τ 5 i) (τ 6 i - 1) = 0 := by
          unfold xr_X6_in
          rw [if_neg d1, em]
          rw [t3] at d2
          have := (nI_leI (by omega) (by omega)).mp d2
          rw [if_pos (nI_lt (by omega) (by omega))]
        rw [if_pos d2, if_pos e]
        exact r1
      · have e : ¬ xr_X6_in (nI L) (τ 5 i) (τ 6 i - 1) = 0 := by
          unfold xr_X6_in
          rw [if_neg d1, em]
          rw [t3] at d2
          have : ¬ t ≤ L := fun z => d2 ((nI_leI (by omega) (by omega)).mpr z)
          rw [if_neg (nI_nlt (by omega) (by omega))]
          exact one_ne
        rw [if_neg d2, if_neg e, e27]
        by_cases d3 : τ 7 i = 0
        · rw [if_pos d3, if_pos d3]
          exact Or.inl ⟨i, by omega, rfl, rfl⟩
        · rw [if_neg d3, if_neg d3]
          by_cases d4 : τ 7 i = nI f
          · rw [if_pos d4, if_pos d4]
            exact Or.inl ⟨i, by omega, rfl, rfl⟩
          · rw [if_neg d4, if_neg d4]
            exact r1
