theorem addAct_eq (σ ρ : GS) (a b c d : Int32) : xr_X2_addAct σ ρ a b c d = if ρ 28 0 < 40 then (ρ 28 0, σ, st (st (st (st (st ρ 29 (ρ 28 0).toNatClampNeg a) 30 (ρ 28 0).toNatClampNeg b) 31 (ρ 28 0).toNatClampNeg c) 32 (ρ 28 0).toNatClampNeg d) 28 0 (ρ 28 0 + 1)) else (-102, σ, ρ) := rfl
theorem addAct_ok (σ ρ : GS) (a b c d : Int32) (h : ρ 28 0 < 40 → vp_in (ρ 28 0) 40) : xo_X2_addAct σ ρ a b c d := ⟨fun z => ⟨h z, h z, h z, h z, trivial⟩, fun _ => trivial⟩
theorem actM_eq (τ : GS) (a b c d : Int32) : xr_X6_act τ a b c d = if xr_X6_isRight a b c d = 0 then (-101, τ) else if τ 0 0 = 40 then (-102, τ) else (τ 0 0 + 1 - 1, st (st (st (st (st τ 1 (τ 0 0).toNatClampNeg a) 2 (τ 0 0).toNatClampNeg b) 3 (τ 0 0).toNatClampNeg c) 4 (τ 0 0).toNatClampNeg d) 0 0 (τ 0 0 + 1)) := rfl
theorem nI_back (n : Nat) : nI n + 1 - 1 = nI n := by rw [nI_1]; exact nI_pred n
theorem rel_act {σ ρ τ : GS} (h : Rel σ ρ τ) (a b c d : Int32) : rs (xo_X5_act σ ρ a b c d) (xo_X6_act τ a b c d) (xr_X5_act σ ρ a b c d) (xr_X6_act τ a b c d) := by
  have hrel := h
  obtain ⟨m, n, g, hm, hH, ⟨p1, ⟨p2, p3, p4⟩, p5, p8, p9⟩, r⟩ := h
  have okA : xo_X2_isAct a b c d := by
    refine ⟨o_bel _ _, fun _ => trivial, fun z => ?_⟩
    have hin : vp_in a 25 := by
      rcases bel_cases a 25 (by decide) with ⟨g1, -⟩ | ⟨-, j, g2, g3⟩
      · exact absurd g1 z
      · rw [g3]; exact vp_in_nI g2 (by decide)
    exact ⟨hin, o_good _ _, fun _ => trivial, fun _ => ⟨hin, o_good _ _, fun _ => trivial, fun _ => ⟨hin, o_good _ _, fun _ => trivial, fun _ => trivial⟩⟩⟩
  by_cases c0 : xr_X6_isRight a b c d = 0
  · have c1 : xr_X2_isAct a b c d = 0 := (X_isRight a b c d).trans c0
    unfold xr_X5_act xo_X5_act xo_X6_act
    rw [actM_eq, if_pos c0, if_pos c1]
    exact ⟨⟨okA, fun _ => trivial, fun z => absurd c1 z⟩, ⟨o_right _ _ _ _, fun _ => trivial, fun z => absurd c0 z⟩, rfl, hrel⟩
  · have c1 : ¬ xr_X2_isAct a b c d = 0 := fun z => c0 ((X_isRight a b c d).symm.trans z)
    have hin : n < 40 → vp_in (nI n) 40 := fun z => vp_in_nI z (by decide)
    have lt : (nI n < 40) ↔ n < 40 := nI_ltI (b := 40) (by omega) (by decide)
    have eq : (nI n = 40) ↔ n = 40 := nI_eq (b := 40) (by omega) (by decide)
    have ok1 : xo_X5_act σ ρ a b c d := ⟨okA, fun _ => trivial, fun _ => ⟨addAct_ok _ _ _ _ _ _ (fun z => by rw [p3] at z ⊢; exact hin (lt.mp z)), trivial⟩⟩
    have ok2 : xo_X6_act τ a b c d := by
      refine ⟨o_right _ _ _ _, fun _ => trivial, fun _ => ⟨fun _ => trivial, fun z => ?_⟩⟩
      have q : vp_in (τ 0 0) 40 := by
        rw [p4] at z ⊢
        exact hin (Nat.lt_of_le_of_ne p2 (fun e => z (eq.mpr e)))
      exact ⟨q, q, q, q, trivial⟩
    refine ⟨ok1, ok2, ?_⟩
    unfold xr_X5_act
    rw [actM_eq, if_neg c0, if_neg c1, addAct_eq]
    by_cases c2 : n = 40
    · rw [if_pos (p4.trans (eq.mpr c2)), if_neg (by rw [p3]; exact fun z => absurd (lt.mp z) (by omega))]
      exact ⟨rfl, hrel⟩
    · have c3 : n < 40 := by omega
      rw [if_neg (by rw [p4]; exact fun z => c2 (eq.mp z)), if_pos (by rw [p3]; exact lt.mpr c3)]
      refine ⟨?_, m, n + 1, g, hm, hH, ⟨⟨?_, ?_, ?_, ?_, p1.2.2.2.2⟩, ⟨by omega, ?_, ?_⟩, p5, ?_, p9⟩, r⟩
      · show ρ 28 0 = τ 0 0 + 1 - 1
        rw [p3, p4, nI_back]
      · show upd (ρ 29) _ a = upd (τ 1) _ a
        rw [p1.1, p3, p4]
      · show upd (ρ 30) _ b = upd (τ 2) _ b
        rw [p1.2.1, p3, p4]
      · show upd (ρ 31) _ c = upd (τ 3) _ c
        rw [p1.2.2.1, p3, p4]
      · show upd (ρ 32) _ d = upd (τ 4) _ d
        rw [p1.2.2.2.1, p3, p4]
      · show ρ 28 0 + 1 = nI (n + 1)
        rw [p3, nI_1]
      · show τ 0 0 + 1 = nI (n + 1)
        rw [p4, nI_1]
      · intro i hi
        show ¬ xr_X6_isRight (upd (τ 1) (τ 0 0).toNatClampNeg a i) (upd (τ 2) (τ 0 0).toNatClampNeg b i) (upd (τ 3) (τ 0 0).toNatClampNeg c i) (upd (τ 4) (τ 0 0).toNatClampNeg d i) = 0
        rw [p4, nI_clamp (by omega)]
        by_cases e : i = n
        · rw [e, upd_s, upd_s, upd_s, upd_s]; exact c0
        · rw [upd_n _ _ e, upd_n _ _ e, upd_n _ _ e, upd_n _ _ e]; exact p8 i (by omega)
theorem addGuard_eq (σ ρ : GS) (a b c d : Int32) : xr_X2_addGuard σ ρ a b c d = if ρ 28 1 < 5 then (ρ 28 1, σ, st (st (st (st (st ρ 33 (ρ 28 1).toNatClampNeg a) 34 (ρ 28 1).toNatClampNeg b) 35 (ρ 28 1).toNatClampNeg c) 36 (ρ 28 1).toNatClampNeg d) 28 1 (ρ 28 1 + 1)) else (-102, σ, ρ) := rfl
theorem addGuard_ok (σ ρ : GS) (a b c d : Int32) (h : ρ 28 1 < 5 → vp_in (ρ 28 1) 5) : xo_X2_addGuard σ ρ a b c d := ⟨fun z => ⟨h z, h z, h z, h z, trivial⟩, fun _ => trivial⟩
theorem guardX_eq (σ ρ : GS) (a b c d : Int32) : xr_X5_guard σ ρ a b c d = if a < 0 then (-101, σ, ρ) else if b ≤ a then (-101, σ, ρ) else if (40 : Int32) < b then (-101, σ, ρ) else if xr_X5_isBelow c 8 = 0 then (-101, σ, ρ) else if xr_X5_isBelow d 41 = 0 then (-101, σ, ρ) else xr_X2_addGuard σ ρ a b c d := rfl
theorem guardM_eq (τ : GS) (a b c d : Int32) : xr_X6_guard τ a b c d = if a < 0 then (-101, τ) else if b ≤ a then (-101, τ) else if (40 : Int32) < b then (-101, τ) else if xr_X6_in c 0 7 = 0 then (-101, τ) else if xr_X6_in d 0 40 = 0 then (-101, τ) else if τ 0 5 = 5 then (-102, τ) else (τ 0 5 + 1 - 1, st (st (st (st (st τ 5 (τ 0 5).toNatClampNeg a) 6 (τ 0 5).toNatClampNeg b) 7 (τ 0 5).toNatClampNeg c) 8 (τ 0 5).toNatClampNeg d) 0 5 (τ 0 5 + 1)) := rfl
theorem guardX_ok (σ ρ : GS) (a b c d : Int32) (h : xo_X2_addGuard σ ρ a b c d) : xo_X5_guard σ ρ a b c d := by
  unfold xo_X5_guard
  simp [o_bel, h, bd2]
theorem rel_guard {σ ρ τ : GS} (h : Rel σ ρ τ) (a b c d : Int32) : rs (xo_X5_guard σ ρ a b c d) (xo_X6_guard τ a b c d) (xr_X5_guard σ ρ a b c d) (xr_X6_guard τ a b c d) := by
  have hrel := h
  obtain ⟨m, n, g, hm, hH, ⟨p1, p5, ⟨p2, p3, p4⟩, p8, p9⟩, r⟩ := h
  have hin : g < 5 → vp_in (nI g) 5 := fun z => vp_in_nI z (by decide)
  have lt : (nI g < 5) ↔ g < 5 := nI_ltI (b := 5) (by omega) (by decide)
  have eq : (nI g = 5) ↔ g = 5 := nI_eq (b := 5) (by omega) (by decide)
  have ok1 : xo_X5_guard σ ρ a b c d := guardX_ok _ _ _ _ _ _ (addGuard_ok _ _ _ _ _ _ (fun z => by rw [p3] at z ⊢; exact hin (lt.mp z)))
  have ok2 : xo_X6_guard τ a b c d := by
    have q : ¬ τ 0 5 = 5 → vp_in (τ 0 5) 5 := fun z => by
      rw [p4] at z ⊢
      exact hin (Nat.lt_of_le_of_ne p2 (fun e => z (eq.mpr e)))
    exact ⟨fun _ => trivial, fun _ => ⟨fun _ => trivial, fun _ => ⟨fun _ => trivial, fun _ => ⟨o_in _ _ _, fun _ => trivial, fun _ => ⟨o_in _ _ _, fun _ => trivial, fun _ => ⟨fun _ => trivial, fun z => ⟨q z, q z, q z, q z, trivial⟩⟩⟩⟩⟩⟩⟩
  refine ⟨ok1, ok2, ?_⟩
  rw [guardX_eq, guardM_eq]
  by_cases c1 : a < 0
  · rw [if_pos c1, if_pos c1]; exact ⟨rfl, hrel⟩
  rw [if_neg c1, if_neg c1]
  by_cases c2 : b ≤ a
  · rw [if_pos c2, if_pos c2]; exact ⟨rfl, hrel⟩
  rw [if_neg c2, if_neg c2]
  by_cases c3 : (40 : Int32) < b
  · rw [if_pos c3, if_pos c3]; exact ⟨rfl, hrel⟩
  rw [if_neg c3, if_neg c3]
  have e1 : xr_X6_in c 0 7 = xr_X5_isBelow c 8 := (bel_in c 7 (by decide)).symm
  have e2 : xr_X6_in d 0 40 = xr_X5_isBelow d 41 := (bel_in d 40 (by decide)).symm
  rw [e1, e2]
  by_cases c4 : xr_X5_isBelow c 8 = 0
  · rw [if_pos c4, if_pos c4]; exact ⟨rfl, hrel⟩
  rw [if_neg c4, if_neg c4]
  by_cases c5 : xr_X5_isBelow d 41 = 0
  · rw [if_pos c5, if_pos c5]; exact ⟨rfl, hrel⟩
  rw [if_neg c5, if_neg c5, addGuard_eq]
  have hl : ∃ l', l' ≤ 40 ∧ d = nI l' := by
    rcases bel_cases d 41 (by decide) with ⟨g1, -⟩ | ⟨-, j, g2, g3⟩
    · exact absurd g1 c5
    · exact ⟨j, by omega, g3⟩
  have ht : ∃ t', 1 ≤ t' ∧ t' ≤ 40 ∧ b = nI t' := by
    obtain ⟨ja, ha, rfl⟩ := nI_of c1
    have hb0 : ¬ b < 0 := fun z => c2 (Int32.le_of_lt (Int32.lt_of_lt_of_le z (nI_pos' ha)))
    obtain ⟨jb, hb, rfl⟩ := nI_of hb0
    have k1 : ¬ jb ≤ ja := fun z => c2 (nI_le z ha)
    have k2 : ¬ 40 < jb := fun z => c3 (nI_lt (a := 40) z hb)
    exact ⟨jb, by omega, by omega, rfl⟩
  by_cases c6 : g = 5
  · rw [if_pos (p4.trans (eq.mpr c6)), if_neg (by rw [p3]; exact fun z => absurd (lt.mp z) (by omega))]
    exact ⟨rfl, hrel⟩
  · have c7 : g < 5 := by omega
    rw [if_neg (by rw [p4]; exact fun z => c6 (eq.mp z)), if_pos (by rw [p3]; exact lt.mpr c7)]
    refine ⟨?_, m, n, g + 1, hm, hH, ⟨⟨p1.1, p1.2.1, p1.2.2.1, p1.2.2.2.1, ?_, ?_, ?_, ?_⟩, p5, ⟨by omega, ?_, ?_⟩, p8, ?_⟩, r⟩
    · show ρ 28 1 = τ 0 5 + 1 - 1
      rw [p3, p4, nI_back]
    · show upd (ρ 33) _ a = upd (τ 5) _ a
      rw [p1.2.2.2.2.1, p3, p4]
    · show upd (ρ 34) _ b = upd (τ 6) _ b
      rw [p1.2.2.2.2.2.1, p3, p4]
    · show upd (ρ 35) _ c = upd (τ 7) _ c
      rw [p1.2.2.2.2.2.2.1, p3, p4]
    · show upd (ρ 36) _ d = upd (τ 8) _ d
      rw [p1.2.2.2.2.2.2.2, p3, p4]
    · show ρ 28 1 + 1 = nI (g + 1)
      rw [p3, nI_1]
    · show τ 0 5 + 1 = nI (g + 1)
      rw [p4, nI_1]
    · intro i hi
      show GD (upd (τ 6) (τ 0 5).toNatClampNeg b i) (upd (τ 8) (τ 0 5).toNatClampNeg d i)
      rw [p4, nI_clamp (by omega)]
      by_cases e : i = g
      · rw [e, upd_s, upd_s]; exact ⟨ht, hl⟩
      · rw [upd_n _ _ e, upd_n _ _ e]; exact p9 i (by omega)
