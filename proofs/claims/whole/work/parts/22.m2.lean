theorem addAct_eq (σ ρ : GS) (a b c d : Int32) : xr_X2_addAct σ ρ a b c d = if ρ 28 0 < 40 then (ρ 28 0, σ, st (st (st (st (st ρ 29 (ρ 28 0).toNatClampNeg a) 30 (ρ 28 0).toNatClampNeg b) 31 (ρ 28 0).toNatClampNeg c) 32 (ρ 28 0).toNatClampNeg d) 28 0 (ρ 28 0 + 1)) else (-102, σ, ρ) := rfl
theorem addAct_ok (σ ρ : GS) (a b c d : Int32) (h : ρ 28 0 < 40 → vp_in (ρ 28 0) 40) : xo_X2_addAct σ ρ a b c d := ⟨fun z => ⟨h z, h z, h z, h z, trivial⟩, fun _ => trivial⟩
theorem actM_eq (τ : GS) (a b c d : Int32) : xr_X6_act τ a b c d = if xr_X6_isRight a b c d = 0 then (-101, τ) else if τ 0 0 = 40 then (-102, τ) else (τ 0 0 + 1 - 1, st (st (st (st (st τ 1 (τ 0 0).toNatClampNeg a) 2 (τ 0 0).toNatClampNeg b) 3 (τ 0 0).toNatClampNeg c) 4 (τ 0 0).toNatClampNeg d) 0 0 (τ 0 0 + 1)) := rfl
theorem nI_back (n : Nat) : nI n + 1 - 1 = nI n := by rw [nI_1]; exact nI_pred n
theorem rel_act {σ ρ τ : GS} (h : Rel σ ρ τ) (a b c d : Int32) : rs (xo_X5_act σ ρ a b c d) (xo_X6_act τ a b c d) (xr_X5_act σ ρ a b c d) (xr_X6_act τ a b c d) := by
  have hrel := h
  obtain ⟨m, n, g, hm, hH, ⟨p1, ⟨p2, p3, p4⟩, p5, p8, p9⟩, r⟩ := h
  have okA : xo_X2_isAct a b c d := by
    refine ⟨o_bel _ _, fun _ => trivial, fun z => ?_⟩
    have hin : vp_in a 25 := by
      rcases bel_cases a 25 (by decide) with ⟨g1, -⟩ | ⟨-, j, g2, g3⟩
      · exact absurd g1 z
      · rw [g3]; exact vp_in_nI g2 (by decide)
    exact ⟨hin, o_good _ _, fun _ => trivial, fun _ => ⟨hin, o_good _ _, fun _ => trivial, fun _ => ⟨hin, o_good _ _, fun _ => trivial, fun _ => trivial⟩⟩⟩
  by_cases c0 : xr_X6_isRight a b c d = 0
  · have c1 : xr_X2_isAct a b c d = 0 := (X_isRight a b c d).trans c0
    unfold xr_X5_act xo_X5_act xo_X6_act
    rw [actM_eq, if_pos c0, if_pos c1]
    exact ⟨⟨okA, fun _ => trivial, fun z => absurd c1 z⟩, ⟨o_right _ _ _ _, fun _ => trivial, fun z => absurd c0 z⟩, rfl, hrel⟩
  · have c1 : ¬ xr_X2_isAct a b c d = 0 := fun z => c0 ((X_isRight a b c d).symm.trans z)
    have hin : n < 40 → vp_in (nI n) 40 := fun z => vp_in_nI z (by decide)
    have lt : (nI n < 40) ↔ n < 40 := nI_ltI (b := 40) (by omega) (by decide)
    have eq : (nI n = 40) ↔ n = 40 := nI_eq (b := 40) (by omega) (by decide)
    have ok1 : xo_X5_act σ ρ a b c d := ⟨okA, fun _ => trivial, fun _ => ⟨addAct_ok _ _ _ _ _ _ (fun z => by rw [p3] at z ⊢; exact hin (lt.mp z)), trivial⟩⟩
    have ok2 : xo_X6_act τ a b c d := by
      refine ⟨o_right _ _ _ _, fun _ => trivial, fun _ => ⟨fun _ => trivial, fun z => ?_⟩⟩
      have q : vp_in (τ 0 0) 40 := by
        rw [p4] at z ⊢
        exact hin (Nat.lt_of_le_of_ne p2 (fun e => z (eq.mpr e)))
      exact ⟨q, q, q, q, trivial⟩
    refine ⟨ok1, ok2, ?_⟩
    unfold xr_X5_act
    rw [actM_eq, if_neg c0, if_neg c1, addAct_eq]
    by_cases c2 : n = 40
    · have k1 : τ 0 0 = 40 := p4.trans (eq.mpr c2)
      have k2 : ¬ ρ 28 0 < 40 := by rw [p3]; exact fun z => absurd (lt.mp z) (by omega)
      rw [if_pos k1, if_neg k2]
      exact ⟨rfl, hrel⟩
    · have c3 : n < 40 := by omega
      have k1 : ¬ τ 0 0 = 40 := by rw [p4]; exact fun z => c2 (eq.mp z)
      have k2 : ρ 28 0 < 40 := by rw [p3]; exact lt.mpr c3
      rw [if_neg k1, if_pos k2]
      refine ⟨?_, m, n + 1, g, hm, hH, ⟨⟨?_, ?_, ?_, ?_, p1.2.2.2.2⟩, ⟨by omega, ?_, ?_⟩, p5, ?_, p9⟩, r⟩
      · show ρ 28 0 = τ 0 0 + 1 - 1
        rw [p3, p4, nI_back]
      · show upd (ρ 29) _ a = upd (τ 1) _ a
        rw [p1.1, p3, p4]
      · show upd (ρ 30) _ b = upd (τ 2) _ b
        rw [p1.2.1, p3, p4]
      · show upd (ρ 31) _ c = upd (τ 3) _ c
        rw [p1.2.2.1, p3, p4]
      · show upd (ρ 32) _ d = upd (τ 4) _ d
        rw [p1.2.2.2.1, p3, p4]
      · show ρ 28 0 + 1 = nI (n + 1)
        rw [p3, nI_1]
      · show τ 0 0 + 1 = nI (n + 1)
        rw [p4, nI_1]
      · intro i hi
        show ¬ xr_X6_isRight (upd (τ 1) (τ 0 0).toNatClampNeg a i) (upd (τ 2) (τ 0 0).toNatClampNeg b i) (upd (τ 3) (τ 0 0).toNatClampNeg c i) (upd (τ 4) (τ 0 0).toNatClampNeg d i) = 0
        rw [p4, nI_clamp (by omega)]
        by_cases e : i = n
        · rw [e, upd_s, upd_s, upd_s, upd_s]; exact c0
        · rw [upd_n _ _ e, upd_n _ _ e, upd_n _ _ e, upd_n _ _ e]; exact p8 i (by omega)
theorem addGuard_eq (σ ρ : GS) (a b c d : Int32) : xr_X2_addGuard σ ρ a b c d = if ρ 28 1 < 5 then (ρ 28 1, σ, st (st (st (st (st ρ 33 (ρ 28 1).toNatClampNeg a) 34 (ρ 28 1).toNatClampNeg b) 35 (ρ 28 1).toNatClampNeg c) 36 (ρ 28 1).toNatClampNeg d) 28 1 (ρ 28 1 + 1)) else (-102, σ, ρ) := rfl
theorem addGuard_ok (σ ρ : GS) (a b c d : Int32) (h : ρ 28 1 < 5 → vp_in (ρ 28 1) 5) : xo_X2_addGuard σ ρ a b c d := ⟨fun z => ⟨h z, h z, h z, h z, trivial⟩, fun _ => trivial⟩
theorem guardX_eq (σ ρ : GS) (a b c d : Int32) : xr_X5_guard σ ρ a b c d = if a < 0 then (-101, σ, ρ) else if b ≤ a then (-101, σ, ρ) else if (40 : Int32) < b then (-101, σ, ρ) else if xr_X5_isBelow c 8 = 0 then (-101, σ, ρ) else if xr_X5_isBelow d 41 = 0 then (-101, σ, ρ) else xr_X2_addGuard σ ρ a b c d := by
  unfold xr_X5_guard
  simp only [if_true, if_neg one_ne, bd2]
theorem guardM_eq (τ : GS) (a b c d : Int32) : xr_X6_guard τ a b c d = if a < 0 then (-101, τ) else if b ≤ a then (-101, τ) else if (40 : Int32) < b then (-101, τ) else if xr_X6_in c 0 7 = 0 then (-101, τ) else if xr_X6_in d 0 40 = 0 then (-101, τ) else if τ 0 5 = 5 then (-102, τ) else (τ 0 5 + 1 - 1, st (st (st (st (st τ 5 (τ 0 5).toNatClampNeg a) 6 (τ 0 5).toNatClampNeg b) 7 (τ 0 5).toNatClampNeg c) 8 (τ 0 5).toNatClampNeg d) 0 5 (τ 0 5 + 1)) := rfl
theorem guardX_ok (σ ρ : GS) (a b c d : Int32) (h : xo_X2_addGuard σ ρ a b c d) : xo_X5_guard σ ρ a b c d := by
  unfold xo_X5_guard
  simp [o_bel, h, bd2]
theorem rel_guard {σ ρ τ : GS} (h : Rel σ ρ τ) (a b c d : Int32) : rs (xo_X5_guard σ ρ a b c d) (xo_X6_guard τ a b c d) (xr_X5_guard σ ρ a b c d) (xr_X6_guard τ a b c d) := by
  have hrel := h
  obtain ⟨m, n, g, hm, hH, ⟨p1, p5, ⟨p2, p3, p4⟩, p8, p9⟩, r⟩ := h
  have hin : g < 5 → vp_in (nI g) 5 := fun z => vp_in_nI z (by decide)
  have lt : (nI g < 5) ↔ g < 5 := nI_ltI (b := 5) (by omega) (by decide)
  have eq : (nI g = 5) ↔ g = 5 := nI_eq (b := 5) (by omega) (by decide)
  have ok1 : xo_X5_guard σ ρ a b c d := guardX_ok _ _ _ _ _ _ (addGuard_ok _ _ _ _ _ _ (fun z => by rw [p3] at z ⊢; exact hin (lt.mp z)))
  have ok2 : xo_X6_guard τ a b c d := by
    have q : ¬ τ 0 5 = 5 → vp_in (τ 0 5) 5 := fun z => by
      rw [p4] at z ⊢
      exact hin (Nat.lt_of_le_of_ne p2 (fun e => z (eq.mpr e)))
    exact ⟨fun _ => trivial, fun _ => ⟨fun _ => trivial, fun _ => ⟨fun _ => trivial, fun _ => ⟨o_in _ _ _, fun _ => trivial, fun _ => ⟨o_in _ _ _, fun _ => trivial, fun _ => ⟨fun _ => trivial, fun z => ⟨q z, q z, q z, q z, trivial⟩⟩⟩⟩⟩⟩⟩
  refine ⟨ok1, ok2, ?_⟩
  rw [guardX_eq, guardM_eq]
  by_cases c1 : a < 0
  · rw [if_pos c1, if_pos c1]; exact ⟨rfl, hrel⟩
  rw [if_neg c1, if_neg c1]
  by_cases c2 : b ≤ a
  · rw [if_pos c2, if_pos c2]; exact ⟨rfl, hrel⟩
  rw [if_neg c2, if_neg c2]
  by_cases c3 : (40 : Int32) < b
  · rw [if_pos c3, if_pos c3]; exact ⟨rfl, hrel⟩
  rw [if_neg c3, if_neg c3]
  have e1 : xr_X6_in c 0 7 = xr_X5_isBelow c 8 := (bel_in c 7 (by decide)).symm
  have e2 : xr_X6_in d 0 40 = xr_X5_isBelow d 41 := (bel_in d 40 (by decide)).symm
  rw [e1, e2]
  by_cases c4 : xr_X5_isBelow c 8 = 0
  · rw [if_pos c4, if_pos c4]; exact ⟨rfl, hrel⟩
  rw [if_neg c4, if_neg c4]
  by_cases c5 : xr_X5_isBelow d 41 = 0
  · rw [if_pos c5, if_pos c5]; exact ⟨rfl, hrel⟩
  rw [if_neg c5, if_neg c5, addGuard_eq]
  have hl : ∃ l', l' ≤ 40 ∧ d = nI l' := by
    rcases bel_cases d 41 (by decide) with ⟨g1, -⟩ | ⟨-, j, g2, g3⟩
    · exact absurd g1 c5
    · exact ⟨j, by omega, g3⟩
  have ht : ∃ t', 1 ≤ t' ∧ t' ≤ 40 ∧ b = nI t' := by
    obtain ⟨ja, ha, rfl⟩ := nI_of c1
    have hb0 : ¬ b < 0 := fun z => c2 (Int32.le_of_lt (Int32.lt_of_lt_of_le z (nI_pos' ha)))
    obtain ⟨jb, hb, rfl⟩ := nI_of hb0
    have k1 : ¬ jb ≤ ja := fun z => c2 (nI_le z ha)
    have k2 : ¬ 40 < jb := fun z => c3 (nI_lt (a := 40) z hb)
    exact ⟨jb, by omega, by omega, rfl⟩
  by_cases c6 : g = 5
  · have k1 : τ 0 5 = 5 := p4.trans (eq.mpr c6)
    have k2 : ¬ ρ 28 1 < 5 := by rw [p3]; exact fun z => absurd (lt.mp z) (by omega)
    rw [if_pos k1, if_neg k2]
    exact ⟨rfl, hrel⟩
  · have c7 : g < 5 := by omega
    have k1 : ¬ τ 0 5 = 5 := by rw [p4]; exact fun z => c6 (eq.mp z)
    have k2 : ρ 28 1 < 5 := by rw [p3]; exact lt.mpr c7
    rw [if_neg k1, if_pos k2]
    refine ⟨?_, m, n, g + 1, hm, hH, ⟨⟨p1.1, p1.2.1, p1.2.2.1, p1.2.2.2.1, ?_, ?_, ?_, ?_⟩, p5, ⟨by omega, ?_, ?_⟩, p8, ?_⟩, r⟩
    · show ρ 28 1 = τ 0 5 + 1 - 1
      rw [p3, p4, nI_back]
    · show upd (ρ 33) _ a = upd (τ 5) _ a
      rw [p1.2.2.2.2.1, p3, p4]
    · show upd (ρ 34) _ b = upd (τ 6) _ b
      rw [p1.2.2.2.2.2.1, p3, p4]
    · show upd (ρ 35) _ c = upd (τ 7) _ c
      rw [p1.2.2.2.2.2.2.1, p3, p4]
    · show upd (ρ 36) _ d = upd (τ 8) _ d
      rw [p1.2.2.2.2.2.2.2, p3, p4]
    · show ρ 28 1 + 1 = nI (g + 1)
      rw [p3, nI_1]
    · show τ 0 5 + 1 = nI (g + 1)
      rw [p4, nI_1]
    · intro i hi
      show GD (upd (τ 6) (τ 0 5).toNatClampNeg b i) (upd (τ 8) (τ 0 5).toNatClampNeg d i)
      rw [p4, nI_clamp (by omega)]
      by_cases e : i = g
      · rw [e, upd_s, upd_s]; exact ⟨ht, hl⟩
      · rw [upd_n _ _ e, upd_n _ _ e]; exact p9 i (by omega)
theorem hasP_eq (σ : GS) (r : Nat) (a : Int32) : xr_X4_hasPlace σ r a = (xr_X5_isBelow a (σ 14 r), σ) := by
  unfold xr_X4_hasPlace xr_X5_isBelow
  by_cases c1 : a < 0
  · rw [if_pos c1, if_pos c1]
  · rw [if_neg c1, if_neg c1]
    by_cases c2 : σ 14 r ≤ a
    · rw [if_pos c2, if_pos c2]
    · rw [if_neg c2, if_neg c2]
theorem hasP_ok (σ : GS) {r : Nat} (hr : r < 7) (a : Int32) : xo_X4_hasPlace σ r a := ⟨hr, fun _ => trivial, fun _ => ⟨hr, fun _ => trivial, fun _ => trivial⟩⟩
/-- an index, as both sides ask: a row of n places, n a number up to 8 or none (-1) -/
theorem idx_none (a : Int32) : xr_X5_isBelow a (-1) = 0 ∧ xr_X6_in a 0 (-1 - 1) = 0 := by
  constructor
  · unfold xr_X5_isBelow
    by_cases c1 : a < 0
    · rw [if_pos c1]
    · rw [if_neg c1]
      obtain ⟨j, hj, rfl⟩ := nI_of c1
      rw [if_pos]
      refine Int32.le_iff_toInt_le.mpr ?_
      rw [nI_toInt hj]
      exact Int.le_trans (by decide) (Int.natCast_nonneg j)
  · unfold xr_X6_in
    by_cases c1 : a < 0
    · rw [if_pos c1]
    · rw [if_neg c1]
      obtain ⟨j, hj, rfl⟩ := nI_of c1
      rw [if_pos]
      refine Int32.lt_iff_toInt_lt.mpr ?_
      rw [nI_toInt hj]
      exact Int.lt_of_lt_of_le (by decide) (Int.natCast_nonneg j)
theorem idx_num (a : Int32) {n : Nat} (hn : n ≤ 8) : xr_X6_in a 0 (nI n - 1) = xr_X5_isBelow a (nI n) := by
  cases n with
  | zero =>
    unfold xr_X6_in xr_X5_isBelow
    by_cases c1 : a < 0
    · rw [if_pos c1, if_pos c1]
    · rw [if_neg c1, if_neg c1]
      obtain ⟨j, hj, rfl⟩ := nI_of c1
      rw [if_pos, if_pos]
      · exact nI_le (Nat.zero_le j) hj
      · refine Int32.lt_iff_toInt_lt.mpr ?_
        rw [nI_toInt hj]
        exact Int.lt_of_lt_of_le (by decide) (Int.natCast_nonneg j)
  | succ k => rw [nI_pred, bel_in a k (by omega)]
theorem b8 (a b : Nat) : 8 * nI a + nI b = nI (8 * a + b) := by
  show nI 8 * nI a + nI b = _
  rw [pk_mul, nI_add]
theorem IT.has {m : Nat} (hm : m ≤ 64) {v : Int32} (h : IT m v) : (v = -1 ∧ xr_X5_isBelow v (nI m) = 0) ∨ (¬ v = -1 ∧ xr_X5_isBelow v (nI m) = 1 ∧ ∃ j, j < m ∧ v = nI j) := by
  rcases h with rfl | ⟨j, hj, rfl⟩
  · exact Or.inl ⟨rfl, rfl⟩
  · refine Or.inr ⟨fun e => ?_, ?_, j, hj, rfl⟩
    · have e2 := congrArg Int32.toInt e
      rw [nI_toInt (by omega)] at e2
      have e3 : (-1 : Int32).toInt = -1 := by decide
      omega
    · rcases bel_cases (nI j) m (by omega) with ⟨-, g2⟩ | ⟨g1, -⟩
      · exact absurd (vp_in_nI hj (by omega)) g2
      · exact g1
theorem nI_m1 {j : Nat} (h : j < 2 ^ 31) : ¬ nI j = -1 := fun e => by
  have e2 := congrArg Int32.toInt e
  rw [nI_toInt h] at e2
  have e3 : (-1 : Int32).toInt = -1 := by decide
  omega
theorem countedX_eq (σ ρ : GS) (a b : Int32) : xr_X5_counted σ ρ a b = if xr_X5_isBelow a 3 = 0 then (-101, σ, ρ) else if xr_X5_isBelow b (σ 14 (4 + a.toNatClampNeg)) = 0 then (0, σ, ρ) else (σ (20 + (4 + a.toNatClampNeg)) b.toNatClampNeg, σ, ρ) := by
  unfold xr_X5_counted
  rw [hasP_eq]
theorem countedX_ok (σ ρ : GS) (a b : Int32) (h1 : ¬ xr_X5_isBelow a 3 = 0 → vp_in a 3 ∧ a.toNatClampNeg < 3) (h2 : ¬ xr_X5_isBelow a 3 = 0 → ¬ xr_X5_isBelow b (σ 14 (4 + a.toNatClampNeg)) = 0 → vp_in b 8) : xo_X5_counted σ ρ a b := by
  refine ⟨o_bel _ _, fun _ => trivial, fun z => ⟨(h1 z).1, hasP_ok _ (by have := (h1 z).2; omega) _, ?_⟩⟩
  rw [hasP_eq]
  have := (h1 z).2
  exact ⟨fun _ => trivial, fun z2 => ⟨by omega, by omega, h2 z z2, trivial⟩⟩
theorem rel_counted {σ ρ τ : GS} (h : Rel σ ρ τ) (a b : Int32) : rs (xo_X5_counted σ ρ a b) (xo_X6_counted τ a b) (xr_X5_counted σ ρ a b) (xr_X6_counted τ a b) := by
  have hrel := h
  obtain ⟨m, n, g, hm, ⟨hQ, hB, hC⟩, hP, hR⟩ := h
  have e : xr_X6_in a 0 2 = xr_X5_isBelow a 3 := (bel_in a 2 (by decide)).symm
  rw [countedX_eq]
  unfold xr_X6_counted xo_X6_counted
  rw [e]
  rcases bel_cases a 3 (by decide) with ⟨g1, g2⟩ | ⟨g1, r, g2, g3⟩
  · have g1 : xr_X5_isBelow a 3 = 0 := g1
    refine ⟨countedX_ok _ _ _ _ (fun z => absurd g1 z) (fun z => absurd g1 z), ?_⟩
    rw [g1]
    exact ⟨⟨o_in _ _ _, fun _ => trivial, fun h => absurd rfl h⟩, rfl, hrel⟩
  · have g1 : xr_X5_isBelow a 3 = 1 := g1
    subst g3
    have hin : vp_in (nI r) 3 := vp_in_nI g2 (by decide)
    obtain ⟨c1, c2⟩ := hC r g2
    have cl : (nI r).toNatClampNeg = r := nI_clamp (by omega)
    have okx : (¬ xr_X5_isBelow b (σ 14 (4 + r)) = 0 → vp_in b 8) → xo_X5_counted σ ρ (nI r) b := fun z => countedX_ok _ _ _ _ (fun _ => ⟨hin, by rw [cl]; exact g2⟩) (fun _ => by rw [cl]; exact z)
    rw [g1, cl, if_neg one_ne, if_neg one_ne, ← c1]
    rcases c2 with c2 | ⟨k, hk, c2, c3⟩
    · rw [c2] at okx ⊢
      rw [(idx_none b).1] at okx ⊢
      rw [(idx_none b).2]
      exact ⟨okx (fun h => absurd rfl h), ⟨o_in _ _ _, fun _ => trivial, fun _ => ⟨hin, o_in _ _ _, fun _ => trivial, fun h => absurd rfl h⟩⟩, rfl, hrel⟩
    · rw [c2] at okx ⊢
      rw [idx_num b hk]
      rcases bel_cases b k (by omega) with ⟨d1, d2⟩ | ⟨d1, i, d2, rfl⟩
      · rw [d1] at okx ⊢
        exact ⟨okx (fun h => absurd rfl h), ⟨o_in _ _ _, fun _ => trivial, fun _ => ⟨hin, o_in _ _ _, fun _ => trivial, fun h => absurd rfl h⟩⟩, rfl, hrel⟩
      · have hin2 : vp_in (nI i) 8 := vp_in_nI (by omega) (by decide)
        have hin3 : vp_in (nI (8 * r + i)) 24 := vp_in_nI (by omega) (by decide)
        rw [d1] at okx ⊢
        rw [b8]
        refine ⟨okx (fun _ => hin2), ⟨o_in _ _ _, fun _ => trivial, fun _ => ⟨hin, o_in _ _ _, fun _ => trivial, fun _ => ⟨hin3, trivial⟩⟩⟩, ?_, hrel⟩
        show σ (20 + (4 + r)) (nI i).toNatClampNeg = τ 17 (nI (8 * r + i)).toNatClampNeg
        rw [nI_clamp (by omega), nI_clamp (by omega), c3 i d2]
theorem bel_use {a : Int32} {n : Nat} (hn : n < 2 ^ 31) (h : ¬ xr_X5_isBelow a (nI n) = 0) : ∃ j, j < n ∧ a = nI j := by
  rcases bel_cases a n hn with ⟨g1, -⟩ | ⟨-, h⟩
  · exact absurd g1 h
  · exact h
theorem rel_row {σ ρ τ : GS} (h : Rel σ ρ τ) (a b : Int32) : rs (xo_X5_row σ ρ a b) (xo_X6_row τ a b) (xr_X5_row σ ρ a b) (xr_X6_row τ a b) := by
  have hrel := h
  obtain ⟨m, n, g, hm, ⟨⟨⟨h1, h2, h3, h4⟩, hQ⟩, hB, hC⟩, hP, hR⟩ := h
  have e3 : xr_X6_in a 0 3 = xr_X5_isBelow a 4 := (bel_in a 3 (by decide)).symm
  have e2 : xr_X6_in a 0 2 = xr_X5_isBelow a 3 := (bel_in a 2 (by decide)).symm
  have e1 : xr_X6_in a 0 1 = xr_X5_isBelow a 2 := (bel_in a 1 (by decide)).symm
  unfold xr_X5_row xr_X6_row xo_X5_row xo_X6_row
  rw [e3, e2, e1]
  have u4 : ¬ xr_X5_isBelow a 4 = 0 → ∃ j, j < 4 ∧ a = nI j := bel_use (n := 4) (by decide)
  have u3 : ¬ xr_X5_isBelow a 3 = 0 → ∃ j, j < 3 ∧ a = nI j := bel_use (n := 3) (by decide)
  have u2 : ¬ xr_X5_isBelow a 2 = 0 → ∃ j, j < 2 ∧ a = nI j := bel_use (n := 2) (by decide)
  have v4 : ¬ xr_X5_isBelow a 4 = 0 → vp_in a 4 ∧ a.toNatClampNeg < 7 := fun z => by
    obtain ⟨j, hj, rfl⟩ := u4 z
    exact ⟨vp_in_nI hj (by decide), by rw [nI_clamp (by omega)]; omega⟩
  have v3 : ¬ xr_X5_isBelow a 3 = 0 → vp_in a 3 ∧ 4 + a.toNatClampNeg < 7 := fun z => by
    obtain ⟨j, hj, rfl⟩ := u3 z
    exact ⟨vp_in_nI hj (by decide), by rw [nI_clamp (by omega)]; omega⟩
  have v2 : ¬ xr_X5_isBelow a 2 = 0 → vp_in a 2 := fun z => by
    obtain ⟨j, hj, rfl⟩ := u2 z
    exact vp_in_nI hj (by decide)
  refine ⟨⟨fun _ => ⟨o_bel _ _, fun _ => trivial, fun z => ⟨(v4 z).1, (v4 z).2, trivial⟩⟩, fun _ => ⟨fun _ => ⟨o_bel _ _, fun _ => trivial, fun z => ⟨(v3 z).1, (v3 z).2, trivial⟩⟩, fun _ => ⟨fun _ => ⟨o_bel _ _, fun _ => trivial, fun z => ⟨v2 z, trivial⟩⟩, fun _ => ⟨fun _ => ⟨o_bel _ _, fun _ => trivial, fun z => ⟨(v4 z).1, (v4 z).2, trivial⟩⟩, fun _ => trivial⟩⟩⟩⟩, ?_, ?_⟩
  · refine ⟨fun _ => ⟨o_in _ _ _, fun _ => trivial, fun z => ⟨fun _ => ⟨(v4 z).1, trivial⟩, fun _ => ⟨(v4 z).1, fun _ => trivial, fun _ => ⟨(v4 z).1, trivial⟩⟩⟩⟩, fun _ => ⟨fun _ => ⟨o_in _ _ _, fun _ => trivial, fun z => ⟨fun _ => ⟨(v4 z).1, trivial⟩, fun _ => ⟨(v4 z).1, fun _ => trivial, fun _ => ⟨(v4 z).1, trivial⟩⟩⟩⟩, fun _ => ⟨fun _ => ⟨o_in _ _ _, fun _ => trivial, fun z => ⟨(v3 z).1, trivial⟩⟩, fun _ => ⟨fun _ => ⟨o_in _ _ _, fun _ => trivial, fun z => ⟨v2 z, trivial⟩⟩, fun _ => trivial⟩⟩⟩⟩
  by_cases c0 : b = 0
  · simp only [if_pos c0]
    by_cases d : xr_X5_isBelow a 4 = 0
    · simp only [if_pos d]; exact ⟨by first | rfl | trivial, hrel⟩
    · simp only [if_neg d]
      obtain ⟨j, hj, rfl⟩ := u4 d
      refine ⟨?_, hrel⟩
      show σ 14 (nI j).toNatClampNeg = τ 13 (nI j).toNatClampNeg
      rw [nI_clamp (by omega)]
      exact (hB j hj).1
  simp only [if_neg c0]
  by_cases c3 : b = 3
  · have c1 : ¬ b = 1 := by rw [c3]; decide
    have c2 : ¬ b = 2 := by rw [c3]; decide
    simp only [if_pos c3, if_neg c1, if_neg c2]
    by_cases d : xr_X5_isBelow a 4 = 0
    · simp only [if_pos d]; exact ⟨by first | rfl | trivial, hrel⟩
    · simp only [if_neg d]
      obtain ⟨j, hj, rfl⟩ := u4 d
      have cl : (nI j).toNatClampNeg = j := nI_clamp (by omega)
      rw [cl]
      obtain ⟨q1, q2⟩ := hB j hj
      rcases q2 with ⟨q2, q3⟩ | ⟨k1, k2, k3, k4, k5, k6, k7, -⟩
      · rw [if_pos (q1.symm.trans q2)]; exact ⟨q3, hrel⟩
      · have k8 : ¬ τ 13 j = -1 := by rw [← q1, k5]; exact nI_m1 (by omega)
        rw [if_neg k8]
        exact ⟨k6.trans k7.symm, hrel⟩
  simp only [if_neg c3]
  by_cases c1 : b = 1
  · simp only [if_pos c1]
    by_cases d : xr_X5_isBelow a 3 = 0
    · simp only [if_pos d]; exact ⟨by first | rfl | trivial, hrel⟩
    · simp only [if_neg d]
      obtain ⟨j, hj, rfl⟩ := u3 d
      refine ⟨?_, hrel⟩
      show σ 14 (4 + (nI j).toNatClampNeg) = τ 16 (nI j).toNatClampNeg
      rw [nI_clamp (by omega)]
      exact (hC j hj).1
  simp only [if_neg c1]
  by_cases c2 : b = 2
  · simp only [if_pos c2]
    by_cases d : xr_X5_isBelow a 2 = 0
    · simp only [if_pos d]; exact ⟨by first | rfl | trivial, hrel⟩
    · simp only [if_neg d]
      refine ⟨?_, hrel⟩
      show σ 3 _ = τ 18 _
      rw [h3]
  simp only [if_neg c2]
  exact ⟨by first | rfl | trivial, hrel⟩
theorem has_eq (σ : GS) (a : Int32) : xr_X1_has σ a = (xr_X5_isBelow a (σ 9 0), σ) := rfl
theorem onBeltX_eq (σ ρ : GS) (a b : Int32) : xr_X5_onBelt σ ρ a b = if xr_X5_isBelow a 4 = 0 then (-101, σ, ρ) else if xr_X5_isBelow b (σ 14 a.toNatClampNeg) = 0 then (-1, σ, ρ) else if xr_X5_isBelow (σ (20 + a.toNatClampNeg) b.toNatClampNeg) (σ 9 0) = 0 then (-1, σ, ρ) else (σ 10 (σ (20 + a.toNatClampNeg) b.toNatClampNeg).toNatClampNeg, σ, ρ) := by
  unfold xr_X5_onBelt
  rw [hasP_eq]
  rfl
theorem onBeltX_ok (σ ρ : GS) (a b : Int32) (h1 : ¬ xr_X5_isBelow a 4 = 0 → vp_in a 4 ∧ a.toNatClampNeg < 4) (h2 : ¬ xr_X5_isBelow a 4 = 0 → ¬ xr_X5_isBelow b (σ 14 a.toNatClampNeg) = 0 → vp_in b 8) (h3 : ¬ xr_X5_isBelow (σ (20 + a.toNatClampNeg) b.toNatClampNeg) (σ 9 0) = 0 → vp_in (σ (20 + a.toNatClampNeg) b.toNatClampNeg) 64) : xo_X5_onBelt σ ρ a b := by
  refine ⟨o_bel _ _, fun _ => trivial, fun z => ⟨(h1 z).1, hasP_ok _ (by have := (h1 z).2; omega) _, ?_⟩⟩
  rw [hasP_eq]
  have := (h1 z).2
  exact ⟨fun _ => trivial, fun z2 => ⟨by omega, by omega, h2 z z2, o_has _ _, fun _ => trivial, fun z3 => ⟨h3 z3, trivial⟩⟩⟩
theorem onBeltM_eq (τ : GS) (a b : Int32) : xr_X6_onBelt τ a b = if xr_X6_in a 0 3 = 0 then (-101, τ) else if xr_X6_in b 0 (τ 13 a.toNatClampNeg - 1) = 0 then (-1, τ) else if τ 15 (8 * a + b).toNatClampNeg = -1 then (-1, τ) else (τ 9 (τ 15 (8 * a + b).toNatClampNeg).toNatClampNeg, τ) := by
  unfold xr_X6_onBelt
  simp only [if_true, if_neg one_ne]
theorem rel_onBelt {σ ρ τ : GS} (h : Rel σ ρ τ) (a b : Int32) : rs (xo_X5_onBelt σ ρ a b) (xo_X6_onBelt τ a b) (xr_X5_onBelt σ ρ a b) (xr_X6_onBelt τ a b) := by
  have hrel := h
  obtain ⟨m, n, g, hm, ⟨⟨⟨h1, h2, h3, h4, h5, h6, h7, -⟩, ⟨h9, -⟩, -⟩, hB, hC⟩, hP, hR⟩ := h
  have e : xr_X6_in a 0 3 = xr_X5_isBelow a 4 := (bel_in a 3 (by decide)).symm
  rw [onBeltX_eq, onBeltM_eq]
  unfold xo_X6_onBelt
  rw [e]
  have u4 : ¬ xr_X5_isBelow a 4 = 0 → ∃ j, j < 4 ∧ a = nI j := bel_use (n := 4) (by decide)
  have hV : ∀ v, ¬ xr_X5_isBelow v (σ 9 0) = 0 → vp_in v 64 := fun v z => by
    rw [h9] at z
    obtain ⟨j, hj, rfl⟩ := bel_use (by omega) z
    exact vp_in_nI (by omega) (by decide)
  by_cases d : xr_X5_isBelow a 4 = 0
  · simp only [if_pos d]
    exact ⟨onBeltX_ok _ _ _ _ (fun z => absurd d z) (fun z => absurd d z) (hV _), ⟨o_in _ _ _, fun _ => trivial, fun z => absurd d z⟩, by first | rfl | trivial, hrel⟩
  simp only [if_neg d]
  obtain ⟨r, hr, rfl⟩ := u4 d
  have cl : (nI r).toNatClampNeg = r := nI_clamp (by omega)
  have hin : vp_in (nI r) 4 := vp_in_nI hr (by decide)
  obtain ⟨q1, q2⟩ := hB r hr
  have okx : (¬ xr_X5_isBelow b (σ 14 r) = 0 → vp_in b 8) → xo_X5_onBelt σ ρ (nI r) b := fun z => onBeltX_ok _ _ _ _ (fun _ => ⟨hin, by rw [cl]; exact hr⟩) (fun _ => by rw [cl]; exact z) (hV _)
  rw [cl, ← q1]
  rcases q2 with ⟨q2, q3⟩ | ⟨k, kd, k3, k4, k5, k6, k7, k8⟩
  · rw [q2] at okx ⊢
    have z1 := (idx_none b).1
    have z2 := (idx_none b).2
    simp only [if_pos z1, if_pos z2]
    exact ⟨okx (fun h => absurd z1 h), ⟨o_in _ _ _, fun _ => trivial, fun _ => ⟨hin, o_in _ _ _, fun _ => ⟨fun _ => trivial, fun h => (h (by first | rfl | trivial)).elim⟩, fun h => absurd z2 h⟩⟩, by first | rfl | trivial, hrel⟩
  · rw [k5] at okx ⊢
    rw [idx_num b k3]
    rcases bel_cases b k (by omega) with ⟨d1, d2⟩ | ⟨d1, i, d2, rfl⟩
    · simp only [if_pos d1]
      exact ⟨okx (fun h => absurd d1 h), ⟨o_in _ _ _, fun _ => trivial, fun _ => ⟨hin, o_in _ _ _, fun _ => ⟨fun _ => trivial, fun h => (h (by first | rfl | trivial)).elim⟩, fun h => absurd d1 h⟩⟩, by first | rfl | trivial, hrel⟩
    · have hin2 : vp_in (nI i) 8 := vp_in_nI (by omega) (by decide)
      have hin3 : vp_in (nI (8 * r + i)) 32 := vp_in_nI (by omega) (by decide)
      have d3 : ¬ xr_X5_isBelow (nI i) (nI k) = 0 := by rw [d1]; exact one_ne
      simp only [if_neg d3]
      have cl2 : (nI i).toNatClampNeg = i := nI_clamp (by omega)
      have cl3 : (nI (8 * r + i)).toNatClampNeg = 8 * r + i := nI_clamp (by omega)
      rw [b8, cl2, cl3, ← (k8 i d2).1]
      have hIT := (k8 i d2).2
      have okm : ∀ P : Prop, P → (vp_in (σ (20 + r) i) 64 ∨ σ (20 + r) i = -1) → True := fun _ _ _ => trivial
      rcases hIT.has hm with ⟨w1, w2⟩ | ⟨w1, w2, j, w3, w4⟩
      · have w5 : xr_X5_isBelow (σ (20 + r) i) (σ 9 0) = 0 := by rw [h9]; exact w2
        simp only [if_pos w1, if_pos w5]
        exact ⟨okx (fun _ => hin2), ⟨o_in _ _ _, fun _ => trivial, fun _ => ⟨hin, o_in _ _ _, fun h => absurd h d3, fun _ => ⟨hin3, fun _ => ⟨fun _ => trivial, fun h => (h (by first | rfl | trivial)).elim⟩, fun h => absurd w1 h⟩⟩⟩, by first | rfl | trivial, hrel⟩
      · have w5 : ¬ xr_X5_isBelow (σ (20 + r) i) (σ 9 0) = 0 := by rw [h9, w2]; exact one_ne
        simp only [if_neg w1, if_neg w5]
        have w6 : vp_in (σ (20 + r) i) 64 := hV _ w5
        refine ⟨okx (fun _ => hin2), ⟨o_in _ _ _, fun _ => trivial, fun _ => ⟨hin, o_in _ _ _, fun h => absurd h d3, fun _ => ⟨hin3, fun h => absurd h w1, fun _ => ⟨fun h => absurd h one_ne, fun _ => ⟨hin3, w6, trivial⟩⟩⟩⟩⟩, ?_, hrel⟩
        show σ 10 _ = τ 9 _
        rw [h7]
