theorem firstX {σ : GS} {v : Int32} {k : Nat} (hk : k < 8) (he : σ 2 k = v) (hl : ∀ j, j < k → ¬ σ 2 j = v) : ∀ (d i f : Nat), i + d = k → d < f → xl_X0_firstPlaceOf_2 f σ v (nI i) = (nI k, σ) ∧ xlo_X0_firstPlaceOf_2 f σ v (nI i) := by
  intro d
  induction d with
  | zero =>
    intro i f hi hf
    obtain ⟨f, rfl⟩ : ∃ f', f = f' + 1 := ⟨f - 1, by omega⟩
    have hik : i = k := by omega
    subst hik
    have c1 : ¬ (8 : Int32) ≤ nI i := nI_ge (b := 8) hk (by decide)
    have c2 : σ 2 (nI i).toNatClampNeg = v := by rw [nI_clamp (by omega)]; exact he
    constructor
    · show (if (8 : Int32) ≤ nI i then (-1, σ) else if σ 2 (nI i).toNatClampNeg = v then (nI i, σ) else xl_X0_firstPlaceOf_2 f σ v (nI i + 1)) = _
      rw [if_neg c1, if_pos c2]
    · exact And.intro (fun _ => trivial) (fun _ => And.intro (vp_in_nI hk (by decide)) (And.intro (fun _ => trivial) (fun z => absurd c2 z)))
  | succ d ih =>
    intro i f hi hf
    obtain ⟨f, rfl⟩ : ∃ f', f = f' + 1 := ⟨f - 1, by omega⟩
    have c1 : ¬ (8 : Int32) ≤ nI i := nI_ge (b := 8) (by omega) (by decide)
    have c2 : ¬ σ 2 (nI i).toNatClampNeg = v := by rw [nI_clamp (by omega)]; exact hl i (by omega)
    have hh := ih (i + 1) f (by omega) (by omega)
    rw [← nI_1] at hh
    constructor
    · show (if (8 : Int32) ≤ nI i then (-1, σ) else if σ 2 (nI i).toNatClampNeg = v then (nI i, σ) else xl_X0_firstPlaceOf_2 f σ v (nI i + 1)) = _
      rw [if_neg c1, if_neg c2]
      exact hh.1
    · exact And.intro (fun _ => trivial) (fun _ => And.intro (vp_in_nI (by omega) (by decide)) (And.intro (fun _ => trivial) (fun _ => hh.2)))
def itemF (τ : GS) (x2 v : Int32) (k : Nat) : Int32 × GS := if x2 = 0 then (τ 9 v.toNatClampNeg, τ) else if x2 = 1 then (τ 10 v.toNatClampNeg, τ) else if x2 = 2 then (τ 11 v.toNatClampNeg, τ) else (nI k, τ)
theorem firstM {τ : GS} {v : Int32} {k : Nat} (x1 x2 : Int32) (hk : k < 8) (he : τ 12 k = v) (hv : vp_in v 64) (hl : ∀ j, j < k → ¬ τ 12 j = v) : ∀ (d i f : Nat), i + d = k → d < f → xl_X6_item_36 f τ x1 x2 v (nI i) = itemF τ x2 v k ∧ xlo_X6_item_36 f τ x1 x2 v (nI i) := by
  intro d
  induction d with
  | zero =>
    intro i f hi hf
    obtain ⟨f, rfl⟩ : ∃ f', f = f' + 1 := ⟨f - 1, by omega⟩
    have hik : i = k := by omega
    subst hik
    have c2 : τ 12 (nI i).toNatClampNeg = v := by rw [nI_clamp (by omega)]; exact he
    constructor
    · show (if τ 12 (nI i).toNatClampNeg = v then itemF τ x2 v i else xl_X6_item_36 f τ x1 x2 v (nI i + 1)) = _
      rw [if_pos c2]
    · exact And.intro (vp_in_nI hk (by decide)) (And.intro (fun _ => And.intro (fun _ => ⟨hv, trivial⟩) (fun _ => ⟨fun _ => ⟨hv, trivial⟩, fun _ => ⟨fun _ => ⟨hv, trivial⟩, fun _ => trivial⟩⟩)) (fun z => absurd c2 z))
  | succ d ih =>
    intro i f hi hf
    obtain ⟨f, rfl⟩ : ∃ f', f = f' + 1 := ⟨f - 1, by omega⟩
    have c2 : ¬ τ 12 (nI i).toNatClampNeg = v := by rw [nI_clamp (by omega)]; exact hl i (by omega)
    have hh := ih (i + 1) f (by omega) (by omega)
    rw [← nI_1] at hh
    constructor
    · show (if τ 12 (nI i).toNatClampNeg = v then itemF τ x2 v i else xl_X6_item_36 f τ x1 x2 v (nI i + 1)) = _
      rw [if_neg c2]
      exact hh.1
    · exact And.intro (vp_in_nI (by omega) (by decide)) (And.intro (fun z => absurd z c2) (fun _ => hh.2))
theorem itemX_eq (σ ρ : GS) (a b : Int32) : xr_X5_item σ ρ a b = if xr_X5_isBelow a 8 = 0 then (-101, σ, ρ) else if xr_X5_isBelow b 4 = 0 then (-101, σ, ρ) else if xr_X5_isBelow (σ 2 a.toNatClampNeg) (σ 9 0) = 0 then (-1, σ, ρ) else if b = 0 then (σ 10 (σ 2 a.toNatClampNeg).toNatClampNeg, σ, ρ) else if b = 1 then (σ 11 (σ 2 a.toNatClampNeg).toNatClampNeg, σ, ρ) else if b = 2 then (σ 12 (σ 2 a.toNatClampNeg).toNatClampNeg, σ, ρ) else ((xr_X0_firstPlaceOf σ (σ 2 a.toNatClampNeg)).1, (xr_X0_firstPlaceOf σ (σ 2 a.toNatClampNeg)).2, ρ) := rfl
theorem rel_item {σ ρ τ : GS} (h : Rel σ ρ τ) (a b : Int32) : rs (xo_X5_item σ ρ a b) (xo_X6_item τ a b) (xr_X5_item σ ρ a b) (xr_X6_item τ a b) := by
  have hrel := h
  obtain ⟨m, n, g, hm, ⟨⟨⟨h1, h2, h3, h4, h5, h6, h7, h8, h10⟩, ⟨h9, -⟩, hpl, -⟩, -⟩, -⟩ := h
  have e : xr_X6_isPlace a = xr_X5_isBelow a 8 := (bel_in a 7 (by decide)).symm
  have e3 : xr_X6_in b 0 3 = xr_X5_isBelow b 4 := (bel_in b 3 (by decide)).symm
  have u8 : ¬ xr_X5_isBelow a 8 = 0 → ∃ j, j < 8 ∧ a = nI j := bel_use (n := 8) (by decide)
  rw [itemX_eq]
  unfold xr_X6_item xo_X6_item xo_X5_item
  rw [e, e3]
  by_cases d : xr_X5_isBelow a 8 = 0
  · rw [if_pos d, if_pos d]
    exact ⟨⟨o_bel _ _, fun _ => trivial, fun z => absurd d z⟩, ⟨o_place _, fun _ => trivial, fun z => absurd d z⟩, rfl, hrel⟩
  rw [if_neg d, if_neg d]
  by_cases d2 : xr_X5_isBelow b 4 = 0
  · rw [if_pos d2, if_pos d2]
    exact ⟨⟨o_bel _ _, fun _ => trivial, fun _ => ⟨o_bel _ _, fun _ => trivial, fun z => absurd d2 z⟩⟩, ⟨o_place _, fun _ => trivial, fun _ => ⟨o_in _ _ _, fun _ => trivial, fun z => absurd d2 z⟩⟩, rfl, hrel⟩
  rw [if_neg d2, if_neg d2]
  obtain ⟨p, hp, rfl⟩ := u8 d
  have hin : vp_in (nI p) 8 := vp_in_nI hp (by decide)
  have cl : (nI p).toNatClampNeg = p := nI_clamp (by omega)
  rw [cl, ← h2]
  rcases (hpl p hp).has hm with ⟨w1, w2⟩ | ⟨w1, w2, j, w3, w4⟩
  · have w5 : xr_X5_isBelow (σ 2 p) (σ 9 0) = 0 := by rw [h9]; exact w2
    rw [if_pos w1, if_pos w5]
    exact ⟨⟨o_bel _ _, fun _ => trivial, fun _ => ⟨o_bel _ _, fun _ => trivial, fun _ => ⟨hin, o_has _ _, fun _ => trivial, fun z => absurd w5 z⟩⟩⟩, ⟨o_place _, fun _ => trivial, fun _ => ⟨o_in _ _ _, fun _ => trivial, fun _ => ⟨hin, fun _ => trivial, fun z => absurd w1 z⟩⟩⟩, rfl, hrel⟩
  · have w5 : ¬ xr_X5_isBelow (σ 2 p) (σ 9 0) = 0 := by rw [h9, w2]; exact one_ne
    rw [if_neg w1, if_neg w5]
    have hv : vp_in (σ 2 p) 64 := by rw [w4]; exact vp_in_nI (by omega) (by decide)
    obtain ⟨k, hk1, hk2⟩ := pk_least (fun k => σ 2 k = σ 2 p) ⟨p, rfl⟩
    have hk : k < 8 := by
      rcases Nat.lt_or_ge p k with z | z
      · exact absurd rfl (hk2 p z)
      · omega
    have fx := firstX hk hk1 hk2 k 0 100 (by omega) (by omega)
    have fm := firstM (τ := τ) (nI p) b hk (by rw [← h2]; exact hk1) hv (by rw [← h2]; exact hk2) k 0 100 (by omega) (by omega)
    have fx1 : xr_X0_firstPlaceOf σ (σ 2 p) = (nI k, σ) := fx.1
    have fm1 : xl_X6_item_36 100 τ (nI p) b (σ 2 p) 0 = itemF τ b (σ 2 p) k := fm.1
    rw [fm1, fx1]
    refine ⟨⟨o_bel _ _, fun _ => trivial, fun _ => ⟨o_bel _ _, fun _ => trivial, fun _ => ⟨hin, o_has _ _, fun _ => trivial, fun _ => ⟨fun _ => ⟨hv, trivial⟩, fun _ => ⟨fun _ => ⟨hv, trivial⟩, fun _ => ⟨fun _ => ⟨hv, trivial⟩, fun _ => ⟨fx.2, trivial⟩⟩⟩⟩⟩⟩⟩, ⟨o_place _, fun _ => trivial, fun _ => ⟨o_in _ _ _, fun _ => trivial, fun _ => ⟨hin, fun _ => trivial, fun _ => fm.2⟩⟩⟩, ?_⟩
    unfold itemF
    by_cases c0 : b = 0
    · rw [if_pos c0, if_pos c0]; exact ⟨by show σ 10 _ = τ 9 _; rw [h7], hrel⟩
    rw [if_neg c0, if_neg c0]
    by_cases c0 : b = 1
    · rw [if_pos c0, if_pos c0]; exact ⟨by show σ 11 _ = τ 10 _; rw [h8], hrel⟩
    rw [if_neg c0, if_neg c0]
    by_cases c0 : b = 2
    · rw [if_pos c0, if_pos c0]; exact ⟨by show σ 12 _ = τ 11 _; rw [h10], hrel⟩
    rw [if_neg c0, if_neg c0]
    exact ⟨rfl, hrel⟩
