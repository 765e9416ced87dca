theorem o_hasA (σ ρ : GS) (x : Int32) : xo_X2_hasAct σ ρ x := ⟨o_bel _ _, nar01 (bel01 _ _)⟩
theorem run_loop (a : Int32) (many : Nat) (hmany : many ≤ 64) : ∀ (d dn m n g F : Nat) (σ ρ τ : GS) (x3 : Int32), dn + d = many → d < F → m ≤ dn → RH m σ τ → RP n g ρ τ → RR ρ τ → τ 0 26 = nI dn → ((∃ l, l ≤ 40 ∧ x3 = nI l ∧ τ 0 25 = nI l ∧ τ 0 28 = 0) ∨ (x3 = -1 ∧ ¬ τ 0 28 = 0)) → rs (xlo_X5_run_32 F σ ρ a (nI many) x3 (nI dn)) (xlo_X6_run_18 F τ a (nI many)) (xl_X5_run_32 F σ ρ a (nI many) x3 (nI dn)) (xl_X6_run_18 F τ a (nI many)) := by
  intro d
  induction d with
  | zero =>
    intro dn m n g F σ ρ τ x3 hd hF hm hH hP hR e26 hx
    obtain ⟨F, rfl⟩ : ∃ F', F = F' + 1 := ⟨F - 1, by omega⟩
    have hrel : Rel σ ρ τ := ⟨m, n, g, by omega, hH, hP, hR⟩
    have r0 := hR.1
    obtain ⟨hn40, p28, t00⟩ := hP.2.1
    have c : nI many ≤ nI dn := (nI_leI (by omega) (by omega)).mpr (by omega)
    rcases hx with ⟨l, hl, rfl, e25, e28⟩ | ⟨rfl, e28⟩
    · have r00 : ρ 37 0 = 0 := r0.trans e28
      have cl : (τ 0 0 ≤ τ 0 25) ↔ n ≤ l := by rw [t00, e25]; exact nI_leI (by omega) (by omega)
      have c2 : nI many ≤ τ 0 26 := by rw [e26]; exact c
      by_cases hnl : n ≤ l
      · have hb : xr_X5_isBelow (nI l) (ρ 28 0) = 0 := by
          rw [p28]
          rcases bel_cases (nI l) n (by omega) with ⟨g1, -⟩ | ⟨-, j, g2, g3⟩
          · exact g1
          · exact absurd ((nI_eq (by omega) (by omega)).mp g3) (by omega)
        have ex : xl_X5_run_32 (F + 1) σ ρ a (nI many) (nI l) (nI dn) = (0, σ, ρ) := by
          unfold xl_X5_run_32
          rw [if_pos c, if_pos r00]
          show (if xr_X5_isBelow (nI l) (ρ 28 0) = 0 then (0, σ, ρ) else (2, σ, ρ)) = (0, σ, ρ)
          rw [if_pos hb]
        have em : xl_X6_run_18 (F + 1) τ a (nI many) = (0, τ) := by
          unfold xl_X6_run_18
          rw [if_pos (cl.mpr hnl), if_pos e28, if_pos (cl.mpr hnl)]
        rw [ex, em]
        exact ⟨⟨fun _ => ⟨fun _ => ⟨o_hasA _ _ _, fun _ => trivial, fun _ => trivial⟩, fun _ => trivial⟩, fun z => absurd c z⟩, ⟨fun _ => ⟨fun _ => ⟨fun _ => trivial, fun _ => trivial⟩, fun _ => trivial⟩, fun z => absurd (cl.mpr hnl) z⟩, rfl, hrel⟩
      · have hb : ¬ xr_X5_isBelow (nI l) (ρ 28 0) = 0 := by
          rw [p28]
          rcases bel_cases (nI l) n (by omega) with ⟨-, g1⟩ | ⟨g1, -⟩
          · exact absurd (vp_in_nI (by omega) (by omega)) g1
          · rw [g1]; exact one_ne
        have ncl : ¬ τ 0 0 ≤ τ 0 25 := fun z => hnl (cl.mp z)
        have ex : xl_X5_run_32 (F + 1) σ ρ a (nI many) (nI l) (nI dn) = (2, σ, ρ) := by
          unfold xl_X5_run_32
          rw [if_pos c, if_pos r00]
          show (if xr_X5_isBelow (nI l) (ρ 28 0) = 0 then (0, σ, ρ) else (2, σ, ρ)) = (2, σ, ρ)
          rw [if_neg hb]
        have em : xl_X6_run_18 (F + 1) τ a (nI many) = (2, τ) := by
          unfold xl_X6_run_18
          rw [if_neg ncl, if_pos c2, if_pos e28, if_neg ncl]
        rw [ex, em]
        exact ⟨⟨fun _ => ⟨fun _ => ⟨o_hasA _ _ _, fun _ => trivial, fun _ => trivial⟩, fun _ => trivial⟩, fun z => absurd c z⟩, ⟨fun z => absurd z ncl, fun _ => ⟨fun _ => ⟨fun _ => ⟨fun _ => trivial, fun _ => trivial⟩, fun _ => trivial⟩, fun z => absurd c2 z⟩⟩, rfl, hrel⟩
    · have r00 : ¬ ρ 37 0 = 0 := by rw [r0]; exact e28
      have ex : xl_X5_run_32 (F + 1) σ ρ a (nI many) (-1) (nI dn) = (1, σ, ρ) := by
        unfold xl_X5_run_32
        rw [if_pos c, if_neg r00]
      have em : xl_X6_run_18 (F + 1) τ a (nI many) = (1, τ) := by
        unfold xl_X6_run_18
        by_cases c1 : τ 0 0 ≤ τ 0 25
        · rw [if_pos c1, if_neg e28]
        · rw [if_neg c1, if_pos (by rw [e26]; exact c), if_neg e28]
      rw [ex, em]
      exact ⟨⟨fun _ => ⟨fun z => absurd z r00, fun _ => trivial⟩, fun z => absurd c z⟩, ⟨fun _ => ⟨fun z => absurd z e28, fun _ => trivial⟩, fun _ => ⟨fun _ => ⟨fun z => absurd z e28, fun _ => trivial⟩, fun z => absurd (by rw [e26]; exact c) z⟩⟩, rfl, hrel⟩
  | succ d ih =>
    intro dn m n g F σ ρ τ x3 hd hF hm hH hP hR e26 hx
    obtain ⟨F, rfl⟩ : ∃ F', F = F' + 1 := ⟨F - 1, by omega⟩
    have hrel : Rel σ ρ τ := ⟨m, n, g, by omega, hH, hP, hR⟩
    have r0 := hR.1
    obtain ⟨hn40, p28, t00⟩ := hP.2.1
    have c : ¬ nI many ≤ nI dn := fun z => absurd ((nI_leI (by omega) (by omega)).mp z) (by omega)
    have c2 : ¬ nI many ≤ τ 0 26 := by rw [e26]; exact c
    rcases hx with ⟨l, hl, rfl, e25, e28⟩ | ⟨rfl, e28⟩
    · have r00 : ρ 37 0 = 0 := r0.trans e28
      have cl : (τ 0 0 ≤ τ 0 25) ↔ n ≤ l := by rw [t00, e25]; exact nI_leI (by omega) (by omega)
      by_cases hnl : n ≤ l
      · have hb : xr_X5_isBelow (nI l) (ρ 28 0) = 0 := by
          rw [p28]
          rcases bel_cases (nI l) n (by omega) with ⟨g1, -⟩ | ⟨-, j, g2, g3⟩
          · exact g1
          · exact absurd ((nI_eq (by omega) (by omega)).mp g3) (by omega)
        have ex : xl_X5_run_32 (F + 1) σ ρ a (nI many) (nI l) (nI dn) = (0, σ, ρ) := by
          unfold xl_X5_run_32
          rw [if_neg c]
          show (if xr_X5_isBelow (nI l) (ρ 28 0) = 0 then (if ρ 37 0 = 0 then (if xr_X5_isBelow (nI l) (ρ 28 0) = 0 then (0, σ, ρ) else (2, σ, ρ)) else (1, σ, ρ)) else _) = (0, σ, ρ)
          rw [if_pos hb, if_pos r00, if_pos hb]
        have em : xl_X6_run_18 (F + 1) τ a (nI many) = (0, τ) := by
          unfold xl_X6_run_18
          rw [if_pos (cl.mpr hnl), if_pos e28, if_pos (cl.mpr hnl)]
        rw [ex, em]
        exact ⟨⟨fun z => absurd z c, fun _ => ⟨o_hasA _ _ _, fun _ => ⟨fun _ => ⟨o_hasA _ _ _, fun _ => trivial, fun _ => trivial⟩, fun _ => trivial⟩, fun z => absurd hb z⟩⟩, ⟨fun _ => ⟨fun _ => ⟨fun _ => trivial, fun _ => trivial⟩, fun _ => trivial⟩, fun z => absurd (cl.mpr hnl) z⟩, rfl, hrel⟩
      · have hb : ¬ xr_X5_isBelow (nI l) (ρ 28 0) = 0 := by
          rw [p28]
          rcases bel_cases (nI l) n (by omega) with ⟨-, g1⟩ | ⟨g1, -⟩
          · exact absurd (vp_in_nI (by omega) (by omega)) g1
          · rw [g1]; exact one_ne
        have ncl : ¬ τ 0 0 ≤ τ 0 25 := fun z => hnl (cl.mp z)
        obtain ⟨okx, okm, ⟨m', hm', hH'⟩, hP', hR', f26, fx⟩ := line_step (by omega) hH hP hR (by omega : l < n) e25 e28
        rw [e26, nI_1] at f26
        have hrec := ih (dn + 1) m' n g F _ _ _ _ (by omega) (by omega) (by omega) hH' hP' hR' f26 fx
        rw [← nI_1 dn] at hrec
        obtain ⟨k1, k2, k3, k4⟩ := hrec
        have ex : xl_X5_run_32 (F + 1) σ ρ a (nI many) (nI l) (nI dn) = bd2 (xr_X5_nextLine σ ρ (nI l)) (fun v23 σ25 ρ26 => xl_X5_run_32 F σ25 ρ26 a (nI many) v23 (nI dn + 1)) := by
          conv => lhs; unfold xl_X5_run_32
          rw [if_neg c]
          show (if xr_X5_isBelow (nI l) (ρ 28 0) = 0 then _ else bd2 (xr_X5_nextLine σ ρ (nI l)) (fun v23 σ25 ρ26 => xl_X5_run_32 F σ25 ρ26 a (nI many) v23 (nI dn + 1))) = _
          rw [if_neg hb]
        have em : xl_X6_run_18 (F + 1) τ a (nI many) = bd (xr_X6_goOn τ) (fun v7 σ9 => xl_X6_run_18 F σ9 a (nI many)) := by
          conv => lhs; unfold xl_X6_run_18
          rw [if_neg ncl, if_neg c2, if_pos e28]
        rw [ex, em]
        exact ⟨⟨fun z => absurd z c, fun _ => ⟨o_hasA _ _ _, fun z => absurd z hb, fun _ => ⟨okx, k1⟩⟩⟩, ⟨fun z => absurd z ncl, fun _ => ⟨fun z => absurd z c2, fun _ => ⟨fun _ => ⟨okm, k2⟩, fun z => absurd e28 z⟩⟩⟩, k3, k4⟩
    · have r00 : ¬ ρ 37 0 = 0 := by rw [r0]; exact e28
      have hb : xr_X5_isBelow (-1) (ρ 28 0) = 0 := by
        unfold xr_X5_isBelow
        rw [if_pos (by decide)]
      have ex : xl_X5_run_32 (F + 1) σ ρ a (nI many) (-1) (nI dn) = (1, σ, ρ) := by
        unfold xl_X5_run_32
        rw [if_neg c]
        show (if xr_X5_isBelow (-1) (ρ 28 0) = 0 then (if ρ 37 0 = 0 then _ else (1, σ, ρ)) else _) = (1, σ, ρ)
        rw [if_pos hb, if_neg r00]
      have em : xl_X6_run_18 (F + 1) τ a (nI many) = (1, τ) := by
        unfold xl_X6_run_18
        by_cases c1 : τ 0 0 ≤ τ 0 25
        · rw [if_pos c1, if_neg e28]
        · rw [if_neg c1, if_neg c2, if_neg e28, if_neg e28]
      rw [ex, em]
      exact ⟨⟨fun z => absurd z c, fun _ => ⟨o_hasA _ _ _, fun _ => ⟨fun z => absurd z r00, fun _ => trivial⟩, fun z => absurd hb z⟩⟩, ⟨fun _ => ⟨fun z => absurd z e28, fun _ => trivial⟩, fun _ => ⟨fun z => absurd z c2, fun _ => ⟨fun z => absurd z e28, fun _ => ⟨fun z => absurd z e28, fun _ => trivial⟩⟩⟩⟩, rfl, hrel⟩
theorem begin_RR {ρ τ : GS} (x : Int32) (h : ρ 38 = τ 23) : RR (bR ρ) (bM τ x) := by
  refine ⟨rfl, rfl, rfl, rfl, rfl, ?_⟩
  show upd (upd (upd (upd (upd (upd (upd (upd (ρ 38) 0 0) 1 0) 2 0) 3 0) 4 0) 5 0) 6 0) 7 0 = upd (upd (upd (upd (upd (upd (upd (upd (τ 23) 0 0) 1 0) 2 0) 3 0) 4 0) 5 0) 6 0) 7 0
  rw [h]
theorem rel_run {σ ρ τ : GS} (h : Rel σ ρ τ) (a b : Int32) : rs (xo_X5_run σ ρ a b) (xo_X6_run τ a b) (xr_X5_run σ ρ a b) (xr_X6_run τ a b) := by
  have hrel := h
  obtain ⟨m, n, g, hm, hH, hP, hR⟩ := h
  have e : xr_X6_in b 0 64 = xr_X5_isBelow b 65 := (bel_in b 64 (by decide)).symm
  unfold xr_X5_run xr_X6_run xo_X5_run xo_X6_run
  rw [e, begin_X2, begin_M]
  by_cases c : xr_X5_isBelow b 65 = 0
  · rw [if_pos c, if_pos c]
    exact ⟨⟨o_bel _ _, fun _ => trivial, fun z => absurd c z⟩, ⟨o_in _ _ _, fun _ => trivial, fun z => absurd c z⟩, rfl, hrel⟩
  · rw [if_neg c, if_neg c]
    obtain ⟨many, hmany, rfl⟩ := bel_use (n := 65) (by decide) c
    have hP0 : RP n g (bR ρ) (bM τ a) := hP.frame (fun k k1 k2 => by unfold bR; iterate 13 rw [st_n _ _ _ (by omega)]) (fun k k1 k2 => by unfold bM; iterate 42 rw [st_n _ _ _ (by omega)]) rfl rfl
    obtain ⟨k1, k2, k3, k4⟩ := run_loop a many (by omega) many 0 0 n g 100 (bX σ a) (bR ρ) (bM τ a) 0 (by omega) (by omega) (by omega) (begin_RH a hH.1.1) hP0 (begin_RR a hR.2.2.2.2.2) rfl (Or.inl ⟨0, by omega, rfl, rfl, rfl⟩)
    exact ⟨⟨o_bel _ _, fun z => absurd z c, fun _ => ⟨o_beginX _ _, o_beginR _ _, k1⟩⟩, ⟨o_in _ _ _, fun z => absurd z c, fun _ => ⟨o_beginM _ _, k2⟩⟩, k3, k4⟩
