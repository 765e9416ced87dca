set_option maxRecDepth 10000 in
theorem line_step {m n g L : Nat} {σ ρ τ : GS} (hm : m < 64) (hH : RH m σ τ) (hP : RP n g ρ τ) (hR : RR ρ τ) (hL : L < n) (e25 : τ 0 25 = nI L) (e28 : τ 0 28 = 0) : xo_X5_nextLine σ ρ (nI L) ∧ xo_X6_goOn τ ∧ LN n g (m + 1) (τ 0 26 + 1) (xr_X5_nextLine σ ρ (nI L)) (xr_X6_goOn τ).2 := by
  have h40 : L < 40 := by have := hP.2.1.1; omega
  have cl : (nI L).toNatClampNeg = L := nI_clamp (by omega)
  have vL : vp_in (nI L) 40 := vp_in_nI h40 (by decide)
  have vL2 : vp_in (τ 0 25) 40 := by rw [e25]; exact vL
  have hv := hP.2.2.2.1 L hL
  obtain ⟨j, hj, eo⟩ := opU hv
  have hH1 : RH m σ (goT τ) := ((hH.sc 25 _ (by decide)).sc 26 _ (by decide)).sc 27 _ (by decide)
  have sg := step_all hH1 hm (show goT τ 0 27 = 0 from rfl) j hj (τ 2 L) (τ 3 L) (τ 4 L) (by rw [← eo]; exact hv)
  rw [← eo] at sg
  have gok := goOn_ok (τ := τ) vL2
  have geq := goOn_eq τ
  rw [e25, cl] at gok geq
  rw [geq]
  unfold xr_X5_nextLine xo_X5_nextLine
  obtain ⟨p1, p2, p3, p4, -⟩ := hP.1
  rw [cl, p1, p2, p3, p4]
  generalize hx : xr_X0_perform σ (τ 1 L) (τ 2 L) (τ 3 L) (τ 4 L) = x at sg ⊢
  generalize hy : fam (goT τ) (τ 1 L) (τ 2 L) (τ 3 L) (τ 4 L) = y at sg gok ⊢
  obtain ⟨xv, σ'⟩ := x
  obtain ⟨yv, τ2⟩ := y
  obtain ⟨okp, okf, ⟨f, f1, f2, f3, f4⟩, ⟨m', hm', hH2⟩, g1, g2, g30, gl⟩ := sg
  have f2 : xv = nI f := f2
  have f3 : τ2 0 27 = nI f := f3
  have hH2 : RH m' σ' τ2 := hH2
  have g1 : ∀ k, ¬ k = 27 → ¬ k = 10 → ¬ k = 25 → ¬ k = 30 → τ2 0 k = goT τ 0 k := g1
  have g2 : ∀ k, (1 ≤ k ∧ k ≤ 8) ∨ k = 23 → τ2 k = goT τ k := g2
  have g30 : τ2 0 30 = if xv = 7 then σ' 6 (τ 2 L).toNatClampNeg else goT τ 0 30 := g30
  have gl := gl L h40 (show τ 0 25 + 1 = nI (L + 1) by rw [e25, nI_1])
  have gl : (∃ l, l ≤ 40 ∧ τ2 0 25 = nI l) ∧ (xv = 0 → xo_X0_lineBehind σ' (nI L) (τ 1 L) (τ 2 L) (τ 3 L) ∧ xr_X0_lineBehind σ' (nI L) (τ 1 L) (τ 2 L) (τ 3 L) = (τ2 0 25, σ')) := gl
  subst f2
  have gk : ∀ k, (1 ≤ k ∧ k ≤ 8) ∨ k = 23 → τ2 k = τ k := fun k hk => (g2 k hk).trans (((st_n _ _ _ (by omega)).trans (st_n _ _ _ (by omega))).trans (st_n _ _ _ (by omega)))
  have t0 : τ2 0 0 = τ 0 0 := g1 0 (by decide) (by decide) (by decide) (by decide)
  have t5 : τ2 0 5 = τ 0 5 := g1 5 (by decide) (by decide) (by decide) (by decide)
  have t26 : τ2 0 26 = τ 0 26 + 1 := g1 26 (by decide) (by decide) (by decide) (by decide)
  have t28 : τ2 0 28 = τ 0 28 := g1 28 (by decide) (by decide) (by decide) (by decide)
  have t29 : τ2 0 29 = τ 0 29 := g1 29 (by decide) (by decide) (by decide) (by decide)
  have t31 : τ2 0 31 = τ 0 31 := g1 31 (by decide) (by decide) (by decide) (by decide)
  obtain ⟨r0, r1, r2, r3, r4, r5⟩ := hR
  have hP1 : RP n g (st ρ 37 3 (ρ 37 3 + 1)) τ2 := hP.frame (fun k k1 k2 => st_n _ _ _ (by omega)) (fun k k1 k2 => gk k (by omega)) t0 t5
  have R3 : st ρ 37 3 (ρ 37 3 + 1) 37 3 = τ2 0 26 := by
    show ρ 37 3 + 1 = τ2 0 26
    rw [t26, r3]
  have R5 : ρ 38 = τ2 23 := r5.trans (gk 23 (by omega)).symm
  by_cases c0 : f = 0
  · subst c0
    obtain ⟨⟨l, hl, el⟩, gl2⟩ := gl
    obtain ⟨lo, le⟩ := gl2 rfl
    have t30 : τ2 0 30 = τ 0 30 := by rw [g30, if_neg (show ¬ nI 0 = 7 by decide)]; rfl
    refine ⟨⟨vL, vL, vL, vL, okp, fun _ => ⟨lo, trivial⟩, fun z => absurd rfl z⟩, gok okf (fun z => absurd f3 z), ?_⟩
    show LN n g (m + 1) (τ 0 26 + 1) (if nI 0 = 0 then bd (xr_X0_lineBehind σ' (nI L) (τ 1 L) (τ 2 L) (τ 3 L)) (fun v23 σ25 => (v23, σ25, st ρ 37 3 (ρ 37 3 + 1))) else _) (if τ2 0 27 = 0 then (0, τ2) else _).2
    have f3' : τ2 0 27 = 0 := f3
    rw [if_pos (show nI 0 = 0 from rfl), if_pos f3', le]
    exact ⟨⟨m', hm', hH2⟩, hP1, ⟨r0.trans t28.symm, r1.trans t29.symm, r2.trans t30.symm, R3, r4.trans t31.symm, R5⟩, t26, Or.inl ⟨l, hl, el, el, t28.trans e28⟩⟩
  · have hfp : 0 < f := Nat.pos_of_ne_zero c0
    have nf : ¬ nI f = 0 := nI_ne0 hfp (by omega)
    have nf2 : ¬ τ2 0 27 = 0 := by rw [f3]; exact nf
    have f28 : τ2 0 28 = 0 := t28.trans e28
    by_cases c7 : f = 7
    · subst c7
      have t30 : τ2 0 30 = σ' 6 (τ 2 L).toNatClampNeg := by rw [g30, if_pos (show nI 7 = 7 from rfl)]
      have hR2 : RR (st (st ρ 37 3 (ρ 37 3 + 1)) 37 2 (σ' 6 (τ 2 L).toNatClampNeg)) τ2 := ⟨r0.trans t28.symm, r1.trans t29.symm, t30.symm, R3, r4.trans t31.symm, R5⟩
      have hP2 : RP n g (st (st ρ 37 3 (ρ 37 3 + 1)) 37 2 (σ' 6 (τ 2 L).toNatClampNeg)) τ2 := hP1.frame (fun k k1 k2 => st_n _ _ _ (by omega)) (fun _ _ _ => rfl) rfl rfl
      obtain ⟨a1, a2, a3, a4⟩ := after_fail hm' hH2 hP2 hR2 h40 f1 hfp f3 f28 t26
      refine ⟨⟨vL, vL, vL, vL, okp, fun z => absurd z nf, fun _ => ⟨fun _ => ⟨f4 rfl, a2, a4⟩, fun z => absurd rfl z⟩⟩, gok okf (fun _ => a3), ?_⟩
      show LN n g (m + 1) (τ 0 26 + 1) (if nI 7 = 0 then _ else if nI 7 = 7 then bd2 (xr_X2_guardFor σ' (st (st ρ 37 3 (ρ 37 3 + 1)) 37 2 (σ' 6 (τ 2 L).toNatClampNeg)) (nI L) (nI 7)) (ngX (nI 7) (nI L)) else _) (if τ2 0 27 = 0 then (0, τ2) else (0, (xr_X6_fails τ2 (nI L)).2)).2
      rw [if_neg nf, if_pos (show nI 7 = 7 from rfl), if_neg nf2]
      exact a1
    · have n7 : ¬ nI f = 7 := fun z => c7 ((nI_eq (b := 7) (by omega) (by decide)).mp z)
      have t30 : τ2 0 30 = τ 0 30 := by rw [g30, if_neg n7]; rfl
      have hR2 : RR (st ρ 37 3 (ρ 37 3 + 1)) τ2 := ⟨r0.trans t28.symm, r1.trans t29.symm, r2.trans t30.symm, R3, r4.trans t31.symm, R5⟩
      obtain ⟨a1, a2, a3, a4⟩ := after_fail hm' hH2 hP1 hR2 h40 f1 hfp f3 f28 t26
      refine ⟨⟨vL, vL, vL, vL, okp, fun z => absurd z nf, fun _ => ⟨fun z => absurd z n7, fun _ => ⟨a2, a4⟩⟩⟩, gok okf (fun _ => a3), ?_⟩
      show LN n g (m + 1) (τ 0 26 + 1) (if nI f = 0 then _ else if nI f = 7 then _ else bd2 (xr_X2_guardFor σ' (st ρ 37 3 (ρ 37 3 + 1)) (nI L) (nI f)) (ngX (nI f) (nI L))) (if τ2 0 27 = 0 then (0, τ2) else (0, (xr_X6_fails τ2 (nI L)).2)).2
      rw [if_neg nf, if_neg n7, if_neg nf2]
      exact a1
