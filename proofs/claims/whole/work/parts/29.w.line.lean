theorem RH.c23 {m : Nat} {σ τ : GS} (h : RH m σ τ) (i : Nat) (v : Int32) : RH m σ (st τ 23 i v) := ⟨h.1, h.2.frame rfl rfl (fun _ _ => rfl) rfl rfl rfl rfl rfl (Nat.le_refl m)⟩
theorem RP.frame {n g : Nat} {ρ τ ρ' τ' : GS} (h : RP n g ρ τ) (e : ∀ k, 28 ≤ k → k ≤ 36 → ρ' k = ρ k) (t : ∀ k, 1 ≤ k → k ≤ 8 → τ' k = τ k) (t0 : τ' 0 0 = τ 0 0) (t5 : τ' 0 5 = τ 0 5) : RP n g ρ' τ' := by
  unfold RP
  rw [e 28 (by omega) (by omega), e 29 (by omega) (by omega), e 30 (by omega) (by omega), e 31 (by omega) (by omega), e 32 (by omega) (by omega), e 33 (by omega) (by omega), e 34 (by omega) (by omega), e 35 (by omega) (by omega), e 36 (by omega) (by omega), t 1 (by omega) (by omega), t 2 (by omega) (by omega), t 3 (by omega) (by omega), t 4 (by omega) (by omega), t 5 (by omega) (by omega), t 6 (by omega) (by omega), t 7 (by omega) (by omega), t 8 (by omega) (by omega), t0, t5]
  exact h
/-- the end of a line on both sides -/
def LN (n g M : Nat) (dn : Int32) (X : Int32 × GS × GS) (Y : GS) : Prop := (∃ m', m' ≤ M ∧ RH m' X.2.1 Y) ∧ RP n g X.2.2 Y ∧ RR X.2.2 Y ∧ Y 0 26 = dn ∧ ((∃ l, l ≤ 40 ∧ X.1 = nI l ∧ Y 0 25 = nI l ∧ Y 0 28 = 0) ∨ (X.1 = -1 ∧ ¬ Y 0 28 = 0))
abbrev ngX (f L : Int32) (v : Int32) (s r : GS) : Int32 × GS × GS := if v = (-1) then (-1, s, st (st r 37 0 f) 37 1 L) else ((st (st r 38 f.toNatClampNeg ((r 38 f.toNatClampNeg) + 1)) 37 4 (((st r 38 f.toNatClampNeg ((r 38 f.toNatClampNeg) + 1)) 37 4) + 1)) 36 v.toNatClampNeg, s, st (st r 38 f.toNatClampNeg ((r 38 f.toNatClampNeg) + 1)) 37 4 (((st r 38 f.toNatClampNeg ((r 38 f.toNatClampNeg) + 1)) 37 4) + 1))
theorem after_fail {n g m' M : Nat} {σ ρ τ : GS} {dn : Int32} (hm : m' ≤ M) (hH : RH m' σ τ) (hP : RP n g ρ τ) (hR : RR ρ τ) {L f : Nat} (hL : L < 40) (hf : f < 8) (hf0 : 0 < f) (e27 : τ 0 27 = nI f) (e28 : τ 0 28 = 0) (edn : τ 0 26 = dn) : LN n g M dn (bd2 (xr_X2_guardFor σ ρ (nI L) (nI f)) (ngX (nI f) (nI L))) (xr_X6_fails τ (nI L)).2 ∧ xo_X2_guardFor σ ρ (nI L) (nI f) ∧ xo_X6_fails τ (nI L) ∧ bd2 (xr_X2_guardFor σ ρ (nI L) (nI f)) (fun v _ _ => (v = (-1) → True) ∧ (¬ (v = (-1)) → vp_in (nI f) 8 ∧ (vp_in (nI f) 8 ∧ (vp_in v 5 ∧ (True))))) := by
  have vf : vp_in (nI f) 8 := vp_in_nI hf (by decide)
  have cf : (nI f).toNatClampNeg = f := nI_clamp (by omega)
  have hg := hP.2.2.1.1
  obtain ⟨gr, okx, okm⟩ := guards (σ := σ) hP hL hf e27 g 0 100 (by omega) (by omega)
  refine ⟨?_, okx, okm, ?_⟩
  · rcases gr with ⟨k, hk, e1, e2⟩ | ⟨e1, e2⟩
    · have e1 : xr_X2_guardFor σ ρ (nI L) (nI f) = (nI k, σ, ρ) := e1
      have e2 : xr_X6_fails τ (nI L) = (0, gS τ k) := e2
      rw [e1, e2]
      have ck : (nI k).toNatClampNeg = k := nI_clamp (by omega)
      show LN n g M dn (ngX (nI f) (nI L) (nI k) σ ρ) (gS τ k)
      unfold ngX
      rw [if_neg (nI_m1 (by omega)), ck, cf]
      obtain ⟨r0, r1, r2, r3, r4, r5⟩ := hR
      obtain ⟨-, l, hl, el⟩ := hP.2.2.2.2 k hk
      refine ⟨⟨m', hm, ((hH.sc 31 _ (by decide)).c23 _ _).sc 25 _ (by decide)⟩, hP.frame (fun j j1 j2 => (st_n _ _ _ (by omega)).trans (st_n _ _ _ (by omega))) (fun j j1 j2 => ((st_n _ _ _ (by omega)).trans (st_n _ _ _ (by omega))).trans (st_n _ _ _ (by omega))) rfl rfl, ⟨r0, r1, r2, r3, ?_, ?_⟩, edn, Or.inl ⟨l, hl, ?_, el, e28⟩⟩
      · show ρ 37 4 + 1 = τ 0 31 + 1
        rw [r4]
      · show upd (ρ 38) f (ρ 38 f + 1) = upd (τ 23) (τ 0 27).toNatClampNeg (τ 23 (τ 0 27).toNatClampNeg + 1)
        rw [e27, cf, r5]
      · show ρ 36 k = nI l
        rw [hP.1.2.2.2.2.2.2.2]
        exact el
    · have e1 : xr_X2_guardFor σ ρ (nI L) (nI f) = (-1, σ, ρ) := e1
      have e2 : xr_X6_fails τ (nI L) = (0, fS τ (nI L)) := e2
      rw [e1, e2]
      show LN n g M dn (ngX (nI f) (nI L) (-1) σ ρ) (fS τ (nI L))
      unfold ngX
      rw [if_pos rfl]
      obtain ⟨r0, r1, r2, r3, r4, r5⟩ := hR
      refine ⟨⟨m', hm, (hH.sc 28 _ (by decide)).sc 29 _ (by decide)⟩, hP.frame (fun j j1 j2 => (st_n _ _ _ (by omega)).trans (st_n _ _ _ (by omega))) (fun j j1 j2 => (st_n _ _ _ (by omega)).trans (st_n _ _ _ (by omega))) rfl rfl, ⟨?_, rfl, r2, r3, r4, r5⟩, edn, Or.inr ⟨rfl, ?_⟩⟩
      · show nI f = τ 0 27
        exact e27.symm
      · show ¬ τ 0 27 = 0
        rw [e27]
        exact nI_ne0 hf0 (by omega)
  · rcases gr with ⟨k, hk, e1, -⟩ | ⟨e1, -⟩
    · have e1 : xr_X2_guardFor σ ρ (nI L) (nI f) = (nI k, σ, ρ) := e1
      rw [e1]
      exact ⟨fun _ => trivial, fun _ => ⟨vf, vf, vp_in_nI (by omega) (by decide), trivial⟩⟩
    · have e1 : xr_X2_guardFor σ ρ (nI L) (nI f) = (-1, σ, ρ) := e1
      rw [e1]
      exact ⟨fun _ => trivial, fun z => absurd rfl z⟩
def goT (τ : GS) : GS := st (st (st τ 0 25 (τ 0 25 + 1)) 0 26 (τ 0 26 + 1)) 0 27 0
theorem goOn_eq (τ : GS) : xr_X6_goOn τ = bd (fam (goT τ) (τ 1 (τ 0 25).toNatClampNeg) (τ 2 (τ 0 25).toNatClampNeg) (τ 3 (τ 0 25).toNatClampNeg) (τ 4 (τ 0 25).toNatClampNeg)) (fun _ s => if s 0 27 = 0 then (0, s) else (0, (xr_X6_fails s (τ 0 25)).2)) := by
  unfold xr_X6_goOn fam
  by_cases c1 : xr_X6_in (τ 1 (τ 0 25).toNatClampNeg) 3 5 = 0
  · rw [if_pos c1, if_pos c1]
    by_cases c2 : xr_X6_in (τ 1 (τ 0 25).toNatClampNeg) 8 12 = 0
    · rw [if_pos c2, if_pos c2]
      by_cases c3 : xr_X6_in (τ 1 (τ 0 25).toNatClampNeg) 13 15 = 0
      · rw [if_pos c3, if_pos c3]; rfl
      · rw [if_neg c3, if_neg c3]; rfl
    · rw [if_neg c2, if_neg c2]; rfl
  · rw [if_neg c1, if_neg c1]; rfl
theorem goOn_ok {τ : GS} (vL : vp_in (τ 0 25) 40) (h : famo (goT τ) (τ 1 (τ 0 25).toNatClampNeg) (τ 2 (τ 0 25).toNatClampNeg) (τ 3 (τ 0 25).toNatClampNeg) (τ 4 (τ 0 25).toNatClampNeg)) (h2 : bd (fam (goT τ) (τ 1 (τ 0 25).toNatClampNeg) (τ 2 (τ 0 25).toNatClampNeg) (τ 3 (τ 0 25).toNatClampNeg) (τ 4 (τ 0 25).toNatClampNeg)) (fun _ s => ¬ s 0 27 = 0 → xo_X6_fails s (τ 0 25))) : xo_X6_goOn τ := by
  refine ⟨vL, vL, vL, vL, o_in _ _ _, fun c1 => ⟨o_in _ _ _, fun c2 => ⟨o_in _ _ _, fun c3 => ?_, fun c3 => ?_⟩, fun c2 => ?_⟩, fun c1 => ?_⟩
  · unfold fam at h2
    rw [if_pos c1, if_pos c2, if_pos c3] at h2
    exact ⟨((h.1 c1).1 c2).1 c3, fun _ => trivial, fun z => ⟨h2 z, trivial⟩⟩
  · unfold fam at h2
    rw [if_pos c1, if_pos c2, if_neg c3] at h2
    exact ⟨((h.1 c1).1 c2).2 c3, fun _ => trivial, fun z => ⟨h2 z, trivial⟩⟩
  · unfold fam at h2
    rw [if_pos c1, if_neg c2] at h2
    exact ⟨(h.1 c1).2 c2, fun _ => trivial, fun z => ⟨h2 z, trivial⟩⟩
  · unfold fam at h2
    rw [if_neg c1] at h2
    exact ⟨h.2 c1, fun _ => trivial, fun z => ⟨h2 z, trivial⟩⟩
theorem opU {o a b c : Int32} (h : ¬ xr_X6_isRight o a b c = 0) : ∃ j, j < 25 ∧ o = nI j := by
  rw [← X_isRight] at h
  exact bel_use (n := 25) (by decide) (ne_if h).1
