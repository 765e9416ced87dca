theorem RQ.frame {m : Nat} {σ τ σ' τ' : GS} (h : RQ m σ τ) (e : ∀ k, k < 13 → σ' k = σ k) (t : ∀ k, k < 13 ∨ 17 < k → τ' k = τ k) : RQ m σ' τ' := by
  unfold RQ
  rw [e 1 (by omega), e 2 (by omega), e 3 (by omega), e 4 (by omega), e 5 (by omega), e 6 (by omega), e 9 (by omega), e 10 (by omega), e 11 (by omega), e 12 (by omega), t 22 (by omega), t 12 (by omega), t 18 (by omega), t 19 (by omega), t 20 (by omega), t 21 (by omega), t 9 (by omega), t 10 (by omega), t 11 (by omega), t 0 (by omega)]
  exact h
section ROWS
variable {m : Nat} {σ τ : GS}
theorem RH.drop (h : RH m σ τ) {r : Nat} (hr : r < 4) : RH m (st (st σ 13 r (-1)) 14 r (-1)) (st τ 13 r (-1)) := by
  refine ⟨h.1.frame (fun k hk => (st_n _ _ _ (by omega)).trans (st_n _ _ _ (by omega))) (fun k hk => st_n _ _ _ (by omega)), fun r' hr' => ?_, fun r' hr' => ?_⟩
  · by_cases e : r' = r
    · subst e
      have e1 : st (st σ 13 r' (-1)) 14 r' (-1) 14 r' = -1 := upd_s (σ 14) r' (-1)
      have e2 : st (st σ 13 r' (-1)) 14 r' (-1) 13 r' = -1 := upd_s (σ 13) r' (-1)
      have e3 : st τ 13 r' (-1) 13 r' = -1 := upd_s (τ 13) r' (-1)
      exact ⟨e1.trans e3.symm, Or.inl ⟨e1, e2⟩⟩
    · exact (h.2.1 r' hr').frame (upd_n (σ 13) (-1) e) (upd_n (σ 14) (-1) e) ((st_n _ _ _ (by omega)).trans (st_n _ _ _ (by omega))) (upd_n (τ 13) (-1) e) rfl (fun _ _ => rfl) (Nat.le_refl m)
  · exact (h.2.2 r' hr').frame (upd_n (σ 14) (-1) (by omega)) ((st_n _ _ _ (by omega)).trans (st_n _ _ _ (by omega))) rfl (fun _ _ => rfl)
theorem RH.lay (h : RH m σ τ) {r i n : Nat} (hr : r < 4) (hn : n ≤ 8) (hl : σ 14 r = nI n) (hi : i < n) {v : Int32} (hv : IT m v) : RH m (st σ (20 + r) i v) (st τ 15 (8 * r + i) v) := by
  refine ⟨h.1.frame (fun k hk => st_n _ _ _ (by omega)) (fun k hk => st_n _ _ _ (by omega)), fun r' hr' => ?_, fun r' hr' => ?_⟩
  · have s13 : st σ (20 + r) i v 13 = σ 13 := st_n _ _ _ (by omega)
    have s14 : st σ (20 + r) i v 14 = σ 14 := st_n _ _ _ (by omega)
    by_cases e : r' = r
    · subst e
      obtain ⟨h1, h2⟩ := h.2.1 r' hr'
      refine ⟨by rw [s14]; exact h1, ?_⟩
      rcases h2 with ⟨a, b⟩ | ⟨n', k, h3, h4, h5, h6, h7, h8⟩
      · exact absurd (hl.symm.trans a) (nI_m1 (by omega))
      · refine Or.inr ⟨n', k, h3, h4, by rw [s14]; exact h5, by rw [s13]; exact h6, h7, fun j hj => ?_⟩
        rw [st_s]
        show upd (σ (20 + r')) i v j = upd (τ 15) (8 * r' + i) v (8 * r' + j) ∧ _
        by_cases c : j = i
        · rw [c, upd_s, upd_s]; exact ⟨rfl, hv⟩
        · rw [upd_n _ _ c, upd_n _ _ (by omega)]; exact h8 j hj
    · exact (h.2.1 r' hr').frame (by rw [s13]) (by rw [s14]) (st_n _ _ _ (by omega)) rfl rfl (fun j hj => upd_n (τ 15) v (by omega)) (Nat.le_refl m)
  · exact (h.2.2 r' hr').frame (congrFun (st_n σ i v (by omega)) _) (st_n _ _ _ (by omega)) rfl (fun _ _ => rfl)
theorem RH.cnt (h : RH m σ τ) {r i : Nat} (hr : r < 3) (hi : i < 8) (v : Int32) : RH m (st σ (20 + (4 + r)) i v) (st τ 17 (8 * r + i) v) := by
  refine ⟨h.1.frame (fun k hk => st_n _ _ _ (by omega)) (fun k hk => st_n _ _ _ (by omega)), fun r' hr' => ?_, fun r' hr' => ?_⟩
  · exact (h.2.1 r' hr').frame (congrFun (st_n σ i v (by omega)) _) (congrFun (st_n σ i v (by omega)) _) (st_n _ _ _ (by omega)) rfl rfl (fun _ _ => rfl) (Nat.le_refl m)
  · have s14 : st σ (20 + (4 + r)) i v 14 = σ 14 := st_n _ _ _ (by omega)
    by_cases e : r' = r
    · subst e
      obtain ⟨h1, h2⟩ := h.2.2 r' hr'
      refine ⟨by rw [s14]; exact h1, ?_⟩
      rcases h2 with a | ⟨n', h3, h5, h8⟩
      · exact Or.inl (by rw [s14]; exact a)
      · refine Or.inr ⟨n', h3, by rw [s14]; exact h5, fun j hj => ?_⟩
        rw [st_s]
        show upd (σ (20 + (4 + r'))) i v j = upd (τ 17) (8 * r' + i) v (8 * r' + j)
        by_cases c : j = i
        · rw [c, upd_s, upd_s]
        · rw [upd_n _ _ c, upd_n _ _ (by omega)]; exact h8 j hj
    · exact (h.2.2 r' hr').frame (by rw [s14]) (st_n _ _ _ (by omega)) rfl (fun j hj => upd_n (τ 17) v (by omega))
/-- a new belt -/
theorem RH.belt (h : RH m σ τ) {r n k : Nat} (hr : r < 4) (hn : n ≤ 8) (hk : k < 5) {σ' τ' : GS} (e : ∀ key, ¬ key = 13 → ¬ key = 14 → ¬ key = 20 + r → σ' key = σ key) (e13 : ∀ j, σ' 13 j = upd (σ 13) r (nI k) j) (e14 : ∀ j, σ' 14 j = upd (σ 14) r (nI n) j) (ec : ∀ i, i < 8 → σ' (20 + r) i = -1) (t : ∀ key, ¬ key = 13 → ¬ key = 14 → ¬ key = 15 → τ' key = τ key) (t13 : ∀ j, τ' 13 j = upd (τ 13) r (nI n) j) (t14 : ∀ j, τ' 14 j = upd (τ 14) r (nI k) j) (t15 : ∀ j, 8 * r ≤ j → j < 8 * r + n → τ' 15 j = -1) (t15o : ∀ j, j < 8 * r ∨ 8 * r + 8 ≤ j → τ' 15 j = τ 15 j) : RH m σ' τ' := by
  refine ⟨h.1.frame (fun key hk => e key (by omega) (by omega) (by omega)) (fun key hk => t key (by omega) (by omega) (by omega)), fun r' hr' => ?_, fun r' hr' => ?_⟩
  · by_cases c : r' = r
    · subst c
      refine ⟨by rw [e14, t13, upd_s, upd_s], Or.inr ⟨n, k, hn, hk, by rw [e14, upd_s], by rw [e13, upd_s], by rw [t14, upd_s], fun i hi => ?_⟩⟩
      rw [ec i (by omega), t15 _ (by omega) (by omega)]
      exact ⟨rfl, Or.inl rfl⟩
    · exact (h.2.1 r' hr').frame (by rw [e13, upd_n _ _ c]) (by rw [e14, upd_n _ _ c]) (e _ (by omega) (by omega) (by omega)) (by rw [t13, upd_n _ _ c]) (by rw [t14, upd_n _ _ c]) (fun i hi => t15o _ (by omega)) (Nat.le_refl m)
  · exact (h.2.2 r' hr').frame (by rw [e14, upd_n _ _ (by omega)]) (e _ (by omega) (by omega) (by omega)) (congrFun (t 16 (by omega) (by omega) (by omega)) _) (fun i hi => congrFun (t 17 (by omega) (by omega) (by omega)) _)
/-- a new counter -/
theorem RH.counter (h : RH m σ τ) {r n : Nat} {w : Int32} (hr : r < 3) (hn : n ≤ 8) {σ' τ' : GS} (e : ∀ key, ¬ key = 13 → ¬ key = 14 → ¬ key = 20 + (4 + r) → σ' key = σ key) (e13 : ∀ j, σ' 13 j = upd (σ 13) (4 + r) w j) (e14 : ∀ j, σ' 14 j = upd (σ 14) (4 + r) (nI n) j) (ec : ∀ i, i < 8 → σ' (20 + (4 + r)) i = 0) (t : ∀ key, ¬ key = 16 → ¬ key = 17 → τ' key = τ key) (t16 : ∀ j, τ' 16 j = upd (τ 16) r (nI n) j) (t17 : ∀ j, 8 * r ≤ j → j < 8 * r + n → τ' 17 j = 0) (t17o : ∀ j, j < 8 * r ∨ 8 * r + 8 ≤ j → τ' 17 j = τ 17 j) : RH m σ' τ' := by
  refine ⟨h.1.frame (fun key hk => e key (by omega) (by omega) (by omega)) (fun key hk => t key (by omega) (by omega)), fun r' hr' => ?_, fun r' hr' => ?_⟩
  · exact (h.2.1 r' hr').frame (by rw [e13, upd_n _ _ (by omega)]) (by rw [e14, upd_n _ _ (by omega)]) (e _ (by omega) (by omega) (by omega)) (congrFun (t 13 (by omega) (by omega)) _) (congrFun (t 14 (by omega) (by omega)) _) (fun i hi => congrFun (t 15 (by omega) (by omega)) _) (Nat.le_refl m)
  · by_cases c : r' = r
    · subst c
      refine ⟨by rw [e14, t16, upd_s, upd_s], Or.inr ⟨n, hn, by rw [e14, upd_s], fun i hi => ?_⟩⟩
      rw [ec i (by omega), t17 _ (by omega) (by omega)]
    · exact (h.2.2 r' hr').frame (by rw [e14, upd_n _ _ (by omega)]) (e _ (by omega) (by omega) (by omega)) (by rw [t16, upd_n _ _ c]) (fun i hi => t17o _ (by omega))
end ROWS
def fill8 (σ : GS) (k : Nat) (v : Int32) : GS := st (st (st (st (st (st (st (st σ k 0 v) k 1 v) k 2 v) k 3 v) k 4 v) k 5 v) k 6 v) k 7 v
theorem fill8_n (σ : GS) {k k' : Nat} (v : Int32) (h : ¬ k' = k) : fill8 σ k v k' = σ k' := by
  unfold fill8
  rw [st_n _ _ _ h, st_n _ _ _ h, st_n _ _ _ h, st_n _ _ _ h, st_n _ _ _ h, st_n _ _ _ h, st_n _ _ _ h, st_n _ _ _ h]
theorem fill8_s (σ : GS) (k : Nat) (v : Int32) {i : Nat} (h : i < 8) : fill8 σ k v k i = v := by
  unfold fill8
  simp only [st_s]
  exact lt8 (P := fun i => upd (upd (upd (upd (upd (upd (upd (upd (σ k) 0 v) 1 v) 2 v) 3 v) 4 v) 5 v) 6 v) 7 v i = v) rfl rfl rfl rfl rfl rfl rfl rfl i h
theorem renew_loop (r : Nat) (σ : GS) (a1 a2 a3 f : Int32) : xl_X4_renew_24 r 100 σ a1 a2 a3 f 0 = (f, fill8 σ (20 + r) a3) := rfl
set_option maxRecDepth 200000 in
theorem renew_ok (r : Nat) (hr : r < 7) (σ : GS) (a1 a2 a3 f : Int32) : xlo_X4_renew_24 r 100 σ a1 a2 a3 f 0 := by
  repeat (first
    | exact trivial
    | refine And.intro (fun h => absurd h (by decide)) (fun _ => ?_)
    | refine And.intro (fun _ => ?_) (fun h => absurd (by decide) h)
    | refine And.intro hr ?_
    | refine And.intro (by unfold vp_in; decide) ?_)
theorem loopB {r n : Nat} (hr : r < 4) (hn : n ≤ 8) (x1 x3 x4 x5 : Int32) : ∀ (d k f : Nat) (τ : GS), k + d = n → d < f → ∃ τ', xl_X6_belts_62 f τ x1 (nI r) x3 x4 x5 (nI n) (nI k) = (0, τ') ∧ xlo_X6_belts_62 f τ x1 (nI r) x3 x4 x5 (nI n) (nI k) ∧ (∀ key, ¬ key = 15 → τ' key = τ key) ∧ (∀ j, 8 * r + k ≤ j → j < 8 * r + n → τ' 15 j = -1) ∧ (∀ j, j < 8 * r + k ∨ 8 * r + n ≤ j → τ' 15 j = τ 15 j) := by
  intro d
  induction d with
  | zero =>
    intro k f τ hk hf
    obtain ⟨f, rfl⟩ : ∃ f', f = f' + 1 := ⟨f - 1, by omega⟩
    have hkn : k = n := by omega
    subst hkn
    refine ⟨τ, ?_, ?_, fun _ _ => rfl, fun j h1 h2 => absurd h1 (by omega), fun _ _ => rfl⟩
    · show (if nI k ≤ nI k then (0, τ) else _) = _
      rw [if_pos (Int32.le_refl _)]
    · exact And.intro (fun _ => trivial) (fun z => absurd (Int32.le_refl _) z)
  | succ d ih =>
    intro k f τ hk hf
    obtain ⟨f, rfl⟩ : ∃ f', f = f' + 1 := ⟨f - 1, by omega⟩
    have c : ¬ nI n ≤ nI k := nI_ge (by omega) (by omega)
    have cl : (8 * nI r + nI k).toNatClampNeg = 8 * r + k := by rw [b8, nI_clamp (by omega)]
    obtain ⟨τ', i1, i2, i3, i4, i5⟩ := ih (k + 1) f (st τ 15 (8 * r + k) (-1)) (by omega) (by omega)
    rw [← nI_1] at i1 i2
    rw [← cl] at i1 i2
    refine ⟨τ', ?_, ?_, fun key hkey => (i3 key hkey).trans (st_n _ _ _ hkey), fun j h1 h2 => ?_, fun j hj => ?_⟩
    · show (if nI n ≤ nI k then (0, τ) else xl_X6_belts_62 f (st τ 15 (8 * nI r + nI k).toNatClampNeg (-1)) x1 (nI r) x3 x4 x5 (nI n) (nI k + 1)) = _
      rw [if_neg c]
      exact i1
    · exact And.intro (fun z => absurd z c) (fun _ => And.intro (by rw [b8]; exact vp_in_nI (by omega) (by decide)) i2)
    · by_cases e : j = 8 * r + k
      · rw [i5 j (Or.inl (by omega)), st_s, e, upd_s]
      · exact i4 j (by omega) h2
    · rw [i5 j (by omega), st_s, upd_n _ _ (by omega)]
theorem loopC {r n : Nat} (hr : r < 3) (hn : n ≤ 8) (x1 x3 x4 : Int32) : ∀ (d k f : Nat) (τ : GS), k + d = n → d < f → ∃ τ', xl_X6_counts_34 f τ x1 (nI r) x3 x4 (nI n) (nI k) = (0, τ') ∧ xlo_X6_counts_34 f τ x1 (nI r) x3 x4 (nI n) (nI k) ∧ (∀ key, ¬ key = 17 → τ' key = τ key) ∧ (∀ j, 8 * r + k ≤ j → j < 8 * r + n → τ' 17 j = 0) ∧ (∀ j, j < 8 * r + k ∨ 8 * r + n ≤ j → τ' 17 j = τ 17 j) := by
  intro d
  induction d with
  | zero =>
    intro k f τ hk hf
    obtain ⟨f, rfl⟩ : ∃ f', f = f' + 1 := ⟨f - 1, by omega⟩
    have hkn : k = n := by omega
    subst hkn
    refine ⟨τ, ?_, ?_, fun _ _ => rfl, fun j h1 h2 => absurd h1 (by omega), fun _ _ => rfl⟩
    · show (if nI k ≤ nI k then (0, τ) else _) = _
      rw [if_pos (Int32.le_refl _)]
    · exact And.intro (fun _ => trivial) (fun z => absurd (Int32.le_refl _) z)
  | succ d ih =>
    intro k f τ hk hf
    obtain ⟨f, rfl⟩ : ∃ f', f = f' + 1 := ⟨f - 1, by omega⟩
    have c : ¬ nI n ≤ nI k := nI_ge (by omega) (by omega)
    have cl : (8 * nI r + nI k).toNatClampNeg = 8 * r + k := by rw [b8, nI_clamp (by omega)]
    obtain ⟨τ', i1, i2, i3, i4, i5⟩ := ih (k + 1) f (st τ 17 (8 * r + k) 0) (by omega) (by omega)
    rw [← nI_1] at i1 i2
    rw [← cl] at i1 i2
    refine ⟨τ', ?_, ?_, fun key hkey => (i3 key hkey).trans (st_n _ _ _ hkey), fun j h1 h2 => ?_, fun j hj => ?_⟩
    · show (if nI n ≤ nI k then (0, τ) else xl_X6_counts_34 f (st τ 17 (8 * nI r + nI k).toNatClampNeg 0) x1 (nI r) x3 x4 (nI n) (nI k + 1)) = _
      rw [if_neg c]
      exact i1
    · exact And.intro (fun z => absurd z c) (fun _ => And.intro (by rw [b8]; exact vp_in_nI (by omega) (by decide)) i2)
    · by_cases e : j = 8 * r + k
      · rw [i5 j (Or.inl (by omega)), st_s, e, upd_s]
      · exact i4 j (by omega) h2
    · rw [i5 j (by omega), st_s, upd_n _ _ (by omega)]
