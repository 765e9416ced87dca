theorem IT.mono {m m' : Nat} {v : Int32} (h : IT m v) (hm : m ≤ m') : IT m' v := by
  rcases h with h | ⟨j, h1, h2⟩
  · exact Or.inl h
  · exact Or.inr ⟨j, by omega, h2⟩
theorem BR.frame {m m' r : Nat} {σ τ σ' τ' : GS} (h : BR m r σ τ) (e13 : σ' 13 r = σ 13 r) (e14 : σ' 14 r = σ 14 r) (ec : σ' (20 + r) = σ (20 + r)) (t13 : τ' 13 r = τ 13 r) (t14 : τ' 14 r = τ 14 r) (t15 : ∀ i, i < 8 → τ' 15 (8 * r + i) = τ 15 (8 * r + i)) (hm : m ≤ m') : BR m' r σ' τ' := by
  obtain ⟨h1, h2⟩ := h
  refine ⟨by rw [e14, t13]; exact h1, ?_⟩
  rcases h2 with ⟨a, b⟩ | ⟨n, k, h3, h4, h5, h6, h7, h8⟩
  · exact Or.inl ⟨by rw [e14]; exact a, by rw [e13]; exact b⟩
  · refine Or.inr ⟨n, k, h3, h4, by rw [e14]; exact h5, by rw [e13]; exact h6, by rw [t14]; exact h7, fun i hi => ?_⟩
    rw [ec, t15 i (by omega)]
    exact ⟨(h8 i hi).1, (h8 i hi).2.mono hm⟩
theorem CR.frame {r : Nat} {σ τ σ' τ' : GS} (h : CR r σ τ) (e14 : σ' 14 (4 + r) = σ 14 (4 + r)) (ec : σ' (20 + (4 + r)) = σ (20 + (4 + r))) (t16 : τ' 16 r = τ 16 r) (t17 : ∀ i, i < 8 → τ' 17 (8 * r + i) = τ 17 (8 * r + i)) : CR r σ' τ' := by
  obtain ⟨h1, h2⟩ := h
  refine ⟨by rw [e14, t16]; exact h1, ?_⟩
  rcases h2 with a | ⟨n, h3, h5, h8⟩
  · exact Or.inl (by rw [e14]; exact a)
  · refine Or.inr ⟨n, h3, by rw [e14]; exact h5, fun i hi => ?_⟩
    rw [ec, t17 i (by omega)]
    exact h8 i hi
theorem RW.frame {m m' : Nat} {σ τ σ' τ' : GS} (h : RW m σ τ) (e13 : σ' 13 = σ 13) (e14 : σ' 14 = σ 14) (ec : ∀ r, r < 7 → σ' (20 + r) = σ (20 + r)) (t13 : τ' 13 = τ 13) (t14 : τ' 14 = τ 14) (t15 : τ' 15 = τ 15) (t16 : τ' 16 = τ 16) (t17 : τ' 17 = τ 17) (hm : m ≤ m') : RW m' σ' τ' :=
  ⟨fun r hr => (h.1 r hr).frame (by rw [e13]) (by rw [e14]) (ec r (by omega)) (by rw [t13]) (by rw [t14]) (fun i _ => by rw [t15]) hm, fun r hr => (h.2 r hr).frame (by rw [e14]) (ec (4 + r) (by omega)) (by rw [t16]) (fun i _ => by rw [t17])⟩
section UPD
variable {m : Nat} {σ τ : GS}
theorem RH.sc (h : RH m σ τ) (k : Nat) (v : Int32) (hk : ¬ 10 = k) : RH m σ (st τ 0 k v) := by
  obtain ⟨⟨q1, ⟨q2, q3⟩, q4⟩, hw⟩ := h
  refine ⟨⟨q1, ⟨q2, ?_⟩, q4⟩, hw.frame rfl rfl (fun _ _ => rfl) rfl rfl rfl rfl rfl (Nat.le_refl m)⟩
  show upd (τ 0) k v 10 = nI m
  rw [upd_n _ _ hk]
  exact q3
theorem RH.reg (h : RH m σ τ) (i : Nat) (v : Int32) : RH m (st σ 1 i v) (st τ 22 i v) := by
  obtain ⟨⟨⟨h1, q1⟩, q2⟩, hw⟩ := h
  exact ⟨⟨⟨by show upd (σ 1) i v = upd (τ 22) i v; rw [h1], q1⟩, q2⟩, hw.frame rfl rfl (fun r _ => st_n _ _ _ (by omega)) rfl rfl rfl rfl rfl (Nat.le_refl m)⟩
theorem RH.plc (h : RH m σ τ) (i : Nat) (v : Int32) (hv : IT m v) : RH m (st σ 2 i v) (st τ 12 i v) := by
  obtain ⟨⟨⟨h1, h2, q1⟩, q2, q3, q4⟩, hw⟩ := h
  refine ⟨⟨⟨h1, by show upd (σ 2) i v = upd (τ 12) i v; rw [h2], q1⟩, q2, fun p hp => ?_, q4⟩, hw.frame rfl rfl (fun r _ => st_n _ _ _ (by omega)) rfl rfl rfl rfl rfl (Nat.le_refl m)⟩
  show IT m (upd (σ 2) i v p)
  by_cases e : p = i
  · rw [e, upd_s]; exact hv
  · rw [upd_n _ _ e]; exact q3 p hp
theorem RH.grid (h : RH m σ τ) (i : Nat) (v w : Int32) : RH m (st (st σ 3 i v) 4 i w) (st (st τ 18 i v) 19 i w) := by
  obtain ⟨⟨⟨h1, h2, h3, h4, q1⟩, q2⟩, hw⟩ := h
  exact ⟨⟨⟨h1, h2, by show upd (σ 3) i v = upd (τ 18) i v; rw [h3], by show upd (σ 4) i w = upd (τ 19) i w; rw [h4], q1⟩, q2⟩, hw.frame rfl rfl (fun r _ => (st_n _ _ _ (by omega)).trans (st_n _ _ _ (by omega))) rfl rfl rfl rfl rfl (Nat.le_refl m)⟩
theorem RH.al (h : RH m σ τ) (i : Nat) (v : Int32) (hv : v = 0 ∨ v = 1) : RH m (st σ 5 i v) (st τ 20 i v) := by
  obtain ⟨⟨⟨h1, h2, h3, h4, h5, q1⟩, q2, q3, q4, q5⟩, hw⟩ := h
  refine ⟨⟨⟨h1, h2, h3, h4, by show upd (σ 5) i v = upd (τ 20) i v; rw [h5], q1⟩, q2, q3, q4, fun a ha => ?_⟩, hw.frame rfl rfl (fun r _ => st_n _ _ _ (by omega)) rfl rfl rfl rfl rfl (Nat.le_refl m)⟩
  show upd (σ 5) i v a = 0 ∨ upd (σ 5) i v a = 1
  by_cases e : a = i
  · rw [e, upd_s]; exact hv
  · rw [upd_n _ _ e]; exact q5 a ha
theorem RH.aln (h : RH m σ τ) (i : Nat) (v : Int32) : RH m (st σ 6 i v) (st τ 21 i v) := by
  obtain ⟨⟨⟨h1, h2, h3, h4, h5, h6, q1⟩, q2⟩, hw⟩ := h
  exact ⟨⟨⟨h1, h2, h3, h4, h5, by show upd (σ 6) i v = upd (τ 21) i v; rw [h6], q1⟩, q2⟩, hw.frame rfl rfl (fun r _ => st_n _ _ _ (by omega)) rfl rfl rfl rfl rfl (Nat.le_refl m)⟩
theorem RH.wt (h : RH m σ τ) (i : Nat) (v : Int32) : RH m (st σ 11 i v) (st τ 10 i v) := by
  obtain ⟨⟨⟨h1, h2, h3, h4, h5, h6, h7, h8, q1⟩, q2⟩, hw⟩ := h
  exact ⟨⟨⟨h1, h2, h3, h4, h5, h6, h7, by show upd (σ 11) i v = upd (τ 10) i v; rw [h8], q1⟩, q2⟩, hw.frame rfl rfl (fun r _ => st_n _ _ _ (by omega)) rfl rfl rfl rfl rfl (Nat.le_refl m)⟩
theorem RH.stp (h : RH m σ τ) (i : Nat) (v : Int32) : RH m (st σ 12 i v) (st τ 11 i v) := by
  obtain ⟨⟨⟨h1, h2, h3, h4, h5, h6, h7, h8, h10⟩, q2⟩, hw⟩ := h
  exact ⟨⟨⟨h1, h2, h3, h4, h5, h6, h7, h8, by show upd (σ 12) i v = upd (τ 11) i v; rw [h10]⟩, q2⟩, hw.frame rfl rfl (fun r _ => st_n _ _ _ (by omega)) rfl rfl rfl rfl rfl (Nat.le_refl m)⟩
/-- a new item -/
theorem RH.make (h : RH m σ τ) (p : Nat) (k : Nat) (hk : k < 5) (w : Int32) : RH (m + 1) (st (st (st (st (st σ 10 m (nI k)) 11 m w) 12 m 0) 9 0 (nI m + 1)) 2 p (nI m)) (st (st (st (st (st τ 9 m (nI k)) 10 m w) 11 m 0) 12 p (nI m)) 0 10 (nI m + 1)) := by
  obtain ⟨⟨⟨h1, h2, h3, h4, h5, h6, h7, h8, h10⟩, ⟨q1, q2⟩, q3, q4, q5⟩, hw⟩ := h
  refine ⟨⟨⟨h1, ?_, h3, h4, h5, h6, ?_, ?_, ?_⟩, ⟨nI_1 m, nI_1 m⟩, fun j hj => ?_, fun j hj => ?_, q5⟩, hw.frame rfl rfl (fun r _ => ?_) rfl rfl rfl rfl rfl (Nat.le_succ m)⟩
  · show upd (σ 2) p (nI m) = upd (τ 12) p (nI m)
    rw [h2]
  · show upd (σ 10) m (nI k) = upd (τ 9) m (nI k)
    rw [h7]
  · show upd (σ 11) m w = upd (τ 10) m w
    rw [h8]
  · show upd (σ 12) m 0 = upd (τ 11) m 0
    rw [h10]
  · show IT (m + 1) (upd (σ 2) p (nI m) j)
    by_cases e : j = p
    · rw [e, upd_s]; exact Or.inr ⟨m, by omega, rfl⟩
    · rw [upd_n _ _ e]; exact (q3 j hj).mono (Nat.le_succ m)
  · show ∃ k', k' < 5 ∧ upd (σ 10) m (nI k) j = nI k'
    by_cases e : j = m
    · rw [e, upd_s]; exact ⟨k, hk, rfl⟩
    · rw [upd_n _ _ e]; exact q4 j (by omega)
  · rw [st_n _ _ _ (by omega), st_n _ _ _ (by omega), st_n _ _ _ (by omega), st_n _ _ _ (by omega), st_n _ _ _ (by omega)]
end UPD
