set_option maxRecDepth 100000 in
set_option maxHeartbeats 4000000 in
theorem law_KK {s : State} {b : Nat} (hts : ∀ w ∈ lw_tbl, w.before #[Value.ref b] s = true) : ∃ (D : va_G) (cy : CY), KK D cy s ∧ va_AO RX4 s := by
  have hz : ∀ w ∈ wz, w.before #[Value.ref b] s = true := fun w h => hts w (wz_sub w h)
  obtain ⟨c0, i0, k0⟩ := u_known (C := RX0) (T := TX0) (N := 9) hz inX0 (hz _ kh_X0)
  obtain ⟨c1, i1, k1⟩ := u_known (C := RX1) (T := TX1) (N := 4) hz inX1 (hz _ kh_X1)
  obtain ⟨c2, i2, k2⟩ := u_known (C := RX2) (T := TX2) (N := 10) hz inX2 (hz _ kh_X2)
  obtain ⟨c3, i3, k3⟩ := u_known (C := RX3) (T := TX3) (N := 6) hz inX3 (hz _ kh_X3)
  obtain ⟨c4, i4, k4⟩ := u_known (C := RX4) (T := TX4) (N := 3) hz inX4 (hz _ kh_X4)
  obtain ⟨c5, i5, k5⟩ := u_known (C := RX5) (T := TX5) (N := 3) hz inX5 (hz _ kh_X5)
  obtain ⟨c6, i6, k6⟩ := u_known (C := RX6) (T := TX6) (N := 33) hz inX6 (hz _ kh_X6)
  obtain ⟨cI, kI, compI, e1, e2, e3⟩ := Cond.arrayClass_spec (hz _ ka_int)
  obtain ⟨cZ, kZ, compZ, f1, f2, f3⟩ := Cond.arrayClass_spec (hz _ ka_boolean)
  have hover : va_AO RX4 s := va_AO.of (hts _ ka_over)
  obtain ⟨comp, cR, kR, g1, g2, g3, g4, g5⟩ := Cond.arrayOver_spec hover
  refine ⟨(fun k => [c0, c1, c2, c3, c4, c5, c6].getD k c0, fun k => [i0, i1, i2, i3, i4, i5, i6].getD k i0), (cI, cZ, cR), ⟨⟨?_, ?_⟩, ?_⟩, hover⟩
  · intro k q hq
    match k, hq with
    | 0, hq => cases hq; exact k0
    | 1, hq => cases hq; exact k1
    | 2, hq => cases hq; exact k2
    | 3, hq => cases hq; exact k3
    | 4, hq => cases hq; exact k4
    | 5, hq => cases hq; exact k5
    | 6, hq => cases hq; exact k6
    | k + 7, hq => simp [vwCl] at hq
  · intro k q hq
    match k, hq with
    | 0, hq => cases hq; exact ⟨fun n z => ⟨fun k h => (by cases h), kI, e2, compI, e3⟩, e1⟩
    | 1, hq => cases hq; exact ⟨fun n z => ⟨fun k h => (by cases h), kZ, f2, compZ, f3⟩, f1⟩
    | 2, hq => cases hq; exact ⟨fun n z => ⟨fun k h => (by cases h), kR, g3, comp, g4⟩, kR, comp, g3, g4, g1, g5⟩
    | k + 3, hq => simp at hq
  · intro w hw
    obtain ⟨z, hz4, rfl⟩ := List.mem_map.mp hw
    simp only [nests4, List.mem_cons, List.not_mem_nil, or_false] at hz4
    rcases hz4 with rfl | rfl | rfl | rfl | rfl | rfl | rfl | rfl | rfl
    · exact va_Nw.of rfl (hts _ kmn_X5_9)
    · exact va_Nw.of rfl (hts _ kmn_X0_20)
    · exact va_Nw.of rfl (hts _ kmn_X0_47)
    · exact va_Nw.of rfl (hts _ kmn_X5_25)
    · exact va_Nw.of rfl (hts _ kmn_X2_43)
    · exact va_Nw.of rfl (hts _ kmn_X4_22)
    · exact va_Nw.of rfl (hts _ kmn_X1_25)
    · exact va_Nw.of rfl (hts _ kmn_X0_121)
    · exact va_Nw.of rfl (hts _ kmn_X0_154)
set_option maxRecDepth 100000 in
set_option maxHeartbeats 4000000 in
/-- THE LAW, from its entry -/
theorem whole_start {p : Program} {e : Env} {s : State} {m : MethodId} {below : List Frame} {meth : Method} {c : Code} (l : Launch) {b L : Nat} {xs : Nat → Int32} (hL : L ≤ 2560) (C0 : lw_At p s m meth c b L xs) : W p l e room_1 s m #[Value.ref b] below meth c s.heap [] 0 0 (lw_Z below #[Value.ref b] s) (entryFrame m ([Value.ref b] : List Value).toArray 4) := by
  obtain ⟨hx, hb, hr, hml, hown, hts, hX, hbl, hlocks, hgv⟩ := id C0
  have S : CallFix p m c code 4 s #[Value.ref b] lw_tbl RL := ⟨hx, hb, hml, hown, hts⟩
  obtain ⟨D, cy, K, hAO⟩ := law_KK hts
  have hA : ∀ q : Nat, s.heap.size ≤ q → (fun q : Nat => s.heap.size ≤ q) q := fun _ h => h
  have h : WH D (fun q : Nat => s.heap.size ≤ q) s.heap s.heap [] [] := ⟨fun k q h => by simp at h, ⟨fun i j p q h => by simp at h, fun k q h => by simp at h⟩, va_S.rf⟩
  have hl := lv_entry ([.ref b]) (n := 4) (Nat.le_of_ble_eq_true rfl)
  rw [lg_entry_eq]
  generalize (lg_sl ([.ref b]) ++ List.replicate (4 - (lg_sl ([.ref b])).length) Slot.unset).toArray = ls at hl ⊢
  have hl : lv_has ls 4 [(0, .ref b)] := hl
  refine va_new (ci := 5) (fs := [.null, .null, .null]) (C := RX5) (T := TX5) (N := 3) S.1 S.2.1 S.2.2.2.2 (fun w g => wz_sub w (inX5 w g)) tyX5 tyX5_ok S.2.2.2.1 (hts _ (wz_sub _ kl_L_7)) (hts _ (wz_sub _ kh_X5)) (hts _ (wz_sub _ kn_X5)) K.1 h.1 h.2.1 h.2.2 hA rfl (fun j hj => by match j, hj with | 0, _ => rfl | 1, _ => rfl | 2, _ => rfl) (Nat.le_of_ble_eq_true rfl) (Nat.le_of_ble_eq_true rfl) dL_law_0 (fun o1 H p1 d1 s1 => ?_)
  have h : WH D (fun q : Nat => s.heap.size ≤ q) s.heap H _ [(o1, .inr (5, [.null, .null, .null]))] := ⟨p1, d1, s1⟩
  refine W.widen (k := 1) (n := 3) (Nat.le_of_ble_eq_true rfl) (Nat.le_of_ble_eq_true rfl) ?_
  refine lv_dup S.1 S.2.1 dL_law_3 rfl ?_
  refine g_callN S wz_sub K hAO h hA [0] [] (wc := [(o1, .inr (5, [.null, .null, .null]))]) (wr := []) rfl (by decide) rfl rfl (by decide) (by decide) (c_X5_init l D cy o1 _) kc_X5_init km_L_9 ki_X5_init kn_X5 rfl (yd_X5_init.2) ⟨⟨Nat.le_of_ble_eq_true rfl, Nat.le_of_ble_eq_true rfl⟩, rfl, rfl, Nat.le_of_ble_eq_true rfl, Nat.le_of_ble_eq_true rfl⟩ hl.1 (Nat.le_of_ble_eq_true rfl) dL_law_4 (fun H locs w1 hB h => ?_)
  obtain ⟨q, rfl, rfl⟩ := hB
  have h : WH D (fun q : Nat => s.heap.size ≤ q) s.heap H locs (wH cy q σH1 ++ (wE cy q ρ0 ++ [])) := h
  refine W.widen (k := 39) (n := 520) (Nat.le_of_ble_eq_true rfl) (Nat.le_of_ble_eq_true rfl) ?_
  refine lv_astore_n (lv' := [(1, .ref _), (0, .ref _)]) S.1 S.2.1 dL_law_7 rfl hl (by decide) rfl (fun ls hl => ?_)
  refine va_new (ci := 6) (fs := [.int 0, .null, .null, .null, .null, .int 0, .null, .null, .null, .null, .int 0, .null, .null, .null, .null, .null, .null, .null, .null, .null, .null, .null, .null, .null, .null, .int 0, .int 0, .int 0, .int 0, .int 0, .int 0, .int 0, .null]) (C := RX6) (T := TX6) (N := 33) S.1 S.2.1 S.2.2.2.2 (fun w g => wz_sub w (inX6 w g)) tyX6 tyX6_ok S.2.2.2.1 (hts _ (wz_sub _ kl_L_10)) (hts _ (wz_sub _ kh_X6)) (hts _ (wz_sub _ kn_X6)) K.1 h.1 h.2.1 h.2.2 hA rfl (fun j hj => by match j, hj with | 0, _ => rfl | 1, _ => rfl | 2, _ => rfl | 3, _ => rfl | 4, _ => rfl | 5, _ => rfl | 6, _ => rfl | 7, _ => rfl | 8, _ => rfl | 9, _ => rfl | 10, _ => rfl | 11, _ => rfl | 12, _ => rfl | 13, _ => rfl | 14, _ => rfl | 15, _ => rfl | 16, _ => rfl | 17, _ => rfl | 18, _ => rfl | 19, _ => rfl | 20, _ => rfl | 21, _ => rfl | 22, _ => rfl | 23, _ => rfl | 24, _ => rfl | 25, _ => rfl | 26, _ => rfl | 27, _ => rfl | 28, _ => rfl | 29, _ => rfl | 30, _ => rfl | 31, _ => rfl | 32, _ => rfl | k + 33, hk => exact absurd hk (by omega)) (Nat.le_of_ble_eq_true rfl) (Nat.le_of_ble_eq_true rfl) dL_law_8 (fun o2 H p1 d1 s1 => ?_)
  have h : WH D (fun q : Nat => s.heap.size ≤ q) s.heap H _ ((wH cy q σH1 ++ (wE cy q ρ0 ++ [])) ++ [(o2, .inr (6, [.int 0, .null, .null, .null, .null, .int 0, .null, .null, .null, .null, .int 0, .null, .null, .null, .null, .null, .null, .null, .null, .null, .null, .null, .null, .null, .null, .int 0, .int 0, .int 0, .int 0, .int 0, .int 0, .int 0, .null]))]) := ⟨p1, d1, s1⟩
  refine W.widen (k := 40) (n := 553) (Nat.le_of_ble_eq_true rfl) (Nat.le_of_ble_eq_true rfl) ?_
  refine lv_dup S.1 S.2.1 dL_law_11 rfl ?_
  refine g_callN S wz_sub K hAO h hA [39] [0, 1, 2, 3, 4, 5, 6, 7, 8, 9, 10, 11, 12, 13, 14, 15, 16, 17, 18, 19, 20, 21, 22, 23, 24, 25, 26, 27, 28, 29, 30, 31, 32, 33, 34, 35, 36, 37, 38] (wc := [(o2, .inr (6, [.int 0, .null, .null, .null, .null, .int 0, .null, .null, .null, .null, .int 0, .null, .null, .null, .null, .null, .null, .null, .null, .null, .null, .null, .null, .null, .null, .int 0, .int 0, .int 0, .int 0, .int 0, .int 0, .int 0, .null]))]) (wr := wH cy q σH1 ++ (wE cy q ρ0 ++ [])) rfl (by decide) rfl rfl (by decide) (by decide) (c_X6_init l D cy o2 _) kc_X6_init km_L_12 ki_X6_init kn_X6 rfl (yd_X6_init.2) ⟨⟨Nat.le_of_ble_eq_true rfl, Nat.le_of_ble_eq_true rfl⟩, rfl, rfl, Nat.le_of_ble_eq_true rfl, Nat.le_of_ble_eq_true rfl⟩ hl.1 (Nat.le_of_ble_eq_true rfl) dL_law_12 (fun H locs w1 hB h => ?_)
  obtain ⟨q', rfl, rfl⟩ := hB
  have h : WH D (fun q : Nat => s.heap.size ≤ q) s.heap H locs (wH cy q σH1 ++ (wE cy q ρ0 ++ wM cy q' τ1)) := h
  refine W.widen (k := 63) (n := 1024) (Nat.le_of_ble_eq_true rfl) (Nat.le_of_ble_eq_true rfl) ?_
  refine lv_astore_n (lv' := [(2, .ref _), (1, .ref _), (0, .ref _)]) S.1 S.2.1 dL_law_15 rfl hl (by decide) rfl (fun ls hl => ?_)
  refine lv_iconst (v := 0) S.1 S.2.1 dL_law_16 (by decide) ?_
  refine lv_istore_n (lv' := [(3, .int _), (2, .ref _), (1, .ref _), (0, .ref _)]) S.1 S.2.1 dL_law_17 rfl hl (by decide) rfl (fun ls hl => ?_)
  exact law_loop hL C0 K (law_bnd hts hgv) q q' (L + 6) 0 σH1 ρ0 τ1 (by omega) (by omega) rel_init _ _ ls h (lv_sub hl [3, 2, 1, 0] rfl)
