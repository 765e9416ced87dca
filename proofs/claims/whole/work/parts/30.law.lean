def R_law : String := "BaggageHallLaw"
def lw_P (b : Addr) (xs : List Int32) (args : Array Value) (s : State) : Prop := args = #[.ref b] ∧ s.IntsAt b xs ∧ xs.length ≤ 2560 ∧ (Jvm.Cond.and given_1 narrow_1).before args s = true
def lw_Q (_ : Array Value) (s : State) (o : Outcome) (t : State) : Prop := o = .returned (some (.int 1)) ∧ Framed s o t [] 600000 7302250
def lw_Z (below : List Frame) (a : Array Value) (s : State) : State → Prop := fun t => ∃ o, t.status = .running ∧ Ended t below o ∧ lw_Q a s o t
/-- the law's own end, with 1 on the stack, nothing written that was there before, its room as the claim has it -/
theorem lw_ret {p : Program} {l : Launch} {e : Env} {s : State} {m : MethodId} {below : List Frame} {meth : Method} {c : Code} {b : Nat} (hx : p.tables.exec = Jvm.exec) (hb : c.code = code) (hr : meth.sig.returnType = ret) (hlocks : meth.locks = false) {pc : Nat} {H : Heap} {ls : Array Slot} (hdg : decode code pc = .ok (.ireturn, 1)) : W p l e room_1 s m #[Value.ref b] below meth c H [] 600000 7302250 (lw_Z below #[Value.ref b] s) (F0 m pc ls [.int 1]) := by
  intro T hT X
  obtain ⟨fs, hret, hrun, hended, hW, hframe⟩ := X.leave (v := some (.int 1)) (hlocks := hlocks) (fun h => by rw [hr] at h; cases h)
  have hmeth' : T.vm.method? m = some meth := X.method'
  refine ⟨T.setFrames fs, ?_, .returned (some (.int 1)), hrun, hended, rfl, ⟨_, rfl⟩, hW, hframe⟩
  jvm_step X.here [X.here.top, hx, hb, hdg, hmeth', hr, ret, narrow_b1]
  (try refine ⟨rfl, ?_⟩); (try refine ⟨rfl, ?_⟩)
  first | (intro acts; rw [hret _ acts rfl rfl rfl]) | rw [hret _ _ rfl rfl rfl]
  exact Steps.refl _
/-- what holds at the law's entry: the machine, the code, the tables' words (any of lw_tbl by 'hts w (by decide +kernel)'), the script of L ints xs at the cell b, what the Statement gives of the start (any of its parts by flat_of_before) -/
def lw_At (p : Program) (s : State) (m : MethodId) (meth : Method) (c : Code) (b L : Nat) (xs : Nat → Int32) : Prop :=
  p.tables.exec = Jvm.exec ∧ c.code = code ∧ meth.sig.returnType = ret ∧ c.maxLocals = 4 ∧ s.vm.findClass R_law = some m.cls ∧ (∀ w ∈ lw_tbl, w.before #[Value.ref b] s = true) ∧ va_X b L xs s s.heap ∧ b < s.heap.size ∧ meth.locks = false ∧ (Jvm.Cond.and given_1 narrow_1).before #[Value.ref b] s = true
theorem lswp {u v : va_W} {i : Nat} {p : Nat × va_E} (h : (v ++ u)[i]? = some p) : (u ++ v)[if i < v.length then u.length + i else i - v.length]? = some p := by
  by_cases hi : i < v.length
  · rw [if_pos hi, List.getElem?_append_right (by omega)]
    rw [List.getElem?_append_left hi] at h
    rw [show u.length + i - u.length = i by omega]
    exact h
  · rw [if_neg hi]
    rw [List.getElem?_append_right (by omega)] at h
    rw [List.getElem?_append_left (List.getElem?_eq_some_iff.mp h).1]
    exact h
theorem WH.swp {D : va_G} {A : Nat → Prop} {H0 H : Heap} {locs : List Loc} {u v : va_W} (h : WH D A H0 H locs (u ++ v)) : WH D A H0 H locs (v ++ u) := by
  refine ⟨fun k x hx => h.1 _ x (lswp hx), ⟨fun i j x y hx hy e => ?_, fun k x hx => h.2.1.2 _ x (lswp hx)⟩, h.2.2⟩
  have e2 := h.2.1.1 _ _ x y (lswp hx) (lswp hy) e
  have l1 := (List.getElem?_eq_some_iff.mp hx).1
  have l2 := (List.getElem?_eq_some_iff.mp hy).1
  rw [List.length_append] at l1 l2
  by_cases h1 : i < v.length <;> by_cases h2 : j < v.length <;> simp only [h1, h2, if_true, if_false] at e2 <;> omega
theorem WH.toM {D : va_G} {A : Nat → Prop} {H0 H : Heap} {locs : List Loc} {a b c : va_W} (h : WH D A H0 H locs (a ++ (b ++ c))) : WH D A H0 H locs (c ++ (a ++ b)) := by
  rw [← List.append_assoc] at h
  exact h.swp
theorem WH.toX {D : va_G} {A : Nat → Prop} {H0 H : Heap} {locs : List Loc} {a b c : va_W} (h : WH D A H0 H locs (c ++ (a ++ b))) : WH D A H0 H locs (a ++ (b ++ c)) := by
  rw [← List.append_assoc]
  exact h.swp
theorem law_in {i L k : Nat} {c : Int32} (h : i + 5 ≤ L) (hL : L ≤ 2560) (hc : c = nI k) (hk : k < 5) : vp_in (nI i + c) L := by
  rw [hc, nI_add]
  exact vp_in_nI (by omega) (by omega)
theorem law_go {i L : Nat} (hi : i ≤ 2565) (hL : L ≤ 2560) (h : ¬ Int32.ofNat L - 5 < nI i) : i + 5 ≤ L := by
  have e : (nI L - nI 5).toInt = (L : Int) - (5 : Nat) := pk_sub_toInt (by omega) (by omega)
  have e2 : (nI i).toInt = (i : Int) := nI_toInt (by omega)
  have h2 : ¬ (nI L - nI 5).toInt < (nI i).toInt := fun z => h (Int32.lt_iff_toInt_lt.mpr z)
  rw [e, e2] at h2
  omega
set_option maxRecDepth 100000 in
set_option maxHeartbeats 4000000 in
/-- the law's loop: at its head, with i ints read, the class and the reference are in step -/
theorem law_loop {p : Program} {l : Launch} {e : Env} {s : State} {m : MethodId} {below : List Frame} {meth : Method} {c : Code} {D : va_G} {cy : CY} {b L : Nat} {xs : Nat → Int32} (hL : L ≤ 2560) (C0 : lw_At p s m meth c b L xs) (K : KK D cy s) (hB0 : BND (fun q => s.heap.size ≤ q) s s.heap) (q q' : Nat → Nat) :
    ∀ (n i : Nat) (σ ρ τ : GS), i ≤ L + 5 → L + 6 ≤ i + n → Rel σ ρ τ → ∀ (H : Heap) (locs : List Loc) (ls : Array Slot), WH D (fun q => s.heap.size ≤ q) s.heap H locs (wH cy q σ ++ (wE cy q ρ ++ wM cy q' τ)) → lv_has ls 4 [(0, .ref b), (1, .ref (q 27)), (2, .ref (q' 0)), (3, .int (nI i))] → W p l e room_1 s m #[Value.ref b] below meth c H locs 63 1024 (lw_Z below #[Value.ref b] s) (F0 m 18 ls []) := by
  obtain ⟨hx, hb, hr, hml, hown, hts, hX, hbl, hlocks, hgv⟩ := C0
  have S : CallFix p m c code 4 s #[Value.ref b] lw_tbl RL := ⟨hx, hb, hml, hown, hts⟩
  have hbA : ¬ (fun q : Nat => s.heap.size ≤ q) b := Nat.not_le.mpr hbl
  intro n
  induction n with
  | zero =>
    intro i σ ρ τ h1 h2
    exact absurd h2 (by omega)
  | succ n ih =>
    intro i σ ρ τ hi hin hrel H locs ls h hl
    refine lv_iload_n S.1 S.2.1 dL_law_18 rfl (lv_at hl 3 rfl) ?_
    refine lv_aload_n S.1 S.2.1 dL_law_19 rfl (lv_at hl 0 rfl) ?_
    refine va_slen S.1 S.2.1 hX hbl hbA h.2.2 dL_law_20 ?_
    refine lv_iconst (v := 5) S.1 S.2.1 dL_law_21 (by decide) ?_
    refine lv_isub S.1 S.2.1 dL_law_22 ?_
    refine lv_icmp_gt (tgt := 451) S.1 S.2.1 dL_law_23 (by decide) (fun _ => ?_) (fun hgo => ?_)
    · refine lv_iconst (v := 1) S.1 S.2.1 dL_law_451 (by decide) ?_
      refine va_forget (fun q hq => h.2.2.2.2 q hq) ?_
      refine W.widen (k := 600000) (n := 7302250) (Nat.le_of_ble_eq_true rfl) (Nat.le_of_ble_eq_true rfl) ?_
      exact lw_ret hx hb hr hlocks dL_law_452
    replace hgo := law_go (by omega) hL hgo
    refine lv_aload_n S.1 S.2.1 dL_law_26 rfl (lv_at hl 0 rfl) ?_
    refine lv_iload_n S.1 S.2.1 dL_law_27 rfl (lv_at hl 3 rfl) ?_
    refine va_sld S.1 S.2.1 hX hbl hbA h.2.2 (vp_in_nI (by omega) (by omega)) dL_law_28 ?_
    refine lv_bipush (v := 15) S.1 S.2.1 dL_law_29 (by decide) ?_
    refine lv_iand S.1 S.2.1 dL_law_31 ?_
    refine g_em 0 (fun c => ?_) (fun n0 => ?_)
    · refine g_sw (tgt := 92) S.1 S.2.1 dL_law_32 c rfl (by decide) (by decide) rfl (by decide) ?_
      refine lv_aload_n S.1 S.2.1 dL_law_92 rfl (lv_at hl 1 rfl) ?_
      refine lv_aload_n S.1 S.2.1 dL_law_93 rfl (lv_at hl 0 rfl) ?_
      refine lv_iload_n S.1 S.2.1 dL_law_94 rfl (lv_at hl 3 rfl) ?_
      refine lv_iconst (v := 1) S.1 S.2.1 dL_law_95 (by decide) ?_
      refine lv_iadd S.1 S.2.1 dL_law_96 ?_
      refine va_sld S.1 S.2.1 hX hbl hbA h.2.2 (law_in (k := 1) hgo hL rfl (by decide)) dL_law_97 ?_
      refine lv_aload_n S.1 S.2.1 dL_law_98 rfl (lv_at hl 0 rfl) ?_
      refine lv_iload_n S.1 S.2.1 dL_law_99 rfl (lv_at hl 3 rfl) ?_
      refine lv_iconst (v := 2) S.1 S.2.1 dL_law_100 (by decide) ?_
      refine lv_iadd S.1 S.2.1 dL_law_101 ?_
      refine va_sld S.1 S.2.1 hX hbl hbA h.2.2 (law_in (k := 2) hgo hL rfl (by decide)) dL_law_102 ?_
      refine lv_aload_n S.1 S.2.1 dL_law_103 rfl (lv_at hl 0 rfl) ?_
      refine lv_iload_n S.1 S.2.1 dL_law_104 rfl (lv_at hl 3 rfl) ?_
      refine lv_iconst (v := 3) S.1 S.2.1 dL_law_105 (by decide) ?_
      refine lv_iadd S.1 S.2.1 dL_law_106 ?_
      refine va_sld S.1 S.2.1 hX hbl hbA h.2.2 (law_in (k := 3) hgo hL rfl (by decide)) dL_law_107 ?_
      refine lv_aload_n S.1 S.2.1 dL_law_108 rfl (lv_at hl 0 rfl) ?_
      refine lv_iload_n S.1 S.2.1 dL_law_109 rfl (lv_at hl 3 rfl) ?_
      refine lv_iconst (v := 4) S.1 S.2.1 dL_law_110 (by decide) ?_
      refine lv_iadd S.1 S.2.1 dL_law_111 ?_
      refine va_sld S.1 S.2.1 hX hbl hbA h.2.2 (law_in (k := 4) hgo hL rfl (by decide)) dL_law_112 ?_
      obtain ⟨okx, okm, eqr, hrel⟩ := rel_act hrel (xs (nI i + 1).toNatClampNeg) (xs (nI i + 2).toNatClampNeg) (xs (nI i + 3).toNatClampNeg) (xs (nI i + 4).toNatClampNeg)
      refine g_calliB (ci := 5) (q0 := 27) (hB0.kept (fun a h1 h2 => h.2.2.2.1 a h1 h2)) S wz_sub K h (c_X5_act l D cy q _ _ _ _ _ _ _ _ okx) kc_X5_act km_L_13 ki_X5_act ks_X5_act kn_X5 yd_X5_act ⟨⟨Nat.le_of_ble_eq_true rfl, Nat.le_of_ble_eq_true rfl⟩, rfl, rfl, Nat.le_of_ble_eq_true rfl, Nat.le_of_ble_eq_true rfl⟩ rfl rfl rfl hl.1 (Nat.le_of_ble_eq_true rfl) rfl dL_law_113 (fun H locs h => ?_)
      refine lv_aload_n S.1 S.2.1 dL_law_116 rfl (lv_at hl 2 rfl) ?_
      refine lv_aload_n S.1 S.2.1 dL_law_117 rfl (lv_at hl 0 rfl) ?_
      refine lv_iload_n S.1 S.2.1 dL_law_118 rfl (lv_at hl 3 rfl) ?_
      refine lv_iconst (v := 1) S.1 S.2.1 dL_law_119 (by decide) ?_
      refine lv_iadd S.1 S.2.1 dL_law_120 ?_
      refine va_sld S.1 S.2.1 hX hbl hbA h.2.2 (law_in (k := 1) hgo hL rfl (by decide)) dL_law_121 ?_
      refine lv_aload_n S.1 S.2.1 dL_law_122 rfl (lv_at hl 0 rfl) ?_
      refine lv_iload_n S.1 S.2.1 dL_law_123 rfl (lv_at hl 3 rfl) ?_
      refine lv_iconst (v := 2) S.1 S.2.1 dL_law_124 (by decide) ?_
      refine lv_iadd S.1 S.2.1 dL_law_125 ?_
      refine va_sld S.1 S.2.1 hX hbl hbA h.2.2 (law_in (k := 2) hgo hL rfl (by decide)) dL_law_126 ?_
      refine lv_aload_n S.1 S.2.1 dL_law_127 rfl (lv_at hl 0 rfl) ?_
      refine lv_iload_n S.1 S.2.1 dL_law_128 rfl (lv_at hl 3 rfl) ?_
      refine lv_iconst (v := 3) S.1 S.2.1 dL_law_129 (by decide) ?_
      refine lv_iadd S.1 S.2.1 dL_law_130 ?_
      refine va_sld S.1 S.2.1 hX hbl hbA h.2.2 (law_in (k := 3) hgo hL rfl (by decide)) dL_law_131 ?_
      refine lv_aload_n S.1 S.2.1 dL_law_132 rfl (lv_at hl 0 rfl) ?_
      refine lv_iload_n S.1 S.2.1 dL_law_133 rfl (lv_at hl 3 rfl) ?_
      refine lv_iconst (v := 4) S.1 S.2.1 dL_law_134 (by decide) ?_
      refine lv_iadd S.1 S.2.1 dL_law_135 ?_
      refine va_sld S.1 S.2.1 hX hbl hbA h.2.2 (law_in (k := 4) hgo hL rfl (by decide)) dL_law_136 ?_
      refine g_calli (ci := 6) (q0 := 0) S wz_sub K h.toM (c_X6_act l D cy q' _ _ _ _ _ _ _ okm) kc_X6_act km_L_17 ki_X6_act ks_X6_act kn_X6 yd_X6_act ⟨⟨Nat.le_of_ble_eq_true rfl, Nat.le_of_ble_eq_true rfl⟩, rfl, rfl, Nat.le_of_ble_eq_true rfl, Nat.le_of_ble_eq_true rfl⟩ rfl rfl rfl hl.1 (Nat.le_of_ble_eq_true rfl) rfl dL_law_137 (fun H locs h => ?_)
      replace h := h.toX
      refine lv_icmp_eq (tgt := 445) S.1 S.2.1 dL_law_140 (by decide) (fun _ => ?_) (fun c => absurd eqr c)
      refine lv_iinc (v := nI (i + 5)) (lv' := [(3, .int _), (0, .ref _), (1, .ref _), (2, .ref _)]) S.1 S.2.1 dL_law_445 hl (k := 3) rfl (nI_add i 5) (by decide) rfl (fun ls hl => ?_)
      refine lv_goto (tgt := 18) S.1 S.2.1 dL_law_448 (by decide) ?_
      exact ih (i + 5) _ _ _ (by omega) (by omega) hrel _ _ ls h (lv_sub hl [1, 2, 3, 0] rfl)
    refine g_em 1 (fun c => ?_) (fun n1 => ?_)
    · refine g_sw (tgt := 145) S.1 S.2.1 dL_law_32 c rfl (by decide) (by decide) rfl (by decide) ?_
      refine lv_aload_n S.1 S.2.1 dL_law_145 rfl (lv_at hl 1 rfl) ?_
      refine lv_aload_n S.1 S.2.1 dL_law_146 rfl (lv_at hl 0 rfl) ?_
      refine lv_iload_n S.1 S.2.1 dL_law_147 rfl (lv_at hl 3 rfl) ?_
      refine lv_iconst (v := 1) S.1 S.2.1 dL_law_148 (by decide) ?_
      refine lv_iadd S.1 S.2.1 dL_law_149 ?_
      refine va_sld S.1 S.2.1 hX hbl hbA h.2.2 (law_in (k := 1) hgo hL rfl (by decide)) dL_law_150 ?_
      refine lv_aload_n S.1 S.2.1 dL_law_151 rfl (lv_at hl 0 rfl) ?_
      refine lv_iload_n S.1 S.2.1 dL_law_152 rfl (lv_at hl 3 rfl) ?_
      refine lv_iconst (v := 2) S.1 S.2.1 dL_law_153 (by decide) ?_
      refine lv_iadd S.1 S.2.1 dL_law_154 ?_
      refine va_sld S.1 S.2.1 hX hbl hbA h.2.2 (law_in (k := 2) hgo hL rfl (by decide)) dL_law_155 ?_
      refine lv_aload_n S.1 S.2.1 dL_law_156 rfl (lv_at hl 0 rfl) ?_
      refine lv_iload_n S.1 S.2.1 dL_law_157 rfl (lv_at hl 3 rfl) ?_
      refine lv_iconst (v := 3) S.1 S.2.1 dL_law_158 (by decide) ?_
      refine lv_iadd S.1 S.2.1 dL_law_159 ?_
      refine va_sld S.1 S.2.1 hX hbl hbA h.2.2 (law_in (k := 3) hgo hL rfl (by decide)) dL_law_160 ?_
      refine lv_aload_n S.1 S.2.1 dL_law_161 rfl (lv_at hl 0 rfl) ?_
      refine lv_iload_n S.1 S.2.1 dL_law_162 rfl (lv_at hl 3 rfl) ?_
      refine lv_iconst (v := 4) S.1 S.2.1 dL_law_163 (by decide) ?_
      refine lv_iadd S.1 S.2.1 dL_law_164 ?_
      refine va_sld S.1 S.2.1 hX hbl hbA h.2.2 (law_in (k := 4) hgo hL rfl (by decide)) dL_law_165 ?_
      obtain ⟨okx, okm, eqr, hrel⟩ := rel_guard hrel (xs (nI i + 1).toNatClampNeg) (xs (nI i + 2).toNatClampNeg) (xs (nI i + 3).toNatClampNeg) (xs (nI i + 4).toNatClampNeg)
      refine g_calli (ci := 5) (q0 := 27) S wz_sub K h (c_X5_guard l D cy q _ _ _ _ _ _ _ _ okx) kc_X5_guard km_L_18 ki_X5_guard ks_X5_guard kn_X5 yd_X5_guard ⟨⟨Nat.le_of_ble_eq_true rfl, Nat.le_of_ble_eq_true rfl⟩, rfl, rfl, Nat.le_of_ble_eq_true rfl, Nat.le_of_ble_eq_true rfl⟩ rfl rfl rfl hl.1 (Nat.le_of_ble_eq_true rfl) rfl dL_law_166 (fun H locs h => ?_)
      refine lv_aload_n S.1 S.2.1 dL_law_169 rfl (lv_at hl 2 rfl) ?_
      refine lv_aload_n S.1 S.2.1 dL_law_170 rfl (lv_at hl 0 rfl) ?_
      refine lv_iload_n S.1 S.2.1 dL_law_171 rfl (lv_at hl 3 rfl) ?_
      refine lv_iconst (v := 1) S.1 S.2.1 dL_law_172 (by decide) ?_
      refine lv_iadd S.1 S.2.1 dL_law_173 ?_
      refine va_sld S.1 S.2.1 hX hbl hbA h.2.2 (law_in (k := 1) hgo hL rfl (by decide)) dL_law_174 ?_
      refine lv_aload_n S.1 S.2.1 dL_law_175 rfl (lv_at hl 0 rfl) ?_
      refine lv_iload_n S.1 S.2.1 dL_law_176 rfl (lv_at hl 3 rfl) ?_
      refine lv_iconst (v := 2) S.1 S.2.1 dL_law_177 (by decide) ?_
      refine lv_iadd S.1 S.2.1 dL_law_178 ?_
      refine va_sld S.1 S.2.1 hX hbl hbA h.2.2 (law_in (k := 2) hgo hL rfl (by decide)) dL_law_179 ?_
      refine lv_aload_n S.1 S.2.1 dL_law_180 rfl (lv_at hl 0 rfl) ?_
      refine lv_iload_n S.1 S.2.1 dL_law_181 rfl (lv_at hl 3 rfl) ?_
      refine lv_iconst (v := 3) S.1 S.2.1 dL_law_182 (by decide) ?_
      refine lv_iadd S.1 S.2.1 dL_law_183 ?_
      refine va_sld S.1 S.2.1 hX hbl hbA h.2.2 (law_in (k := 3) hgo hL rfl (by decide)) dL_law_184 ?_
      refine lv_aload_n S.1 S.2.1 dL_law_185 rfl (lv_at hl 0 rfl) ?_
      refine lv_iload_n S.1 S.2.1 dL_law_186 rfl (lv_at hl 3 rfl) ?_
      refine lv_iconst (v := 4) S.1 S.2.1 dL_law_187 (by decide) ?_
      refine lv_iadd S.1 S.2.1 dL_law_188 ?_
      refine va_sld S.1 S.2.1 hX hbl hbA h.2.2 (law_in (k := 4) hgo hL rfl (by decide)) dL_law_189 ?_
      refine g_calli (ci := 6) (q0 := 0) S wz_sub K h.toM (c_X6_guard l D cy q' _ _ _ _ _ _ _ okm) kc_X6_guard km_L_21 ki_X6_guard ks_X6_guard kn_X6 yd_X6_guard ⟨⟨Nat.le_of_ble_eq_true rfl, Nat.le_of_ble_eq_true rfl⟩, rfl, rfl, Nat.le_of_ble_eq_true rfl, Nat.le_of_ble_eq_true rfl⟩ rfl rfl rfl hl.1 (Nat.le_of_ble_eq_true rfl) rfl dL_law_190 (fun H locs h => ?_)
      replace h := h.toX
      refine lv_icmp_eq (tgt := 445) S.1 S.2.1 dL_law_193 (by decide) (fun _ => ?_) (fun c => absurd eqr c)
      refine lv_iinc (v := nI (i + 5)) (lv' := [(3, .int _), (0, .ref _), (1, .ref _), (2, .ref _)]) S.1 S.2.1 dL_law_445 hl (k := 3) rfl (nI_add i 5) (by decide) rfl (fun ls hl => ?_)
      refine lv_goto (tgt := 18) S.1 S.2.1 dL_law_448 (by decide) ?_
      exact ih (i + 5) _ _ _ (by omega) (by omega) hrel _ _ ls h (lv_sub hl [1, 2, 3, 0] rfl)
    refine g_em 2 (fun c => ?_) (fun n2 => ?_)
    · refine g_sw (tgt := 198) S.1 S.2.1 dL_law_32 c rfl (by decide) (by decide) rfl (by decide) ?_
      refine lv_aload_n S.1 S.2.1 dL_law_198 rfl (lv_at hl 1 rfl) ?_
      obtain ⟨okx, okm, eqr, hrel⟩ := rel_clear hrel 
      refine g_calli (ci := 5) (q0 := 27) S wz_sub K h (c_X5_clear l D cy q _ _ _ _  okx) kc_X5_clear km_L_22 ki_X5_clear ks_X5_clear kn_X5 yd_X5_clear ⟨⟨Nat.le_of_ble_eq_true rfl, Nat.le_of_ble_eq_true rfl⟩, rfl, rfl, Nat.le_of_ble_eq_true rfl, Nat.le_of_ble_eq_true rfl⟩ rfl rfl rfl hl.1 (Nat.le_of_ble_eq_true rfl) rfl dL_law_199 (fun H locs h => ?_)
      refine lv_aload_n S.1 S.2.1 dL_law_202 rfl (lv_at hl 2 rfl) ?_
      refine g_calli (ci := 6) (q0 := 0) S wz_sub K h.toM (c_X6_clear l D cy q' _ _ _  okm) kc_X6_clear km_L_26 ki_X6_clear ks_X6_clear kn_X6 yd_X6_clear ⟨⟨Nat.le_of_ble_eq_true rfl, Nat.le_of_ble_eq_true rfl⟩, rfl, rfl, Nat.le_of_ble_eq_true rfl, Nat.le_of_ble_eq_true rfl⟩ rfl rfl rfl hl.1 (Nat.le_of_ble_eq_true rfl) rfl dL_law_203 (fun H locs h => ?_)
      replace h := h.toX
      refine lv_icmp_eq (tgt := 445) S.1 S.2.1 dL_law_206 (by decide) (fun _ => ?_) (fun c => absurd eqr c)
      refine lv_iinc (v := nI (i + 5)) (lv' := [(3, .int _), (0, .ref _), (1, .ref _), (2, .ref _)]) S.1 S.2.1 dL_law_445 hl (k := 3) rfl (nI_add i 5) (by decide) rfl (fun ls hl => ?_)
      refine lv_goto (tgt := 18) S.1 S.2.1 dL_law_448 (by decide) ?_
      exact ih (i + 5) _ _ _ (by omega) (by omega) hrel _ _ ls h (lv_sub hl [1, 2, 3, 0] rfl)
    refine g_em 3 (fun c => ?_) (fun n3 => ?_)
    · refine g_sw (tgt := 211) S.1 S.2.1 dL_law_32 c rfl (by decide) (by decide) rfl (by decide) ?_
      refine lv_aload_n S.1 S.2.1 dL_law_211 rfl (lv_at hl 1 rfl) ?_
      refine lv_aload_n S.1 S.2.1 dL_law_212 rfl (lv_at hl 0 rfl) ?_
      refine lv_iload_n S.1 S.2.1 dL_law_213 rfl (lv_at hl 3 rfl) ?_
      refine lv_iconst (v := 1) S.1 S.2.1 dL_law_214 (by decide) ?_
      refine lv_iadd S.1 S.2.1 dL_law_215 ?_
      refine va_sld S.1 S.2.1 hX hbl hbA h.2.2 (law_in (k := 1) hgo hL rfl (by decide)) dL_law_216 ?_
      refine lv_aload_n S.1 S.2.1 dL_law_217 rfl (lv_at hl 0 rfl) ?_
      refine lv_iload_n S.1 S.2.1 dL_law_218 rfl (lv_at hl 3 rfl) ?_
      refine lv_iconst (v := 2) S.1 S.2.1 dL_law_219 (by decide) ?_
      refine lv_iadd S.1 S.2.1 dL_law_220 ?_
      refine va_sld S.1 S.2.1 hX hbl hbA h.2.2 (law_in (k := 2) hgo hL rfl (by decide)) dL_law_221 ?_
      obtain ⟨okx, okm, eqr, hrel⟩ := rel_run hrel (xs (nI i + 1).toNatClampNeg) (xs (nI i + 2).toNatClampNeg)
      refine g_calli (ci := 5) (q0 := 27) S wz_sub K h (c_X5_run l D cy q _ _ _ _ _ _ okx) kc_X5_run km_L_27 ki_X5_run ks_X5_run kn_X5 yd_X5_run ⟨⟨Nat.le_of_ble_eq_true rfl, Nat.le_of_ble_eq_true rfl⟩, rfl, rfl, Nat.le_of_ble_eq_true rfl, Nat.le_of_ble_eq_true rfl⟩ rfl rfl rfl hl.1 (Nat.le_of_ble_eq_true rfl) rfl dL_law_222 (fun H locs h => ?_)
      refine lv_aload_n S.1 S.2.1 dL_law_225 rfl (lv_at hl 2 rfl) ?_
      refine lv_aload_n S.1 S.2.1 dL_law_226 rfl (lv_at hl 0 rfl) ?_
      refine lv_iload_n S.1 S.2.1 dL_law_227 rfl (lv_at hl 3 rfl) ?_
      refine lv_iconst (v := 1) S.1 S.2.1 dL_law_228 (by decide) ?_
      refine lv_iadd S.1 S.2.1 dL_law_229 ?_
      refine va_sld S.1 S.2.1 hX hbl hbA h.2.2 (law_in (k := 1) hgo hL rfl (by decide)) dL_law_230 ?_
      refine lv_aload_n S.1 S.2.1 dL_law_231 rfl (lv_at hl 0 rfl) ?_
      refine lv_iload_n S.1 S.2.1 dL_law_232 rfl (lv_at hl 3 rfl) ?_
      refine lv_iconst (v := 2) S.1 S.2.1 dL_law_233 (by decide) ?_
      refine lv_iadd S.1 S.2.1 dL_law_234 ?_
      refine va_sld S.1 S.2.1 hX hbl hbA h.2.2 (law_in (k := 2) hgo hL rfl (by decide)) dL_law_235 ?_
      refine g_calli (ci := 6) (q0 := 0) S wz_sub K h.toM (c_X6_run l D cy q' _ _ _ _ _ okm) kc_X6_run km_L_31 ki_X6_run ks_X6_run kn_X6 yd_X6_run ⟨⟨Nat.le_of_ble_eq_true rfl, Nat.le_of_ble_eq_true rfl⟩, rfl, rfl, Nat.le_of_ble_eq_true rfl, Nat.le_of_ble_eq_true rfl⟩ rfl rfl rfl hl.1 (Nat.le_of_ble_eq_true rfl) rfl dL_law_236 (fun H locs h => ?_)
      replace h := h.toX
      refine lv_icmp_eq (tgt := 445) S.1 S.2.1 dL_law_239 (by decide) (fun _ => ?_) (fun c => absurd eqr c)
      refine lv_iinc (v := nI (i + 5)) (lv' := [(3, .int _), (0, .ref _), (1, .ref _), (2, .ref _)]) S.1 S.2.1 dL_law_445 hl (k := 3) rfl (nI_add i 5) (by decide) rfl (fun ls hl => ?_)
      refine lv_goto (tgt := 18) S.1 S.2.1 dL_law_448 (by decide) ?_
      exact ih (i + 5) _ _ _ (by omega) (by omega) hrel _ _ ls h (lv_sub hl [1, 2, 3, 0] rfl)
    refine g_em 4 (fun c => ?_) (fun n4 => ?_)
    · refine g_sw (tgt := 244) S.1 S.2.1 dL_law_32 c rfl (by decide) (by decide) rfl (by decide) ?_
      refine lv_aload_n S.1 S.2.1 dL_law_244 rfl (lv_at hl 1 rfl) ?_
      refine lv_aload_n S.1 S.2.1 dL_law_245 rfl (lv_at hl 0 rfl) ?_
      refine lv_iload_n S.1 S.2.1 dL_law_246 rfl (lv_at hl 3 rfl) ?_
      refine lv_iconst (v := 1) S.1 S.2.1 dL_law_247 (by decide) ?_
      refine lv_iadd S.1 S.2.1 dL_law_248 ?_
      refine va_sld S.1 S.2.1 hX hbl hbA h.2.2 (law_in (k := 1) hgo hL rfl (by decide)) dL_law_249 ?_
      obtain ⟨okx, okm, eqr, hrel⟩ := rel_told hrel (xs (nI i + 1).toNatClampNeg)
      refine g_calli (ci := 5) (q0 := 27) S wz_sub K h (c_X5_told l D cy q _ _ _ _ _ okx) kc_X5_told km_L_32 ki_X5_told ks_X5_told kn_X5 yd_X5_told ⟨⟨Nat.le_of_ble_eq_true rfl, Nat.le_of_ble_eq_true rfl⟩, rfl, rfl, Nat.le_of_ble_eq_true rfl, Nat.le_of_ble_eq_true rfl⟩ rfl rfl rfl hl.1 (Nat.le_of_ble_eq_true rfl) rfl dL_law_250 (fun H locs h => ?_)
      refine lv_aload_n S.1 S.2.1 dL_law_253 rfl (lv_at hl 2 rfl) ?_
      refine lv_aload_n S.1 S.2.1 dL_law_254 rfl (lv_at hl 0 rfl) ?_
      refine lv_iload_n S.1 S.2.1 dL_law_255 rfl (lv_at hl 3 rfl) ?_
      refine lv_iconst (v := 1) S.1 S.2.1 dL_law_256 (by decide) ?_
      refine lv_iadd S.1 S.2.1 dL_law_257 ?_
      refine va_sld S.1 S.2.1 hX hbl hbA h.2.2 (law_in (k := 1) hgo hL rfl (by decide)) dL_law_258 ?_
      refine g_calli (ci := 6) (q0 := 0) S wz_sub K h.toM (c_X6_told l D cy q' _ _ _ _ okm) kc_X6_told km_L_36 ki_X6_told ks_X6_told kn_X6 yd_X6_told ⟨⟨Nat.le_of_ble_eq_true rfl, Nat.le_of_ble_eq_true rfl⟩, rfl, rfl, Nat.le_of_ble_eq_true rfl, Nat.le_of_ble_eq_true rfl⟩ rfl rfl rfl hl.1 (Nat.le_of_ble_eq_true rfl) rfl dL_law_259 (fun H locs h => ?_)
      replace h := h.toX
      refine lv_icmp_eq (tgt := 445) S.1 S.2.1 dL_law_262 (by decide) (fun _ => ?_) (fun c => absurd eqr c)
      refine lv_iinc (v := nI (i + 5)) (lv' := [(3, .int _), (0, .ref _), (1, .ref _), (2, .ref _)]) S.1 S.2.1 dL_law_445 hl (k := 3) rfl (nI_add i 5) (by decide) rfl (fun ls hl => ?_)
      refine lv_goto (tgt := 18) S.1 S.2.1 dL_law_448 (by decide) ?_
      exact ih (i + 5) _ _ _ (by omega) (by omega) hrel _ _ ls h (lv_sub hl [1, 2, 3, 0] rfl)
    refine g_em 5 (fun c => ?_) (fun n5 => ?_)
    · refine g_sw (tgt := 267) S.1 S.2.1 dL_law_32 c rfl (by decide) (by decide) rfl (by decide) ?_
      refine lv_aload_n S.1 S.2.1 dL_law_267 rfl (lv_at hl 1 rfl) ?_
      refine lv_aload_n S.1 S.2.1 dL_law_268 rfl (lv_at hl 0 rfl) ?_
      refine lv_iload_n S.1 S.2.1 dL_law_269 rfl (lv_at hl 3 rfl) ?_
      refine lv_iconst (v := 1) S.1 S.2.1 dL_law_270 (by decide) ?_
      refine lv_iadd S.1 S.2.1 dL_law_271 ?_
      refine va_sld S.1 S.2.1 hX hbl hbA h.2.2 (law_in (k := 1) hgo hL rfl (by decide)) dL_law_272 ?_
      obtain ⟨okx, okm, eqr, hrel⟩ := rel_caught hrel (xs (nI i + 1).toNatClampNeg)
      refine g_calli (ci := 5) (q0 := 27) S wz_sub K h (c_X5_caught l D cy q _ _ _ _ _ okx) kc_X5_caught km_L_37 ki_X5_caught ks_X5_caught kn_X5 yd_X5_caught ⟨⟨Nat.le_of_ble_eq_true rfl, Nat.le_of_ble_eq_true rfl⟩, rfl, rfl, Nat.le_of_ble_eq_true rfl, Nat.le_of_ble_eq_true rfl⟩ rfl rfl rfl hl.1 (Nat.le_of_ble_eq_true rfl) rfl dL_law_273 (fun H locs h => ?_)
      refine lv_aload_n S.1 S.2.1 dL_law_276 rfl (lv_at hl 2 rfl) ?_
      refine lv_aload_n S.1 S.2.1 dL_law_277 rfl (lv_at hl 0 rfl) ?_
      refine lv_iload_n S.1 S.2.1 dL_law_278 rfl (lv_at hl 3 rfl) ?_
      refine lv_iconst (v := 1) S.1 S.2.1 dL_law_279 (by decide) ?_
      refine lv_iadd S.1 S.2.1 dL_law_280 ?_
      refine va_sld S.1 S.2.1 hX hbl hbA h.2.2 (law_in (k := 1) hgo hL rfl (by decide)) dL_law_281 ?_
      refine g_calli (ci := 6) (q0 := 0) S wz_sub K h.toM (c_X6_caught l D cy q' _ _ _ _ okm) kc_X6_caught km_L_40 ki_X6_caught ks_X6_caught kn_X6 yd_X6_caught ⟨⟨Nat.le_of_ble_eq_true rfl, Nat.le_of_ble_eq_true rfl⟩, rfl, rfl, Nat.le_of_ble_eq_true rfl, Nat.le_of_ble_eq_true rfl⟩ rfl rfl rfl hl.1 (Nat.le_of_ble_eq_true rfl) rfl dL_law_282 (fun H locs h => ?_)
      replace h := h.toX
      refine lv_icmp_eq (tgt := 445) S.1 S.2.1 dL_law_285 (by decide) (fun _ => ?_) (fun c => absurd eqr c)
      refine lv_iinc (v := nI (i + 5)) (lv' := [(3, .int _), (0, .ref _), (1, .ref _), (2, .ref _)]) S.1 S.2.1 dL_law_445 hl (k := 3) rfl (nI_add i 5) (by decide) rfl (fun ls hl => ?_)
      refine lv_goto (tgt := 18) S.1 S.2.1 dL_law_448 (by decide) ?_
      exact ih (i + 5) _ _ _ (by omega) (by omega) hrel _ _ ls h (lv_sub hl [1, 2, 3, 0] rfl)
    refine g_em 6 (fun c => ?_) (fun n6 => ?_)
    · refine g_sw (tgt := 290) S.1 S.2.1 dL_law_32 c rfl (by decide) (by decide) rfl (by decide) ?_
      refine lv_aload_n S.1 S.2.1 dL_law_290 rfl (lv_at hl 1 rfl) ?_
      refine lv_aload_n S.1 S.2.1 dL_law_291 rfl (lv_at hl 0 rfl) ?_
      refine lv_iload_n S.1 S.2.1 dL_law_292 rfl (lv_at hl 3 rfl) ?_
      refine lv_iconst (v := 1) S.1 S.2.1 dL_law_293 (by decide) ?_
      refine lv_iadd S.1 S.2.1 dL_law_294 ?_
      refine va_sld S.1 S.2.1 hX hbl hbA h.2.2 (law_in (k := 1) hgo hL rfl (by decide)) dL_law_295 ?_
      obtain ⟨okx, okm, eqr, hrel⟩ := rel_register hrel (xs (nI i + 1).toNatClampNeg)
      refine g_calli (ci := 5) (q0 := 27) S wz_sub K h (c_X5_register l D cy q _ _ _ _ _ okx) kc_X5_register km_L_41 ki_X5_register ks_X5_register kn_X5 yd_X5_register ⟨⟨Nat.le_of_ble_eq_true rfl, Nat.le_of_ble_eq_true rfl⟩, rfl, rfl, Nat.le_of_ble_eq_true rfl, Nat.le_of_ble_eq_true rfl⟩ rfl rfl rfl hl.1 (Nat.le_of_ble_eq_true rfl) rfl dL_law_296 (fun H locs h => ?_)
      refine lv_aload_n S.1 S.2.1 dL_law_299 rfl (lv_at hl 2 rfl) ?_
      refine lv_aload_n S.1 S.2.1 dL_law_300 rfl (lv_at hl 0 rfl) ?_
      refine lv_iload_n S.1 S.2.1 dL_law_301 rfl (lv_at hl 3 rfl) ?_
      refine lv_iconst (v := 1) S.1 S.2.1 dL_law_302 (by decide) ?_
      refine lv_iadd S.1 S.2.1 dL_law_303 ?_
      refine va_sld S.1 S.2.1 hX hbl hbA h.2.2 (law_in (k := 1) hgo hL rfl (by decide)) dL_law_304 ?_
      refine g_calli (ci := 6) (q0 := 0) S wz_sub K h.toM (c_X6_register l D cy q' _ _ _ _ okm) kc_X6_register km_L_44 ki_X6_register ks_X6_register kn_X6 yd_X6_register ⟨⟨Nat.le_of_ble_eq_true rfl, Nat.le_of_ble_eq_true rfl⟩, rfl, rfl, Nat.le_of_ble_eq_true rfl, Nat.le_of_ble_eq_true rfl⟩ rfl rfl rfl hl.1 (Nat.le_of_ble_eq_true rfl) rfl dL_law_305 (fun H locs h => ?_)
      replace h := h.toX
      refine lv_icmp_eq (tgt := 445) S.1 S.2.1 dL_law_308 (by decide) (fun _ => ?_) (fun c => absurd eqr c)
      refine lv_iinc (v := nI (i + 5)) (lv' := [(3, .int _), (0, .ref _), (1, .ref _), (2, .ref _)]) S.1 S.2.1 dL_law_445 hl (k := 3) rfl (nI_add i 5) (by decide) rfl (fun ls hl => ?_)
      refine lv_goto (tgt := 18) S.1 S.2.1 dL_law_448 (by decide) ?_
      exact ih (i + 5) _ _ _ (by omega) (by omega) hrel _ _ ls h (lv_sub hl [1, 2, 3, 0] rfl)
    refine g_em 7 (fun c => ?_) (fun n7 => ?_)
    · refine g_sw (tgt := 313) S.1 S.2.1 dL_law_32 c rfl (by decide) (by decide) rfl (by decide) ?_
      refine lv_aload_n S.1 S.2.1 dL_law_313 rfl (lv_at hl 1 rfl) ?_
      refine lv_aload_n S.1 S.2.1 dL_law_314 rfl (lv_at hl 0 rfl) ?_
      refine lv_iload_n S.1 S.2.1 dL_law_315 rfl (lv_at hl 3 rfl) ?_
      refine lv_iconst (v := 1) S.1 S.2.1 dL_law_316 (by decide) ?_
      refine lv_iadd S.1 S.2.1 dL_law_317 ?_
      refine va_sld S.1 S.2.1 hX hbl hbA h.2.2 (law_in (k := 1) hgo hL rfl (by decide)) dL_law_318 ?_
      refine lv_aload_n S.1 S.2.1 dL_law_319 rfl (lv_at hl 0 rfl) ?_
      refine lv_iload_n S.1 S.2.1 dL_law_320 rfl (lv_at hl 3 rfl) ?_
      refine lv_iconst (v := 2) S.1 S.2.1 dL_law_321 (by decide) ?_
      refine lv_iadd S.1 S.2.1 dL_law_322 ?_
      refine va_sld S.1 S.2.1 hX hbl hbA h.2.2 (law_in (k := 2) hgo hL rfl (by decide)) dL_law_323 ?_
      obtain ⟨okx, okm, eqr, hrel⟩ := rel_item hrel (xs (nI i + 1).toNatClampNeg) (xs (nI i + 2).toNatClampNeg)
      refine g_calli (ci := 5) (q0 := 27) S wz_sub K h (c_X5_item l D cy q _ _ _ _ _ _ okx) kc_X5_item km_L_45 ki_X5_item ks_X5_item kn_X5 yd_X5_item ⟨⟨Nat.le_of_ble_eq_true rfl, Nat.le_of_ble_eq_true rfl⟩, rfl, rfl, Nat.le_of_ble_eq_true rfl, Nat.le_of_ble_eq_true rfl⟩ rfl rfl rfl hl.1 (Nat.le_of_ble_eq_true rfl) rfl dL_law_324 (fun H locs h => ?_)
      refine lv_aload_n S.1 S.2.1 dL_law_327 rfl (lv_at hl 2 rfl) ?_
      refine lv_aload_n S.1 S.2.1 dL_law_328 rfl (lv_at hl 0 rfl) ?_
      refine lv_iload_n S.1 S.2.1 dL_law_329 rfl (lv_at hl 3 rfl) ?_
      refine lv_iconst (v := 1) S.1 S.2.1 dL_law_330 (by decide) ?_
      refine lv_iadd S.1 S.2.1 dL_law_331 ?_
      refine va_sld S.1 S.2.1 hX hbl hbA h.2.2 (law_in (k := 1) hgo hL rfl (by decide)) dL_law_332 ?_
      refine lv_aload_n S.1 S.2.1 dL_law_333 rfl (lv_at hl 0 rfl) ?_
      refine lv_iload_n S.1 S.2.1 dL_law_334 rfl (lv_at hl 3 rfl) ?_
      refine lv_iconst (v := 2) S.1 S.2.1 dL_law_335 (by decide) ?_
      refine lv_iadd S.1 S.2.1 dL_law_336 ?_
      refine va_sld S.1 S.2.1 hX hbl hbA h.2.2 (law_in (k := 2) hgo hL rfl (by decide)) dL_law_337 ?_
      refine g_calli (ci := 6) (q0 := 0) S wz_sub K h.toM (c_X6_item l D cy q' _ _ _ _ _ okm) kc_X6_item km_L_48 ki_X6_item ks_X6_item kn_X6 yd_X6_item ⟨⟨Nat.le_of_ble_eq_true rfl, Nat.le_of_ble_eq_true rfl⟩, rfl, rfl, Nat.le_of_ble_eq_true rfl, Nat.le_of_ble_eq_true rfl⟩ rfl rfl rfl hl.1 (Nat.le_of_ble_eq_true rfl) rfl dL_law_338 (fun H locs h => ?_)
      replace h := h.toX
      refine lv_icmp_eq (tgt := 445) S.1 S.2.1 dL_law_341 (by decide) (fun _ => ?_) (fun c => absurd eqr c)
      refine lv_iinc (v := nI (i + 5)) (lv' := [(3, .int _), (0, .ref _), (1, .ref _), (2, .ref _)]) S.1 S.2.1 dL_law_445 hl (k := 3) rfl (nI_add i 5) (by decide) rfl (fun ls hl => ?_)
      refine lv_goto (tgt := 18) S.1 S.2.1 dL_law_448 (by decide) ?_
      exact ih (i + 5) _ _ _ (by omega) (by omega) hrel _ _ ls h (lv_sub hl [1, 2, 3, 0] rfl)
    refine g_em 8 (fun c => ?_) (fun n8 => ?_)
    · refine g_sw (tgt := 346) S.1 S.2.1 dL_law_32 c rfl (by decide) (by decide) rfl (by decide) ?_
      refine lv_aload_n S.1 S.2.1 dL_law_346 rfl (lv_at hl 1 rfl) ?_
      refine lv_aload_n S.1 S.2.1 dL_law_347 rfl (lv_at hl 0 rfl) ?_
      refine lv_iload_n S.1 S.2.1 dL_law_348 rfl (lv_at hl 3 rfl) ?_
      refine lv_iconst (v := 1) S.1 S.2.1 dL_law_349 (by decide) ?_
      refine lv_iadd S.1 S.2.1 dL_law_350 ?_
      refine va_sld S.1 S.2.1 hX hbl hbA h.2.2 (law_in (k := 1) hgo hL rfl (by decide)) dL_law_351 ?_
      refine lv_aload_n S.1 S.2.1 dL_law_352 rfl (lv_at hl 0 rfl) ?_
      refine lv_iload_n S.1 S.2.1 dL_law_353 rfl (lv_at hl 3 rfl) ?_
      refine lv_iconst (v := 2) S.1 S.2.1 dL_law_354 (by decide) ?_
      refine lv_iadd S.1 S.2.1 dL_law_355 ?_
      refine va_sld S.1 S.2.1 hX hbl hbA h.2.2 (law_in (k := 2) hgo hL rfl (by decide)) dL_law_356 ?_
      obtain ⟨okx, okm, eqr, hrel⟩ := rel_row hrel (xs (nI i + 1).toNatClampNeg) (xs (nI i + 2).toNatClampNeg)
      refine g_calli (ci := 5) (q0 := 27) S wz_sub K h (c_X5_row l D cy q _ _ _ _ _ _ okx) kc_X5_row km_L_49 ki_X5_row ks_X5_row kn_X5 yd_X5_row ⟨⟨Nat.le_of_ble_eq_true rfl, Nat.le_of_ble_eq_true rfl⟩, rfl, rfl, Nat.le_of_ble_eq_true rfl, Nat.le_of_ble_eq_true rfl⟩ rfl rfl rfl hl.1 (Nat.le_of_ble_eq_true rfl) rfl dL_law_357 (fun H locs h => ?_)
      refine lv_aload_n S.1 S.2.1 dL_law_360 rfl (lv_at hl 2 rfl) ?_
      refine lv_aload_n S.1 S.2.1 dL_law_361 rfl (lv_at hl 0 rfl) ?_
      refine lv_iload_n S.1 S.2.1 dL_law_362 rfl (lv_at hl 3 rfl) ?_
      refine lv_iconst (v := 1) S.1 S.2.1 dL_law_363 (by decide) ?_
      refine lv_iadd S.1 S.2.1 dL_law_364 ?_
      refine va_sld S.1 S.2.1 hX hbl hbA h.2.2 (law_in (k := 1) hgo hL rfl (by decide)) dL_law_365 ?_
      refine lv_aload_n S.1 S.2.1 dL_law_366 rfl (lv_at hl 0 rfl) ?_
      refine lv_iload_n S.1 S.2.1 dL_law_367 rfl (lv_at hl 3 rfl) ?_
      refine lv_iconst (v := 2) S.1 S.2.1 dL_law_368 (by decide) ?_
      refine lv_iadd S.1 S.2.1 dL_law_369 ?_
      refine va_sld S.1 S.2.1 hX hbl hbA h.2.2 (law_in (k := 2) hgo hL rfl (by decide)) dL_law_370 ?_
      refine g_calli (ci := 6) (q0 := 0) S wz_sub K h.toM (c_X6_row l D cy q' _ _ _ _ _ okm) kc_X6_row km_L_52 ki_X6_row ks_X6_row kn_X6 yd_X6_row ⟨⟨Nat.le_of_ble_eq_true rfl, Nat.le_of_ble_eq_true rfl⟩, rfl, rfl, Nat.le_of_ble_eq_true rfl, Nat.le_of_ble_eq_true rfl⟩ rfl rfl rfl hl.1 (Nat.le_of_ble_eq_true rfl) rfl dL_law_371 (fun H locs h => ?_)
      replace h := h.toX
      refine lv_icmp_eq (tgt := 445) S.1 S.2.1 dL_law_374 (by decide) (fun _ => ?_) (fun c => absurd eqr c)
      refine lv_iinc (v := nI (i + 5)) (lv' := [(3, .int _), (0, .ref _), (1, .ref _), (2, .ref _)]) S.1 S.2.1 dL_law_445 hl (k := 3) rfl (nI_add i 5) (by decide) rfl (fun ls hl => ?_)
      refine lv_goto (tgt := 18) S.1 S.2.1 dL_law_448 (by decide) ?_
      exact ih (i + 5) _ _ _ (by omega) (by omega) hrel _ _ ls h (lv_sub hl [1, 2, 3, 0] rfl)
    refine g_em 9 (fun c => ?_) (fun n9 => ?_)
    · refine g_sw (tgt := 379) S.1 S.2.1 dL_law_32 c rfl (by decide) (by decide) rfl (by decide) ?_
      refine lv_aload_n S.1 S.2.1 dL_law_379 rfl (lv_at hl 1 rfl) ?_
      refine lv_aload_n S.1 S.2.1 dL_law_380 rfl (lv_at hl 0 rfl) ?_
      refine lv_iload_n S.1 S.2.1 dL_law_381 rfl (lv_at hl 3 rfl) ?_
      refine lv_iconst (v := 1) S.1 S.2.1 dL_law_382 (by decide) ?_
      refine lv_iadd S.1 S.2.1 dL_law_383 ?_
      refine va_sld S.1 S.2.1 hX hbl hbA h.2.2 (law_in (k := 1) hgo hL rfl (by decide)) dL_law_384 ?_
      refine lv_aload_n S.1 S.2.1 dL_law_385 rfl (lv_at hl 0 rfl) ?_
      refine lv_iload_n S.1 S.2.1 dL_law_386 rfl (lv_at hl 3 rfl) ?_
      refine lv_iconst (v := 2) S.1 S.2.1 dL_law_387 (by decide) ?_
      refine lv_iadd S.1 S.2.1 dL_law_388 ?_
      refine va_sld S.1 S.2.1 hX hbl hbA h.2.2 (law_in (k := 2) hgo hL rfl (by decide)) dL_law_389 ?_
      obtain ⟨okx, okm, eqr, hrel⟩ := rel_onBelt hrel (xs (nI i + 1).toNatClampNeg) (xs (nI i + 2).toNatClampNeg)
      refine g_calli (ci := 5) (q0 := 27) S wz_sub K h (c_X5_onBelt l D cy q _ _ _ _ _ _ okx) kc_X5_onBelt km_L_53 ki_X5_onBelt ks_X5_onBelt kn_X5 yd_X5_onBelt ⟨⟨Nat.le_of_ble_eq_true rfl, Nat.le_of_ble_eq_true rfl⟩, rfl, rfl, Nat.le_of_ble_eq_true rfl, Nat.le_of_ble_eq_true rfl⟩ rfl rfl rfl hl.1 (Nat.le_of_ble_eq_true rfl) rfl dL_law_390 (fun H locs h => ?_)
      refine lv_aload_n S.1 S.2.1 dL_law_393 rfl (lv_at hl 2 rfl) ?_
      refine lv_aload_n S.1 S.2.1 dL_law_394 rfl (lv_at hl 0 rfl) ?_
      refine lv_iload_n S.1 S.2.1 dL_law_395 rfl (lv_at hl 3 rfl) ?_
      refine lv_iconst (v := 1) S.1 S.2.1 dL_law_396 (by decide) ?_
      refine lv_iadd S.1 S.2.1 dL_law_397 ?_
      refine va_sld S.1 S.2.1 hX hbl hbA h.2.2 (law_in (k := 1) hgo hL rfl (by decide)) dL_law_398 ?_
      refine lv_aload_n S.1 S.2.1 dL_law_399 rfl (lv_at hl 0 rfl) ?_
      refine lv_iload_n S.1 S.2.1 dL_law_400 rfl (lv_at hl 3 rfl) ?_
      refine lv_iconst (v := 2) S.1 S.2.1 dL_law_401 (by decide) ?_
      refine lv_iadd S.1 S.2.1 dL_law_402 ?_
      refine va_sld S.1 S.2.1 hX hbl hbA h.2.2 (law_in (k := 2) hgo hL rfl (by decide)) dL_law_403 ?_
      refine g_calli (ci := 6) (q0 := 0) S wz_sub K h.toM (c_X6_onBelt l D cy q' _ _ _ _ _ okm) kc_X6_onBelt km_L_56 ki_X6_onBelt ks_X6_onBelt kn_X6 yd_X6_onBelt ⟨⟨Nat.le_of_ble_eq_true rfl, Nat.le_of_ble_eq_true rfl⟩, rfl, rfl, Nat.le_of_ble_eq_true rfl, Nat.le_of_ble_eq_true rfl⟩ rfl rfl rfl hl.1 (Nat.le_of_ble_eq_true rfl) rfl dL_law_404 (fun H locs h => ?_)
      replace h := h.toX
      refine lv_icmp_eq (tgt := 445) S.1 S.2.1 dL_law_407 (by decide) (fun _ => ?_) (fun c => absurd eqr c)
      refine lv_iinc (v := nI (i + 5)) (lv' := [(3, .int _), (0, .ref _), (1, .ref _), (2, .ref _)]) S.1 S.2.1 dL_law_445 hl (k := 3) rfl (nI_add i 5) (by decide) rfl (fun ls hl => ?_)
      refine lv_goto (tgt := 18) S.1 S.2.1 dL_law_448 (by decide) ?_
      exact ih (i + 5) _ _ _ (by omega) (by omega) hrel _ _ ls h (lv_sub hl [1, 2, 3, 0] rfl)
    refine g_em 10 (fun c => ?_) (fun n10 => ?_)
    · refine g_sw (tgt := 412) S.1 S.2.1 dL_law_32 c rfl (by decide) (by decide) rfl (by decide) ?_
      refine lv_aload_n S.1 S.2.1 dL_law_412 rfl (lv_at hl 1 rfl) ?_
      refine lv_aload_n S.1 S.2.1 dL_law_413 rfl (lv_at hl 0 rfl) ?_
      refine lv_iload_n S.1 S.2.1 dL_law_414 rfl (lv_at hl 3 rfl) ?_
      refine lv_iconst (v := 1) S.1 S.2.1 dL_law_415 (by decide) ?_
      refine lv_iadd S.1 S.2.1 dL_law_416 ?_
      refine va_sld S.1 S.2.1 hX hbl hbA h.2.2 (law_in (k := 1) hgo hL rfl (by decide)) dL_law_417 ?_
      refine lv_aload_n S.1 S.2.1 dL_law_418 rfl (lv_at hl 0 rfl) ?_
      refine lv_iload_n S.1 S.2.1 dL_law_419 rfl (lv_at hl 3 rfl) ?_
      refine lv_iconst (v := 2) S.1 S.2.1 dL_law_420 (by decide) ?_
      refine lv_iadd S.1 S.2.1 dL_law_421 ?_
      refine va_sld S.1 S.2.1 hX hbl hbA h.2.2 (law_in (k := 2) hgo hL rfl (by decide)) dL_law_422 ?_
      obtain ⟨okx, okm, eqr, hrel⟩ := rel_counted hrel (xs (nI i + 1).toNatClampNeg) (xs (nI i + 2).toNatClampNeg)
      refine g_calli (ci := 5) (q0 := 27) S wz_sub K h (c_X5_counted l D cy q _ _ _ _ _ _ okx) kc_X5_counted km_L_57 ki_X5_counted ks_X5_counted kn_X5 yd_X5_counted ⟨⟨Nat.le_of_ble_eq_true rfl, Nat.le_of_ble_eq_true rfl⟩, rfl, rfl, Nat.le_of_ble_eq_true rfl, Nat.le_of_ble_eq_true rfl⟩ rfl rfl rfl hl.1 (Nat.le_of_ble_eq_true rfl) rfl dL_law_423 (fun H locs h => ?_)
      refine lv_aload_n S.1 S.2.1 dL_law_426 rfl (lv_at hl 2 rfl) ?_
      refine lv_aload_n S.1 S.2.1 dL_law_427 rfl (lv_at hl 0 rfl) ?_
      refine lv_iload_n S.1 S.2.1 dL_law_428 rfl (lv_at hl 3 rfl) ?_
      refine lv_iconst (v := 1) S.1 S.2.1 dL_law_429 (by decide) ?_
      refine lv_iadd S.1 S.2.1 dL_law_430 ?_
      refine va_sld S.1 S.2.1 hX hbl hbA h.2.2 (law_in (k := 1) hgo hL rfl (by decide)) dL_law_431 ?_
      refine lv_aload_n S.1 S.2.1 dL_law_432 rfl (lv_at hl 0 rfl) ?_
      refine lv_iload_n S.1 S.2.1 dL_law_433 rfl (lv_at hl 3 rfl) ?_
      refine lv_iconst (v := 2) S.1 S.2.1 dL_law_434 (by decide) ?_
      refine lv_iadd S.1 S.2.1 dL_law_435 ?_
      refine va_sld S.1 S.2.1 hX hbl hbA h.2.2 (law_in (k := 2) hgo hL rfl (by decide)) dL_law_436 ?_
      refine g_calli (ci := 6) (q0 := 0) S wz_sub K h.toM (c_X6_counted l D cy q' _ _ _ _ _ okm) kc_X6_counted km_L_60 ki_X6_counted ks_X6_counted kn_X6 yd_X6_counted ⟨⟨Nat.le_of_ble_eq_true rfl, Nat.le_of_ble_eq_true rfl⟩, rfl, rfl, Nat.le_of_ble_eq_true rfl, Nat.le_of_ble_eq_true rfl⟩ rfl rfl rfl hl.1 (Nat.le_of_ble_eq_true rfl) rfl dL_law_437 (fun H locs h => ?_)
      replace h := h.toX
      refine lv_icmp_eq (tgt := 445) S.1 S.2.1 dL_law_440 (by decide) (fun _ => ?_) (fun c => absurd eqr c)
      refine lv_iinc (v := nI (i + 5)) (lv' := [(3, .int _), (0, .ref _), (1, .ref _), (2, .ref _)]) S.1 S.2.1 dL_law_445 hl (k := 3) rfl (nI_add i 5) (by decide) rfl (fun ls hl => ?_)
      refine lv_goto (tgt := 18) S.1 S.2.1 dL_law_448 (by decide) ?_
      exact ih (i + 5) _ _ _ (by omega) (by omega) hrel _ _ ls h (lv_sub hl [1, 2, 3, 0] rfl)
    have m0 := lv_neT (a := 0) n0 rfl
    have m1 := lv_neT (a := 1) n1 rfl
    have m2 := lv_neT (a := 2) n2 rfl
    have m3 := lv_neT (a := 3) n3 rfl
    have m4 := lv_neT (a := 4) n4 rfl
    have m5 := lv_neT (a := 5) n5 rfl
    have m6 := lv_neT (a := 6) n6 rfl
    have m7 := lv_neT (a := 7) n7 rfl
    have m8 := lv_neT (a := 8) n8 rfl
    have m9 := lv_neT (a := 9) n9 rfl
    have m10 := lv_neT (a := 10) n10 rfl
    refine lv_tableOut (tgt := 445) S.1 S.2.1 dL_law_32 (by omega) (by decide) ?_
    refine lv_iinc (v := nI (i + 5)) (lv' := [(3, .int _), (0, .ref _), (1, .ref _), (2, .ref _)]) S.1 S.2.1 dL_law_445 hl (k := 3) rfl (nI_add i 5) (by decide) rfl (fun ls hl => ?_)
    refine lv_goto (tgt := 18) S.1 S.2.1 dL_law_448 (by decide) ?_
    exact ih (i + 5) _ _ _ (by omega) (by omega) hrel _ _ ls h (lv_sub hl [1, 2, 3, 0] rfl)
