theorem wz_in {ws : List Cond} (ps : List Nat) (hp : ws = ps.filterMap (fun i => lw_tbl[i]?)) (h : ws.all goodWord = true) : ∀ w ∈ ws, w ∈ wz := by
  intro w hw
  have h1 := List.all_eq_true.mp h w hw
  rw [hp] at hw
  obtain ⟨i, -, hi⟩ := List.mem_filterMap.mp hw
  exact wz_mem hi h1
theorem inX0 : ∀ w ∈ wsX00, w ∈ wz := wz_in [167, 169, 171, 173, 175, 177, 179, 181, 183] (by decide +kernel) (by decide +kernel)
theorem inX1 : ∀ w ∈ wsX10, w ∈ wz := wz_in [110, 112, 114, 116] (by decide +kernel) (by decide +kernel)
theorem inX2 : ∀ w ∈ wsX20, w ∈ wz := wz_in [66, 68, 70, 72, 74, 76, 78, 80, 82, 84] (by decide +kernel) (by decide +kernel)
theorem inX3 : ∀ w ∈ wsX30, w ∈ wz := wz_in [204, 206, 208, 210, 212, 214] (by decide +kernel) (by decide +kernel)
theorem inX4 : ∀ w ∈ wsX40, w ∈ wz := wz_in [135, 137, 139] (by decide +kernel) (by decide +kernel)
theorem inX5 : ∀ w ∈ wsX50, w ∈ wz := wz_in [220, 222, 224] (by decide +kernel) (by decide +kernel)
theorem inX6 : ∀ w ∈ wsX60, w ∈ wz := wz_in [470, 472, 474, 476, 478, 480, 482, 484, 486, 488, 490, 492, 494, 496, 498, 500, 502, 504, 506, 508, 510, 512, 514, 516, 518, 520, 522, 524, 526, 528, 530, 532, 534] (by decide +kernel) (by decide +kernel)
def nests4 : List (String × Nat × MethodName × String) := [(RX5, 9, yX2_init, RX5), (RX0, 20, yX1_init, RX5), (RX0, 47, yX4_init, RX5), (RX5, 25, yX3_init, RX5), (RX2, 43, yX5_isBelow, RX5), (RX4, 22, yX5_sizeFailure, RX5), (RX1, 25, yX5_isBelow, RX5), (RX0, 121, yX5_isOf, RX5), (RX0, 154, yX5_sizeFailure, RX5)]
/-- the links of nest mates: they stay good too, by a rule of their own -/
def nests : List Cond := nests4.map (fun q => Cond.methodLinkNest q.1 q.2.1 q.2.2.1 q.2.2.2)
def NN (U : State) : Prop := ∀ w ∈ nests, va_Nw w U
theorem NN.warm {s U : State} (hW : s.WarmedH U.vm) (h : NN s) : NN U := by
  intro w hw
  obtain ⟨q, hq, rfl⟩ := List.mem_map.mp hw
  exact va_Nw.warmM hW (h _ hw)
theorem NN.same {u U : State} (e : u.vm = U.vm) (h : NN u) : NN U := by
  intro w hw
  obtain ⟨q, hq, rfl⟩ := List.mem_map.mp hw
  exact va_Nw.same rfl e (h _ hw)
theorem nn_X5_9 : Cond.methodLinkNest RX5 9 yX2_init RX5 ∈ nests := List.mem_map.mpr ⟨(RX5, 9, yX2_init, RX5), by simp [nests4], rfl⟩
theorem nn_X0_20 : Cond.methodLinkNest RX0 20 yX1_init RX5 ∈ nests := List.mem_map.mpr ⟨(RX0, 20, yX1_init, RX5), by simp [nests4], rfl⟩
theorem nn_X0_47 : Cond.methodLinkNest RX0 47 yX4_init RX5 ∈ nests := List.mem_map.mpr ⟨(RX0, 47, yX4_init, RX5), by simp [nests4], rfl⟩
theorem nn_X5_25 : Cond.methodLinkNest RX5 25 yX3_init RX5 ∈ nests := List.mem_map.mpr ⟨(RX5, 25, yX3_init, RX5), by simp [nests4], rfl⟩
theorem nn_X2_43 : Cond.methodLinkNest RX2 43 yX5_isBelow RX5 ∈ nests := List.mem_map.mpr ⟨(RX2, 43, yX5_isBelow, RX5), by simp [nests4], rfl⟩
theorem nn_X4_22 : Cond.methodLinkNest RX4 22 yX5_sizeFailure RX5 ∈ nests := List.mem_map.mpr ⟨(RX4, 22, yX5_sizeFailure, RX5), by simp [nests4], rfl⟩
theorem nn_X1_25 : Cond.methodLinkNest RX1 25 yX5_isBelow RX5 ∈ nests := List.mem_map.mpr ⟨(RX1, 25, yX5_isBelow, RX5), by simp [nests4], rfl⟩
theorem nn_X0_121 : Cond.methodLinkNest RX0 121 yX5_isOf RX5 ∈ nests := List.mem_map.mpr ⟨(RX0, 121, yX5_isOf, RX5), by simp [nests4], rfl⟩
theorem nn_X0_154 : Cond.methodLinkNest RX0 154 yX5_sizeFailure RX5 ∈ nests := List.mem_map.mpr ⟨(RX0, 154, yX5_sizeFailure, RX5), by simp [nests4], rfl⟩
abbrev CY : Type := ClassId × ClassId × ClassId
def KK (D : va_G) (cy : CY) (U : State) : Prop := va_K D vwCl [(cy.1, .int), (cy.2.1, .boolean), (cy.2.2, .object RX4)] U ∧ NN U
theorem KK.warm {D : va_G} {cy : CY} {s U : State} (hW : s.WarmedH U.vm) (h : KK D cy s) : KK D cy U := ⟨va_K.moved hW.alike h.1, h.2.warm hW⟩
theorem KK.calling {D : va_G} {cy : CY} {U : State} {g : JFrame} {mk : MethodId} {a : Array Value} (h : KK D cy U) : KK D cy (U.calling g mk a) := ⟨va_K.moved (u := U) (U := U.calling g mk a) (Vm.Alike.refl U.vm) h.1, NN.same (u := U) (U := U.calling g mk a) rfl h.2⟩
/-- a state: rows of numbers, by their keys -/
abbrev GS : Type := Nat → Nat → Int32
def st (σ : GS) (k i : Nat) (v : Int32) : GS := va_up σ k (upd (σ k) i v)
/-- the cells of a world stand in the heap, apart, in A; since H0 nothing outside A has changed -/
def WH (D : va_G) (A : Nat → Prop) (H0 H : Heap) (locs : List Loc) (w : va_W) : Prop := va_P D vwCl w H ∧ va_D A w ∧ va_S A H0 H locs
/-- a method's start and its ends -/
def PC (D : va_G) (cy : CY) (w : va_W) (A : Nat → Prop) (av : List Value) : Array Value → State → Prop := va_Pc av (fun U => KK D cy U ∧ va_P D vwCl w U.heap ∧ va_D A w)
def QI (D : va_G) (w : va_W) (A : Nat → Prop) (r : Int32) : Array Value → State → Outcome → State → Prop := fun _ st oc t => oc = .returned (some (.int r)) ∧ va_P D vwCl w t.heap ∧ va_D A w ∧ va_F A st t
def QV (D : va_G) (w : va_W) (A : Nat → Prop) : Array Value → State → Outcome → State → Prop := fun _ st oc t => oc = .returned none ∧ va_P D vwCl w t.heap ∧ va_D A w ∧ va_F A st t
def PS (av : List Value) : Array Value → State → Prop := va_Pc av (fun U => NN U)
def QS (r : Int32) : Array Value → State → Outcome → State → Prop := fun _ st oc t => oc = .returned (some (.int r)) ∧ t.heap = st.heap
abbrev bd {α : Type} (x : Int32 × GS) (k : Int32 → GS → α) : α := k x.1 x.2
section GEN
variable {p : Program} {l : Launch} {e : Env} {R : Room} {s : State} {m : MethodId} {args : Array Value} {below : List Frame} {meth : Method} {c : Code} {H : Heap} {locs : List Loc} {cells slots : Nat} {Q : State → Prop}
variable {cc : ByteArray} {pc : Nat} {ls : Array Slot} {rest st0 : List Value} {D : va_G} {cy : CY} {A : Nat → Prop} {H0 : Heap} {nL : Nat} {own : String} {Ts : List Cond} {w w' : va_W}
variable {y : MethodName} {b : ByteArray} {maxL index n : Nat} {ret : Option FieldType} {rm : Room} {C : String} {As : List Value} {a : Nat} {r : Int32}
theorem g_ts (S : CallFix p m c cc nL s args (wm y b maxL ret) own) {w : Cond} (h : w ∈ wz) : w.before args s = true := S.2.2.2.2 w (List.mem_cons_of_mem _ h)
/-- behind a call over the caller's own world, an int answer -/
theorem g_backi (hr : va_Run p l e R s m args below meth c H locs cells slots 0 0 (F0 m pc ls st0) rest (QI D w' A r (Value.ref a :: As).toArray) A) (h : WH D A H0 H locs w) (kk : ∀ (H1 : Heap) (locs1 : List Loc), WH D A H0 H1 locs1 w' → W p l e R s m args below meth c H1 locs1 cells slots Q (F0 m (pc + 3) ls (.int r :: rest))) : W p l e R s m args below meth c H locs cells slots Q (F0 m pc ls st0) := by
  intro T hT X
  obtain ⟨v, st₀, t, T', L, h0, X', hL, e1, e2, ⟨hv, hp, hd, hz, hk⟩, sg⟩ := hr T hT X
  cases hv
  rw [h0] at hz hk
  obtain ⟨t2, a1, b1⟩ := kk T'.heap (locs ++ L) ⟨by rw [e1]; exact hp, hd, Nat.le_trans h.2.2.1 (by rw [e1]; exact hz), fun q h1 h2 => by rw [e1, hk q (Nat.lt_of_lt_of_le h1 h.2.2.1) h2]; exact h.2.2.2.1 q h1 h2, fun q hq => by
      rcases List.mem_append.mp hq with g | g
      · exact h.2.2.2.2 q g
      · exact hL q g⟩ T' rfl X'
  exact ⟨t2, sg t2 a1, b1⟩
theorem g_backv (hr : va_Run p l e R s m args below meth c H locs cells slots 0 0 (F0 m pc ls st0) rest (QV D w' A (Value.ref a :: As).toArray) A) (h : WH D A H0 H locs w) (kk : ∀ (H1 : Heap) (locs1 : List Loc), WH D A H0 H1 locs1 w' → W p l e R s m args below meth c H1 locs1 cells slots Q (F0 m (pc + 3) ls rest)) : W p l e R s m args below meth c H locs cells slots Q (F0 m pc ls st0) := by
  intro T hT X
  obtain ⟨v, st₀, t, T', L, h0, X', hL, e1, e2, ⟨hv, hp, hd, hz, hk⟩, sg⟩ := hr T hT X
  cases hv
  rw [h0] at hz hk
  obtain ⟨t2, a1, b1⟩ := kk T'.heap (locs ++ L) ⟨by rw [e1]; exact hp, hd, Nat.le_trans h.2.2.1 (by rw [e1]; exact hz), fun q h1 h2 => by rw [e1, hk q (Nat.lt_of_lt_of_le h1 h.2.2.1) h2]; exact h.2.2.2.1 q h1 h2, fun q hq => by
      rcases List.mem_append.mp hq with g | g
      · exact h.2.2.2.2 q g
      · exact hL q g⟩ T' rfl X'
  exact ⟨t2, sg t2 a1, b1⟩
theorem g_preV (K : KK D cy s) (h : WH D A H0 H locs w) {ci q0 : Nat} {q : vw_C} {fs : List Value} (hc : vwCl[ci]? = some q) (he : w[q0]? = some (a, .inr (ci, fs))) : PreV s H q.1 a (PC D cy w A (.ref a :: As)) As :=
  ⟨fun _ _ _ _ z => ⟨z.1, z.2.1.calling, z.2.2⟩, va_recv K.1 h.1 hc he, fun U hU hW => ⟨rfl, K.warm hW, by rw [hU]; exact h.1, h.2.1⟩⟩
theorem g_cw (S : CallFix p m c cc nL s args Ts own) (hT : ∀ w ∈ wz, w ∈ Ts) (kc : Cond.code y b maxL ret ∈ wz) (km : Cond.methodLink own index y ∈ wz) (ki : Cond.instanceMethod y ∈ wz) (ks : Cond.selects C y y ∈ wz) (kn : Cond.initialized C ∈ wz) (hd : y.cls = C ∧ y.cls ≠ "java/lang/invoke/MethodHandle" ∧ y.cls ≠ "java/lang/invoke/VarHandle" ∧ (parseMethodDescriptor y.desc).map (fun d => d.parameters.length) = some n) (hR : rm.frames + 1 ≤ R.frames ∧ 8 + (maxL + 11) + rm.locals ≤ R.locals) (hc : rm.cells = 0) (hs : rm.slots = 0) : CallW R s args own C index y b maxL ret (wm y b maxL ret) rm 0 0 n := by
  refine cwV n S.2.2.2.2 ?_ rfl hc hs hd hR
  intro x hx
  rcases List.mem_append.mp hx with h | h
  · have : x ∈ wz := by
      simp only [List.mem_cons, List.not_mem_nil, or_false] at h
      rcases h with rfl | rfl | rfl | rfl <;> assumption
    exact ⟨hT _ this, (wz_good _ this).2⟩
  · exact wm_good kc hT x h
/-- a call of a method of the world, an int answer -/
theorem g_calli (S : CallFix p m c cc nL s args Ts own) (hT : ∀ w ∈ wz, w ∈ Ts) (K : KK D cy s) (h : WH D A H0 H locs w) (hM : Met l y (wm y b maxL ret) rm (PC D cy w A (.ref a :: As)) (QI D w' A r) 0 0 A) (kc : Cond.code y b maxL ret ∈ wz) (km : Cond.methodLink own index y ∈ wz) (ki : Cond.instanceMethod y ∈ wz) (ks : Cond.selects C y y ∈ wz) (kn : Cond.initialized C ∈ wz) (hd : y.cls = C ∧ y.cls ≠ "java/lang/invoke/MethodHandle" ∧ y.cls ≠ "java/lang/invoke/VarHandle" ∧ (parseMethodDescriptor y.desc).map (fun d => d.parameters.length) = some n)
    (hR : (rm.frames + 1 ≤ R.frames ∧ 8 + (maxL + 11) + rm.locals ≤ R.locals) ∧ rm.cells = 0 ∧ rm.slots = 0 ∧ cells ≤ R.cells ∧ slots ≤ R.slots) {ci q0 : Nat} {T : u_T} {N : Nat} {fs : List Value} (hc : vwCl[ci]? = some (C, T, N)) (he : w[q0]? = some (a, .inr (ci, fs))) (hn : As.length = n) (hsz : ls.size = nL) (hst : (rest.map fun v => v.category).sum ≤ 8) (hstack : st0 = As.reverse ++ .ref a :: rest) (hdg : decode cc pc = .ok (.invokevirtual index, 3))
    (kk : ∀ (H1 : Heap) (locs1 : List Loc), WH D A H0 H1 locs1 w' → W p l e R s m args below meth c H1 locs1 cells slots Q (F0 m (pc + 3) ls (.int r :: rest))) : W p l e R s m args below meth c H locs cells slots Q (F0 m pc ls st0) :=
  g_backi (va_runV (rest := rest) S hM (g_cw S hT kc km ki ks kn hd hR.1 hR.2.1 hR.2.2.1) (g_preV (q := (C, T, N)) K h hc he) rfl hn hsz hstack (lv_room hst) hdg ⟨hR.2.2.2.1, hR.2.2.2.2⟩) h kk
theorem g_callv (S : CallFix p m c cc nL s args Ts own) (hT : ∀ w ∈ wz, w ∈ Ts) (K : KK D cy s) (h : WH D A H0 H locs w) (hM : Met l y (wm y b maxL ret) rm (PC D cy w A (.ref a :: As)) (QV D w' A) 0 0 A) (kc : Cond.code y b maxL ret ∈ wz) (km : Cond.methodLink own index y ∈ wz) (ki : Cond.instanceMethod y ∈ wz) (ks : Cond.selects C y y ∈ wz) (kn : Cond.initialized C ∈ wz) (hd : y.cls = C ∧ y.cls ≠ "java/lang/invoke/MethodHandle" ∧ y.cls ≠ "java/lang/invoke/VarHandle" ∧ (parseMethodDescriptor y.desc).map (fun d => d.parameters.length) = some n)
    (hR : (rm.frames + 1 ≤ R.frames ∧ 8 + (maxL + 11) + rm.locals ≤ R.locals) ∧ rm.cells = 0 ∧ rm.slots = 0 ∧ cells ≤ R.cells ∧ slots ≤ R.slots) {ci q0 : Nat} {T : u_T} {N : Nat} {fs : List Value} (hc : vwCl[ci]? = some (C, T, N)) (he : w[q0]? = some (a, .inr (ci, fs))) (hn : As.length = n) (hsz : ls.size = nL) (hst : (rest.map fun v => v.category).sum ≤ 8) (hstack : st0 = As.reverse ++ .ref a :: rest) (hdg : decode cc pc = .ok (.invokevirtual index, 3))
    (kk : ∀ (H1 : Heap) (locs1 : List Loc), WH D A H0 H1 locs1 w' → W p l e R s m args below meth c H1 locs1 cells slots Q (F0 m (pc + 3) ls rest)) : W p l e R s m args below meth c H locs cells slots Q (F0 m pc ls st0) :=
  g_backv (va_runV (rest := rest) S hM (g_cw S hT kc km ki ks kn hd hR.1 hR.2.1 hR.2.2.1) (g_preV (q := (C, T, N)) K h hc he) rfl hn hsz hstack (lv_room hst) hdg ⟨hR.2.2.2.1, hR.2.2.2.2⟩) h kk
theorem g_backs (hr : va_Run p l e R s m args below meth c H locs cells slots 0 0 (F0 m pc ls st0) rest (QS r As.toArray) (fun _ => False)) (kk : W p l e R s m args below meth c H locs cells slots Q (F0 m (pc + 3) ls (.int r :: rest))) : W p l e R s m args below meth c H locs cells slots Q (F0 m pc ls st0) := by
  intro T hT X
  obtain ⟨v, st₀, t, T', L, h0, X', hL, e1, e2, ⟨hv, hh⟩, sg⟩ := hr T hT X
  cases hv
  obtain ⟨t2, a1, b1⟩ := kk T' (by rw [e1, hh, h0]) (Stand.forget X' (fun q h => (hL q h).elim))
  exact ⟨t2, sg t2 a1, b1⟩
theorem g_preS (N : NN s) : PreS s H (PS As) As := ⟨fun a U g mk z => ⟨z.1, NN.same (u := U) (U := U.calling g mk a) rfl z.2⟩, fun _ _ hW => ⟨rfl, N.warm hW⟩⟩
/-- a call of a static method that looks at its numbers alone -/
theorem g_calls (S : CallFix p m c cc nL s args Ts own) (hT : ∀ w ∈ wz, w ∈ Ts) (N : NN s) (hM : Met l y (wm y b maxL ret) rm (PS As) (QS r) 0 0 (fun _ => False)) (kc : Cond.code y b maxL ret ∈ wz) (km : Cond.methodLink own index y ∈ wz) (kt : Cond.static y ∈ wz) (kn : Cond.initialized y.cls ∈ wz) (hd : y.cls ≠ "java/lang/invoke/MethodHandle" ∧ y.cls ≠ "java/lang/invoke/VarHandle" ∧ (parseMethodDescriptor y.desc).map (fun d => d.parameters.length) = some n)
    (hR : (rm.frames + 1 ≤ R.frames ∧ 8 + (maxL + 11) + rm.locals ≤ R.locals) ∧ rm.cells = 0 ∧ rm.slots = 0 ∧ cells ≤ R.cells ∧ slots ≤ R.slots) (hn : As.length = n) (hsz : ls.size = nL) (hst : (rest.map fun v => v.category).sum ≤ 8) (hstack : st0 = As.reverse ++ rest) (hdg : decode cc pc = .ok (.invokestatic index, 3))
    (kk : W p l e R s m args below meth c H locs cells slots Q (F0 m (pc + 3) ls (.int r :: rest))) : W p l e R s m args below meth c H locs cells slots Q (F0 m pc ls st0) := by
  refine g_backs (va_runS (rest := rest) S hM (va_cwS n S.2.2.2.2 ?_ rfl hR.2.1 hR.2.2.1 hd hR.1) (g_preS N) rfl hn hsz hstack (lv_room hst) hdg ⟨hR.2.2.2.1, hR.2.2.2.2⟩) kk
  intro x hx
  rcases List.mem_append.mp hx with h | h
  · have : x ∈ wz := by
      simp only [List.mem_cons, List.not_mem_nil, or_false] at h
      rcases h with rfl | rfl | rfl <;> assumption
    exact ⟨hT _ this, (wz_good _ this).2⟩
  · exact wm_good kc hT x h
/-- .. of a nest mate -/
theorem g_callsN {host : String} (S : CallFix p m c cc nL s args Ts own) (hT : ∀ w ∈ wz, w ∈ Ts) (N : NN s) (hM : Met l y (wm y b maxL ret) rm (PS As) (QS r) 0 0 (fun _ => False)) (kc : Cond.code y b maxL ret ∈ wz) (km : Cond.methodLinkNest own index y host ∈ nests) (kt : Cond.static y ∈ wz) (kn : Cond.initialized y.cls ∈ wz) (hd : y.cls ≠ "java/lang/invoke/MethodHandle" ∧ y.cls ≠ "java/lang/invoke/VarHandle" ∧ (parseMethodDescriptor y.desc).map (fun d => d.parameters.length) = some n)
    (hR : (rm.frames + 1 ≤ R.frames ∧ 8 + (maxL + 11) + rm.locals ≤ R.locals) ∧ rm.cells = 0 ∧ rm.slots = 0 ∧ cells ≤ R.cells ∧ slots ≤ R.slots) (hn : As.length = n) (hsz : ls.size = nL) (hst : (rest.map fun v => v.category).sum ≤ 8) (hstack : st0 = As.reverse ++ rest) (hdg : decode cc pc = .ok (.invokestatic index, 3))
    (kk : W p l e R s m args below meth c H locs cells slots Q (F0 m (pc + 3) ls (.int r :: rest))) : W p l e R s m args below meth c H locs cells slots Q (F0 m pc ls st0) :=
  g_backs (va_runSN (rest := rest) S hM ⟨va_cnB n S.2.2.2.2 (wm_good kc hT) rfl hR.2.1 hR.2.2.1 (N _ km) (S.2.2.2.2 _ (hT _ kn)) hd hR.1, S.2.2.2.2 _ (hT _ kt), trivial⟩ (g_preS N) rfl hn hsz hstack (lv_room hst) hdg ⟨hR.2.2.2.1, hR.2.2.2.2⟩) kk
/-- a method's ends -/
theorem g_reti (S : CallFix p m c cc nL s args Ts own) (hr : meth.sig.returnType = some .int) (hlocks : meth.locks = false) (h : WH D A s.heap H locs w) (hdg : decode cc pc = .ok (.ireturn, 1)) : W p l e R s m args below meth c H locs cells slots (MQ below (QI D w A r) args s cells slots A) (F0 m pc ls [.int r]) :=
  W.iret S.1 S.2.1 hr (fun t ht _ => ⟨rfl, by rw [ht]; exact h.1, h.2.1, h.2.2.F ht⟩) h.2.2.2.2 hdg hlocks
theorem g_retz (S : CallFix p m c cc nL s args Ts own) (hr : meth.sig.returnType = some .boolean) (hlocks : meth.locks = false) (h : WH D A s.heap H locs w) (hn : narrow .boolean (.int r) = .int r) (hdg : decode cc pc = .ok (.ireturn, 1)) : W p l e R s m args below meth c H locs cells slots (MQ below (QI D w A r) args s cells slots A) (F0 m pc ls [.int r]) :=
  W.zret S.1 S.2.1 hr hn (fun t ht _ => ⟨rfl, by rw [ht]; exact h.1, h.2.1, h.2.2.F ht⟩) h.2.2.2.2 hdg hlocks
theorem g_retv (S : CallFix p m c cc nL s args Ts own) (hr : meth.sig.returnType = none) (hlocks : meth.locks = false) (h : WH D A s.heap H locs w) (hdg : decode cc pc = .ok (.return_, 1)) : W p l e R s m args below meth c H locs cells slots (MQ below (QV D w A) args s cells slots A) (F0 m pc ls []) :=
  W.vret S.1 S.2.1 hr (fun t ht _ => ⟨rfl, by rw [ht]; exact h.1, h.2.1, h.2.2.F ht⟩) h.2.2.2.2 hdg hlocks
theorem g_sreti (S : CallFix p m c cc nL s args Ts own) (hr : meth.sig.returnType = some .int) (hlocks : meth.locks = false) (hdg : decode cc pc = .ok (.ireturn, 1)) : W p l e R s m args below meth c s.heap [] cells slots (MQ below (QS r) args s cells slots (fun _ => False)) (F0 m pc ls [.int r]) :=
  W.iret S.1 S.2.1 hr (fun t ht _ => ⟨rfl, ht⟩) (fun _ h => by cases h) hdg hlocks
theorem g_sretz (S : CallFix p m c cc nL s args Ts own) (hr : meth.sig.returnType = some .boolean) (hlocks : meth.locks = false) (hn : narrow .boolean (.int r) = .int r) (hdg : decode cc pc = .ok (.ireturn, 1)) : W p l e R s m args below meth c s.heap [] cells slots (MQ below (QS r) args s cells slots (fun _ => False)) (F0 m pc ls [.int r]) :=
  W.zret S.1 S.2.1 hr hn (fun t ht _ => ⟨rfl, ht⟩) (fun _ h => by cases h) hdg hlocks
/-- a table switch: the number is one of the table's -/
theorem g_sw {dflt lo hi : Int} {offs : Array Int} {len : Nat} {x : Int32} {K : Int32} {k off : Int} {tgt : Nat} (hexec : p.tables.exec = Jvm.exec) (hb : c.code = cc) (hdg : decode cc pc = .ok (.tableswitch dflt lo hi offs, len)) (hx : x = K) (hk : K.toInt = k) (h1 : ¬ k < lo) (h2 : ¬ hi < k) (ho : offs[(k - lo).toNat]? = some off) (ht : (pc : Int) + off = (tgt : Int)) (kk : W p l e R s m args below meth c H locs cells slots Q (F0 m tgt ls rest)) : W p l e R s m args below meth c H locs cells slots Q (F0 m pc ls (.int x :: rest)) := by
  subst hx
  subst hk
  exact lv_tableIn hexec hb hdg h1 h2 ho ht kk
theorem g_em (k : Int32) {x : Int32} (ht : x = k → W p l e R s m args below meth c H locs cells slots Q (F0 m pc ls (.int x :: rest))) (hf : ¬ x = k → W p l e R s m args below meth c H locs cells slots Q (F0 m pc ls (.int x :: rest))) : W p l e R s m args below meth c H locs cells slots Q (F0 m pc ls (.int x :: rest)) := (Classical.em (x = k)).elim ht hf
end GEN
/-- a method of a world, from its body -/
theorem g_met {l : Launch} {y : MethodName} {cc : ByteArray} {maxL : Nat} {ret : Option FieldType} {rm : Room} {D : va_G} {cy : CY} {w : va_W} {A : Nat → Prop} {av : List Value} {Qc : Array Value → State → Outcome → State → Prop} {lv : List (Nat × Value)} {own : String} (hy : plainName y.cls = true) (ho : y.cls = own) (hav : (lg_sl av).length ≤ maxL) (hlv : lv_args 0 av = lv)
    (body : ∀ (p : Program) (e : Env) (s : State) (m : MethodId) (below : List Frame) (meth : Method) (c : Code) (ls : Array Slot), CallFix p m c cc maxL s av.toArray (wm y cc maxL ret) own → KK D cy s → WH D A s.heap s.heap [] w → meth.sig.returnType = ret → meth.locks = false → lv_has ls maxL lv → W p l e rm s m av.toArray below meth c s.heap [] 0 0 (MQ below Qc av.toArray s 0 0 A) (F0 m 0 ls [])) : Met l y (wm y cc maxL ret) rm (PC D cy w A av) Qc 0 0 A := by
  refine Met.ofW (cc := cc) (maxL := maxL) (ret := ret) hy rfl ?_
  intro p e s m args below meth c s₁ B hml hv
  obtain ⟨rfl, K, hP, hD⟩ := hv
  rw [lg_entry_eq]
  subst hlv
  subst ho
  exact body p e s m below meth c _ ⟨B.exec, B.bytes, hml, findClass_of_methodNamed B.named, atoms_spec B.pre⟩ K ⟨hP, hD, va_S.rf⟩ B.returns B.notSynchronized (lv_entry av hav)
/-- a static method that looks at its numbers alone, from its body -/
theorem g_mets {l : Launch} {y : MethodName} {cc : ByteArray} {maxL : Nat} {ret : Option FieldType} {rm : Room} {av : List Value} {Qc : Array Value → State → Outcome → State → Prop} {lv : List (Nat × Value)} {own : String} (hy : plainName y.cls = true) (ho : y.cls = own) (hav : (lg_sl av).length ≤ maxL) (hlv : lv_args 0 av = lv)
    (body : ∀ (p : Program) (e : Env) (s : State) (m : MethodId) (below : List Frame) (meth : Method) (c : Code) (ls : Array Slot), CallFix p m c cc maxL s av.toArray (wm y cc maxL ret) own → NN s → meth.sig.returnType = ret → meth.locks = false → lv_has ls maxL lv → W p l e rm s m av.toArray below meth c s.heap [] 0 0 (MQ below Qc av.toArray s 0 0 (fun _ => False)) (F0 m 0 ls [])) : Met l y (wm y cc maxL ret) rm (PS av) Qc 0 0 (fun _ => False) := by
  refine Met.ofW (cc := cc) (maxL := maxL) (ret := ret) hy rfl ?_
  intro p e s m args below meth c s₁ B hml hv
  obtain ⟨rfl, N⟩ := hv
  rw [lg_entry_eq]
  subst hlv
  subst ho
  exact body p e s m below meth c _ ⟨B.exec, B.bytes, hml, findClass_of_methodNamed B.named, atoms_spec B.pre⟩ N B.returns B.notSynchronized (lv_entry av hav)
theorem nar0 : narrow .boolean (.int 0) = .int 0 := rfl
theorem nar1 : narrow .boolean (.int 1) = .int 1 := rfl
abbrev bd2 {α : Type} (x : Int32 × GS × GS) (k : Int32 → GS → GS → α) : α := k x.1 x.2.1 x.2.2
theorem wz_cons {c : Cond} : ∀ w ∈ wz, w ∈ c :: wz := fun _ h => List.mem_cons_of_mem _ h
/-- the three static tables of bounds -/
def bnd1 (j : Nat) : Int32 := [8, 8, 8, 4, 4, 8, 6, 4, 6, 8, 6, 6, 8, 3, 3, 6, 2, 6, 3, 3, 3, 6, 6, 41, 6].getD j 0
def bnd2 (j : Nat) : Int32 := [5, 0, 8, 5, 6, 4, 4, 0, 8, 6, 8, 8, 5, 6, 6, 3, 6, 2, 6, 0, 0, 0, 6, 0, 41].getD j 0
def bnd3 (j : Nat) : Int32 := [6, 0, 0, 6, 8, 6, 0, 0, 0, 0, 0, 0, 0, 0, 0, 6, 6, 0, 0, 0, 0, 0, 0, 0, 0].getD j 0
def BND (A : Nat → Prop) (U : State) (H : Heap) : Prop := ∃ t1 t2 t3 : Nat, va_Z RX2 "FIRST_BOUNDS" "[I" (.ref t1) A U H ∧ va_T .int t1 25 (fun j => .int (bnd1 j)) A U H ∧ va_Z RX2 "SECOND_BOUNDS" "[I" (.ref t2) A U H ∧ va_T .int t2 25 (fun j => .int (bnd2 j)) A U H ∧ va_Z RX2 "THIRD_BOUNDS" "[I" (.ref t3) A U H ∧ va_T .int t3 25 (fun j => .int (bnd3 j)) A U H
theorem BND.moved {A : Nat → Prop} {u U : State} {H : Heap} (hvm : u.vm.Alike U.vm) (h : BND A u H) : BND A U H := by
  obtain ⟨t1, t2, t3, h1, h2, h3, h4, h5, h6⟩ := h
  exact ⟨t1, t2, t3, h1.moved hvm, h2.moved hvm, h3.moved hvm, h4.moved hvm, h5.moved hvm, h6.moved hvm⟩
theorem BND.kept {A : Nat → Prop} {U : State} {H H1 : Heap} (h : BND A U H) (hq : ∀ a : Nat, a < H.size → ¬ A a → H1[a]? = H[a]?) : BND A U H1 := by
  obtain ⟨t1, t2, t3, h1, h2, h3, h4, h5, h6⟩ := h
  exact ⟨t1, t2, t3, h1.kept hq, h2.kept hq, h3.kept hq, h4.kept hq, h5.kept hq, h6.kept hq⟩
theorem BND.narrow {A B : Nat → Prop} {U : State} {H : Heap} (h : BND A U H) (hAB : ∀ q, B q → A q) : BND B U H := by
  obtain ⟨t1, t2, t3, h1, h2, h3, h4, h5, h6⟩ := h
  exact ⟨t1, t2, t3, h1.narrow hAB, h2.narrow hAB, h3.narrow hAB, h4.narrow hAB, h5.narrow hAB, h6.narrow hAB⟩
def PSB (av : List Value) : Array Value → State → Prop := va_Pc av (fun U => NN U ∧ BND (fun _ => False) U U.heap)
def PCB (D : va_G) (cy : CY) (w : va_W) (A : Nat → Prop) (av : List Value) : Array Value → State → Prop := va_Pc av (fun U => (KK D cy U ∧ va_P D vwCl w U.heap ∧ va_D A w) ∧ BND A U U.heap)
section GENB
variable {p : Program} {l : Launch} {e : Env} {R : Room} {s : State} {m : MethodId} {args : Array Value} {below : List Frame} {meth : Method} {c : Code} {H : Heap} {locs : List Loc} {cells slots : Nat} {Q : State → Prop}
variable {cc : ByteArray} {pc : Nat} {ls : Array Slot} {rest st0 : List Value} {D : va_G} {cy : CY} {A : Nat → Prop} {H0 : Heap} {nL : Nat} {own : String} {Ts : List Cond} {w w' : va_W}
variable {y : MethodName} {b : ByteArray} {maxL index n : Nat} {ret : Option FieldType} {rm : Room} {C : String} {As : List Value} {a : Nat} {r : Int32}
theorem g_preSB (N : NN s) (hB : BND A s H) : PreS s H (PSB As) As := ⟨fun a U g mk z => ⟨z.1, NN.same (u := U) (U := U.calling g mk a) rfl z.2.1, z.2.2.moved (u := U) (U := U.calling g mk a) (Vm.Alike.refl U.vm)⟩, fun U hU hW => ⟨rfl, N.warm hW, by rw [hU]; exact (hB.narrow (fun _ h => h.elim)).moved hW.alike⟩⟩
theorem g_callsB (hB : BND A s H) (S : CallFix p m c cc nL s args Ts own) (hT : ∀ w ∈ wz, w ∈ Ts) (N : NN s) (hM : Met l y (wm y b maxL ret) rm (PSB As) (QS r) 0 0 (fun _ => False)) (kc : Cond.code y b maxL ret ∈ wz) (km : Cond.methodLink own index y ∈ wz) (kt : Cond.static y ∈ wz) (kn : Cond.initialized y.cls ∈ wz) (hd : y.cls ≠ "java/lang/invoke/MethodHandle" ∧ y.cls ≠ "java/lang/invoke/VarHandle" ∧ (parseMethodDescriptor y.desc).map (fun d => d.parameters.length) = some n)
    (hR : (rm.frames + 1 ≤ R.frames ∧ 8 + (maxL + 11) + rm.locals ≤ R.locals) ∧ rm.cells = 0 ∧ rm.slots = 0 ∧ cells ≤ R.cells ∧ slots ≤ R.slots) (hn : As.length = n) (hsz : ls.size = nL) (hst : (rest.map fun v => v.category).sum ≤ 8) (hstack : st0 = As.reverse ++ rest) (hdg : decode cc pc = .ok (.invokestatic index, 3))
    (kk : W p l e R s m args below meth c H locs cells slots Q (F0 m (pc + 3) ls (.int r :: rest))) : W p l e R s m args below meth c H locs cells slots Q (F0 m pc ls st0) := by
  refine g_backs (va_runS (rest := rest) S hM (va_cwS n S.2.2.2.2 ?_ rfl hR.2.1 hR.2.2.1 hd hR.1) (g_preSB N hB) rfl hn hsz hstack (lv_room hst) hdg ⟨hR.2.2.2.1, hR.2.2.2.2⟩) kk
  intro x hx
  rcases List.mem_append.mp hx with h | h
  · have : x ∈ wz := by
      simp only [List.mem_cons, List.not_mem_nil, or_false] at h
      rcases h with rfl | rfl | rfl <;> assumption
    exact ⟨hT _ this, (wz_good _ this).2⟩
  · exact wm_good kc hT x h
theorem g_preVB (K : KK D cy s) (h : WH D A H0 H locs w) (hB : BND A s H) {ci q0 : Nat} {q : vw_C} {fs : List Value} (hc : vwCl[ci]? = some q) (he : w[q0]? = some (a, .inr (ci, fs))) : PreV s H q.1 a (PCB D cy w A (.ref a :: As)) As :=
  ⟨fun a U g mk z => ⟨z.1, ⟨z.2.1.1.calling, z.2.1.2⟩, z.2.2.moved (u := U) (U := U.calling g mk a) (Vm.Alike.refl U.vm)⟩, va_recv K.1 h.1 hc he, fun U hU hW => ⟨rfl, ⟨K.warm hW, by rw [hU]; exact h.1, h.2.1⟩, by rw [hU]; exact hB.moved hW.alike⟩⟩
theorem g_calliB (hB : BND A s H) (S : CallFix p m c cc nL s args Ts own) (hT : ∀ w ∈ wz, w ∈ Ts) (K : KK D cy s) (h : WH D A H0 H locs w) (hM : Met l y (wm y b maxL ret) rm (PCB D cy w A (.ref a :: As)) (QI D w' A r) 0 0 A) (kc : Cond.code y b maxL ret ∈ wz) (km : Cond.methodLink own index y ∈ wz) (ki : Cond.instanceMethod y ∈ wz) (ks : Cond.selects C y y ∈ wz) (kn : Cond.initialized C ∈ wz) (hd : y.cls = C ∧ y.cls ≠ "java/lang/invoke/MethodHandle" ∧ y.cls ≠ "java/lang/invoke/VarHandle" ∧ (parseMethodDescriptor y.desc).map (fun d => d.parameters.length) = some n)
    (hR : (rm.frames + 1 ≤ R.frames ∧ 8 + (maxL + 11) + rm.locals ≤ R.locals) ∧ rm.cells = 0 ∧ rm.slots = 0 ∧ cells ≤ R.cells ∧ slots ≤ R.slots) {ci q0 : Nat} {T : u_T} {N : Nat} {fs : List Value} (hc : vwCl[ci]? = some (C, T, N)) (he : w[q0]? = some (a, .inr (ci, fs))) (hn : As.length = n) (hsz : ls.size = nL) (hst : (rest.map fun v => v.category).sum ≤ 8) (hstack : st0 = As.reverse ++ .ref a :: rest) (hdg : decode cc pc = .ok (.invokevirtual index, 3))
    (kk : ∀ (H1 : Heap) (locs1 : List Loc), WH D A H0 H1 locs1 w' → W p l e R s m args below meth c H1 locs1 cells slots Q (F0 m (pc + 3) ls (.int r :: rest))) : W p l e R s m args below meth c H locs cells slots Q (F0 m pc ls st0) :=
  g_backi (va_runV (rest := rest) S hM (g_cw S hT kc km ki ks kn hd hR.1 hR.2.1 hR.2.2.1) (g_preVB (q := (C, T, N)) K h hB hc he) rfl hn hsz hstack (lv_room hst) hdg ⟨hR.2.2.2.1, hR.2.2.2.2⟩) h kk
end GENB
theorem g_metB {l : Launch} {y : MethodName} {cc : ByteArray} {maxL : Nat} {ret : Option FieldType} {rm : Room} {D : va_G} {cy : CY} {w : va_W} {A : Nat → Prop} {av : List Value} {Qc : Array Value → State → Outcome → State → Prop} {lv : List (Nat × Value)} {own : String} (hy : plainName y.cls = true) (ho : y.cls = own) (hav : (lg_sl av).length ≤ maxL) (hlv : lv_args 0 av = lv)
    (body : ∀ (p : Program) (e : Env) (s : State) (m : MethodId) (below : List Frame) (meth : Method) (c : Code) (ls : Array Slot), CallFix p m c cc maxL s av.toArray (wm y cc maxL ret) own → KK D cy s → WH D A s.heap s.heap [] w → BND A s s.heap → meth.sig.returnType = ret → meth.locks = false → lv_has ls maxL lv → W p l e rm s m av.toArray below meth c s.heap [] 0 0 (MQ below Qc av.toArray s 0 0 A) (F0 m 0 ls [])) : Met l y (wm y cc maxL ret) rm (PCB D cy w A av) Qc 0 0 A := by
  refine Met.ofW (cc := cc) (maxL := maxL) (ret := ret) hy rfl ?_
  intro p e s m args below meth c s₁ B hml hv
  obtain ⟨rfl, ⟨K, hP, hD⟩, hB⟩ := hv
  rw [lg_entry_eq]
  subst hlv
  subst ho
  exact body p e s m below meth c _ ⟨B.exec, B.bytes, hml, findClass_of_methodNamed B.named, atoms_spec B.pre⟩ K ⟨hP, hD, va_S.rf⟩ hB B.returns B.notSynchronized (lv_entry av hav)
theorem g_metsB {l : Launch} {y : MethodName} {cc : ByteArray} {maxL : Nat} {ret : Option FieldType} {rm : Room} {av : List Value} {Qc : Array Value → State → Outcome → State → Prop} {lv : List (Nat × Value)} {own : String} (hy : plainName y.cls = true) (ho : y.cls = own) (hav : (lg_sl av).length ≤ maxL) (hlv : lv_args 0 av = lv)
    (body : ∀ (p : Program) (e : Env) (s : State) (m : MethodId) (below : List Frame) (meth : Method) (c : Code) (ls : Array Slot), CallFix p m c cc maxL s av.toArray (wm y cc maxL ret) own → NN s → BND (fun _ => False) s s.heap → meth.sig.returnType = ret → meth.locks = false → lv_has ls maxL lv → W p l e rm s m av.toArray below meth c s.heap [] 0 0 (MQ below Qc av.toArray s 0 0 (fun _ => False)) (F0 m 0 ls [])) : Met l y (wm y cc maxL ret) rm (PSB av) Qc 0 0 (fun _ => False) := by
  refine Met.ofW (cc := cc) (maxL := maxL) (ret := ret) hy rfl ?_
  intro p e s m args below meth c s₁ B hml hv
  obtain ⟨rfl, N, hB⟩ := hv
  rw [lg_entry_eq]
  subst hlv
  subst ho
  exact body p e s m below meth c _ ⟨B.exec, B.bytes, hml, findClass_of_methodNamed B.named, atoms_spec B.pre⟩ N hB B.returns B.notSynchronized (lv_entry av hav)
