def xl_X0_firstPlaceOf_2 : Nat → GS → Int32 → Int32 → Int32 × GS
  | 0, σ, _, _ => (0, σ)
  | n + 1, σ, x1, x2 => if (8 : Int32) ≤ x2 then (-1, σ) else if (σ 2 x2.toNatClampNeg) = x1 then (x2, σ) else xl_X0_firstPlaceOf_2 n σ x1 (x2 + 1)
def xlo_X0_firstPlaceOf_2 : Nat → GS → Int32 → Int32 → Prop
  | 0, _, _, _ => False
  | n + 1, σ, x1, x2 => ((8 : Int32) ≤ x2 → True) ∧ (¬ ((8 : Int32) ≤ x2) → vp_in x2 8 ∧ (((σ 2 x2.toNatClampNeg) = x1 → True) ∧ (¬ ((σ 2 x2.toNatClampNeg) = x1) → xlo_X0_firstPlaceOf_2 n σ x1 (x2 + 1))))
set_option maxRecDepth 100000 in
set_option maxHeartbeats 4000000 in
theorem w_X0_firstPlaceOf_2 {p : Program} {l : Launch} {e : Env} {s : State} {m : MethodId} {args : Array Value} {below : List Frame} {meth : Method} {c : Code} {D : va_G} {cy : CY} {q : Nat → Nat} {ex : va_W} {A : Nat → Prop} (S : CallFix p m c cX0_firstPlaceOf 3 s args (wm yX0_firstPlaceOf cX0_firstPlaceOf 3 (some .int)) RX0) (K : KK D cy s) (hr : meth.sig.returnType = (some .int)) (hlocks : meth.locks = false) :
    ∀ (n : Nat) (σ : GS) (x1 : Int32) (x2 : Int32) (H : Heap) (locs : List Loc) (ls : Array Slot) (R : Int32 × GS), xlo_X0_firstPlaceOf_2 n σ x1 x2 → xl_X0_firstPlaceOf_2 n σ x1 x2 = R → WH D A s.heap H locs (wH cy q σ ++ ex) → lv_has ls 3 [(0, .ref (q 0)), (1, .int x1), (2, .int x2)] → W p l e ({ frames := 0, cells := 0, slots := 0, locals := 0 } : Room) s m args below meth c H locs 0 0 (MQ below (QI D (wH cy q R.2 ++ ex) A R.1) args s 0 0 A) (F0 m 2 ls []) := by
  intro n
  induction n with
  | zero =>
    intro σ x1 x2 H locs ls R hok
    exact False.elim hok
  | succ n ih =>
    intro σ x1 x2 H locs ls R hok hR h hl
    refine lv_iload_n S.1 S.2.1 dX0_firstPlaceOf_2 rfl (lv_at hl 2 rfl) ?_
    refine lv_bipush (v := 8) S.1 S.2.1 dX0_firstPlaceOf_3 (by decide) ?_
    refine lv_icmp_ge (tgt := 26) S.1 S.2.1 dX0_firstPlaceOf_5 (by decide) (fun c => ?_) (fun c => ?_)
    · replace hok := And.left hok c
      replace hR := (if_pos c).symm.trans hR
      refine lv_iconst (v := -1) S.1 S.2.1 dX0_firstPlaceOf_26 (by decide) ?_
      subst hR
      exact g_reti S hr hlocks h dX0_firstPlaceOf_27
    · replace hok := And.right hok c
      replace hR := (if_neg c).symm.trans hR
      refine lv_aload_n S.1 S.2.1 dX0_firstPlaceOf_8 rfl (lv_at hl 0 rfl) ?_
      refine fg_X0_15 S K h dX0_firstPlaceOf_9 ?_
      refine lv_iload_n S.1 S.2.1 dX0_firstPlaceOf_12 rfl (lv_at hl 2 rfl) ?_
      have k1 := And.left hok
      replace hok := And.right hok
      refine al_H2 S K h k1 dX0_firstPlaceOf_13 ?_
      refine lv_iload_n S.1 S.2.1 dX0_firstPlaceOf_14 rfl (lv_at hl 1 rfl) ?_
      refine lv_icmp_ne (tgt := 20) S.1 S.2.1 dX0_firstPlaceOf_15 (by decide) (fun c => ?_) (fun c => ?_)
      · replace hok := And.right hok c
        replace hR := (if_neg c).symm.trans hR
        refine lv_iinc (v := _ + 1) (lv' := [(2, .int _), (0, .ref _), (1, .int _)]) S.1 S.2.1 dX0_firstPlaceOf_20 hl (k := 2) rfl rfl (by decide) rfl (fun ls hl => ?_)
        refine lv_goto (tgt := 2) S.1 S.2.1 dX0_firstPlaceOf_23 (by decide) ?_
        exact ih _ _ _ _ _ _ R hok hR h (lv_sub hl [1, 2, 0] rfl)
      · replace hok := And.left hok c
        replace hR := (if_pos c).symm.trans hR
        refine lv_iload_n S.1 S.2.1 dX0_firstPlaceOf_18 rfl (lv_at hl 2 rfl) ?_
        subst hR
        exact g_reti S hr hlocks h dX0_firstPlaceOf_19
def xr_X0_firstPlaceOf (σ : GS) (a1 : Int32) : Int32 × GS := xl_X0_firstPlaceOf_2 100 σ a1 0
def xo_X0_firstPlaceOf (σ : GS) (a1 : Int32) : Prop := xlo_X0_firstPlaceOf_2 100 σ a1 0
set_option maxRecDepth 100000 in
set_option maxHeartbeats 4000000 in
theorem c_X0_firstPlaceOf (l : Launch) (D : va_G) (cy : CY) (q : Nat → Nat) (ex : va_W) (A : Nat → Prop) (σ : GS) (a1 : Int32) (hok : xo_X0_firstPlaceOf σ a1) : Met l yX0_firstPlaceOf (wm yX0_firstPlaceOf cX0_firstPlaceOf 3 (some .int)) ({ frames := 0, cells := 0, slots := 0, locals := 0 } : Room) (PC D cy (wH cy q σ ++ ex) A [.ref (q 0), .int a1]) (QI D (wH cy q (xr_X0_firstPlaceOf σ a1).2 ++ ex) A (xr_X0_firstPlaceOf σ a1).1) 0 0 A := by
  generalize hR : xr_X0_firstPlaceOf σ a1 = R
  refine g_met (lv := [(0, .ref (q 0)), (1, .int a1)]) (by decide) rfl (Nat.le_of_ble_eq_true rfl) rfl ?_
  intro p e s m below meth c ls S K h hr hlocks hl
  refine lv_iconst (v := 0) S.1 S.2.1 dX0_firstPlaceOf_0 (by decide) ?_
  refine lv_istore_n (lv' := [(2, .int _), (0, .ref _), (1, .int _)]) S.1 S.2.1 dX0_firstPlaceOf_1 rfl hl (by decide) rfl (fun ls hl => ?_)
  exact w_X0_firstPlaceOf_2  S K hr hlocks 100 _ _ _ _ _ _ R hok hR h (lv_sub hl [1, 2, 0] rfl)
def xr_X0_lineBehind (σ : GS) (a1 : Int32) (a2 : Int32) (a3 : Int32) (a4 : Int32) : Int32 × GS := if a2 = 23 then (a3, σ) else if a2 = 24 then if (1 : Int32) ≤ (σ 1 a3.toNatClampNeg) then (a1 + 1, σ) else (a4, σ) else (a1 + 1, σ)
def xo_X0_lineBehind (σ : GS) (a1 : Int32) (a2 : Int32) (a3 : Int32) (a4 : Int32) : Prop := (a2 = 23 → True) ∧ (¬ (a2 = 23) → (a2 = 24 → vp_in a3 6 ∧ (((1 : Int32) ≤ (σ 1 a3.toNatClampNeg) → True) ∧ (¬ ((1 : Int32) ≤ (σ 1 a3.toNatClampNeg)) → True))) ∧ (¬ (a2 = 24) → True))
set_option maxRecDepth 100000 in
set_option maxHeartbeats 4000000 in
theorem c_X0_lineBehind (l : Launch) (D : va_G) (cy : CY) (q : Nat → Nat) (ex : va_W) (A : Nat → Prop) (σ : GS) (a1 : Int32) (a2 : Int32) (a3 : Int32) (a4 : Int32) (hok : xo_X0_lineBehind σ a1 a2 a3 a4) : Met l yX0_lineBehind (wm yX0_lineBehind cX0_lineBehind 5 (some .int)) ({ frames := 0, cells := 0, slots := 0, locals := 0 } : Room) (PC D cy (wH cy q σ ++ ex) A [.ref (q 0), .int a1, .int a2, .int a3, .int a4]) (QI D (wH cy q (xr_X0_lineBehind σ a1 a2 a3 a4).2 ++ ex) A (xr_X0_lineBehind σ a1 a2 a3 a4).1) 0 0 A := by
  generalize hR : xr_X0_lineBehind σ a1 a2 a3 a4 = R
  refine g_met (lv := [(0, .ref (q 0)), (1, .int a1), (2, .int a2), (3, .int a3), (4, .int a4)]) (by decide) rfl (Nat.le_of_ble_eq_true rfl) rfl ?_
  intro p e s m below meth c ls S K h hr hlocks hl
  refine lv_iload_n S.1 S.2.1 dX0_lineBehind_0 rfl (lv_at hl 2 rfl) ?_
  refine lv_bipush (v := 23) S.1 S.2.1 dX0_lineBehind_1 (by decide) ?_
  refine lv_icmp_ne (tgt := 8) S.1 S.2.1 dX0_lineBehind_3 (by decide) (fun c => ?_) (fun c => ?_)
  · replace hok := And.right hok c
    replace hR := (if_neg c).symm.trans hR
    refine lv_iload_n S.1 S.2.1 dX0_lineBehind_8 rfl (lv_at hl 2 rfl) ?_
    refine lv_bipush (v := 24) S.1 S.2.1 dX0_lineBehind_9 (by decide) ?_
    refine lv_icmp_ne (tgt := 29) S.1 S.2.1 dX0_lineBehind_11 (by decide) (fun c => ?_) (fun c => ?_)
    · replace hok := And.right hok c
      replace hR := (if_neg c).symm.trans hR
      refine lv_iload_n S.1 S.2.1 dX0_lineBehind_29 rfl (lv_at hl 1 rfl) ?_
      refine lv_iconst (v := 1) S.1 S.2.1 dX0_lineBehind_30 (by decide) ?_
      refine lv_iadd S.1 S.2.1 dX0_lineBehind_31 ?_
      subst hR
      exact g_reti S hr hlocks h dX0_lineBehind_32
    · replace hok := And.left hok c
      replace hR := (if_pos c).symm.trans hR
      refine lv_aload_n S.1 S.2.1 dX0_lineBehind_14 rfl (lv_at hl 0 rfl) ?_
      refine fg_X0_9 S K h dX0_lineBehind_15 ?_
      refine lv_iload_n S.1 S.2.1 dX0_lineBehind_18 rfl (lv_at hl 3 rfl) ?_
      have k1 := And.left hok
      replace hok := And.right hok
      refine al_H1 S K h k1 dX0_lineBehind_19 ?_
      refine lv_iconst (v := 1) S.1 S.2.1 dX0_lineBehind_20 (by decide) ?_
      refine lv_icmp_ge (tgt := 29) S.1 S.2.1 dX0_lineBehind_21 (by decide) (fun c => ?_) (fun c => ?_)
      · replace hok := And.left hok c
        replace hR := (if_pos c).symm.trans hR
        refine lv_iload_n S.1 S.2.1 dX0_lineBehind_29 rfl (lv_at hl 1 rfl) ?_
        refine lv_iconst (v := 1) S.1 S.2.1 dX0_lineBehind_30 (by decide) ?_
        refine lv_iadd S.1 S.2.1 dX0_lineBehind_31 ?_
        subst hR
        exact g_reti S hr hlocks h dX0_lineBehind_32
      · replace hok := And.right hok c
        replace hR := (if_neg c).symm.trans hR
        refine lv_iload S.1 S.2.1 dX0_lineBehind_24 (lv_at hl 4 rfl) ?_
        refine lv_goto (tgt := 32) S.1 S.2.1 dX0_lineBehind_26 (by decide) ?_
        subst hR
        exact g_reti S hr hlocks h dX0_lineBehind_32
  · replace hok := And.left hok c
    replace hR := (if_pos c).symm.trans hR
    refine lv_iload_n S.1 S.2.1 dX0_lineBehind_6 rfl (lv_at hl 3 rfl) ?_
    subst hR
    exact g_reti S hr hlocks h dX0_lineBehind_7
def xl_X0_begin_123 : Nat → GS → Int32 → Int32 → Int32 × GS
  | 0, σ, _, _ => (0, σ)
  | n + 1, σ, x1, x2 => if (3 : Int32) ≤ x2 then (0, σ) else xl_X0_begin_123 n (st σ 5 x2.toNatClampNeg (vp_nar .boolean 0)) x1 (x2 + 1)
def xlo_X0_begin_123 : Nat → GS → Int32 → Int32 → Prop
  | 0, _, _, _ => False
  | n + 1, σ, x1, x2 => ((3 : Int32) ≤ x2 → True) ∧ (¬ ((3 : Int32) ≤ x2) → vp_in x2 3 ∧ (xlo_X0_begin_123 n (st σ 5 x2.toNatClampNeg (vp_nar .boolean 0)) x1 (x2 + 1)))
set_option maxRecDepth 100000 in
set_option maxHeartbeats 4000000 in
theorem w_X0_begin_123 {p : Program} {l : Launch} {e : Env} {s : State} {m : MethodId} {args : Array Value} {below : List Frame} {meth : Method} {c : Code} {D : va_G} {cy : CY} {q : Nat → Nat} {ex : va_W} {A : Nat → Prop} (S : CallFix p m c cX0_begin 3 s args (wm yX0_begin cX0_begin 3 none) RX0) (K : KK D cy s) (hr : meth.sig.returnType = none) (hlocks : meth.locks = false) :
    ∀ (n : Nat) (σ : GS) (x1 : Int32) (x2 : Int32) (H : Heap) (locs : List Loc) (ls : Array Slot) (R : Int32 × GS), xlo_X0_begin_123 n σ x1 x2 → xl_X0_begin_123 n σ x1 x2 = R → WH D A s.heap H locs (wH cy q σ ++ ex) → lv_has ls 3 [(0, .ref (q 0)), (1, .int x1), (2, .int x2)] → W p l e ({ frames := 1, cells := 0, slots := 0, locals := 20 } : Room) s m args below meth c H locs 0 0 (MQ below (QV D (wH cy q R.2 ++ ex) A) args s 0 0 A) (F0 m 123 ls []) := by
  intro n
  induction n with
  | zero =>
    intro σ x1 x2 H locs ls R hok
    exact False.elim hok
  | succ n ih =>
    intro σ x1 x2 H locs ls R hok hR h hl
    refine lv_iload_n S.1 S.2.1 dX0_begin_123 rfl (lv_at hl 2 rfl) ?_
    refine lv_iconst (v := 3) S.1 S.2.1 dX0_begin_124 (by decide) ?_
    refine lv_icmp_ge (tgt := 141) S.1 S.2.1 dX0_begin_125 (by decide) (fun c => ?_) (fun c => ?_)
    · replace hok := And.left hok c
      replace hR := (if_pos c).symm.trans hR
      subst hR
      exact g_retv S hr hlocks h dX0_begin_141
    · replace hok := And.right hok c
      replace hR := (if_neg c).symm.trans hR
      refine lv_aload_n S.1 S.2.1 dX0_begin_128 rfl (lv_at hl 0 rfl) ?_
      refine fg_X0_40 S K h dX0_begin_129 ?_
      refine lv_iload_n S.1 S.2.1 dX0_begin_132 rfl (lv_at hl 2 rfl) ?_
      refine lv_iconst (v := 0) S.1 S.2.1 dX0_begin_133 (by decide) ?_
      have k2 := And.left hok
      replace hok := And.right hok
      refine as_H5 S K h k2 dX0_begin_134 (fun H locs h => ?_)
      refine lv_iinc (v := _ + 1) (lv' := [(2, .int _), (0, .ref _), (1, .int _)]) S.1 S.2.1 dX0_begin_135 hl (k := 2) rfl rfl (by decide) rfl (fun ls hl => ?_)
      refine lv_goto (tgt := 123) S.1 S.2.1 dX0_begin_138 (by decide) ?_
      exact ih _ _ _ _ _ _ R hok hR h (lv_sub hl [1, 2, 0] rfl)
def xl_X0_begin_103 : Nat → GS → Int32 → Int32 → Int32 × GS
  | 0, σ, _, _ => (0, σ)
  | n + 1, σ, x1, x2 => if (2 : Int32) ≤ x2 then xl_X0_begin_123 100 σ x1 0 else xl_X0_begin_103 n (st σ 3 x2.toNatClampNeg (-1)) x1 (x2 + 1)
def xlo_X0_begin_103 : Nat → GS → Int32 → Int32 → Prop
  | 0, _, _, _ => False
  | n + 1, σ, x1, x2 => ((2 : Int32) ≤ x2 → xlo_X0_begin_123 100 σ x1 0) ∧ (¬ ((2 : Int32) ≤ x2) → vp_in x2 2 ∧ (xlo_X0_begin_103 n (st σ 3 x2.toNatClampNeg (-1)) x1 (x2 + 1)))
set_option maxRecDepth 100000 in
set_option maxHeartbeats 4000000 in
theorem w_X0_begin_103 {p : Program} {l : Launch} {e : Env} {s : State} {m : MethodId} {args : Array Value} {below : List Frame} {meth : Method} {c : Code} {D : va_G} {cy : CY} {q : Nat → Nat} {ex : va_W} {A : Nat → Prop} (S : CallFix p m c cX0_begin 3 s args (wm yX0_begin cX0_begin 3 none) RX0) (K : KK D cy s) (hr : meth.sig.returnType = none) (hlocks : meth.locks = false) :
    ∀ (n : Nat) (σ : GS) (x1 : Int32) (x2 : Int32) (H : Heap) (locs : List Loc) (ls : Array Slot) (R : Int32 × GS), xlo_X0_begin_103 n σ x1 x2 → xl_X0_begin_103 n σ x1 x2 = R → WH D A s.heap H locs (wH cy q σ ++ ex) → lv_has ls 3 [(0, .ref (q 0)), (1, .int x1), (2, .int x2)] → W p l e ({ frames := 1, cells := 0, slots := 0, locals := 20 } : Room) s m args below meth c H locs 0 0 (MQ below (QV D (wH cy q R.2 ++ ex) A) args s 0 0 A) (F0 m 103 ls []) := by
  intro n
  induction n with
  | zero =>
    intro σ x1 x2 H locs ls R hok
    exact False.elim hok
  | succ n ih =>
    intro σ x1 x2 H locs ls R hok hR h hl
    refine lv_iload_n S.1 S.2.1 dX0_begin_103 rfl (lv_at hl 2 rfl) ?_
    refine lv_iconst (v := 2) S.1 S.2.1 dX0_begin_104 (by decide) ?_
    refine lv_icmp_ge (tgt := 121) S.1 S.2.1 dX0_begin_105 (by decide) (fun c => ?_) (fun c => ?_)
    · replace hok := And.left hok c
      replace hR := (if_pos c).symm.trans hR
      refine lv_iconst (v := 0) S.1 S.2.1 dX0_begin_121 (by decide) ?_
      refine lv_istore_n (lv' := [(2, .int _), (0, .ref _), (1, .int _)]) S.1 S.2.1 dX0_begin_122 rfl hl (by decide) rfl (fun ls hl => ?_)
      exact w_X0_begin_123  S K hr hlocks 100 _ _ _ _ _ _ R hok hR h (lv_sub hl [1, 2, 0] rfl)
    · replace hok := And.right hok c
      replace hR := (if_neg c).symm.trans hR
      refine lv_aload_n S.1 S.2.1 dX0_begin_108 rfl (lv_at hl 0 rfl) ?_
      refine fg_X0_34 S K h dX0_begin_109 ?_
      refine lv_iload_n S.1 S.2.1 dX0_begin_112 rfl (lv_at hl 2 rfl) ?_
      refine lv_iconst (v := -1) S.1 S.2.1 dX0_begin_113 (by decide) ?_
      have k3 := And.left hok
      replace hok := And.right hok
      refine as_H3 S K h k3 dX0_begin_114 (fun H locs h => ?_)
      refine lv_iinc (v := _ + 1) (lv' := [(2, .int _), (0, .ref _), (1, .int _)]) S.1 S.2.1 dX0_begin_115 hl (k := 2) rfl rfl (by decide) rfl (fun ls hl => ?_)
      refine lv_goto (tgt := 103) S.1 S.2.1 dX0_begin_118 (by decide) ?_
      exact ih _ _ _ _ _ _ R hok hR h (lv_sub hl [1, 2, 0] rfl)
def xl_X0_begin_81 : Nat → GS → Int32 → Int32 → Int32 × GS
  | 0, σ, _, _ => (0, σ)
  | n + 1, σ, x1, x2 => if (3 : Int32) ≤ x2 then xl_X0_begin_103 100 σ x1 0 else bd (xr_X4_remove σ (4 + x2.toNatClampNeg)) (fun v5 σ7 => xl_X0_begin_81 n σ7 x1 (x2 + 1))
def xlo_X0_begin_81 : Nat → GS → Int32 → Int32 → Prop
  | 0, _, _, _ => False
  | n + 1, σ, x1, x2 => ((3 : Int32) ≤ x2 → xlo_X0_begin_103 100 σ x1 0) ∧ (¬ ((3 : Int32) ≤ x2) → vp_in x2 3 ∧ ((xo_X4_remove σ (4 + x2.toNatClampNeg)) ∧ bd (xr_X4_remove σ (4 + x2.toNatClampNeg)) (fun v5 σ7 => xlo_X0_begin_81 n σ7 x1 (x2 + 1))))
set_option maxRecDepth 100000 in
set_option maxHeartbeats 4000000 in
theorem w_X0_begin_81 {p : Program} {l : Launch} {e : Env} {s : State} {m : MethodId} {args : Array Value} {below : List Frame} {meth : Method} {c : Code} {D : va_G} {cy : CY} {q : Nat → Nat} {ex : va_W} {A : Nat → Prop} (S : CallFix p m c cX0_begin 3 s args (wm yX0_begin cX0_begin 3 none) RX0) (K : KK D cy s) (hr : meth.sig.returnType = none) (hlocks : meth.locks = false) :
    ∀ (n : Nat) (σ : GS) (x1 : Int32) (x2 : Int32) (H : Heap) (locs : List Loc) (ls : Array Slot) (R : Int32 × GS), xlo_X0_begin_81 n σ x1 x2 → xl_X0_begin_81 n σ x1 x2 = R → WH D A s.heap H locs (wH cy q σ ++ ex) → lv_has ls 3 [(0, .ref (q 0)), (1, .int x1), (2, .int x2)] → W p l e ({ frames := 1, cells := 0, slots := 0, locals := 20 } : Room) s m args below meth c H locs 0 0 (MQ below (QV D (wH cy q R.2 ++ ex) A) args s 0 0 A) (F0 m 81 ls []) := by
  intro n
  induction n with
  | zero =>
    intro σ x1 x2 H locs ls R hok
    exact False.elim hok
  | succ n ih =>
    intro σ x1 x2 H locs ls R hok hR h hl
    refine lv_iload_n S.1 S.2.1 dX0_begin_81 rfl (lv_at hl 2 rfl) ?_
    refine lv_iconst (v := 3) S.1 S.2.1 dX0_begin_82 (by decide) ?_
    refine lv_icmp_ge (tgt := 101) S.1 S.2.1 dX0_begin_83 (by decide) (fun c => ?_) (fun c => ?_)
    · replace hok := And.left hok c
      replace hR := (if_pos c).symm.trans hR
      refine lv_iconst (v := 0) S.1 S.2.1 dX0_begin_101 (by decide) ?_
      refine lv_istore_n (lv' := [(2, .int _), (0, .ref _), (1, .int _)]) S.1 S.2.1 dX0_begin_102 rfl hl (by decide) rfl (fun ls hl => ?_)
      exact w_X0_begin_103  S K hr hlocks 100 _ _ _ _ _ _ R hok hR h (lv_sub hl [1, 2, 0] rfl)
    · replace hok := And.right hok c
      replace hR := (if_neg c).symm.trans hR
      refine lv_aload_n S.1 S.2.1 dX0_begin_86 rfl (lv_at hl 0 rfl) ?_
      refine fg_X0_31 S K h dX0_begin_87 ?_
      refine lv_iload_n S.1 S.2.1 dX0_begin_90 rfl (lv_at hl 2 rfl) ?_
      have k4 := And.left hok
      replace hok := And.right hok
      refine al_counters S K h k4 dX0_begin_91 ?_
      have k6 := And.left hok
      replace hok := And.right hok
      refine g_callv (ci := 4) S wz_cons K h (c_X4_remove l D cy q _ A _ _ k6) kc_X4_remove km_X0_56 ki_X4_remove ks_X4_remove kn_X4 yd_X4_remove ⟨⟨Nat.le_of_ble_eq_true rfl, Nat.le_of_ble_eq_true rfl⟩, rfl, rfl, Nat.zero_le _, Nat.zero_le _⟩ rfl (row_at cy q _ _ (And.left k6)) rfl hl.1 (Nat.le_of_ble_eq_true rfl) rfl dX0_begin_92 (fun H locs h => ?_)
      refine lv_iinc (v := _ + 1) (lv' := [(2, .int _), (0, .ref _), (1, .int _)]) S.1 S.2.1 dX0_begin_95 hl (k := 2) rfl rfl (by decide) rfl (fun ls hl => ?_)
      refine lv_goto (tgt := 81) S.1 S.2.1 dX0_begin_98 (by decide) ?_
      exact ih _ _ _ _ _ _ R hok hR h (lv_sub hl [1, 2, 0] rfl)
def xl_X0_begin_59 : Nat → GS → Int32 → Int32 → Int32 × GS
  | 0, σ, _, _ => (0, σ)
  | n + 1, σ, x1, x2 => if (4 : Int32) ≤ x2 then xl_X0_begin_81 100 σ x1 0 else bd (xr_X4_remove σ x2.toNatClampNeg) (fun v9 σ11 => xl_X0_begin_59 n σ11 x1 (x2 + 1))
def xlo_X0_begin_59 : Nat → GS → Int32 → Int32 → Prop
  | 0, _, _, _ => False
  | n + 1, σ, x1, x2 => ((4 : Int32) ≤ x2 → xlo_X0_begin_81 100 σ x1 0) ∧ (¬ ((4 : Int32) ≤ x2) → vp_in x2 4 ∧ ((xo_X4_remove σ x2.toNatClampNeg) ∧ bd (xr_X4_remove σ x2.toNatClampNeg) (fun v9 σ11 => xlo_X0_begin_59 n σ11 x1 (x2 + 1))))
set_option maxRecDepth 100000 in
set_option maxHeartbeats 4000000 in
theorem w_X0_begin_59 {p : Program} {l : Launch} {e : Env} {s : State} {m : MethodId} {args : Array Value} {below : List Frame} {meth : Method} {c : Code} {D : va_G} {cy : CY} {q : Nat → Nat} {ex : va_W} {A : Nat → Prop} (S : CallFix p m c cX0_begin 3 s args (wm yX0_begin cX0_begin 3 none) RX0) (K : KK D cy s) (hr : meth.sig.returnType = none) (hlocks : meth.locks = false) :
    ∀ (n : Nat) (σ : GS) (x1 : Int32) (x2 : Int32) (H : Heap) (locs : List Loc) (ls : Array Slot) (R : Int32 × GS), xlo_X0_begin_59 n σ x1 x2 → xl_X0_begin_59 n σ x1 x2 = R → WH D A s.heap H locs (wH cy q σ ++ ex) → lv_has ls 3 [(0, .ref (q 0)), (1, .int x1), (2, .int x2)] → W p l e ({ frames := 1, cells := 0, slots := 0, locals := 20 } : Room) s m args below meth c H locs 0 0 (MQ below (QV D (wH cy q R.2 ++ ex) A) args s 0 0 A) (F0 m 59 ls []) := by
  intro n
  induction n with
  | zero =>
    intro σ x1 x2 H locs ls R hok
    exact False.elim hok
  | succ n ih =>
    intro σ x1 x2 H locs ls R hok hR h hl
    refine lv_iload_n S.1 S.2.1 dX0_begin_59 rfl (lv_at hl 2 rfl) ?_
    refine lv_iconst (v := 4) S.1 S.2.1 dX0_begin_60 (by decide) ?_
    refine lv_icmp_ge (tgt := 79) S.1 S.2.1 dX0_begin_61 (by decide) (fun c => ?_) (fun c => ?_)
    · replace hok := And.left hok c
      replace hR := (if_pos c).symm.trans hR
      refine lv_iconst (v := 0) S.1 S.2.1 dX0_begin_79 (by decide) ?_
      refine lv_istore_n (lv' := [(2, .int _), (0, .ref _), (1, .int _)]) S.1 S.2.1 dX0_begin_80 rfl hl (by decide) rfl (fun ls hl => ?_)
      exact w_X0_begin_81  S K hr hlocks 100 _ _ _ _ _ _ R hok hR h (lv_sub hl [1, 2, 0] rfl)
    · replace hok := And.right hok c
      replace hR := (if_neg c).symm.trans hR
      refine lv_aload_n S.1 S.2.1 dX0_begin_64 rfl (lv_at hl 0 rfl) ?_
      refine fg_X0_27 S K h dX0_begin_65 ?_
      refine lv_iload_n S.1 S.2.1 dX0_begin_68 rfl (lv_at hl 2 rfl) ?_
      have k8 := And.left hok
      replace hok := And.right hok
      refine al_belts S K h k8 dX0_begin_69 ?_
      have k10 := And.left hok
      replace hok := And.right hok
      refine g_callv (ci := 4) S wz_cons K h (c_X4_remove l D cy q _ A _ _ k10) kc_X4_remove km_X0_56 ki_X4_remove ks_X4_remove kn_X4 yd_X4_remove ⟨⟨Nat.le_of_ble_eq_true rfl, Nat.le_of_ble_eq_true rfl⟩, rfl, rfl, Nat.zero_le _, Nat.zero_le _⟩ rfl (row_at cy q _ _ (And.left k10)) rfl hl.1 (Nat.le_of_ble_eq_true rfl) rfl dX0_begin_70 (fun H locs h => ?_)
      refine lv_iinc (v := _ + 1) (lv' := [(2, .int _), (0, .ref _), (1, .int _)]) S.1 S.2.1 dX0_begin_73 hl (k := 2) rfl rfl (by decide) rfl (fun ls hl => ?_)
      refine lv_goto (tgt := 59) S.1 S.2.1 dX0_begin_76 (by decide) ?_
      exact ih _ _ _ _ _ _ R hok hR h (lv_sub hl [1, 2, 0] rfl)
def xl_X0_begin_38 : Nat → GS → Int32 → Int32 → Int32 × GS
  | 0, σ, _, _ => (0, σ)
  | n + 1, σ, x1, x2 => if (8 : Int32) ≤ x2 then xl_X0_begin_59 100 σ x1 0 else xl_X0_begin_38 n (st σ 2 x2.toNatClampNeg (-1)) x1 (x2 + 1)
def xlo_X0_begin_38 : Nat → GS → Int32 → Int32 → Prop
  | 0, _, _, _ => False
  | n + 1, σ, x1, x2 => ((8 : Int32) ≤ x2 → xlo_X0_begin_59 100 σ x1 0) ∧ (¬ ((8 : Int32) ≤ x2) → vp_in x2 8 ∧ (xlo_X0_begin_38 n (st σ 2 x2.toNatClampNeg (-1)) x1 (x2 + 1)))
set_option maxRecDepth 100000 in
set_option maxHeartbeats 4000000 in
theorem w_X0_begin_38 {p : Program} {l : Launch} {e : Env} {s : State} {m : MethodId} {args : Array Value} {below : List Frame} {meth : Method} {c : Code} {D : va_G} {cy : CY} {q : Nat → Nat} {ex : va_W} {A : Nat → Prop} (S : CallFix p m c cX0_begin 3 s args (wm yX0_begin cX0_begin 3 none) RX0) (K : KK D cy s) (hr : meth.sig.returnType = none) (hlocks : meth.locks = false) :
    ∀ (n : Nat) (σ : GS) (x1 : Int32) (x2 : Int32) (H : Heap) (locs : List Loc) (ls : Array Slot) (R : Int32 × GS), xlo_X0_begin_38 n σ x1 x2 → xl_X0_begin_38 n σ x1 x2 = R → WH D A s.heap H locs (wH cy q σ ++ ex) → lv_has ls 3 [(0, .ref (q 0)), (1, .int x1), (2, .int x2)] → W p l e ({ frames := 1, cells := 0, slots := 0, locals := 20 } : Room) s m args below meth c H locs 0 0 (MQ below (QV D (wH cy q R.2 ++ ex) A) args s 0 0 A) (F0 m 38 ls []) := by
  intro n
  induction n with
  | zero =>
    intro σ x1 x2 H locs ls R hok
    exact False.elim hok
  | succ n ih =>
    intro σ x1 x2 H locs ls R hok hR h hl
    refine lv_iload_n S.1 S.2.1 dX0_begin_38 rfl (lv_at hl 2 rfl) ?_
    refine lv_bipush (v := 8) S.1 S.2.1 dX0_begin_39 (by decide) ?_
    refine lv_icmp_ge (tgt := 57) S.1 S.2.1 dX0_begin_41 (by decide) (fun c => ?_) (fun c => ?_)
    · replace hok := And.left hok c
      replace hR := (if_pos c).symm.trans hR
      refine lv_iconst (v := 0) S.1 S.2.1 dX0_begin_57 (by decide) ?_
      refine lv_istore_n (lv' := [(2, .int _), (0, .ref _), (1, .int _)]) S.1 S.2.1 dX0_begin_58 rfl hl (by decide) rfl (fun ls hl => ?_)
      exact w_X0_begin_59  S K hr hlocks 100 _ _ _ _ _ _ R hok hR h (lv_sub hl [1, 2, 0] rfl)
    · replace hok := And.right hok c
      replace hR := (if_neg c).symm.trans hR
      refine lv_aload_n S.1 S.2.1 dX0_begin_44 rfl (lv_at hl 0 rfl) ?_
      refine fg_X0_15 S K h dX0_begin_45 ?_
      refine lv_iload_n S.1 S.2.1 dX0_begin_48 rfl (lv_at hl 2 rfl) ?_
      refine lv_iconst (v := -1) S.1 S.2.1 dX0_begin_49 (by decide) ?_
      have k12 := And.left hok
      replace hok := And.right hok
      refine as_H2 S K h k12 dX0_begin_50 (fun H locs h => ?_)
      refine lv_iinc (v := _ + 1) (lv' := [(2, .int _), (0, .ref _), (1, .int _)]) S.1 S.2.1 dX0_begin_51 hl (k := 2) rfl rfl (by decide) rfl (fun ls hl => ?_)
      refine lv_goto (tgt := 38) S.1 S.2.1 dX0_begin_54 (by decide) ?_
      exact ih _ _ _ _ _ _ R hok hR h (lv_sub hl [1, 2, 0] rfl)
def xl_X0_begin_2 : Nat → GS → Int32 → Int32 → Int32 × GS
  | 0, σ, _, _ => (0, σ)
  | n + 1, σ, x1, x2 => if (6 : Int32) ≤ x2 then xl_X0_begin_38 100 (st (st σ 1 (0 : Int32).toNatClampNeg x1) 9 0 0) x1 0 else xl_X0_begin_2 n (st σ 1 x2.toNatClampNeg 0) x1 (x2 + 1)
def xlo_X0_begin_2 : Nat → GS → Int32 → Int32 → Prop
  | 0, _, _, _ => False
  | n + 1, σ, x1, x2 => ((6 : Int32) ≤ x2 → vp_in 0 6 ∧ (xlo_X0_begin_38 100 (st (st σ 1 (0 : Int32).toNatClampNeg x1) 9 0 0) x1 0)) ∧ (¬ ((6 : Int32) ≤ x2) → vp_in x2 6 ∧ (xlo_X0_begin_2 n (st σ 1 x2.toNatClampNeg 0) x1 (x2 + 1)))
set_option maxRecDepth 100000 in
set_option maxHeartbeats 4000000 in
theorem w_X0_begin_2 {p : Program} {l : Launch} {e : Env} {s : State} {m : MethodId} {args : Array Value} {below : List Frame} {meth : Method} {c : Code} {D : va_G} {cy : CY} {q : Nat → Nat} {ex : va_W} {A : Nat → Prop} (S : CallFix p m c cX0_begin 3 s args (wm yX0_begin cX0_begin 3 none) RX0) (K : KK D cy s) (hr : meth.sig.returnType = none) (hlocks : meth.locks = false) :
    ∀ (n : Nat) (σ : GS) (x1 : Int32) (x2 : Int32) (H : Heap) (locs : List Loc) (ls : Array Slot) (R : Int32 × GS), xlo_X0_begin_2 n σ x1 x2 → xl_X0_begin_2 n σ x1 x2 = R → WH D A s.heap H locs (wH cy q σ ++ ex) → lv_has ls 3 [(0, .ref (q 0)), (1, .int x1), (2, .int x2)] → W p l e ({ frames := 1, cells := 0, slots := 0, locals := 20 } : Room) s m args below meth c H locs 0 0 (MQ below (QV D (wH cy q R.2 ++ ex) A) args s 0 0 A) (F0 m 2 ls []) := by
  intro n
  induction n with
  | zero =>
    intro σ x1 x2 H locs ls R hok
    exact False.elim hok
  | succ n ih =>
    intro σ x1 x2 H locs ls R hok hR h hl
    refine lv_iload_n S.1 S.2.1 dX0_begin_2 rfl (lv_at hl 2 rfl) ?_
    refine lv_bipush (v := 6) S.1 S.2.1 dX0_begin_3 (by decide) ?_
    refine lv_icmp_ge (tgt := 21) S.1 S.2.1 dX0_begin_5 (by decide) (fun c => ?_) (fun c => ?_)
    · replace hok := And.left hok c
      replace hR := (if_pos c).symm.trans hR
      refine lv_aload_n S.1 S.2.1 dX0_begin_21 rfl (lv_at hl 0 rfl) ?_
      refine fg_X0_9 S K h dX0_begin_22 ?_
      refine lv_iconst (v := 0) S.1 S.2.1 dX0_begin_25 (by decide) ?_
      refine lv_iload_n S.1 S.2.1 dX0_begin_26 rfl (lv_at hl 1 rfl) ?_
      have k1 := And.left hok
      replace hok := And.right hok
      refine as_H1 S K h k1 dX0_begin_27 (fun H locs h => ?_)
      refine lv_aload_n S.1 S.2.1 dX0_begin_28 rfl (lv_at hl 0 rfl) ?_
      refine fg_X0_21 S K h dX0_begin_29 ?_
      refine lv_iconst (v := 0) S.1 S.2.1 dX0_begin_32 (by decide) ?_
      refine fp_X0_52 S K h dX0_begin_33 (fun H locs h => ?_)
      refine lv_iconst (v := 0) S.1 S.2.1 dX0_begin_36 (by decide) ?_
      refine lv_istore_n (lv' := [(2, .int _), (0, .ref _), (1, .int _)]) S.1 S.2.1 dX0_begin_37 rfl hl (by decide) rfl (fun ls hl => ?_)
      exact w_X0_begin_38  S K hr hlocks 100 _ _ _ _ _ _ R hok hR h (lv_sub hl [1, 2, 0] rfl)
    · replace hok := And.right hok c
      replace hR := (if_neg c).symm.trans hR
      refine lv_aload_n S.1 S.2.1 dX0_begin_8 rfl (lv_at hl 0 rfl) ?_
      refine fg_X0_9 S K h dX0_begin_9 ?_
      refine lv_iload_n S.1 S.2.1 dX0_begin_12 rfl (lv_at hl 2 rfl) ?_
      refine lv_iconst (v := 0) S.1 S.2.1 dX0_begin_13 (by decide) ?_
      have k13 := And.left hok
      replace hok := And.right hok
      refine as_H1 S K h k13 dX0_begin_14 (fun H locs h => ?_)
      refine lv_iinc (v := _ + 1) (lv' := [(2, .int _), (0, .ref _), (1, .int _)]) S.1 S.2.1 dX0_begin_15 hl (k := 2) rfl rfl (by decide) rfl (fun ls hl => ?_)
      refine lv_goto (tgt := 2) S.1 S.2.1 dX0_begin_18 (by decide) ?_
      exact ih _ _ _ _ _ _ R hok hR h (lv_sub hl [1, 2, 0] rfl)
def xr_X0_begin (σ : GS) (a1 : Int32) : Int32 × GS := xl_X0_begin_2 100 σ a1 0
def xo_X0_begin (σ : GS) (a1 : Int32) : Prop := xlo_X0_begin_2 100 σ a1 0
set_option maxRecDepth 100000 in
set_option maxHeartbeats 4000000 in
theorem c_X0_begin (l : Launch) (D : va_G) (cy : CY) (q : Nat → Nat) (ex : va_W) (A : Nat → Prop) (σ : GS) (a1 : Int32) (hok : xo_X0_begin σ a1) : Met l yX0_begin (wm yX0_begin cX0_begin 3 none) ({ frames := 1, cells := 0, slots := 0, locals := 20 } : Room) (PC D cy (wH cy q σ ++ ex) A [.ref (q 0), .int a1]) (QV D (wH cy q (xr_X0_begin σ a1).2 ++ ex) A) 0 0 A := by
  generalize hR : xr_X0_begin σ a1 = R
  refine g_met (lv := [(0, .ref (q 0)), (1, .int a1)]) (by decide) rfl (Nat.le_of_ble_eq_true rfl) rfl ?_
  intro p e s m below meth c ls S K h hr hlocks hl
  refine lv_iconst (v := 0) S.1 S.2.1 dX0_begin_0 (by decide) ?_
  refine lv_istore_n (lv' := [(2, .int _), (0, .ref _), (1, .int _)]) S.1 S.2.1 dX0_begin_1 rfl hl (by decide) rfl (fun ls hl => ?_)
  exact w_X0_begin_2  S K hr hlocks 100 _ _ _ _ _ _ R hok hR h (lv_sub hl [1, 2, 0] rfl)
def xr_X0_placeAct (σ : GS) (a1 : Int32) (a2 : Int32) (a3 : Int32) (a4 : Int32) : Int32 × GS := if a1 = 0 then bd (xr_X1_add σ a3 (σ 1 a4.toNatClampNeg)) (fun v5 σ7 => (0, st σ7 2 a2.toNatClampNeg v5)) else if a1 = 1 then (0, st σ 2 a2.toNatClampNeg (-1)) else (0, st σ 2 a2.toNatClampNeg (σ 2 a3.toNatClampNeg))
def xo_X0_placeAct (σ : GS) (a1 : Int32) (a2 : Int32) (a3 : Int32) (a4 : Int32) : Prop := (a1 = 0 → vp_in a4 6 ∧ ((xo_X1_add σ a3 (σ 1 a4.toNatClampNeg)) ∧ bd (xr_X1_add σ a3 (σ 1 a4.toNatClampNeg)) (fun v5 σ7 => vp_in a2 8 ∧ (True)))) ∧ (¬ (a1 = 0) → (a1 = 1 → vp_in a2 8 ∧ (True)) ∧ (¬ (a1 = 1) → vp_in a3 8 ∧ (vp_in a2 8 ∧ (True))))
set_option maxRecDepth 100000 in
set_option maxHeartbeats 4000000 in
theorem c_X0_placeAct (l : Launch) (D : va_G) (cy : CY) (q : Nat → Nat) (ex : va_W) (A : Nat → Prop) (σ : GS) (a1 : Int32) (a2 : Int32) (a3 : Int32) (a4 : Int32) (hok : xo_X0_placeAct σ a1 a2 a3 a4) : Met l yX0_placeAct (wm yX0_placeAct cX0_placeAct 5 (some .int)) ({ frames := 1, cells := 0, slots := 0, locals := 22 } : Room) (PC D cy (wH cy q σ ++ ex) A [.ref (q 0), .int a1, .int a2, .int a3, .int a4]) (QI D (wH cy q (xr_X0_placeAct σ a1 a2 a3 a4).2 ++ ex) A (xr_X0_placeAct σ a1 a2 a3 a4).1) 0 0 A := by
  generalize hR : xr_X0_placeAct σ a1 a2 a3 a4 = R
  refine g_met (lv := [(0, .ref (q 0)), (1, .int a1), (2, .int a2), (3, .int a3), (4, .int a4)]) (by decide) rfl (Nat.le_of_ble_eq_true rfl) rfl ?_
  intro p e s m below meth c ls S K h hr hlocks hl
  refine lv_iload_n S.1 S.2.1 dX0_placeAct_0 rfl (lv_at hl 1 rfl) ?_
  refine lv_if_ne (tgt := 28) S.1 S.2.1 dX0_placeAct_1 (by decide) (fun c => ?_) (fun c => ?_)
  · replace hok := And.right hok c
    replace hR := (if_neg c).symm.trans hR
    refine lv_iload_n S.1 S.2.1 dX0_placeAct_28 rfl (lv_at hl 1 rfl) ?_
    refine lv_iconst (v := 1) S.1 S.2.1 dX0_placeAct_29 (by decide) ?_
    refine lv_icmp_ne (tgt := 43) S.1 S.2.1 dX0_placeAct_30 (by decide) (fun c => ?_) (fun c => ?_)
    · replace hok := And.right hok c
      replace hR := (if_neg c).symm.trans hR
      refine lv_aload_n S.1 S.2.1 dX0_placeAct_43 rfl (lv_at hl 0 rfl) ?_
      refine fg_X0_15 S K h dX0_placeAct_44 ?_
      refine lv_iload_n S.1 S.2.1 dX0_placeAct_47 rfl (lv_at hl 2 rfl) ?_
      refine lv_aload_n S.1 S.2.1 dX0_placeAct_48 rfl (lv_at hl 0 rfl) ?_
      refine fg_X0_15 S K h dX0_placeAct_49 ?_
      refine lv_iload_n S.1 S.2.1 dX0_placeAct_52 rfl (lv_at hl 3 rfl) ?_
      have k1 := And.left hok
      replace hok := And.right hok
      refine al_H2 S K h k1 dX0_placeAct_53 ?_
      have k2 := And.left hok
      replace hok := And.right hok
      refine as_H2 S K h k2 dX0_placeAct_54 (fun H locs h => ?_)
      refine lv_iconst (v := 0) S.1 S.2.1 dX0_placeAct_55 (by decide) ?_
      subst hR
      exact g_reti S hr hlocks h dX0_placeAct_56
    · replace hok := And.left hok c
      replace hR := (if_pos c).symm.trans hR
      refine lv_aload_n S.1 S.2.1 dX0_placeAct_33 rfl (lv_at hl 0 rfl) ?_
      refine fg_X0_15 S K h dX0_placeAct_34 ?_
      refine lv_iload_n S.1 S.2.1 dX0_placeAct_37 rfl (lv_at hl 2 rfl) ?_
      refine lv_iconst (v := -1) S.1 S.2.1 dX0_placeAct_38 (by decide) ?_
      have k3 := And.left hok
      replace hok := And.right hok
      refine as_H2 S K h k3 dX0_placeAct_39 (fun H locs h => ?_)
      refine lv_goto (tgt := 55) S.1 S.2.1 dX0_placeAct_40 (by decide) ?_
      refine lv_iconst (v := 0) S.1 S.2.1 dX0_placeAct_55 (by decide) ?_
      subst hR
      exact g_reti S hr hlocks h dX0_placeAct_56
  · replace hok := And.left hok c
    replace hR := (if_pos c).symm.trans hR
    refine lv_aload_n S.1 S.2.1 dX0_placeAct_4 rfl (lv_at hl 0 rfl) ?_
    refine fg_X0_15 S K h dX0_placeAct_5 ?_
    refine lv_iload_n S.1 S.2.1 dX0_placeAct_8 rfl (lv_at hl 2 rfl) ?_
    refine lv_aload_n S.1 S.2.1 dX0_placeAct_9 rfl (lv_at hl 0 rfl) ?_
    refine fg_X0_21 S K h dX0_placeAct_10 ?_
    refine lv_iload_n S.1 S.2.1 dX0_placeAct_13 rfl (lv_at hl 3 rfl) ?_
    refine lv_aload_n S.1 S.2.1 dX0_placeAct_14 rfl (lv_at hl 0 rfl) ?_
    refine fg_X0_9 S K h dX0_placeAct_15 ?_
    refine lv_iload S.1 S.2.1 dX0_placeAct_18 (lv_at hl 4 rfl) ?_
    have k4 := And.left hok
    replace hok := And.right hok
    refine al_H1 S K h k4 dX0_placeAct_20 ?_
    have k6 := And.left hok
    replace hok := And.right hok
    refine g_calli (ci := 1) (q0 := 9) S wz_cons K h (c_X1_add l D cy q _ A _ _ _ k6) kc_X1_add km_X0_89 ki_X1_add ks_X1_add kn_X1 yd_X1_add ⟨⟨Nat.le_of_ble_eq_true rfl, Nat.le_of_ble_eq_true rfl⟩, rfl, rfl, Nat.zero_le _, Nat.zero_le _⟩ rfl rfl rfl hl.1 (Nat.le_of_ble_eq_true rfl) rfl dX0_placeAct_21 (fun H locs h => ?_)
    have k8 := And.left hok
    replace hok := And.right hok
    refine as_H2 S K h k8 dX0_placeAct_24 (fun H locs h => ?_)
    refine lv_goto (tgt := 55) S.1 S.2.1 dX0_placeAct_25 (by decide) ?_
    refine lv_iconst (v := 0) S.1 S.2.1 dX0_placeAct_55 (by decide) ?_
    subst hR
    exact g_reti S hr hlocks h dX0_placeAct_56
def xr_X0_lay (σ : GS) (r1 : Nat) (a2 : Int32) (a3 : Int32) : Int32 × GS := bd (xr_X4_placeFailure σ r1 a2) (fun v1 σ3 => if v1 = 0 then bd (xr_X1_has σ3 a3) (fun v4 σ6 => if v4 = 0 then (0, st σ6 (20 + r1) a2.toNatClampNeg a3) else if (xr_X5_isOf (σ6 10 a3.toNatClampNeg) (σ6 13 r1)) = 0 then (5, σ6) else (0, st σ6 (20 + r1) a2.toNatClampNeg a3)) else (v1, σ3))
def xo_X0_lay (σ : GS) (r1 : Nat) (a2 : Int32) (a3 : Int32) : Prop := r1 < 7 ∧ ((xo_X4_placeFailure σ r1 a2) ∧ bd (xr_X4_placeFailure σ r1 a2) (fun v1 σ3 => (v1 = 0 → (xo_X1_has σ3 a3) ∧ bd (xr_X1_has σ3 a3) (fun v4 σ6 => (v4 = 0 → r1 < 7 ∧ (r1 < 7 ∧ (vp_in a2 8 ∧ (True)))) ∧ (¬ (v4 = 0) → vp_in a3 64 ∧ (r1 < 7 ∧ ((xo_X5_isOf (σ6 10 a3.toNatClampNeg) (σ6 13 r1)) ∧ (((xr_X5_isOf (σ6 10 a3.toNatClampNeg) (σ6 13 r1)) = 0 → True) ∧ (¬ ((xr_X5_isOf (σ6 10 a3.toNatClampNeg) (σ6 13 r1)) = 0) → r1 < 7 ∧ (r1 < 7 ∧ (vp_in a2 8 ∧ (True)))))))))) ∧ (¬ (v1 = 0) → True)))
set_option maxRecDepth 100000 in
set_option maxHeartbeats 4000000 in
theorem c_X0_lay (l : Launch) (D : va_G) (cy : CY) (q : Nat → Nat) (ex : va_W) (A : Nat → Prop) (σ : GS) (r1 : Nat) (a2 : Int32) (a3 : Int32) (hok : xo_X0_lay σ r1 a2 a3) : Met l yX0_lay (wm yX0_lay cX0_lay 5 (some .int)) ({ frames := 2, cells := 0, slots := 0, locals := 42 } : Room) (PC D cy (wH cy q σ ++ ex) A [.ref (q 0), .ref (q (13 + r1)), .int a2, .int a3]) (QI D (wH cy q (xr_X0_lay σ r1 a2 a3).2 ++ ex) A (xr_X0_lay σ r1 a2 a3).1) 0 0 A := by
  generalize hR : xr_X0_lay σ r1 a2 a3 = R
  refine g_met (lv := [(0, .ref (q 0)), (1, .ref (q (13 + r1))), (2, .int a2), (3, .int a3)]) (by decide) rfl (Nat.le_of_ble_eq_true rfl) rfl ?_
  intro p e s m below meth c ls S K h hr hlocks hl
  obtain ⟨hr_r1, hok⟩ := hok
  refine lv_aload_n S.1 S.2.1 dX0_lay_0 rfl (lv_at hl 1 rfl) ?_
  refine lv_iload_n S.1 S.2.1 dX0_lay_1 rfl (lv_at hl 2 rfl) ?_
  have k2 := And.left hok
  replace hok := And.right hok
  refine g_calli (ci := 4) S wz_cons K h (c_X4_placeFailure l D cy q _ A _ _ _ k2) kc_X4_placeFailure km_X0_107 ki_X4_placeFailure ks_X4_placeFailure kn_X4 yd_X4_placeFailure ⟨⟨Nat.le_of_ble_eq_true rfl, Nat.le_of_ble_eq_true rfl⟩, rfl, rfl, Nat.zero_le _, Nat.zero_le _⟩ rfl (row_at cy q _ _ (And.left k2)) rfl hl.1 (Nat.le_of_ble_eq_true rfl) rfl dX0_lay_2 (fun H locs h => ?_)
  refine lv_istore (lv' := [(4, .int _), (0, .ref _), (1, .ref _), (2, .int _), (3, .int _)]) S.1 S.2.1 dX0_lay_5 hl (by decide) rfl (fun ls hl => ?_)
  refine lv_iload S.1 S.2.1 dX0_lay_7 (lv_at hl 0 rfl) ?_
  refine lv_if_eq (tgt := 15) S.1 S.2.1 dX0_lay_9 (by decide) (fun c => ?_) (fun c => ?_)
  · replace hok := And.left hok c
    replace hR := (if_pos c).symm.trans hR
    refine lv_aload_n S.1 S.2.1 dX0_lay_15 rfl (lv_at hl 1 rfl) ?_
    refine fg_X0_21 S K h dX0_lay_16 ?_
    refine lv_iload_n S.1 S.2.1 dX0_lay_19 rfl (lv_at hl 4 rfl) ?_
    have k5 := And.left hok
    replace hok := And.right hok
    refine g_calli (ci := 1) (q0 := 9) S wz_cons K h (c_X1_has l D cy q _ A _ _ k5) kc_X1_has km_X0_111 ki_X1_has ks_X1_has kn_X1 yd_X1_has ⟨⟨Nat.le_of_ble_eq_true rfl, Nat.le_of_ble_eq_true rfl⟩, rfl, rfl, Nat.zero_le _, Nat.zero_le _⟩ rfl rfl rfl hl.1 (Nat.le_of_ble_eq_true rfl) rfl dX0_lay_20 (fun H locs h => ?_)
    refine lv_if_eq (tgt := 47) S.1 S.2.1 dX0_lay_23 (by decide) (fun c => ?_) (fun c => ?_)
    · replace hok := And.left hok c
      replace hR := (if_pos c).symm.trans hR
      refine lv_aload_n S.1 S.2.1 dX0_lay_47 rfl (lv_at hl 2 rfl) ?_
      have k7 := And.left hok
      replace hok := And.right hok
      refine fg_X0_125 S K k7 h dX0_lay_48 ?_
      refine lv_iload_n S.1 S.2.1 dX0_lay_51 rfl (lv_at hl 3 rfl) ?_
      refine lv_iload_n S.1 S.2.1 dX0_lay_52 rfl (lv_at hl 4 rfl) ?_
      have k8 := And.left hok
      replace hok := And.right hok
      have k9 := And.left hok
      replace hok := And.right hok
      refine as_cells S K k8 h k9 dX0_lay_53 (fun H locs h => ?_)
      refine lv_iconst (v := 0) S.1 S.2.1 dX0_lay_54 (by decide) ?_
      subst hR
      exact g_reti S hr hlocks h dX0_lay_55
    · replace hok := And.right hok c
      replace hR := (if_neg c).symm.trans hR
      refine lv_aload_n S.1 S.2.1 dX0_lay_26 rfl (lv_at hl 1 rfl) ?_
      refine fg_X0_21 S K h dX0_lay_27 ?_
      refine fg_X0_115 S K h dX0_lay_30 ?_
      refine lv_iload_n S.1 S.2.1 dX0_lay_33 rfl (lv_at hl 4 rfl) ?_
      have k10 := And.left hok
      replace hok := And.right hok
      refine al_H10 S K h k10 dX0_lay_34 ?_
      refine lv_aload_n S.1 S.2.1 dX0_lay_35 rfl (lv_at hl 2 rfl) ?_
      have k11 := And.left hok
      replace hok := And.right hok
      refine fg_X0_118 S K k11 h dX0_lay_36 ?_
      have k13 := And.left hok
      replace hok := And.right hok
      refine g_callsN S wz_cons K.2 (c_X5_isOf l _ _ k13) kc_X5_isOf nn_X0_121 kt_X5_isOf kn_X5 yd_X5_isOf.2 ⟨⟨Nat.le_of_ble_eq_true rfl, Nat.le_of_ble_eq_true rfl⟩, rfl, rfl, Nat.zero_le _, Nat.zero_le _⟩ rfl hl.1 (Nat.le_of_ble_eq_true rfl) rfl dX0_lay_39 ?_
      refine lv_if_ne (tgt := 47) S.1 S.2.1 dX0_lay_42 (by decide) (fun c => ?_) (fun c => ?_)
      · replace hok := And.right hok c
        replace hR := (if_neg c).symm.trans hR
        refine lv_aload_n S.1 S.2.1 dX0_lay_47 rfl (lv_at hl 2 rfl) ?_
        have k15 := And.left hok
        replace hok := And.right hok
        refine fg_X0_125 S K k15 h dX0_lay_48 ?_
        refine lv_iload_n S.1 S.2.1 dX0_lay_51 rfl (lv_at hl 3 rfl) ?_
        refine lv_iload_n S.1 S.2.1 dX0_lay_52 rfl (lv_at hl 4 rfl) ?_
        have k16 := And.left hok
        replace hok := And.right hok
        have k17 := And.left hok
        replace hok := And.right hok
        refine as_cells S K k16 h k17 dX0_lay_53 (fun H locs h => ?_)
        refine lv_iconst (v := 0) S.1 S.2.1 dX0_lay_54 (by decide) ?_
        subst hR
        exact g_reti S hr hlocks h dX0_lay_55
      · replace hok := And.left hok c
        replace hR := (if_pos c).symm.trans hR
        refine lv_iconst (v := 5) S.1 S.2.1 dX0_lay_45 (by decide) ?_
        subst hR
        exact g_reti S hr hlocks h dX0_lay_46
  · replace hok := And.right hok c
    replace hR := (if_neg c).symm.trans hR
    refine lv_iload S.1 S.2.1 dX0_lay_12 (lv_at hl 0 rfl) ?_
    subst hR
    exact g_reti S hr hlocks h dX0_lay_14
def xr_X0_pick (σ : GS) (a1 : Int32) (r2 : Nat) (a3 : Int32) : Int32 × GS := bd (xr_X4_placeFailure σ r2 a3) (fun v1 σ3 => if v1 = 0 then (v1, st σ3 2 a1.toNatClampNeg (σ3 (20 + r2) a3.toNatClampNeg)) else (v1, σ3))
def xo_X0_pick (σ : GS) (a1 : Int32) (r2 : Nat) (a3 : Int32) : Prop := r2 < 7 ∧ ((xo_X4_placeFailure σ r2 a3) ∧ bd (xr_X4_placeFailure σ r2 a3) (fun v1 σ3 => (v1 = 0 → r2 < 7 ∧ (r2 < 7 ∧ (vp_in a3 8 ∧ (vp_in a1 8 ∧ (True))))) ∧ (¬ (v1 = 0) → True)))
set_option maxRecDepth 100000 in
set_option maxHeartbeats 4000000 in
theorem c_X0_pick (l : Launch) (D : va_G) (cy : CY) (q : Nat → Nat) (ex : va_W) (A : Nat → Prop) (σ : GS) (a1 : Int32) (r2 : Nat) (a3 : Int32) (hok : xo_X0_pick σ a1 r2 a3) : Met l yX0_pick (wm yX0_pick cX0_pick 5 (some .int)) ({ frames := 2, cells := 0, slots := 0, locals := 42 } : Room) (PC D cy (wH cy q σ ++ ex) A [.ref (q 0), .int a1, .ref (q (13 + r2)), .int a3]) (QI D (wH cy q (xr_X0_pick σ a1 r2 a3).2 ++ ex) A (xr_X0_pick σ a1 r2 a3).1) 0 0 A := by
  generalize hR : xr_X0_pick σ a1 r2 a3 = R
  refine g_met (lv := [(0, .ref (q 0)), (1, .int a1), (2, .ref (q (13 + r2))), (3, .int a3)]) (by decide) rfl (Nat.le_of_ble_eq_true rfl) rfl ?_
  intro p e s m below meth c ls S K h hr hlocks hl
  obtain ⟨hr_r2, hok⟩ := hok
  refine lv_aload_n S.1 S.2.1 dX0_pick_0 rfl (lv_at hl 2 rfl) ?_
  refine lv_iload_n S.1 S.2.1 dX0_pick_1 rfl (lv_at hl 3 rfl) ?_
  have k2 := And.left hok
  replace hok := And.right hok
  refine g_calli (ci := 4) S wz_cons K h (c_X4_placeFailure l D cy q _ A _ _ _ k2) kc_X4_placeFailure km_X0_107 ki_X4_placeFailure ks_X4_placeFailure kn_X4 yd_X4_placeFailure ⟨⟨Nat.le_of_ble_eq_true rfl, Nat.le_of_ble_eq_true rfl⟩, rfl, rfl, Nat.zero_le _, Nat.zero_le _⟩ rfl (row_at cy q _ _ (And.left k2)) rfl hl.1 (Nat.le_of_ble_eq_true rfl) rfl dX0_pick_2 (fun H locs h => ?_)
  refine lv_istore (lv' := [(4, .int _), (0, .ref _), (1, .int _), (2, .ref _), (3, .int _)]) S.1 S.2.1 dX0_pick_5 hl (by decide) rfl (fun ls hl => ?_)
  refine lv_iload S.1 S.2.1 dX0_pick_7 (lv_at hl 0 rfl) ?_
  refine lv_if_ne (tgt := 24) S.1 S.2.1 dX0_pick_9 (by decide) (fun c => ?_) (fun c => ?_)
  · replace hok := And.right hok c
    replace hR := (if_neg c).symm.trans hR
    refine lv_iload S.1 S.2.1 dX0_pick_24 (lv_at hl 0 rfl) ?_
    subst hR
    exact g_reti S hr hlocks h dX0_pick_26
  · replace hok := And.left hok c
    replace hR := (if_pos c).symm.trans hR
    refine lv_aload_n S.1 S.2.1 dX0_pick_12 rfl (lv_at hl 1 rfl) ?_
    refine fg_X0_15 S K h dX0_pick_13 ?_
    refine lv_iload_n S.1 S.2.1 dX0_pick_16 rfl (lv_at hl 2 rfl) ?_
    refine lv_aload_n S.1 S.2.1 dX0_pick_17 rfl (lv_at hl 3 rfl) ?_
    have k4 := And.left hok
    replace hok := And.right hok
    refine fg_X0_125 S K k4 h dX0_pick_18 ?_
    refine lv_iload_n S.1 S.2.1 dX0_pick_21 rfl (lv_at hl 4 rfl) ?_
    have k5 := And.left hok
    replace hok := And.right hok
    have k6 := And.left hok
    replace hok := And.right hok
    refine al_cells S K k5 h k6 dX0_pick_22 ?_
    have k7 := And.left hok
    replace hok := And.right hok
    refine as_H2 S K h k7 dX0_pick_23 (fun H locs h => ?_)
    refine lv_iload S.1 S.2.1 dX0_pick_24 (lv_at hl 0 rfl) ?_
    subst hR
    exact g_reti S hr hlocks h dX0_pick_26
def xr_X0_measure (σ : GS) (a1 : Int32) (r2 : Nat) : Int32 × GS := bd (xr_X4_isThere σ r2) (fun v1 σ3 => if v1 = 0 then (1, σ3) else (0, st σ3 1 a1.toNatClampNeg (σ3 14 r2)))
def xo_X0_measure (σ : GS) (a1 : Int32) (r2 : Nat) : Prop := r2 < 7 ∧ ((xo_X4_isThere σ r2) ∧ bd (xr_X4_isThere σ r2) (fun v1 σ3 => (v1 = 0 → True) ∧ (¬ (v1 = 0) → r2 < 7 ∧ (vp_in a1 6 ∧ (True)))))
set_option maxRecDepth 100000 in
set_option maxHeartbeats 4000000 in
theorem c_X0_measure (l : Launch) (D : va_G) (cy : CY) (q : Nat → Nat) (ex : va_W) (A : Nat → Prop) (σ : GS) (a1 : Int32) (r2 : Nat) (hok : xo_X0_measure σ a1 r2) : Met l yX0_measure (wm yX0_measure cX0_measure 3 (some .int)) ({ frames := 1, cells := 0, slots := 0, locals := 20 } : Room) (PC D cy (wH cy q σ ++ ex) A [.ref (q 0), .int a1, .ref (q (13 + r2))]) (QI D (wH cy q (xr_X0_measure σ a1 r2).2 ++ ex) A (xr_X0_measure σ a1 r2).1) 0 0 A := by
  generalize hR : xr_X0_measure σ a1 r2 = R
  refine g_met (lv := [(0, .ref (q 0)), (1, .int a1), (2, .ref (q (13 + r2)))]) (by decide) rfl (Nat.le_of_ble_eq_true rfl) rfl ?_
  intro p e s m below meth c ls S K h hr hlocks hl
  obtain ⟨hr_r2, hok⟩ := hok
  refine lv_aload_n S.1 S.2.1 dX0_measure_0 rfl (lv_at hl 2 rfl) ?_
  have k2 := And.left hok
  replace hok := And.right hok
  refine g_calli (ci := 4) S wz_cons K h (c_X4_isThere l D cy q _ A _ _ k2) kc_X4_isThere km_X0_128 ki_X4_isThere ks_X4_isThere kn_X4 yd_X4_isThere ⟨⟨Nat.le_of_ble_eq_true rfl, Nat.le_of_ble_eq_true rfl⟩, rfl, rfl, Nat.zero_le _, Nat.zero_le _⟩ rfl (row_at cy q _ _ (And.left k2)) rfl hl.1 (Nat.le_of_ble_eq_true rfl) rfl dX0_measure_1 (fun H locs h => ?_)
  refine lv_if_ne (tgt := 9) S.1 S.2.1 dX0_measure_4 (by decide) (fun c => ?_) (fun c => ?_)
  · replace hok := And.right hok c
    replace hR := (if_neg c).symm.trans hR
    refine lv_aload_n S.1 S.2.1 dX0_measure_9 rfl (lv_at hl 0 rfl) ?_
    refine fg_X0_9 S K h dX0_measure_10 ?_
    refine lv_iload_n S.1 S.2.1 dX0_measure_13 rfl (lv_at hl 1 rfl) ?_
    refine lv_aload_n S.1 S.2.1 dX0_measure_14 rfl (lv_at hl 2 rfl) ?_
    have k4 := And.left hok
    replace hok := And.right hok
    refine fg_X0_132 S K k4 h dX0_measure_15 ?_
    have k5 := And.left hok
    replace hok := And.right hok
    refine as_H1 S K h k5 dX0_measure_18 (fun H locs h => ?_)
    refine lv_iconst (v := 0) S.1 S.2.1 dX0_measure_19 (by decide) ?_
    subst hR
    exact g_reti S hr hlocks h dX0_measure_20
  · replace hok := And.left hok c
    replace hR := (if_pos c).symm.trans hR
    refine lv_iconst (v := 1) S.1 S.2.1 dX0_measure_7 (by decide) ?_
    subst hR
    exact g_reti S hr hlocks h dX0_measure_8
def xr_X0_askItem (σ : GS) (a1 : Int32) (a2 : Int32) (a3 : Int32) : Int32 × GS := bd (xr_X1_has σ a3) (fun v1 σ3 => if v1 = 0 then (1, σ3) else if a1 = 8 then (0, st σ3 1 a2.toNatClampNeg (σ3 11 a3.toNatClampNeg)) else if a1 = 10 then bd (xr_X1_stamp σ3 a3) (fun v11 σ13 => (0, st σ13 1 a2.toNatClampNeg v11)) else bd (xr_X1_isAlive σ3 a3) (fun v4 σ6 => if v4 = 0 then (4, σ6) else bd (xr_X1_feed σ6 a3) (fun v7 σ9 => (0, st σ9 1 a2.toNatClampNeg v7))))
def xo_X0_askItem (σ : GS) (a1 : Int32) (a2 : Int32) (a3 : Int32) : Prop := (xo_X1_has σ a3) ∧ bd (xr_X1_has σ a3) (fun v1 σ3 => (v1 = 0 → True) ∧ (¬ (v1 = 0) → (a1 = 8 → vp_in a3 64 ∧ (vp_in a2 6 ∧ (True))) ∧ (¬ (a1 = 8) → (a1 = 10 → (xo_X1_stamp σ3 a3) ∧ bd (xr_X1_stamp σ3 a3) (fun v11 σ13 => vp_in a2 6 ∧ (True))) ∧ (¬ (a1 = 10) → (xo_X1_isAlive σ3 a3) ∧ bd (xr_X1_isAlive σ3 a3) (fun v4 σ6 => (v4 = 0 → True) ∧ (¬ (v4 = 0) → (xo_X1_feed σ6 a3) ∧ bd (xr_X1_feed σ6 a3) (fun v7 σ9 => vp_in a2 6 ∧ (True))))))))
set_option maxRecDepth 100000 in
set_option maxHeartbeats 4000000 in
theorem c_X0_askItem (l : Launch) (D : va_G) (cy : CY) (q : Nat → Nat) (ex : va_W) (A : Nat → Prop) (σ : GS) (a1 : Int32) (a2 : Int32) (a3 : Int32) (hok : xo_X0_askItem σ a1 a2 a3) : Met l yX0_askItem (wm yX0_askItem cX0_askItem 4 (some .int)) ({ frames := 2, cells := 0, slots := 0, locals := 42 } : Room) (PC D cy (wH cy q σ ++ ex) A [.ref (q 0), .int a1, .int a2, .int a3]) (QI D (wH cy q (xr_X0_askItem σ a1 a2 a3).2 ++ ex) A (xr_X0_askItem σ a1 a2 a3).1) 0 0 A := by
  generalize hR : xr_X0_askItem σ a1 a2 a3 = R
  refine g_met (lv := [(0, .ref (q 0)), (1, .int a1), (2, .int a2), (3, .int a3)]) (by decide) rfl (Nat.le_of_ble_eq_true rfl) rfl ?_
  intro p e s m below meth c ls S K h hr hlocks hl
  refine lv_aload_n S.1 S.2.1 dX0_askItem_0 rfl (lv_at hl 0 rfl) ?_
  refine fg_X0_21 S K h dX0_askItem_1 ?_
  refine lv_iload_n S.1 S.2.1 dX0_askItem_4 rfl (lv_at hl 3 rfl) ?_
  have k2 := And.left hok
  replace hok := And.right hok
  refine g_calli (ci := 1) (q0 := 9) S wz_cons K h (c_X1_has l D cy q _ A _ _ k2) kc_X1_has km_X0_111 ki_X1_has ks_X1_has kn_X1 yd_X1_has ⟨⟨Nat.le_of_ble_eq_true rfl, Nat.le_of_ble_eq_true rfl⟩, rfl, rfl, Nat.zero_le _, Nat.zero_le _⟩ rfl rfl rfl hl.1 (Nat.le_of_ble_eq_true rfl) rfl dX0_askItem_5 (fun H locs h => ?_)
  refine lv_if_ne (tgt := 13) S.1 S.2.1 dX0_askItem_8 (by decide) (fun c => ?_) (fun c => ?_)
  · replace hok := And.right hok c
    replace hR := (if_neg c).symm.trans hR
    refine lv_iload_n S.1 S.2.1 dX0_askItem_13 rfl (lv_at hl 1 rfl) ?_
    refine lv_bipush (v := 8) S.1 S.2.1 dX0_askItem_14 (by decide) ?_
    refine lv_icmp_ne (tgt := 37) S.1 S.2.1 dX0_askItem_16 (by decide) (fun c => ?_) (fun c => ?_)
    · replace hok := And.right hok c
      replace hR := (if_neg c).symm.trans hR
      refine lv_iload_n S.1 S.2.1 dX0_askItem_37 rfl (lv_at hl 1 rfl) ?_
      refine lv_bipush (v := 10) S.1 S.2.1 dX0_askItem_38 (by decide) ?_
      refine lv_icmp_ne (tgt := 60) S.1 S.2.1 dX0_askItem_40 (by decide) (fun c => ?_) (fun c => ?_)
      · replace hok := And.right hok c
        replace hR := (if_neg c).symm.trans hR
        refine lv_aload_n S.1 S.2.1 dX0_askItem_60 rfl (lv_at hl 0 rfl) ?_
        refine fg_X0_21 S K h dX0_askItem_61 ?_
        refine lv_iload_n S.1 S.2.1 dX0_askItem_64 rfl (lv_at hl 3 rfl) ?_
        have k5 := And.left hok
        replace hok := And.right hok
        refine g_calli (ci := 1) (q0 := 9) S wz_cons K h (c_X1_isAlive l D cy q _ A _ _ k5) kc_X1_isAlive km_X0_141 ki_X1_isAlive ks_X1_isAlive kn_X1 yd_X1_isAlive ⟨⟨Nat.le_of_ble_eq_true rfl, Nat.le_of_ble_eq_true rfl⟩, rfl, rfl, Nat.zero_le _, Nat.zero_le _⟩ rfl rfl rfl hl.1 (Nat.le_of_ble_eq_true rfl) rfl dX0_askItem_65 (fun H locs h => ?_)
        refine lv_if_eq (tgt := 88) S.1 S.2.1 dX0_askItem_68 (by decide) (fun c => ?_) (fun c => ?_)
        · replace hok := And.left hok c
          replace hR := (if_pos c).symm.trans hR
          refine lv_iconst (v := 4) S.1 S.2.1 dX0_askItem_88 (by decide) ?_
          subst hR
          exact g_reti S hr hlocks h dX0_askItem_89
        · replace hok := And.right hok c
          replace hR := (if_neg c).symm.trans hR
          refine lv_aload_n S.1 S.2.1 dX0_askItem_71 rfl (lv_at hl 0 rfl) ?_
          refine fg_X0_9 S K h dX0_askItem_72 ?_
          refine lv_iload_n S.1 S.2.1 dX0_askItem_75 rfl (lv_at hl 2 rfl) ?_
          refine lv_aload_n S.1 S.2.1 dX0_askItem_76 rfl (lv_at hl 0 rfl) ?_
          refine fg_X0_21 S K h dX0_askItem_77 ?_
          refine lv_iload_n S.1 S.2.1 dX0_askItem_80 rfl (lv_at hl 3 rfl) ?_
          have k8 := And.left hok
          replace hok := And.right hok
          refine g_calli (ci := 1) (q0 := 9) S wz_cons K h (c_X1_feed l D cy q _ A _ _ k8) kc_X1_feed km_X0_144 ki_X1_feed ks_X1_feed kn_X1 yd_X1_feed ⟨⟨Nat.le_of_ble_eq_true rfl, Nat.le_of_ble_eq_true rfl⟩, rfl, rfl, Nat.zero_le _, Nat.zero_le _⟩ rfl rfl rfl hl.1 (Nat.le_of_ble_eq_true rfl) rfl dX0_askItem_81 (fun H locs h => ?_)
          have k10 := And.left hok
          replace hok := And.right hok
          refine as_H1 S K h k10 dX0_askItem_84 (fun H locs h => ?_)
          refine lv_goto (tgt := 90) S.1 S.2.1 dX0_askItem_85 (by decide) ?_
          refine lv_iconst (v := 0) S.1 S.2.1 dX0_askItem_90 (by decide) ?_
          subst hR
          exact g_reti S hr hlocks h dX0_askItem_91
      · replace hok := And.left hok c
        replace hR := (if_pos c).symm.trans hR
        refine lv_aload_n S.1 S.2.1 dX0_askItem_43 rfl (lv_at hl 0 rfl) ?_
        refine fg_X0_9 S K h dX0_askItem_44 ?_
        refine lv_iload_n S.1 S.2.1 dX0_askItem_47 rfl (lv_at hl 2 rfl) ?_
        refine lv_aload_n S.1 S.2.1 dX0_askItem_48 rfl (lv_at hl 0 rfl) ?_
        refine fg_X0_21 S K h dX0_askItem_49 ?_
        refine lv_iload_n S.1 S.2.1 dX0_askItem_52 rfl (lv_at hl 3 rfl) ?_
        have k12 := And.left hok
        replace hok := And.right hok
        refine g_calli (ci := 1) (q0 := 9) S wz_cons K h (c_X1_stamp l D cy q _ A _ _ k12) kc_X1_stamp km_X0_138 ki_X1_stamp ks_X1_stamp kn_X1 yd_X1_stamp ⟨⟨Nat.le_of_ble_eq_true rfl, Nat.le_of_ble_eq_true rfl⟩, rfl, rfl, Nat.zero_le _, Nat.zero_le _⟩ rfl rfl rfl hl.1 (Nat.le_of_ble_eq_true rfl) rfl dX0_askItem_53 (fun H locs h => ?_)
        have k14 := And.left hok
        replace hok := And.right hok
        refine as_H1 S K h k14 dX0_askItem_56 (fun H locs h => ?_)
        refine lv_goto (tgt := 90) S.1 S.2.1 dX0_askItem_57 (by decide) ?_
        refine lv_iconst (v := 0) S.1 S.2.1 dX0_askItem_90 (by decide) ?_
        subst hR
        exact g_reti S hr hlocks h dX0_askItem_91
    · replace hok := And.left hok c
      replace hR := (if_pos c).symm.trans hR
      refine lv_aload_n S.1 S.2.1 dX0_askItem_19 rfl (lv_at hl 0 rfl) ?_
      refine fg_X0_9 S K h dX0_askItem_20 ?_
      refine lv_iload_n S.1 S.2.1 dX0_askItem_23 rfl (lv_at hl 2 rfl) ?_
      refine lv_aload_n S.1 S.2.1 dX0_askItem_24 rfl (lv_at hl 0 rfl) ?_
      refine fg_X0_21 S K h dX0_askItem_25 ?_
      refine fg_X0_135 S K h dX0_askItem_28 ?_
      refine lv_iload_n S.1 S.2.1 dX0_askItem_31 rfl (lv_at hl 3 rfl) ?_
      have k15 := And.left hok
      replace hok := And.right hok
      refine al_H11 S K h k15 dX0_askItem_32 ?_
      have k16 := And.left hok
      replace hok := And.right hok
      refine as_H1 S K h k16 dX0_askItem_33 (fun H locs h => ?_)
      refine lv_goto (tgt := 90) S.1 S.2.1 dX0_askItem_34 (by decide) ?_
      refine lv_iconst (v := 0) S.1 S.2.1 dX0_askItem_90 (by decide) ?_
      subst hR
      exact g_reti S hr hlocks h dX0_askItem_91
  · replace hok := And.left hok c
    replace hR := (if_pos c).symm.trans hR
    refine lv_iconst (v := 1) S.1 S.2.1 dX0_askItem_11 (by decide) ?_
    subst hR
    exact g_reti S hr hlocks h dX0_askItem_12
def xr_X0_load (σ : GS) (a1 : Int32) (a2 : Int32) : Int32 × GS := bd (xr_X1_has σ a1) (fun v1 σ3 => if v1 = 0 then (1, σ3) else (0, st σ3 11 a1.toNatClampNeg a2))
def xo_X0_load (σ : GS) (a1 : Int32) (a2 : Int32) : Prop := (xo_X1_has σ a1) ∧ bd (xr_X1_has σ a1) (fun v1 σ3 => (v1 = 0 → True) ∧ (¬ (v1 = 0) → vp_in a1 64 ∧ (True)))
set_option maxRecDepth 100000 in
set_option maxHeartbeats 4000000 in
theorem c_X0_load (l : Launch) (D : va_G) (cy : CY) (q : Nat → Nat) (ex : va_W) (A : Nat → Prop) (σ : GS) (a1 : Int32) (a2 : Int32) (hok : xo_X0_load σ a1 a2) : Met l yX0_load (wm yX0_load cX0_load 3 (some .int)) ({ frames := 2, cells := 0, slots := 0, locals := 42 } : Room) (PC D cy (wH cy q σ ++ ex) A [.ref (q 0), .int a1, .int a2]) (QI D (wH cy q (xr_X0_load σ a1 a2).2 ++ ex) A (xr_X0_load σ a1 a2).1) 0 0 A := by
  generalize hR : xr_X0_load σ a1 a2 = R
  refine g_met (lv := [(0, .ref (q 0)), (1, .int a1), (2, .int a2)]) (by decide) rfl (Nat.le_of_ble_eq_true rfl) rfl ?_
  intro p e s m below meth c ls S K h hr hlocks hl
  refine lv_aload_n S.1 S.2.1 dX0_load_0 rfl (lv_at hl 0 rfl) ?_
  refine fg_X0_21 S K h dX0_load_1 ?_
  refine lv_iload_n S.1 S.2.1 dX0_load_4 rfl (lv_at hl 1 rfl) ?_
  have k2 := And.left hok
  replace hok := And.right hok
  refine g_calli (ci := 1) (q0 := 9) S wz_cons K h (c_X1_has l D cy q _ A _ _ k2) kc_X1_has km_X0_111 ki_X1_has ks_X1_has kn_X1 yd_X1_has ⟨⟨Nat.le_of_ble_eq_true rfl, Nat.le_of_ble_eq_true rfl⟩, rfl, rfl, Nat.zero_le _, Nat.zero_le _⟩ rfl rfl rfl hl.1 (Nat.le_of_ble_eq_true rfl) rfl dX0_load_5 (fun H locs h => ?_)
  refine lv_if_ne (tgt := 13) S.1 S.2.1 dX0_load_8 (by decide) (fun c => ?_) (fun c => ?_)
  · replace hok := And.right hok c
    replace hR := (if_neg c).symm.trans hR
    refine lv_aload_n S.1 S.2.1 dX0_load_13 rfl (lv_at hl 0 rfl) ?_
    refine fg_X0_21 S K h dX0_load_14 ?_
    refine fg_X0_135 S K h dX0_load_17 ?_
    refine lv_iload_n S.1 S.2.1 dX0_load_20 rfl (lv_at hl 1 rfl) ?_
    refine lv_iload_n S.1 S.2.1 dX0_load_21 rfl (lv_at hl 2 rfl) ?_
    have k4 := And.left hok
    replace hok := And.right hok
    refine as_H11 S K h k4 dX0_load_22 (fun H locs h => ?_)
    refine lv_iconst (v := 0) S.1 S.2.1 dX0_load_23 (by decide) ?_
    subst hR
    exact g_reti S hr hlocks h dX0_load_24
  · replace hok := And.left hok c
    replace hR := (if_pos c).symm.trans hR
    refine lv_iconst (v := 1) S.1 S.2.1 dX0_load_11 (by decide) ?_
    subst hR
    exact g_reti S hr hlocks h dX0_load_12
def xr_X0_asKind (σ : GS) (a1 : Int32) (a2 : Int32) : Int32 × GS := bd (xr_X1_has σ a1) (fun v1 σ3 => if v1 = 0 then if (1 : Int32) = 0 then (4, σ3) else (0, σ3) else if (xr_X5_isOf (σ3 10 a1.toNatClampNeg) a2) = 0 then if (0 : Int32) = 0 then (4, σ3) else (0, σ3) else if (1 : Int32) = 0 then (4, σ3) else (0, σ3))
def xo_X0_asKind (σ : GS) (a1 : Int32) (a2 : Int32) : Prop := (xo_X1_has σ a1) ∧ bd (xr_X1_has σ a1) (fun v1 σ3 => (v1 = 0 → ((1 : Int32) = 0 → True) ∧ (¬ ((1 : Int32) = 0) → True)) ∧ (¬ (v1 = 0) → vp_in a1 64 ∧ ((xo_X5_isOf (σ3 10 a1.toNatClampNeg) a2) ∧ (((xr_X5_isOf (σ3 10 a1.toNatClampNeg) a2) = 0 → ((0 : Int32) = 0 → True) ∧ (¬ ((0 : Int32) = 0) → True)) ∧ (¬ ((xr_X5_isOf (σ3 10 a1.toNatClampNeg) a2) = 0) → ((1 : Int32) = 0 → True) ∧ (¬ ((1 : Int32) = 0) → True))))))
set_option maxRecDepth 100000 in
set_option maxHeartbeats 4000000 in
theorem c_X0_asKind (l : Launch) (D : va_G) (cy : CY) (q : Nat → Nat) (ex : va_W) (A : Nat → Prop) (σ : GS) (a1 : Int32) (a2 : Int32) (hok : xo_X0_asKind σ a1 a2) : Met l yX0_asKind (wm yX0_asKind cX0_asKind 4 (some .int)) ({ frames := 2, cells := 0, slots := 0, locals := 42 } : Room) (PC D cy (wH cy q σ ++ ex) A [.ref (q 0), .int a1, .int a2]) (QI D (wH cy q (xr_X0_asKind σ a1 a2).2 ++ ex) A (xr_X0_asKind σ a1 a2).1) 0 0 A := by
  generalize hR : xr_X0_asKind σ a1 a2 = R
  refine g_met (lv := [(0, .ref (q 0)), (1, .int a1), (2, .int a2)]) (by decide) rfl (Nat.le_of_ble_eq_true rfl) rfl ?_
  intro p e s m below meth c ls S K h hr hlocks hl
  refine lv_aload_n S.1 S.2.1 dX0_asKind_0 rfl (lv_at hl 0 rfl) ?_
  refine fg_X0_21 S K h dX0_asKind_1 ?_
  refine lv_iload_n S.1 S.2.1 dX0_asKind_4 rfl (lv_at hl 1 rfl) ?_
  have k2 := And.left hok
  replace hok := And.right hok
  refine g_calli (ci := 1) (q0 := 9) S wz_cons K h (c_X1_has l D cy q _ A _ _ k2) kc_X1_has km_X0_111 ki_X1_has ks_X1_has kn_X1 yd_X1_has ⟨⟨Nat.le_of_ble_eq_true rfl, Nat.le_of_ble_eq_true rfl⟩, rfl, rfl, Nat.zero_le _, Nat.zero_le _⟩ rfl rfl rfl hl.1 (Nat.le_of_ble_eq_true rfl) rfl dX0_asKind_5 (fun H locs h => ?_)
  refine lv_if_eq (tgt := 27) S.1 S.2.1 dX0_asKind_8 (by decide) (fun c => ?_) (fun c => ?_)
  · replace hok := And.left hok c
    replace hR := (if_pos c).symm.trans hR
    refine lv_iconst (v := 1) S.1 S.2.1 dX0_asKind_27 (by decide) ?_
    refine lv_goto (tgt := 32) S.1 S.2.1 dX0_asKind_28 (by decide) ?_
    refine lv_istore_n (lv' := [(3, .int _), (0, .ref _), (1, .int _), (2, .int _)]) S.1 S.2.1 dX0_asKind_32 rfl hl (by decide) rfl (fun ls hl => ?_)
    refine lv_iload_n S.1 S.2.1 dX0_asKind_33 rfl (lv_at hl 0 rfl) ?_
    refine lv_if_eq (tgt := 41) S.1 S.2.1 dX0_asKind_34 (by decide) (fun c => ?_) (fun c => ?_)
    · replace hok := And.left hok c
      replace hR := (if_pos c).symm.trans hR
      refine lv_iconst (v := 4) S.1 S.2.1 dX0_asKind_41 (by decide) ?_
      subst hR
      exact g_reti S hr hlocks h dX0_asKind_42
    · replace hok := And.right hok c
      replace hR := (if_neg c).symm.trans hR
      refine lv_iconst (v := 0) S.1 S.2.1 dX0_asKind_37 (by decide) ?_
      refine lv_goto (tgt := 42) S.1 S.2.1 dX0_asKind_38 (by decide) ?_
      subst hR
      exact g_reti S hr hlocks h dX0_asKind_42
  · replace hok := And.right hok c
    replace hR := (if_neg c).symm.trans hR
    refine lv_aload_n S.1 S.2.1 dX0_asKind_11 rfl (lv_at hl 0 rfl) ?_
    refine fg_X0_21 S K h dX0_asKind_12 ?_
    refine fg_X0_115 S K h dX0_asKind_15 ?_
    refine lv_iload_n S.1 S.2.1 dX0_asKind_18 rfl (lv_at hl 1 rfl) ?_
    have k4 := And.left hok
    replace hok := And.right hok
    refine al_H10 S K h k4 dX0_asKind_19 ?_
    refine lv_iload_n S.1 S.2.1 dX0_asKind_20 rfl (lv_at hl 2 rfl) ?_
    have k6 := And.left hok
    replace hok := And.right hok
    refine g_callsN S wz_cons K.2 (c_X5_isOf l _ _ k6) kc_X5_isOf nn_X0_121 kt_X5_isOf kn_X5 yd_X5_isOf.2 ⟨⟨Nat.le_of_ble_eq_true rfl, Nat.le_of_ble_eq_true rfl⟩, rfl, rfl, Nat.zero_le _, Nat.zero_le _⟩ rfl hl.1 (Nat.le_of_ble_eq_true rfl) rfl dX0_asKind_21 ?_
    refine lv_if_eq (tgt := 31) S.1 S.2.1 dX0_asKind_24 (by decide) (fun c => ?_) (fun c => ?_)
    · replace hok := And.left hok c
      replace hR := (if_pos c).symm.trans hR
      refine lv_iconst (v := 0) S.1 S.2.1 dX0_asKind_31 (by decide) ?_
      refine lv_istore_n (lv' := [(3, .int _), (0, .ref _), (1, .int _), (2, .int _)]) S.1 S.2.1 dX0_asKind_32 rfl hl (by decide) rfl (fun ls hl => ?_)
      refine lv_iload_n S.1 S.2.1 dX0_asKind_33 rfl (lv_at hl 0 rfl) ?_
      refine lv_if_eq (tgt := 41) S.1 S.2.1 dX0_asKind_34 (by decide) (fun c => ?_) (fun c => ?_)
      · replace hok := And.left hok c
        replace hR := (if_pos c).symm.trans hR
        refine lv_iconst (v := 4) S.1 S.2.1 dX0_asKind_41 (by decide) ?_
        subst hR
        exact g_reti S hr hlocks h dX0_asKind_42
      · replace hok := And.right hok c
        replace hR := (if_neg c).symm.trans hR
        refine lv_iconst (v := 0) S.1 S.2.1 dX0_asKind_37 (by decide) ?_
        refine lv_goto (tgt := 42) S.1 S.2.1 dX0_asKind_38 (by decide) ?_
        subst hR
        exact g_reti S hr hlocks h dX0_asKind_42
    · replace hok := And.right hok c
      replace hR := (if_neg c).symm.trans hR
      refine lv_iconst (v := 1) S.1 S.2.1 dX0_asKind_27 (by decide) ?_
      refine lv_goto (tgt := 32) S.1 S.2.1 dX0_asKind_28 (by decide) ?_
      refine lv_istore_n (lv' := [(3, .int _), (0, .ref _), (1, .int _), (2, .int _)]) S.1 S.2.1 dX0_asKind_32 rfl hl (by decide) rfl (fun ls hl => ?_)
      refine lv_iload_n S.1 S.2.1 dX0_asKind_33 rfl (lv_at hl 0 rfl) ?_
      refine lv_if_eq (tgt := 41) S.1 S.2.1 dX0_asKind_34 (by decide) (fun c => ?_) (fun c => ?_)
      · replace hok := And.left hok c
        replace hR := (if_pos c).symm.trans hR
        refine lv_iconst (v := 4) S.1 S.2.1 dX0_asKind_41 (by decide) ?_
        subst hR
        exact g_reti S hr hlocks h dX0_asKind_42
      · replace hok := And.right hok c
        replace hR := (if_neg c).symm.trans hR
        refine lv_iconst (v := 0) S.1 S.2.1 dX0_asKind_37 (by decide) ?_
        refine lv_goto (tgt := 42) S.1 S.2.1 dX0_asKind_38 (by decide) ?_
        subst hR
        exact g_reti S hr hlocks h dX0_asKind_42
def xr_X0_count (σ : GS) (r1 : Nat) (a2 : Int32) : Int32 × GS := bd (xr_X4_placeFailure σ r1 a2) (fun v1 σ3 => if v1 = 0 then (v1, st σ3 (20 + r1) a2.toNatClampNeg ((σ3 (20 + r1) a2.toNatClampNeg) + 1)) else (v1, σ3))
def xo_X0_count (σ : GS) (r1 : Nat) (a2 : Int32) : Prop := r1 < 7 ∧ ((xo_X4_placeFailure σ r1 a2) ∧ bd (xr_X4_placeFailure σ r1 a2) (fun v1 σ3 => (v1 = 0 → r1 < 7 ∧ (r1 < 7 ∧ (vp_in a2 8 ∧ (r1 < 7 ∧ (vp_in a2 8 ∧ (True)))))) ∧ (¬ (v1 = 0) → True)))
set_option maxRecDepth 100000 in
set_option maxHeartbeats 4000000 in
theorem c_X0_count (l : Launch) (D : va_G) (cy : CY) (q : Nat → Nat) (ex : va_W) (A : Nat → Prop) (σ : GS) (r1 : Nat) (a2 : Int32) (hok : xo_X0_count σ r1 a2) : Met l yX0_count (wm yX0_count cX0_count 4 (some .int)) ({ frames := 2, cells := 0, slots := 0, locals := 42 } : Room) (PC D cy (wH cy q σ ++ ex) A [.ref (q 0), .ref (q (13 + r1)), .int a2]) (QI D (wH cy q (xr_X0_count σ r1 a2).2 ++ ex) A (xr_X0_count σ r1 a2).1) 0 0 A := by
  generalize hR : xr_X0_count σ r1 a2 = R
  refine g_met (lv := [(0, .ref (q 0)), (1, .ref (q (13 + r1))), (2, .int a2)]) (by decide) rfl (Nat.le_of_ble_eq_true rfl) rfl ?_
  intro p e s m below meth c ls S K h hr hlocks hl
  obtain ⟨hr_r1, hok⟩ := hok
  refine lv_aload_n S.1 S.2.1 dX0_count_0 rfl (lv_at hl 1 rfl) ?_
  refine lv_iload_n S.1 S.2.1 dX0_count_1 rfl (lv_at hl 2 rfl) ?_
  have k2 := And.left hok
  replace hok := And.right hok
  refine g_calli (ci := 4) S wz_cons K h (c_X4_placeFailure l D cy q _ A _ _ _ k2) kc_X4_placeFailure km_X0_107 ki_X4_placeFailure ks_X4_placeFailure kn_X4 yd_X4_placeFailure ⟨⟨Nat.le_of_ble_eq_true rfl, Nat.le_of_ble_eq_true rfl⟩, rfl, rfl, Nat.zero_le _, Nat.zero_le _⟩ rfl (row_at cy q _ _ (And.left k2)) rfl hl.1 (Nat.le_of_ble_eq_true rfl) rfl dX0_count_2 (fun H locs h => ?_)
  refine lv_istore_n (lv' := [(3, .int _), (0, .ref _), (1, .ref _), (2, .int _)]) S.1 S.2.1 dX0_count_5 rfl hl (by decide) rfl (fun ls hl => ?_)
  refine lv_iload_n S.1 S.2.1 dX0_count_6 rfl (lv_at hl 0 rfl) ?_
  refine lv_if_ne (tgt := 20) S.1 S.2.1 dX0_count_7 (by decide) (fun c => ?_) (fun c => ?_)
  · replace hok := And.right hok c
    replace hR := (if_neg c).symm.trans hR
    refine lv_iload_n S.1 S.2.1 dX0_count_20 rfl (lv_at hl 0 rfl) ?_
    subst hR
    exact g_reti S hr hlocks h dX0_count_21
  · replace hok := And.left hok c
    replace hR := (if_pos c).symm.trans hR
    refine lv_aload_n S.1 S.2.1 dX0_count_10 rfl (lv_at hl 2 rfl) ?_
    have k4 := And.left hok
    replace hok := And.right hok
    refine fg_X0_125 S K k4 h dX0_count_11 ?_
    refine lv_iload_n S.1 S.2.1 dX0_count_14 rfl (lv_at hl 3 rfl) ?_
    refine lv_dup2_11 S.1 S.2.1 dX0_count_15 rfl rfl ?_
    have k5 := And.left hok
    replace hok := And.right hok
    have k6 := And.left hok
    replace hok := And.right hok
    refine al_cells S K k5 h k6 dX0_count_16 ?_
    refine lv_iconst (v := 1) S.1 S.2.1 dX0_count_17 (by decide) ?_
    refine lv_iadd S.1 S.2.1 dX0_count_18 ?_
    have k7 := And.left hok
    replace hok := And.right hok
    have k8 := And.left hok
    replace hok := And.right hok
    refine as_cells S K k7 h k8 dX0_count_19 (fun H locs h => ?_)
    refine lv_iload_n S.1 S.2.1 dX0_count_20 rfl (lv_at hl 0 rfl) ?_
    subst hR
    exact g_reti S hr hlocks h dX0_count_21
def xr_X0_readCount (σ : GS) (a1 : Int32) (r2 : Nat) (a3 : Int32) : Int32 × GS := bd (xr_X4_placeFailure σ r2 a3) (fun v1 σ3 => if v1 = 0 then (v1, st σ3 1 a1.toNatClampNeg (σ3 (20 + r2) a3.toNatClampNeg)) else (v1, σ3))
def xo_X0_readCount (σ : GS) (a1 : Int32) (r2 : Nat) (a3 : Int32) : Prop := r2 < 7 ∧ ((xo_X4_placeFailure σ r2 a3) ∧ bd (xr_X4_placeFailure σ r2 a3) (fun v1 σ3 => (v1 = 0 → r2 < 7 ∧ (r2 < 7 ∧ (vp_in a3 8 ∧ (vp_in a1 6 ∧ (True))))) ∧ (¬ (v1 = 0) → True)))
set_option maxRecDepth 100000 in
set_option maxHeartbeats 4000000 in
theorem c_X0_readCount (l : Launch) (D : va_G) (cy : CY) (q : Nat → Nat) (ex : va_W) (A : Nat → Prop) (σ : GS) (a1 : Int32) (r2 : Nat) (a3 : Int32) (hok : xo_X0_readCount σ a1 r2 a3) : Met l yX0_readCount (wm yX0_readCount cX0_readCount 5 (some .int)) ({ frames := 2, cells := 0, slots := 0, locals := 42 } : Room) (PC D cy (wH cy q σ ++ ex) A [.ref (q 0), .int a1, .ref (q (13 + r2)), .int a3]) (QI D (wH cy q (xr_X0_readCount σ a1 r2 a3).2 ++ ex) A (xr_X0_readCount σ a1 r2 a3).1) 0 0 A := by
  generalize hR : xr_X0_readCount σ a1 r2 a3 = R
  refine g_met (lv := [(0, .ref (q 0)), (1, .int a1), (2, .ref (q (13 + r2))), (3, .int a3)]) (by decide) rfl (Nat.le_of_ble_eq_true rfl) rfl ?_
  intro p e s m below meth c ls S K h hr hlocks hl
  obtain ⟨hr_r2, hok⟩ := hok
  refine lv_aload_n S.1 S.2.1 dX0_readCount_0 rfl (lv_at hl 2 rfl) ?_
  refine lv_iload_n S.1 S.2.1 dX0_readCount_1 rfl (lv_at hl 3 rfl) ?_
  have k2 := And.left hok
  replace hok := And.right hok
  refine g_calli (ci := 4) S wz_cons K h (c_X4_placeFailure l D cy q _ A _ _ _ k2) kc_X4_placeFailure km_X0_107 ki_X4_placeFailure ks_X4_placeFailure kn_X4 yd_X4_placeFailure ⟨⟨Nat.le_of_ble_eq_true rfl, Nat.le_of_ble_eq_true rfl⟩, rfl, rfl, Nat.zero_le _, Nat.zero_le _⟩ rfl (row_at cy q _ _ (And.left k2)) rfl hl.1 (Nat.le_of_ble_eq_true rfl) rfl dX0_readCount_2 (fun H locs h => ?_)
  refine lv_istore (lv' := [(4, .int _), (0, .ref _), (1, .int _), (2, .ref _), (3, .int _)]) S.1 S.2.1 dX0_readCount_5 hl (by decide) rfl (fun ls hl => ?_)
  refine lv_iload S.1 S.2.1 dX0_readCount_7 (lv_at hl 0 rfl) ?_
  refine lv_if_ne (tgt := 24) S.1 S.2.1 dX0_readCount_9 (by decide) (fun c => ?_) (fun c => ?_)
  · replace hok := And.right hok c
    replace hR := (if_neg c).symm.trans hR
    refine lv_iload S.1 S.2.1 dX0_readCount_24 (lv_at hl 0 rfl) ?_
    subst hR
    exact g_reti S hr hlocks h dX0_readCount_26
  · replace hok := And.left hok c
    replace hR := (if_pos c).symm.trans hR
    refine lv_aload_n S.1 S.2.1 dX0_readCount_12 rfl (lv_at hl 1 rfl) ?_
    refine fg_X0_9 S K h dX0_readCount_13 ?_
    refine lv_iload_n S.1 S.2.1 dX0_readCount_16 rfl (lv_at hl 2 rfl) ?_
    refine lv_aload_n S.1 S.2.1 dX0_readCount_17 rfl (lv_at hl 3 rfl) ?_
    have k4 := And.left hok
    replace hok := And.right hok
    refine fg_X0_125 S K k4 h dX0_readCount_18 ?_
    refine lv_iload_n S.1 S.2.1 dX0_readCount_21 rfl (lv_at hl 4 rfl) ?_
    have k5 := And.left hok
    replace hok := And.right hok
    have k6 := And.left hok
    replace hok := And.right hok
    refine al_cells S K k5 h k6 dX0_readCount_22 ?_
    have k7 := And.left hok
    replace hok := And.right hok
    refine as_H1 S K h k7 dX0_readCount_23 (fun H locs h => ?_)
    refine lv_iload S.1 S.2.1 dX0_readCount_24 (lv_at hl 0 rfl) ?_
    subst hR
    exact g_reti S hr hlocks h dX0_readCount_26
def xr_X0_newGrid (σ : GS) (a1 : Int32) (a2 : Int32) (a3 : Int32) : Int32 × GS := if (xr_X5_sizeFailure a2) = 0 then (xr_X5_sizeFailure a2, st (st σ 3 a1.toNatClampNeg a2) 4 a1.toNatClampNeg a3) else (xr_X5_sizeFailure a2, σ)
def xo_X0_newGrid (σ : GS) (a1 : Int32) (a2 : Int32) (a3 : Int32) : Prop := (xo_X5_sizeFailure a2) ∧ (((xr_X5_sizeFailure a2) = 0 → vp_in a1 2 ∧ (vp_in a1 2 ∧ (True))) ∧ (¬ ((xr_X5_sizeFailure a2) = 0) → True))
set_option maxRecDepth 100000 in
set_option maxHeartbeats 4000000 in
theorem c_X0_newGrid (l : Launch) (D : va_G) (cy : CY) (q : Nat → Nat) (ex : va_W) (A : Nat → Prop) (σ : GS) (a1 : Int32) (a2 : Int32) (a3 : Int32) (hok : xo_X0_newGrid σ a1 a2 a3) : Met l yX0_newGrid (wm yX0_newGrid cX0_newGrid 5 (some .int)) ({ frames := 1, cells := 0, slots := 0, locals := 20 } : Room) (PC D cy (wH cy q σ ++ ex) A [.ref (q 0), .int a1, .int a2, .int a3]) (QI D (wH cy q (xr_X0_newGrid σ a1 a2 a3).2 ++ ex) A (xr_X0_newGrid σ a1 a2 a3).1) 0 0 A := by
  generalize hR : xr_X0_newGrid σ a1 a2 a3 = R
  refine g_met (lv := [(0, .ref (q 0)), (1, .int a1), (2, .int a2), (3, .int a3)]) (by decide) rfl (Nat.le_of_ble_eq_true rfl) rfl ?_
  intro p e s m below meth c ls S K h hr hlocks hl
  refine lv_iload_n S.1 S.2.1 dX0_newGrid_0 rfl (lv_at hl 2 rfl) ?_
  have k2 := And.left hok
  replace hok := And.right hok
  refine g_callsN S wz_cons K.2 (c_X5_sizeFailure l _ k2) kc_X5_sizeFailure nn_X0_154 kt_X5_sizeFailure kn_X5 yd_X5_sizeFailure.2 ⟨⟨Nat.le_of_ble_eq_true rfl, Nat.le_of_ble_eq_true rfl⟩, rfl, rfl, Nat.zero_le _, Nat.zero_le _⟩ rfl hl.1 (Nat.le_of_ble_eq_true rfl) rfl dX0_newGrid_1 ?_
  refine lv_istore (lv' := [(4, .int _), (0, .ref _), (1, .int _), (2, .int _), (3, .int _)]) S.1 S.2.1 dX0_newGrid_4 hl (by decide) rfl (fun ls hl => ?_)
  refine lv_iload S.1 S.2.1 dX0_newGrid_6 (lv_at hl 0 rfl) ?_
  refine lv_if_ne (tgt := 25) S.1 S.2.1 dX0_newGrid_8 (by decide) (fun c => ?_) (fun c => ?_)
  · replace hok := And.right hok c
    replace hR := (if_neg c).symm.trans hR
    refine lv_iload S.1 S.2.1 dX0_newGrid_25 (lv_at hl 0 rfl) ?_
    subst hR
    exact g_reti S hr hlocks h dX0_newGrid_27
  · replace hok := And.left hok c
    replace hR := (if_pos c).symm.trans hR
    refine lv_aload_n S.1 S.2.1 dX0_newGrid_11 rfl (lv_at hl 1 rfl) ?_
    refine fg_X0_34 S K h dX0_newGrid_12 ?_
    refine lv_iload_n S.1 S.2.1 dX0_newGrid_15 rfl (lv_at hl 2 rfl) ?_
    refine lv_iload_n S.1 S.2.1 dX0_newGrid_16 rfl (lv_at hl 3 rfl) ?_
    have k4 := And.left hok
    replace hok := And.right hok
    refine as_H3 S K h k4 dX0_newGrid_17 (fun H locs h => ?_)
    refine lv_aload_n S.1 S.2.1 dX0_newGrid_18 rfl (lv_at hl 1 rfl) ?_
    refine fg_X0_37 S K h dX0_newGrid_19 ?_
    refine lv_iload_n S.1 S.2.1 dX0_newGrid_22 rfl (lv_at hl 2 rfl) ?_
    refine lv_iload_n S.1 S.2.1 dX0_newGrid_23 rfl (lv_at hl 4 rfl) ?_
    have k5 := And.left hok
    replace hok := And.right hok
    refine as_H4 S K h k5 dX0_newGrid_24 (fun H locs h => ?_)
    refine lv_iload S.1 S.2.1 dX0_newGrid_25 (lv_at hl 0 rfl) ?_
    subst hR
    exact g_reti S hr hlocks h dX0_newGrid_27
def xr_X0_sumGrid (σ : GS) (a1 : Int32) (a2 : Int32) : Int32 × GS := if (σ 3 a2.toNatClampNeg) = (-1) then (1, σ) else (0, st σ 1 a1.toNatClampNeg ((σ 3 a2.toNatClampNeg) * (σ 4 a2.toNatClampNeg)))
def xo_X0_sumGrid (σ : GS) (a1 : Int32) (a2 : Int32) : Prop := vp_in a2 2 ∧ (((σ 3 a2.toNatClampNeg) = (-1) → True) ∧ (¬ ((σ 3 a2.toNatClampNeg) = (-1)) → vp_in a2 2 ∧ (vp_in a2 2 ∧ (vp_in a1 6 ∧ (True)))))
set_option maxRecDepth 100000 in
set_option maxHeartbeats 4000000 in
theorem c_X0_sumGrid (l : Launch) (D : va_G) (cy : CY) (q : Nat → Nat) (ex : va_W) (A : Nat → Prop) (σ : GS) (a1 : Int32) (a2 : Int32) (hok : xo_X0_sumGrid σ a1 a2) : Met l yX0_sumGrid (wm yX0_sumGrid cX0_sumGrid 3 (some .int)) ({ frames := 0, cells := 0, slots := 0, locals := 0 } : Room) (PC D cy (wH cy q σ ++ ex) A [.ref (q 0), .int a1, .int a2]) (QI D (wH cy q (xr_X0_sumGrid σ a1 a2).2 ++ ex) A (xr_X0_sumGrid σ a1 a2).1) 0 0 A := by
  generalize hR : xr_X0_sumGrid σ a1 a2 = R
  refine g_met (lv := [(0, .ref (q 0)), (1, .int a1), (2, .int a2)]) (by decide) rfl (Nat.le_of_ble_eq_true rfl) rfl ?_
  intro p e s m below meth c ls S K h hr hlocks hl
  refine lv_aload_n S.1 S.2.1 dX0_sumGrid_0 rfl (lv_at hl 0 rfl) ?_
  refine fg_X0_34 S K h dX0_sumGrid_1 ?_
  refine lv_iload_n S.1 S.2.1 dX0_sumGrid_4 rfl (lv_at hl 2 rfl) ?_
  have k1 := And.left hok
  replace hok := And.right hok
  refine al_H3 S K h k1 dX0_sumGrid_5 ?_
  refine lv_iconst (v := -1) S.1 S.2.1 dX0_sumGrid_6 (by decide) ?_
  refine lv_icmp_ne (tgt := 12) S.1 S.2.1 dX0_sumGrid_7 (by decide) (fun c => ?_) (fun c => ?_)
  · replace hok := And.right hok c
    replace hR := (if_neg c).symm.trans hR
    refine lv_aload_n S.1 S.2.1 dX0_sumGrid_12 rfl (lv_at hl 0 rfl) ?_
    refine fg_X0_9 S K h dX0_sumGrid_13 ?_
    refine lv_iload_n S.1 S.2.1 dX0_sumGrid_16 rfl (lv_at hl 1 rfl) ?_
    refine lv_aload_n S.1 S.2.1 dX0_sumGrid_17 rfl (lv_at hl 0 rfl) ?_
    refine fg_X0_34 S K h dX0_sumGrid_18 ?_
    refine lv_iload_n S.1 S.2.1 dX0_sumGrid_21 rfl (lv_at hl 2 rfl) ?_
    have k2 := And.left hok
    replace hok := And.right hok
    refine al_H3 S K h k2 dX0_sumGrid_22 ?_
    refine lv_aload_n S.1 S.2.1 dX0_sumGrid_23 rfl (lv_at hl 0 rfl) ?_
    refine fg_X0_37 S K h dX0_sumGrid_24 ?_
    refine lv_iload_n S.1 S.2.1 dX0_sumGrid_27 rfl (lv_at hl 2 rfl) ?_
    have k3 := And.left hok
    replace hok := And.right hok
    refine al_H4 S K h k3 dX0_sumGrid_28 ?_
    refine lv_imul S.1 S.2.1 dX0_sumGrid_29 ?_
    have k4 := And.left hok
    replace hok := And.right hok
    refine as_H1 S K h k4 dX0_sumGrid_30 (fun H locs h => ?_)
    refine lv_iconst (v := 0) S.1 S.2.1 dX0_sumGrid_31 (by decide) ?_
    subst hR
    exact g_reti S hr hlocks h dX0_sumGrid_32
  · replace hok := And.left hok c
    replace hR := (if_pos c).symm.trans hR
    refine lv_iconst (v := 1) S.1 S.2.1 dX0_sumGrid_10 (by decide) ?_
    subst hR
    exact g_reti S hr hlocks h dX0_sumGrid_11
def xr_X0_alarmAct (σ : GS) (a1 : Int32) (a2 : Int32) (a3 : Int32) : Int32 × GS := if a1 = 20 then if (σ 5 a2.toNatClampNeg) = 0 then (1, σ) else (7, σ) else if a1 = 18 then if a1 = 18 then (0, st (st σ 5 a2.toNatClampNeg (vp_nar .boolean 1)) 6 a2.toNatClampNeg ((st σ 5 a2.toNatClampNeg (vp_nar .boolean 1)) 1 a3.toNatClampNeg)) else (0, st σ 5 a2.toNatClampNeg (vp_nar .boolean 1)) else if a1 = 18 then (0, st (st σ 5 a2.toNatClampNeg (vp_nar .boolean 0)) 6 a2.toNatClampNeg ((st σ 5 a2.toNatClampNeg (vp_nar .boolean 0)) 1 a3.toNatClampNeg)) else (0, st σ 5 a2.toNatClampNeg (vp_nar .boolean 0))
def xo_X0_alarmAct (σ : GS) (a1 : Int32) (a2 : Int32) (a3 : Int32) : Prop := (a1 = 20 → vp_in a2 3 ∧ (((σ 5 a2.toNatClampNeg) = 0 → True) ∧ (¬ ((σ 5 a2.toNatClampNeg) = 0) → True))) ∧ (¬ (a1 = 20) → (a1 = 18 → vp_in a2 3 ∧ ((a1 = 18 → vp_in a3 6 ∧ (vp_in a2 3 ∧ (True))) ∧ (¬ (a1 = 18) → True))) ∧ (¬ (a1 = 18) → vp_in a2 3 ∧ ((a1 = 18 → vp_in a3 6 ∧ (vp_in a2 3 ∧ (True))) ∧ (¬ (a1 = 18) → True))))
set_option maxRecDepth 100000 in
set_option maxHeartbeats 4000000 in
theorem c_X0_alarmAct (l : Launch) (D : va_G) (cy : CY) (q : Nat → Nat) (ex : va_W) (A : Nat → Prop) (σ : GS) (a1 : Int32) (a2 : Int32) (a3 : Int32) (hok : xo_X0_alarmAct σ a1 a2 a3) : Met l yX0_alarmAct (wm yX0_alarmAct cX0_alarmAct 4 (some .int)) ({ frames := 0, cells := 0, slots := 0, locals := 0 } : Room) (PC D cy (wH cy q σ ++ ex) A [.ref (q 0), .int a1, .int a2, .int a3]) (QI D (wH cy q (xr_X0_alarmAct σ a1 a2 a3).2 ++ ex) A (xr_X0_alarmAct σ a1 a2 a3).1) 0 0 A := by
  generalize hR : xr_X0_alarmAct σ a1 a2 a3 = R
  refine g_met (lv := [(0, .ref (q 0)), (1, .int a1), (2, .int a2), (3, .int a3)]) (by decide) rfl (Nat.le_of_ble_eq_true rfl) rfl ?_
  intro p e s m below meth c ls S K h hr hlocks hl
  refine lv_iload_n S.1 S.2.1 dX0_alarmAct_0 rfl (lv_at hl 1 rfl) ?_
  refine lv_bipush (v := 20) S.1 S.2.1 dX0_alarmAct_1 (by decide) ?_
  refine lv_icmp_ne (tgt := 22) S.1 S.2.1 dX0_alarmAct_3 (by decide) (fun c => ?_) (fun c => ?_)
  · replace hok := And.right hok c
    replace hR := (if_neg c).symm.trans hR
    refine lv_aload_n S.1 S.2.1 dX0_alarmAct_22 rfl (lv_at hl 0 rfl) ?_
    refine fg_X0_40 S K h dX0_alarmAct_23 ?_
    refine lv_iload_n S.1 S.2.1 dX0_alarmAct_26 rfl (lv_at hl 2 rfl) ?_
    refine lv_iload_n S.1 S.2.1 dX0_alarmAct_27 rfl (lv_at hl 1 rfl) ?_
    refine lv_bipush (v := 18) S.1 S.2.1 dX0_alarmAct_28 (by decide) ?_
    refine lv_icmp_ne (tgt := 37) S.1 S.2.1 dX0_alarmAct_30 (by decide) (fun c => ?_) (fun c => ?_)
    · replace hok := And.right hok c
      replace hR := (if_neg c).symm.trans hR
      refine lv_iconst (v := 0) S.1 S.2.1 dX0_alarmAct_37 (by decide) ?_
      have k1 := And.left hok
      replace hok := And.right hok
      refine as_H5 S K h k1 dX0_alarmAct_38 (fun H locs h => ?_)
      refine lv_iload_n S.1 S.2.1 dX0_alarmAct_39 rfl (lv_at hl 1 rfl) ?_
      refine lv_bipush (v := 18) S.1 S.2.1 dX0_alarmAct_40 (by decide) ?_
      refine lv_icmp_ne (tgt := 57) S.1 S.2.1 dX0_alarmAct_42 (by decide) (fun c => ?_) (fun c => ?_)
      · replace hok := And.right hok c
        replace hR := (if_neg c).symm.trans hR
        refine lv_iconst (v := 0) S.1 S.2.1 dX0_alarmAct_57 (by decide) ?_
        subst hR
        exact g_reti S hr hlocks h dX0_alarmAct_58
      · replace hok := And.left hok c
        replace hR := (if_pos c).symm.trans hR
        refine lv_aload_n S.1 S.2.1 dX0_alarmAct_45 rfl (lv_at hl 0 rfl) ?_
        refine fg_X0_44 S K h dX0_alarmAct_46 ?_
        refine lv_iload_n S.1 S.2.1 dX0_alarmAct_49 rfl (lv_at hl 2 rfl) ?_
        refine lv_aload_n S.1 S.2.1 dX0_alarmAct_50 rfl (lv_at hl 0 rfl) ?_
        refine fg_X0_9 S K h dX0_alarmAct_51 ?_
        refine lv_iload_n S.1 S.2.1 dX0_alarmAct_54 rfl (lv_at hl 3 rfl) ?_
        have k2 := And.left hok
        replace hok := And.right hok
        refine al_H1 S K h k2 dX0_alarmAct_55 ?_
        have k3 := And.left hok
        replace hok := And.right hok
        refine as_H6 S K h k3 dX0_alarmAct_56 (fun H locs h => ?_)
        refine lv_iconst (v := 0) S.1 S.2.1 dX0_alarmAct_57 (by decide) ?_
        subst hR
        exact g_reti S hr hlocks h dX0_alarmAct_58
    · replace hok := And.left hok c
      replace hR := (if_pos c).symm.trans hR
      refine lv_iconst (v := 1) S.1 S.2.1 dX0_alarmAct_33 (by decide) ?_
      refine lv_goto (tgt := 38) S.1 S.2.1 dX0_alarmAct_34 (by decide) ?_
      have k4 := And.left hok
      replace hok := And.right hok
      refine as_H5 S K h k4 dX0_alarmAct_38 (fun H locs h => ?_)
      refine lv_iload_n S.1 S.2.1 dX0_alarmAct_39 rfl (lv_at hl 1 rfl) ?_
      refine lv_bipush (v := 18) S.1 S.2.1 dX0_alarmAct_40 (by decide) ?_
      refine lv_icmp_ne (tgt := 57) S.1 S.2.1 dX0_alarmAct_42 (by decide) (fun c => ?_) (fun c => ?_)
      · replace hok := And.right hok c
        replace hR := (if_neg c).symm.trans hR
        refine lv_iconst (v := 0) S.1 S.2.1 dX0_alarmAct_57 (by decide) ?_
        subst hR
        exact g_reti S hr hlocks h dX0_alarmAct_58
      · replace hok := And.left hok c
        replace hR := (if_pos c).symm.trans hR
        refine lv_aload_n S.1 S.2.1 dX0_alarmAct_45 rfl (lv_at hl 0 rfl) ?_
        refine fg_X0_44 S K h dX0_alarmAct_46 ?_
        refine lv_iload_n S.1 S.2.1 dX0_alarmAct_49 rfl (lv_at hl 2 rfl) ?_
        refine lv_aload_n S.1 S.2.1 dX0_alarmAct_50 rfl (lv_at hl 0 rfl) ?_
        refine fg_X0_9 S K h dX0_alarmAct_51 ?_
        refine lv_iload_n S.1 S.2.1 dX0_alarmAct_54 rfl (lv_at hl 3 rfl) ?_
        have k5 := And.left hok
        replace hok := And.right hok
        refine al_H1 S K h k5 dX0_alarmAct_55 ?_
        have k6 := And.left hok
        replace hok := And.right hok
        refine as_H6 S K h k6 dX0_alarmAct_56 (fun H locs h => ?_)
        refine lv_iconst (v := 0) S.1 S.2.1 dX0_alarmAct_57 (by decide) ?_
        subst hR
        exact g_reti S hr hlocks h dX0_alarmAct_58
  · replace hok := And.left hok c
    replace hR := (if_pos c).symm.trans hR
    refine lv_aload_n S.1 S.2.1 dX0_alarmAct_6 rfl (lv_at hl 0 rfl) ?_
    refine fg_X0_40 S K h dX0_alarmAct_7 ?_
    refine lv_iload_n S.1 S.2.1 dX0_alarmAct_10 rfl (lv_at hl 2 rfl) ?_
    have k7 := And.left hok
    replace hok := And.right hok
    refine al_H5 S K h k7 dX0_alarmAct_11 ?_
    refine lv_if_eq (tgt := 20) S.1 S.2.1 dX0_alarmAct_12 (by decide) (fun c => ?_) (fun c => ?_)
    · replace hok := And.left hok c
      replace hR := (if_pos c).symm.trans hR
      refine lv_iconst (v := 1) S.1 S.2.1 dX0_alarmAct_20 (by decide) ?_
      subst hR
      exact g_reti S hr hlocks h dX0_alarmAct_21
    · replace hok := And.right hok c
      replace hR := (if_neg c).symm.trans hR
      refine lv_bipush (v := 7) S.1 S.2.1 dX0_alarmAct_15 (by decide) ?_
      refine lv_goto (tgt := 21) S.1 S.2.1 dX0_alarmAct_17 (by decide) ?_
      subst hR
      exact g_reti S hr hlocks h dX0_alarmAct_21
def xr_X0_beltAct (σ : GS) (a1 : Int32) (a2 : Int32) (a3 : Int32) (a4 : Int32) : Int32 × GS := if a1 = 3 then bd (xr_X4_renew σ a2.toNatClampNeg a3 (σ 1 a4.toNatClampNeg) (-1)) (fun v3 σ5 => (v3, σ5)) else if a1 = 4 then bd (xr_X0_lay σ a2.toNatClampNeg (σ 1 a3.toNatClampNeg) (σ 2 a4.toNatClampNeg)) (fun v9 σ11 => (v9, σ11)) else if a1 = 5 then bd (xr_X0_pick σ a2 a3.toNatClampNeg (σ 1 a4.toNatClampNeg)) (fun v14 σ16 => (v14, σ16)) else if a1 = 6 then bd (xr_X0_measure σ a2 a3.toNatClampNeg) (fun v18 σ20 => (v18, σ20)) else bd (xr_X4_remove σ a2.toNatClampNeg) (fun v22 σ24 => (0, σ24))
def xo_X0_beltAct (σ : GS) (a1 : Int32) (a2 : Int32) (a3 : Int32) (a4 : Int32) : Prop := (a1 = 3 → vp_in a2 4 ∧ (vp_in a4 6 ∧ ((xo_X4_renew σ a2.toNatClampNeg a3 (σ 1 a4.toNatClampNeg) (-1)) ∧ bd (xr_X4_renew σ a2.toNatClampNeg a3 (σ 1 a4.toNatClampNeg) (-1)) (fun v3 σ5 => True)))) ∧ (¬ (a1 = 3) → (a1 = 4 → vp_in a2 4 ∧ (vp_in a3 6 ∧ (vp_in a4 8 ∧ ((xo_X0_lay σ a2.toNatClampNeg (σ 1 a3.toNatClampNeg) (σ 2 a4.toNatClampNeg)) ∧ bd (xr_X0_lay σ a2.toNatClampNeg (σ 1 a3.toNatClampNeg) (σ 2 a4.toNatClampNeg)) (fun v9 σ11 => True))))) ∧ (¬ (a1 = 4) → (a1 = 5 → vp_in a3 4 ∧ (vp_in a4 6 ∧ ((xo_X0_pick σ a2 a3.toNatClampNeg (σ 1 a4.toNatClampNeg)) ∧ bd (xr_X0_pick σ a2 a3.toNatClampNeg (σ 1 a4.toNatClampNeg)) (fun v14 σ16 => True)))) ∧ (¬ (a1 = 5) → (a1 = 6 → vp_in a3 4 ∧ ((xo_X0_measure σ a2 a3.toNatClampNeg) ∧ bd (xr_X0_measure σ a2 a3.toNatClampNeg) (fun v18 σ20 => True))) ∧ (¬ (a1 = 6) → vp_in a2 4 ∧ ((xo_X4_remove σ a2.toNatClampNeg) ∧ bd (xr_X4_remove σ a2.toNatClampNeg) (fun v22 σ24 => True))))))
set_option maxRecDepth 100000 in
set_option maxHeartbeats 4000000 in
theorem c_X0_beltAct (l : Launch) (D : va_G) (cy : CY) (q : Nat → Nat) (ex : va_W) (A : Nat → Prop) (σ : GS) (a1 : Int32) (a2 : Int32) (a3 : Int32) (a4 : Int32) (hok : xo_X0_beltAct σ a1 a2 a3 a4) : Met l yX0_beltAct (wm yX0_beltAct cX0_beltAct 5 (some .int)) ({ frames := 3, cells := 0, slots := 0, locals := 66 } : Room) (PC D cy (wH cy q σ ++ ex) A [.ref (q 0), .int a1, .int a2, .int a3, .int a4]) (QI D (wH cy q (xr_X0_beltAct σ a1 a2 a3 a4).2 ++ ex) A (xr_X0_beltAct σ a1 a2 a3 a4).1) 0 0 A := by
  generalize hR : xr_X0_beltAct σ a1 a2 a3 a4 = R
  refine g_met (lv := [(0, .ref (q 0)), (1, .int a1), (2, .int a2), (3, .int a3), (4, .int a4)]) (by decide) rfl (Nat.le_of_ble_eq_true rfl) rfl ?_
  intro p e s m below meth c ls S K h hr hlocks hl
  refine lv_iload_n S.1 S.2.1 dX0_beltAct_0 rfl (lv_at hl 1 rfl) ?_
  refine g_em 3 (fun c => ?_) (fun n3 => ?_)
  · replace hok := And.left hok c
    replace hR := (if_pos c).symm.trans hR
    refine g_sw (tgt := 32) S.1 S.2.1 dX0_beltAct_1 c rfl (by decide) (by decide) rfl (by decide) ?_
    refine lv_aload_n S.1 S.2.1 dX0_beltAct_32 rfl (lv_at hl 0 rfl) ?_
    refine fg_X0_27 S K h dX0_beltAct_33 ?_
    refine lv_iload_n S.1 S.2.1 dX0_beltAct_36 rfl (lv_at hl 2 rfl) ?_
    have k1 := And.left hok
    replace hok := And.right hok
    refine al_belts S K h k1 dX0_beltAct_37 ?_
    refine lv_iload_n S.1 S.2.1 dX0_beltAct_38 rfl (lv_at hl 3 rfl) ?_
    refine lv_aload_n S.1 S.2.1 dX0_beltAct_39 rfl (lv_at hl 0 rfl) ?_
    refine fg_X0_9 S K h dX0_beltAct_40 ?_
    refine lv_iload S.1 S.2.1 dX0_beltAct_43 (lv_at hl 4 rfl) ?_
    have k2 := And.left hok
    replace hok := And.right hok
    refine al_H1 S K h k2 dX0_beltAct_45 ?_
    refine lv_iconst (v := -1) S.1 S.2.1 dX0_beltAct_46 (by decide) ?_
    have k4 := And.left hok
    replace hok := And.right hok
    refine g_calli (ci := 4) S wz_cons K h (c_X4_renew l D cy q _ A _ _ _ _ _ k4) kc_X4_renew km_X0_92 ki_X4_renew ks_X4_renew kn_X4 yd_X4_renew ⟨⟨Nat.le_of_ble_eq_true rfl, Nat.le_of_ble_eq_true rfl⟩, rfl, rfl, Nat.zero_le _, Nat.zero_le _⟩ rfl (row_at cy q _ _ (And.left k4)) rfl hl.1 (Nat.le_of_ble_eq_true rfl) rfl dX0_beltAct_47 (fun H locs h => ?_)
    subst hR
    exact g_reti S hr hlocks h dX0_beltAct_50
  replace hok := And.right hok n3
  replace hR := (if_neg n3).symm.trans hR
  refine g_em 4 (fun c => ?_) (fun n4 => ?_)
  · replace hok := And.left hok c
    replace hR := (if_pos c).symm.trans hR
    refine g_sw (tgt := 51) S.1 S.2.1 dX0_beltAct_1 c rfl (by decide) (by decide) rfl (by decide) ?_
    refine lv_aload_n S.1 S.2.1 dX0_beltAct_51 rfl (lv_at hl 0 rfl) ?_
    refine lv_aload_n S.1 S.2.1 dX0_beltAct_52 rfl (lv_at hl 0 rfl) ?_
    refine fg_X0_27 S K h dX0_beltAct_53 ?_
    refine lv_iload_n S.1 S.2.1 dX0_beltAct_56 rfl (lv_at hl 2 rfl) ?_
    have k6 := And.left hok
    replace hok := And.right hok
    refine al_belts S K h k6 dX0_beltAct_57 ?_
    refine lv_aload_n S.1 S.2.1 dX0_beltAct_58 rfl (lv_at hl 0 rfl) ?_
    refine fg_X0_9 S K h dX0_beltAct_59 ?_
    refine lv_iload_n S.1 S.2.1 dX0_beltAct_62 rfl (lv_at hl 3 rfl) ?_
    have k7 := And.left hok
    replace hok := And.right hok
    refine al_H1 S K h k7 dX0_beltAct_63 ?_
    refine lv_aload_n S.1 S.2.1 dX0_beltAct_64 rfl (lv_at hl 0 rfl) ?_
    refine fg_X0_15 S K h dX0_beltAct_65 ?_
    refine lv_iload S.1 S.2.1 dX0_beltAct_68 (lv_at hl 4 rfl) ?_
    have k8 := And.left hok
    replace hok := And.right hok
    refine al_H2 S K h k8 dX0_beltAct_70 ?_
    have k10 := And.left hok
    replace hok := And.right hok
    refine g_calli (ci := 0) (q0 := 0) S wz_cons K h (c_X0_lay l D cy q _ A _ _ _ _ k10) kc_X0_lay km_X0_95 ki_X0_lay ks_X0_lay kn_X0 yd_X0_lay ⟨⟨Nat.le_of_ble_eq_true rfl, Nat.le_of_ble_eq_true rfl⟩, rfl, rfl, Nat.zero_le _, Nat.zero_le _⟩ rfl rfl rfl hl.1 (Nat.le_of_ble_eq_true rfl) rfl dX0_beltAct_71 (fun H locs h => ?_)
    subst hR
    exact g_reti S hr hlocks h dX0_beltAct_74
  replace hok := And.right hok n4
  replace hR := (if_neg n4).symm.trans hR
  refine g_em 5 (fun c => ?_) (fun n5 => ?_)
  · replace hok := And.left hok c
    replace hR := (if_pos c).symm.trans hR
    refine g_sw (tgt := 75) S.1 S.2.1 dX0_beltAct_1 c rfl (by decide) (by decide) rfl (by decide) ?_
    refine lv_aload_n S.1 S.2.1 dX0_beltAct_75 rfl (lv_at hl 0 rfl) ?_
    refine lv_iload_n S.1 S.2.1 dX0_beltAct_76 rfl (lv_at hl 2 rfl) ?_
    refine lv_aload_n S.1 S.2.1 dX0_beltAct_77 rfl (lv_at hl 0 rfl) ?_
    refine fg_X0_27 S K h dX0_beltAct_78 ?_
    refine lv_iload_n S.1 S.2.1 dX0_beltAct_81 rfl (lv_at hl 3 rfl) ?_
    have k12 := And.left hok
    replace hok := And.right hok
    refine al_belts S K h k12 dX0_beltAct_82 ?_
    refine lv_aload_n S.1 S.2.1 dX0_beltAct_83 rfl (lv_at hl 0 rfl) ?_
    refine fg_X0_9 S K h dX0_beltAct_84 ?_
    refine lv_iload S.1 S.2.1 dX0_beltAct_87 (lv_at hl 4 rfl) ?_
    have k13 := And.left hok
    replace hok := And.right hok
    refine al_H1 S K h k13 dX0_beltAct_89 ?_
    have k15 := And.left hok
    replace hok := And.right hok
    refine g_calli (ci := 0) (q0 := 0) S wz_cons K h (c_X0_pick l D cy q _ A _ _ _ _ k15) kc_X0_pick km_X0_99 ki_X0_pick ks_X0_pick kn_X0 yd_X0_pick ⟨⟨Nat.le_of_ble_eq_true rfl, Nat.le_of_ble_eq_true rfl⟩, rfl, rfl, Nat.zero_le _, Nat.zero_le _⟩ rfl rfl rfl hl.1 (Nat.le_of_ble_eq_true rfl) rfl dX0_beltAct_90 (fun H locs h => ?_)
    subst hR
    exact g_reti S hr hlocks h dX0_beltAct_93
  replace hok := And.right hok n5
  replace hR := (if_neg n5).symm.trans hR
  refine g_em 6 (fun c => ?_) (fun n6 => ?_)
  · replace hok := And.left hok c
    replace hR := (if_pos c).symm.trans hR
    refine g_sw (tgt := 94) S.1 S.2.1 dX0_beltAct_1 c rfl (by decide) (by decide) rfl (by decide) ?_
    refine lv_aload_n S.1 S.2.1 dX0_beltAct_94 rfl (lv_at hl 0 rfl) ?_
    refine lv_iload_n S.1 S.2.1 dX0_beltAct_95 rfl (lv_at hl 2 rfl) ?_
    refine lv_aload_n S.1 S.2.1 dX0_beltAct_96 rfl (lv_at hl 0 rfl) ?_
    refine fg_X0_27 S K h dX0_beltAct_97 ?_
    refine lv_iload_n S.1 S.2.1 dX0_beltAct_100 rfl (lv_at hl 3 rfl) ?_
    have k17 := And.left hok
    replace hok := And.right hok
    refine al_belts S K h k17 dX0_beltAct_101 ?_
    have k19 := And.left hok
    replace hok := And.right hok
    refine g_calli (ci := 0) (q0 := 0) S wz_cons K h (c_X0_measure l D cy q _ A _ _ _ k19) kc_X0_measure km_X0_103 ki_X0_measure ks_X0_measure kn_X0 yd_X0_measure ⟨⟨Nat.le_of_ble_eq_true rfl, Nat.le_of_ble_eq_true rfl⟩, rfl, rfl, Nat.zero_le _, Nat.zero_le _⟩ rfl rfl rfl hl.1 (Nat.le_of_ble_eq_true rfl) rfl dX0_beltAct_102 (fun H locs h => ?_)
    subst hR
    exact g_reti S hr hlocks h dX0_beltAct_105
  replace hok := And.right hok n6
  replace hR := (if_neg n6).symm.trans hR
  have m3 := lv_neT (a := 3) n3 rfl
  have m4 := lv_neT (a := 4) n4 rfl
  have m5 := lv_neT (a := 5) n5 rfl
  have m6 := lv_neT (a := 6) n6 rfl
  refine lv_tableOut (tgt := 106) S.1 S.2.1 dX0_beltAct_1 (by omega) (by decide) ?_
  refine lv_aload_n S.1 S.2.1 dX0_beltAct_106 rfl (lv_at hl 0 rfl) ?_
  refine fg_X0_27 S K h dX0_beltAct_107 ?_
  refine lv_iload_n S.1 S.2.1 dX0_beltAct_110 rfl (lv_at hl 2 rfl) ?_
  have k21 := And.left hok
  replace hok := And.right hok
  refine al_belts S K h k21 dX0_beltAct_111 ?_
  have k23 := And.left hok
  replace hok := And.right hok
  refine g_callv (ci := 4) S wz_cons K h (c_X4_remove l D cy q _ A _ _ k23) kc_X4_remove km_X0_56 ki_X4_remove ks_X4_remove kn_X4 yd_X4_remove ⟨⟨Nat.le_of_ble_eq_true rfl, Nat.le_of_ble_eq_true rfl⟩, rfl, rfl, Nat.zero_le _, Nat.zero_le _⟩ rfl (row_at cy q _ _ (And.left k23)) rfl hl.1 (Nat.le_of_ble_eq_true rfl) rfl dX0_beltAct_112 (fun H locs h => ?_)
  refine lv_iconst (v := 0) S.1 S.2.1 dX0_beltAct_115 (by decide) ?_
  subst hR
  exact g_reti S hr hlocks h dX0_beltAct_116
def xr_X0_counterAct (σ : GS) (a1 : Int32) (a2 : Int32) (a3 : Int32) (a4 : Int32) : Int32 × GS := if a1 = 13 then bd (xr_X4_renew σ (4 + a2.toNatClampNeg) (-1) (σ 1 a3.toNatClampNeg) 0) (fun v13 σ15 => (v13, σ15)) else if a1 = 14 then bd (xr_X0_count σ (4 + a2.toNatClampNeg) (σ 1 a3.toNatClampNeg)) (fun v8 σ10 => (v8, σ10)) else bd (xr_X0_readCount σ a2 (4 + a3.toNatClampNeg) (σ 1 a4.toNatClampNeg)) (fun v3 σ5 => (v3, σ5))
def xo_X0_counterAct (σ : GS) (a1 : Int32) (a2 : Int32) (a3 : Int32) (a4 : Int32) : Prop := (a1 = 13 → vp_in a2 3 ∧ (vp_in a3 6 ∧ ((xo_X4_renew σ (4 + a2.toNatClampNeg) (-1) (σ 1 a3.toNatClampNeg) 0) ∧ bd (xr_X4_renew σ (4 + a2.toNatClampNeg) (-1) (σ 1 a3.toNatClampNeg) 0) (fun v13 σ15 => True)))) ∧ (¬ (a1 = 13) → (a1 = 14 → vp_in a2 3 ∧ (vp_in a3 6 ∧ ((xo_X0_count σ (4 + a2.toNatClampNeg) (σ 1 a3.toNatClampNeg)) ∧ bd (xr_X0_count σ (4 + a2.toNatClampNeg) (σ 1 a3.toNatClampNeg)) (fun v8 σ10 => True)))) ∧ (¬ (a1 = 14) → vp_in a3 3 ∧ (vp_in a4 6 ∧ ((xo_X0_readCount σ a2 (4 + a3.toNatClampNeg) (σ 1 a4.toNatClampNeg)) ∧ bd (xr_X0_readCount σ a2 (4 + a3.toNatClampNeg) (σ 1 a4.toNatClampNeg)) (fun v3 σ5 => True)))))
set_option maxRecDepth 100000 in
set_option maxHeartbeats 4000000 in
theorem c_X0_counterAct (l : Launch) (D : va_G) (cy : CY) (q : Nat → Nat) (ex : va_W) (A : Nat → Prop) (σ : GS) (a1 : Int32) (a2 : Int32) (a3 : Int32) (a4 : Int32) (hok : xo_X0_counterAct σ a1 a2 a3 a4) : Met l yX0_counterAct (wm yX0_counterAct cX0_counterAct 5 (some .int)) ({ frames := 3, cells := 0, slots := 0, locals := 66 } : Room) (PC D cy (wH cy q σ ++ ex) A [.ref (q 0), .int a1, .int a2, .int a3, .int a4]) (QI D (wH cy q (xr_X0_counterAct σ a1 a2 a3 a4).2 ++ ex) A (xr_X0_counterAct σ a1 a2 a3 a4).1) 0 0 A := by
  generalize hR : xr_X0_counterAct σ a1 a2 a3 a4 = R
  refine g_met (lv := [(0, .ref (q 0)), (1, .int a1), (2, .int a2), (3, .int a3), (4, .int a4)]) (by decide) rfl (Nat.le_of_ble_eq_true rfl) rfl ?_
  intro p e s m below meth c ls S K h hr hlocks hl
  refine lv_iload_n S.1 S.2.1 dX0_counterAct_0 rfl (lv_at hl 1 rfl) ?_
  refine lv_bipush (v := 13) S.1 S.2.1 dX0_counterAct_1 (by decide) ?_
  refine lv_icmp_ne (tgt := 24) S.1 S.2.1 dX0_counterAct_3 (by decide) (fun c => ?_) (fun c => ?_)
  · replace hok := And.right hok c
    replace hR := (if_neg c).symm.trans hR
    refine lv_iload_n S.1 S.2.1 dX0_counterAct_24 rfl (lv_at hl 1 rfl) ?_
    refine lv_bipush (v := 14) S.1 S.2.1 dX0_counterAct_25 (by decide) ?_
    refine lv_icmp_ne (tgt := 49) S.1 S.2.1 dX0_counterAct_27 (by decide) (fun c => ?_) (fun c => ?_)
    · replace hok := And.right hok c
      replace hR := (if_neg c).symm.trans hR
      refine lv_aload_n S.1 S.2.1 dX0_counterAct_49 rfl (lv_at hl 0 rfl) ?_
      refine lv_iload_n S.1 S.2.1 dX0_counterAct_50 rfl (lv_at hl 2 rfl) ?_
      refine lv_aload_n S.1 S.2.1 dX0_counterAct_51 rfl (lv_at hl 0 rfl) ?_
      refine fg_X0_31 S K h dX0_counterAct_52 ?_
      refine lv_iload_n S.1 S.2.1 dX0_counterAct_55 rfl (lv_at hl 3 rfl) ?_
      have k1 := And.left hok
      replace hok := And.right hok
      refine al_counters S K h k1 dX0_counterAct_56 ?_
      refine lv_aload_n S.1 S.2.1 dX0_counterAct_57 rfl (lv_at hl 0 rfl) ?_
      refine fg_X0_9 S K h dX0_counterAct_58 ?_
      refine lv_iload S.1 S.2.1 dX0_counterAct_61 (lv_at hl 4 rfl) ?_
      have k2 := And.left hok
      replace hok := And.right hok
      refine al_H1 S K h k2 dX0_counterAct_63 ?_
      have k4 := And.left hok
      replace hok := And.right hok
      refine g_calli (ci := 0) (q0 := 0) S wz_cons K h (c_X0_readCount l D cy q _ A _ _ _ _ k4) kc_X0_readCount km_X0_151 ki_X0_readCount ks_X0_readCount kn_X0 yd_X0_readCount ⟨⟨Nat.le_of_ble_eq_true rfl, Nat.le_of_ble_eq_true rfl⟩, rfl, rfl, Nat.zero_le _, Nat.zero_le _⟩ rfl rfl rfl hl.1 (Nat.le_of_ble_eq_true rfl) rfl dX0_counterAct_64 (fun H locs h => ?_)
      subst hR
      exact g_reti S hr hlocks h dX0_counterAct_67
    · replace hok := And.left hok c
      replace hR := (if_pos c).symm.trans hR
      refine lv_aload_n S.1 S.2.1 dX0_counterAct_30 rfl (lv_at hl 0 rfl) ?_
      refine lv_aload_n S.1 S.2.1 dX0_counterAct_31 rfl (lv_at hl 0 rfl) ?_
      refine fg_X0_31 S K h dX0_counterAct_32 ?_
      refine lv_iload_n S.1 S.2.1 dX0_counterAct_35 rfl (lv_at hl 2 rfl) ?_
      have k6 := And.left hok
      replace hok := And.right hok
      refine al_counters S K h k6 dX0_counterAct_36 ?_
      refine lv_aload_n S.1 S.2.1 dX0_counterAct_37 rfl (lv_at hl 0 rfl) ?_
      refine fg_X0_9 S K h dX0_counterAct_38 ?_
      refine lv_iload_n S.1 S.2.1 dX0_counterAct_41 rfl (lv_at hl 3 rfl) ?_
      have k7 := And.left hok
      replace hok := And.right hok
      refine al_H1 S K h k7 dX0_counterAct_42 ?_
      have k9 := And.left hok
      replace hok := And.right hok
      refine g_calli (ci := 0) (q0 := 0) S wz_cons K h (c_X0_count l D cy q _ A _ _ _ k9) kc_X0_count km_X0_147 ki_X0_count ks_X0_count kn_X0 yd_X0_count ⟨⟨Nat.le_of_ble_eq_true rfl, Nat.le_of_ble_eq_true rfl⟩, rfl, rfl, Nat.zero_le _, Nat.zero_le _⟩ rfl rfl rfl hl.1 (Nat.le_of_ble_eq_true rfl) rfl dX0_counterAct_43 (fun H locs h => ?_)
      refine lv_goto (tgt := 67) S.1 S.2.1 dX0_counterAct_46 (by decide) ?_
      subst hR
      exact g_reti S hr hlocks h dX0_counterAct_67
  · replace hok := And.left hok c
    replace hR := (if_pos c).symm.trans hR
    refine lv_aload_n S.1 S.2.1 dX0_counterAct_6 rfl (lv_at hl 0 rfl) ?_
    refine fg_X0_31 S K h dX0_counterAct_7 ?_
    refine lv_iload_n S.1 S.2.1 dX0_counterAct_10 rfl (lv_at hl 2 rfl) ?_
    have k11 := And.left hok
    replace hok := And.right hok
    refine al_counters S K h k11 dX0_counterAct_11 ?_
    refine lv_iconst (v := -1) S.1 S.2.1 dX0_counterAct_12 (by decide) ?_
    refine lv_aload_n S.1 S.2.1 dX0_counterAct_13 rfl (lv_at hl 0 rfl) ?_
    refine fg_X0_9 S K h dX0_counterAct_14 ?_
    refine lv_iload_n S.1 S.2.1 dX0_counterAct_17 rfl (lv_at hl 3 rfl) ?_
    have k12 := And.left hok
    replace hok := And.right hok
    refine al_H1 S K h k12 dX0_counterAct_18 ?_
    refine lv_iconst (v := 0) S.1 S.2.1 dX0_counterAct_19 (by decide) ?_
    have k14 := And.left hok
    replace hok := And.right hok
    refine g_calli (ci := 4) S wz_cons K h (c_X4_renew l D cy q _ A _ _ _ _ _ k14) kc_X4_renew km_X0_92 ki_X4_renew ks_X4_renew kn_X4 yd_X4_renew ⟨⟨Nat.le_of_ble_eq_true rfl, Nat.le_of_ble_eq_true rfl⟩, rfl, rfl, Nat.zero_le _, Nat.zero_le _⟩ rfl (row_at cy q _ _ (And.left k14)) rfl hl.1 (Nat.le_of_ble_eq_true rfl) rfl dX0_counterAct_20 (fun H locs h => ?_)
    subst hR
    exact g_reti S hr hlocks h dX0_counterAct_23
def xr_X0_perform (σ : GS) (a1 : Int32) (a2 : Int32) (a3 : Int32) (a4 : Int32) : Int32 × GS := if a1 = 0 then bd (xr_X0_placeAct σ a1 a2 a3 a4) (fun v1 σ3 => (v1, σ3)) else if a1 = 1 then bd (xr_X0_placeAct σ a1 a2 a3 a4) (fun v4 σ6 => (v4, σ6)) else if a1 = 2 then bd (xr_X0_placeAct σ a1 a2 a3 a4) (fun v7 σ9 => (v7, σ9)) else if a1 = 3 then bd (xr_X0_beltAct σ a1 a2 a3 a4) (fun v10 σ12 => (v10, σ12)) else if a1 = 4 then bd (xr_X0_beltAct σ a1 a2 a3 a4) (fun v13 σ15 => (v13, σ15)) else if a1 = 5 then bd (xr_X0_beltAct σ a1 a2 a3 a4) (fun v16 σ18 => (v16, σ18)) else if a1 = 6 then bd (xr_X0_beltAct σ a1 a2 a3 a4) (fun v19 σ21 => (v19, σ21)) else if a1 = 7 then bd (xr_X0_beltAct σ a1 a2 a3 a4) (fun v22 σ24 => (v22, σ24)) else if a1 = 8 then bd (xr_X0_askItem σ a1 a2 (σ 2 a3.toNatClampNeg)) (fun v26 σ28 => (v26, σ28)) else if a1 = 9 then bd (xr_X0_load σ (σ 2 a2.toNatClampNeg) (σ 1 a3.toNatClampNeg)) (fun v31 σ33 => (v31, σ33)) else if a1 = 10 then bd (xr_X0_askItem σ a1 a2 (σ 2 a3.toNatClampNeg)) (fun v35 σ37 => (v35, σ37)) else if a1 = 11 then bd (xr_X0_askItem σ a1 a2 (σ 2 a3.toNatClampNeg)) (fun v39 σ41 => (v39, σ41)) else if a1 = 12 then bd (xr_X0_asKind σ (σ 2 a2.toNatClampNeg) a3) (fun v43 σ45 => (v43, σ45)) else if a1 = 13 then bd (xr_X0_counterAct σ a1 a2 a3 a4) (fun v46 σ48 => (v46, σ48)) else if a1 = 14 then bd (xr_X0_counterAct σ a1 a2 a3 a4) (fun v49 σ51 => (v49, σ51)) else if a1 = 15 then bd (xr_X0_counterAct σ a1 a2 a3 a4) (fun v52 σ54 => (v52, σ54)) else if a1 = 16 then bd (xr_X0_newGrid σ a2 (σ 1 a3.toNatClampNeg) a4) (fun v56 σ58 => (v56, σ58)) else if a1 = 17 then bd (xr_X0_sumGrid σ a2 a3) (fun v59 σ61 => (v59, σ61)) else if a1 = 18 then bd (xr_X0_alarmAct σ a1 a2 a3) (fun v62 σ64 => (v62, σ64)) else if a1 = 19 then bd (xr_X0_alarmAct σ a1 a2 a3) (fun v65 σ67 => (v65, σ67)) else if a1 = 20 then bd (xr_X0_alarmAct σ a1 a2 a3) (fun v68 σ70 => (v68, σ70)) else if a1 = 21 then (0, st σ 1 a2.toNatClampNeg a3) else if a1 = 22 then (0, st σ 1 a2.toNatClampNeg ((σ 1 a2.toNatClampNeg) + (σ 1 a3.toNatClampNeg))) else (0, σ)
def xo_X0_perform (σ : GS) (a1 : Int32) (a2 : Int32) (a3 : Int32) (a4 : Int32) : Prop := (a1 = 0 → (xo_X0_placeAct σ a1 a2 a3 a4) ∧ bd (xr_X0_placeAct σ a1 a2 a3 a4) (fun v1 σ3 => True)) ∧ (¬ (a1 = 0) → (a1 = 1 → (xo_X0_placeAct σ a1 a2 a3 a4) ∧ bd (xr_X0_placeAct σ a1 a2 a3 a4) (fun v4 σ6 => True)) ∧ (¬ (a1 = 1) → (a1 = 2 → (xo_X0_placeAct σ a1 a2 a3 a4) ∧ bd (xr_X0_placeAct σ a1 a2 a3 a4) (fun v7 σ9 => True)) ∧ (¬ (a1 = 2) → (a1 = 3 → (xo_X0_beltAct σ a1 a2 a3 a4) ∧ bd (xr_X0_beltAct σ a1 a2 a3 a4) (fun v10 σ12 => True)) ∧ (¬ (a1 = 3) → (a1 = 4 → (xo_X0_beltAct σ a1 a2 a3 a4) ∧ bd (xr_X0_beltAct σ a1 a2 a3 a4) (fun v13 σ15 => True)) ∧ (¬ (a1 = 4) → (a1 = 5 → (xo_X0_beltAct σ a1 a2 a3 a4) ∧ bd (xr_X0_beltAct σ a1 a2 a3 a4) (fun v16 σ18 => True)) ∧ (¬ (a1 = 5) → (a1 = 6 → (xo_X0_beltAct σ a1 a2 a3 a4) ∧ bd (xr_X0_beltAct σ a1 a2 a3 a4) (fun v19 σ21 => True)) ∧ (¬ (a1 = 6) → (a1 = 7 → (xo_X0_beltAct σ a1 a2 a3 a4) ∧ bd (xr_X0_beltAct σ a1 a2 a3 a4) (fun v22 σ24 => True)) ∧ (¬ (a1 = 7) → (a1 = 8 → vp_in a3 8 ∧ ((xo_X0_askItem σ a1 a2 (σ 2 a3.toNatClampNeg)) ∧ bd (xr_X0_askItem σ a1 a2 (σ 2 a3.toNatClampNeg)) (fun v26 σ28 => True))) ∧ (¬ (a1 = 8) → (a1 = 9 → vp_in a2 8 ∧ (vp_in a3 6 ∧ ((xo_X0_load σ (σ 2 a2.toNatClampNeg) (σ 1 a3.toNatClampNeg)) ∧ bd (xr_X0_load σ (σ 2 a2.toNatClampNeg) (σ 1 a3.toNatClampNeg)) (fun v31 σ33 => True)))) ∧ (¬ (a1 = 9) → (a1 = 10 → vp_in a3 8 ∧ ((xo_X0_askItem σ a1 a2 (σ 2 a3.toNatClampNeg)) ∧ bd (xr_X0_askItem σ a1 a2 (σ 2 a3.toNatClampNeg)) (fun v35 σ37 => True))) ∧ (¬ (a1 = 10) → (a1 = 11 → vp_in a3 8 ∧ ((xo_X0_askItem σ a1 a2 (σ 2 a3.toNatClampNeg)) ∧ bd (xr_X0_askItem σ a1 a2 (σ 2 a3.toNatClampNeg)) (fun v39 σ41 => True))) ∧ (¬ (a1 = 11) → (a1 = 12 → vp_in a2 8 ∧ ((xo_X0_asKind σ (σ 2 a2.toNatClampNeg) a3) ∧ bd (xr_X0_asKind σ (σ 2 a2.toNatClampNeg) a3) (fun v43 σ45 => True))) ∧ (¬ (a1 = 12) → (a1 = 13 → (xo_X0_counterAct σ a1 a2 a3 a4) ∧ bd (xr_X0_counterAct σ a1 a2 a3 a4) (fun v46 σ48 => True)) ∧ (¬ (a1 = 13) → (a1 = 14 → (xo_X0_counterAct σ a1 a2 a3 a4) ∧ bd (xr_X0_counterAct σ a1 a2 a3 a4) (fun v49 σ51 => True)) ∧ (¬ (a1 = 14) → (a1 = 15 → (xo_X0_counterAct σ a1 a2 a3 a4) ∧ bd (xr_X0_counterAct σ a1 a2 a3 a4) (fun v52 σ54 => True)) ∧ (¬ (a1 = 15) → (a1 = 16 → vp_in a3 6 ∧ ((xo_X0_newGrid σ a2 (σ 1 a3.toNatClampNeg) a4) ∧ bd (xr_X0_newGrid σ a2 (σ 1 a3.toNatClampNeg) a4) (fun v56 σ58 => True))) ∧ (¬ (a1 = 16) → (a1 = 17 → (xo_X0_sumGrid σ a2 a3) ∧ bd (xr_X0_sumGrid σ a2 a3) (fun v59 σ61 => True)) ∧ (¬ (a1 = 17) → (a1 = 18 → (xo_X0_alarmAct σ a1 a2 a3) ∧ bd (xr_X0_alarmAct σ a1 a2 a3) (fun v62 σ64 => True)) ∧ (¬ (a1 = 18) → (a1 = 19 → (xo_X0_alarmAct σ a1 a2 a3) ∧ bd (xr_X0_alarmAct σ a1 a2 a3) (fun v65 σ67 => True)) ∧ (¬ (a1 = 19) → (a1 = 20 → (xo_X0_alarmAct σ a1 a2 a3) ∧ bd (xr_X0_alarmAct σ a1 a2 a3) (fun v68 σ70 => True)) ∧ (¬ (a1 = 20) → (a1 = 21 → vp_in a2 6 ∧ (True)) ∧ (¬ (a1 = 21) → (a1 = 22 → vp_in a2 6 ∧ (vp_in a3 6 ∧ (vp_in a2 6 ∧ (True)))) ∧ (¬ (a1 = 22) → True)))))))))))))))))))))))
set_option maxRecDepth 100000 in
set_option maxHeartbeats 4000000 in
theorem c_X0_perform (l : Launch) (D : va_G) (cy : CY) (q : Nat → Nat) (ex : va_W) (A : Nat → Prop) (σ : GS) (a1 : Int32) (a2 : Int32) (a3 : Int32) (a4 : Int32) (hok : xo_X0_perform σ a1 a2 a3 a4) : Met l yX0_perform (wm yX0_perform cX0_perform 5 (some .int)) ({ frames := 4, cells := 0, slots := 0, locals := 90 } : Room) (PC D cy (wH cy q σ ++ ex) A [.ref (q 0), .int a1, .int a2, .int a3, .int a4]) (QI D (wH cy q (xr_X0_perform σ a1 a2 a3 a4).2 ++ ex) A (xr_X0_perform σ a1 a2 a3 a4).1) 0 0 A := by
  generalize hR : xr_X0_perform σ a1 a2 a3 a4 = R
  refine g_met (lv := [(0, .ref (q 0)), (1, .int a1), (2, .int a2), (3, .int a3), (4, .int a4)]) (by decide) rfl (Nat.le_of_ble_eq_true rfl) rfl ?_
  intro p e s m below meth c ls S K h hr hlocks hl
  refine lv_iload_n S.1 S.2.1 dX0_perform_0 rfl (lv_at hl 1 rfl) ?_
  refine g_em 0 (fun c => ?_) (fun n0 => ?_)
  · replace hok := And.left hok c
    replace hR := (if_pos c).symm.trans hR
    refine g_sw (tgt := 108) S.1 S.2.1 dX0_perform_1 c rfl (by decide) (by decide) rfl (by decide) ?_
    refine lv_aload_n S.1 S.2.1 dX0_perform_108 rfl (lv_at hl 0 rfl) ?_
    refine lv_iload_n S.1 S.2.1 dX0_perform_109 rfl (lv_at hl 1 rfl) ?_
    refine lv_iload_n S.1 S.2.1 dX0_perform_110 rfl (lv_at hl 2 rfl) ?_
    refine lv_iload_n S.1 S.2.1 dX0_perform_111 rfl (lv_at hl 3 rfl) ?_
    refine lv_iload S.1 S.2.1 dX0_perform_112 (lv_at hl 4 rfl) ?_
    have k2 := And.left hok
    replace hok := And.right hok
    refine g_calli (ci := 0) (q0 := 0) S wz_cons K h (c_X0_placeAct l D cy q _ A _ _ _ _ _ k2) kc_X0_placeAct km_X0_59 ki_X0_placeAct ks_X0_placeAct kn_X0 yd_X0_placeAct ⟨⟨Nat.le_of_ble_eq_true rfl, Nat.le_of_ble_eq_true rfl⟩, rfl, rfl, Nat.zero_le _, Nat.zero_le _⟩ rfl rfl rfl hl.1 (Nat.le_of_ble_eq_true rfl) rfl dX0_perform_114 (fun H locs h => ?_)
    subst hR
    exact g_reti S hr hlocks h dX0_perform_117
  replace hok := And.right hok n0
  replace hR := (if_neg n0).symm.trans hR
  refine g_em 1 (fun c => ?_) (fun n1 => ?_)
  · replace hok := And.left hok c
    replace hR := (if_pos c).symm.trans hR
    refine g_sw (tgt := 108) S.1 S.2.1 dX0_perform_1 c rfl (by decide) (by decide) rfl (by decide) ?_
    refine lv_aload_n S.1 S.2.1 dX0_perform_108 rfl (lv_at hl 0 rfl) ?_
    refine lv_iload_n S.1 S.2.1 dX0_perform_109 rfl (lv_at hl 1 rfl) ?_
    refine lv_iload_n S.1 S.2.1 dX0_perform_110 rfl (lv_at hl 2 rfl) ?_
    refine lv_iload_n S.1 S.2.1 dX0_perform_111 rfl (lv_at hl 3 rfl) ?_
    refine lv_iload S.1 S.2.1 dX0_perform_112 (lv_at hl 4 rfl) ?_
    have k5 := And.left hok
    replace hok := And.right hok
    refine g_calli (ci := 0) (q0 := 0) S wz_cons K h (c_X0_placeAct l D cy q _ A _ _ _ _ _ k5) kc_X0_placeAct km_X0_59 ki_X0_placeAct ks_X0_placeAct kn_X0 yd_X0_placeAct ⟨⟨Nat.le_of_ble_eq_true rfl, Nat.le_of_ble_eq_true rfl⟩, rfl, rfl, Nat.zero_le _, Nat.zero_le _⟩ rfl rfl rfl hl.1 (Nat.le_of_ble_eq_true rfl) rfl dX0_perform_114 (fun H locs h => ?_)
    subst hR
    exact g_reti S hr hlocks h dX0_perform_117
  replace hok := And.right hok n1
  replace hR := (if_neg n1).symm.trans hR
  refine g_em 2 (fun c => ?_) (fun n2 => ?_)
  · replace hok := And.left hok c
    replace hR := (if_pos c).symm.trans hR
    refine g_sw (tgt := 108) S.1 S.2.1 dX0_perform_1 c rfl (by decide) (by decide) rfl (by decide) ?_
    refine lv_aload_n S.1 S.2.1 dX0_perform_108 rfl (lv_at hl 0 rfl) ?_
    refine lv_iload_n S.1 S.2.1 dX0_perform_109 rfl (lv_at hl 1 rfl) ?_
    refine lv_iload_n S.1 S.2.1 dX0_perform_110 rfl (lv_at hl 2 rfl) ?_
    refine lv_iload_n S.1 S.2.1 dX0_perform_111 rfl (lv_at hl 3 rfl) ?_
    refine lv_iload S.1 S.2.1 dX0_perform_112 (lv_at hl 4 rfl) ?_
    have k8 := And.left hok
    replace hok := And.right hok
    refine g_calli (ci := 0) (q0 := 0) S wz_cons K h (c_X0_placeAct l D cy q _ A _ _ _ _ _ k8) kc_X0_placeAct km_X0_59 ki_X0_placeAct ks_X0_placeAct kn_X0 yd_X0_placeAct ⟨⟨Nat.le_of_ble_eq_true rfl, Nat.le_of_ble_eq_true rfl⟩, rfl, rfl, Nat.zero_le _, Nat.zero_le _⟩ rfl rfl rfl hl.1 (Nat.le_of_ble_eq_true rfl) rfl dX0_perform_114 (fun H locs h => ?_)
    subst hR
    exact g_reti S hr hlocks h dX0_perform_117
  replace hok := And.right hok n2
  replace hR := (if_neg n2).symm.trans hR
  refine g_em 3 (fun c => ?_) (fun n3 => ?_)
  · replace hok := And.left hok c
    replace hR := (if_pos c).symm.trans hR
    refine g_sw (tgt := 118) S.1 S.2.1 dX0_perform_1 c rfl (by decide) (by decide) rfl (by decide) ?_
    refine lv_aload_n S.1 S.2.1 dX0_perform_118 rfl (lv_at hl 0 rfl) ?_
    refine lv_iload_n S.1 S.2.1 dX0_perform_119 rfl (lv_at hl 1 rfl) ?_
    refine lv_iload_n S.1 S.2.1 dX0_perform_120 rfl (lv_at hl 2 rfl) ?_
    refine lv_iload_n S.1 S.2.1 dX0_perform_121 rfl (lv_at hl 3 rfl) ?_
    refine lv_iload S.1 S.2.1 dX0_perform_122 (lv_at hl 4 rfl) ?_
    have k11 := And.left hok
    replace hok := And.right hok
    refine g_calli (ci := 0) (q0 := 0) S wz_cons K h (c_X0_beltAct l D cy q _ A _ _ _ _ _ k11) kc_X0_beltAct km_X0_63 ki_X0_beltAct ks_X0_beltAct kn_X0 yd_X0_beltAct ⟨⟨Nat.le_of_ble_eq_true rfl, Nat.le_of_ble_eq_true rfl⟩, rfl, rfl, Nat.zero_le _, Nat.zero_le _⟩ rfl rfl rfl hl.1 (Nat.le_of_ble_eq_true rfl) rfl dX0_perform_124 (fun H locs h => ?_)
    subst hR
    exact g_reti S hr hlocks h dX0_perform_127
  replace hok := And.right hok n3
  replace hR := (if_neg n3).symm.trans hR
  refine g_em 4 (fun c => ?_) (fun n4 => ?_)
  · replace hok := And.left hok c
    replace hR := (if_pos c).symm.trans hR
    refine g_sw (tgt := 118) S.1 S.2.1 dX0_perform_1 c rfl (by decide) (by decide) rfl (by decide) ?_
    refine lv_aload_n S.1 S.2.1 dX0_perform_118 rfl (lv_at hl 0 rfl) ?_
    refine lv_iload_n S.1 S.2.1 dX0_perform_119 rfl (lv_at hl 1 rfl) ?_
    refine lv_iload_n S.1 S.2.1 dX0_perform_120 rfl (lv_at hl 2 rfl) ?_
    refine lv_iload_n S.1 S.2.1 dX0_perform_121 rfl (lv_at hl 3 rfl) ?_
    refine lv_iload S.1 S.2.1 dX0_perform_122 (lv_at hl 4 rfl) ?_
    have k14 := And.left hok
    replace hok := And.right hok
    refine g_calli (ci := 0) (q0 := 0) S wz_cons K h (c_X0_beltAct l D cy q _ A _ _ _ _ _ k14) kc_X0_beltAct km_X0_63 ki_X0_beltAct ks_X0_beltAct kn_X0 yd_X0_beltAct ⟨⟨Nat.le_of_ble_eq_true rfl, Nat.le_of_ble_eq_true rfl⟩, rfl, rfl, Nat.zero_le _, Nat.zero_le _⟩ rfl rfl rfl hl.1 (Nat.le_of_ble_eq_true rfl) rfl dX0_perform_124 (fun H locs h => ?_)
    subst hR
    exact g_reti S hr hlocks h dX0_perform_127
  replace hok := And.right hok n4
  replace hR := (if_neg n4).symm.trans hR
  refine g_em 5 (fun c => ?_) (fun n5 => ?_)
  · replace hok := And.left hok c
    replace hR := (if_pos c).symm.trans hR
    refine g_sw (tgt := 118) S.1 S.2.1 dX0_perform_1 c rfl (by decide) (by decide) rfl (by decide) ?_
    refine lv_aload_n S.1 S.2.1 dX0_perform_118 rfl (lv_at hl 0 rfl) ?_
    refine lv_iload_n S.1 S.2.1 dX0_perform_119 rfl (lv_at hl 1 rfl) ?_
    refine lv_iload_n S.1 S.2.1 dX0_perform_120 rfl (lv_at hl 2 rfl) ?_
    refine lv_iload_n S.1 S.2.1 dX0_perform_121 rfl (lv_at hl 3 rfl) ?_
    refine lv_iload S.1 S.2.1 dX0_perform_122 (lv_at hl 4 rfl) ?_
    have k17 := And.left hok
    replace hok := And.right hok
    refine g_calli (ci := 0) (q0 := 0) S wz_cons K h (c_X0_beltAct l D cy q _ A _ _ _ _ _ k17) kc_X0_beltAct km_X0_63 ki_X0_beltAct ks_X0_beltAct kn_X0 yd_X0_beltAct ⟨⟨Nat.le_of_ble_eq_true rfl, Nat.le_of_ble_eq_true rfl⟩, rfl, rfl, Nat.zero_le _, Nat.zero_le _⟩ rfl rfl rfl hl.1 (Nat.le_of_ble_eq_true rfl) rfl dX0_perform_124 (fun H locs h => ?_)
    subst hR
    exact g_reti S hr hlocks h dX0_perform_127
  replace hok := And.right hok n5
  replace hR := (if_neg n5).symm.trans hR
  refine g_em 6 (fun c => ?_) (fun n6 => ?_)
  · replace hok := And.left hok c
    replace hR := (if_pos c).symm.trans hR
    refine g_sw (tgt := 118) S.1 S.2.1 dX0_perform_1 c rfl (by decide) (by decide) rfl (by decide) ?_
    refine lv_aload_n S.1 S.2.1 dX0_perform_118 rfl (lv_at hl 0 rfl) ?_
    refine lv_iload_n S.1 S.2.1 dX0_perform_119 rfl (lv_at hl 1 rfl) ?_
    refine lv_iload_n S.1 S.2.1 dX0_perform_120 rfl (lv_at hl 2 rfl) ?_
    refine lv_iload_n S.1 S.2.1 dX0_perform_121 rfl (lv_at hl 3 rfl) ?_
    refine lv_iload S.1 S.2.1 dX0_perform_122 (lv_at hl 4 rfl) ?_
    have k20 := And.left hok
    replace hok := And.right hok
    refine g_calli (ci := 0) (q0 := 0) S wz_cons K h (c_X0_beltAct l D cy q _ A _ _ _ _ _ k20) kc_X0_beltAct km_X0_63 ki_X0_beltAct ks_X0_beltAct kn_X0 yd_X0_beltAct ⟨⟨Nat.le_of_ble_eq_true rfl, Nat.le_of_ble_eq_true rfl⟩, rfl, rfl, Nat.zero_le _, Nat.zero_le _⟩ rfl rfl rfl hl.1 (Nat.le_of_ble_eq_true rfl) rfl dX0_perform_124 (fun H locs h => ?_)
    subst hR
    exact g_reti S hr hlocks h dX0_perform_127
  replace hok := And.right hok n6
  replace hR := (if_neg n6).symm.trans hR
  refine g_em 7 (fun c => ?_) (fun n7 => ?_)
  · replace hok := And.left hok c
    replace hR := (if_pos c).symm.trans hR
    refine g_sw (tgt := 118) S.1 S.2.1 dX0_perform_1 c rfl (by decide) (by decide) rfl (by decide) ?_
    refine lv_aload_n S.1 S.2.1 dX0_perform_118 rfl (lv_at hl 0 rfl) ?_
    refine lv_iload_n S.1 S.2.1 dX0_perform_119 rfl (lv_at hl 1 rfl) ?_
    refine lv_iload_n S.1 S.2.1 dX0_perform_120 rfl (lv_at hl 2 rfl) ?_
    refine lv_iload_n S.1 S.2.1 dX0_perform_121 rfl (lv_at hl 3 rfl) ?_
    refine lv_iload S.1 S.2.1 dX0_perform_122 (lv_at hl 4 rfl) ?_
    have k23 := And.left hok
    replace hok := And.right hok
    refine g_calli (ci := 0) (q0 := 0) S wz_cons K h (c_X0_beltAct l D cy q _ A _ _ _ _ _ k23) kc_X0_beltAct km_X0_63 ki_X0_beltAct ks_X0_beltAct kn_X0 yd_X0_beltAct ⟨⟨Nat.le_of_ble_eq_true rfl, Nat.le_of_ble_eq_true rfl⟩, rfl, rfl, Nat.zero_le _, Nat.zero_le _⟩ rfl rfl rfl hl.1 (Nat.le_of_ble_eq_true rfl) rfl dX0_perform_124 (fun H locs h => ?_)
    subst hR
    exact g_reti S hr hlocks h dX0_perform_127
  replace hok := And.right hok n7
  replace hR := (if_neg n7).symm.trans hR
  refine g_em 8 (fun c => ?_) (fun n8 => ?_)
  · replace hok := And.left hok c
    replace hR := (if_pos c).symm.trans hR
    refine g_sw (tgt := 128) S.1 S.2.1 dX0_perform_1 c rfl (by decide) (by decide) rfl (by decide) ?_
    refine lv_aload_n S.1 S.2.1 dX0_perform_128 rfl (lv_at hl 0 rfl) ?_
    refine lv_iload_n S.1 S.2.1 dX0_perform_129 rfl (lv_at hl 1 rfl) ?_
    refine lv_iload_n S.1 S.2.1 dX0_perform_130 rfl (lv_at hl 2 rfl) ?_
    refine lv_aload_n S.1 S.2.1 dX0_perform_131 rfl (lv_at hl 0 rfl) ?_
    refine fg_X0_15 S K h dX0_perform_132 ?_
    refine lv_iload_n S.1 S.2.1 dX0_perform_135 rfl (lv_at hl 3 rfl) ?_
    have k25 := And.left hok
    replace hok := And.right hok
    refine al_H2 S K h k25 dX0_perform_136 ?_
    have k27 := And.left hok
    replace hok := And.right hok
    refine g_calli (ci := 0) (q0 := 0) S wz_cons K h (c_X0_askItem l D cy q _ A _ _ _ _ k27) kc_X0_askItem km_X0_66 ki_X0_askItem ks_X0_askItem kn_X0 yd_X0_askItem ⟨⟨Nat.le_of_ble_eq_true rfl, Nat.le_of_ble_eq_true rfl⟩, rfl, rfl, Nat.zero_le _, Nat.zero_le _⟩ rfl rfl rfl hl.1 (Nat.le_of_ble_eq_true rfl) rfl dX0_perform_137 (fun H locs h => ?_)
    subst hR
    exact g_reti S hr hlocks h dX0_perform_140
  replace hok := And.right hok n8
  replace hR := (if_neg n8).symm.trans hR
  refine g_em 9 (fun c => ?_) (fun n9 => ?_)
  · replace hok := And.left hok c
    replace hR := (if_pos c).symm.trans hR
    refine g_sw (tgt := 141) S.1 S.2.1 dX0_perform_1 c rfl (by decide) (by decide) rfl (by decide) ?_
    refine lv_aload_n S.1 S.2.1 dX0_perform_141 rfl (lv_at hl 0 rfl) ?_
    refine lv_aload_n S.1 S.2.1 dX0_perform_142 rfl (lv_at hl 0 rfl) ?_
    refine fg_X0_15 S K h dX0_perform_143 ?_
    refine lv_iload_n S.1 S.2.1 dX0_perform_146 rfl (lv_at hl 2 rfl) ?_
    have k29 := And.left hok
    replace hok := And.right hok
    refine al_H2 S K h k29 dX0_perform_147 ?_
    refine lv_aload_n S.1 S.2.1 dX0_perform_148 rfl (lv_at hl 0 rfl) ?_
    refine fg_X0_9 S K h dX0_perform_149 ?_
    refine lv_iload_n S.1 S.2.1 dX0_perform_152 rfl (lv_at hl 3 rfl) ?_
    have k30 := And.left hok
    replace hok := And.right hok
    refine al_H1 S K h k30 dX0_perform_153 ?_
    have k32 := And.left hok
    replace hok := And.right hok
    refine g_calli (ci := 0) (q0 := 0) S wz_cons K h (c_X0_load l D cy q _ A _ _ _ k32) kc_X0_load km_X0_70 ki_X0_load ks_X0_load kn_X0 yd_X0_load ⟨⟨Nat.le_of_ble_eq_true rfl, Nat.le_of_ble_eq_true rfl⟩, rfl, rfl, Nat.zero_le _, Nat.zero_le _⟩ rfl rfl rfl hl.1 (Nat.le_of_ble_eq_true rfl) rfl dX0_perform_154 (fun H locs h => ?_)
    subst hR
    exact g_reti S hr hlocks h dX0_perform_157
  replace hok := And.right hok n9
  replace hR := (if_neg n9).symm.trans hR
  refine g_em 10 (fun c => ?_) (fun n10 => ?_)
  · replace hok := And.left hok c
    replace hR := (if_pos c).symm.trans hR
    refine g_sw (tgt := 128) S.1 S.2.1 dX0_perform_1 c rfl (by decide) (by decide) rfl (by decide) ?_
    refine lv_aload_n S.1 S.2.1 dX0_perform_128 rfl (lv_at hl 0 rfl) ?_
    refine lv_iload_n S.1 S.2.1 dX0_perform_129 rfl (lv_at hl 1 rfl) ?_
    refine lv_iload_n S.1 S.2.1 dX0_perform_130 rfl (lv_at hl 2 rfl) ?_
    refine lv_aload_n S.1 S.2.1 dX0_perform_131 rfl (lv_at hl 0 rfl) ?_
    refine fg_X0_15 S K h dX0_perform_132 ?_
    refine lv_iload_n S.1 S.2.1 dX0_perform_135 rfl (lv_at hl 3 rfl) ?_
    have k34 := And.left hok
    replace hok := And.right hok
    refine al_H2 S K h k34 dX0_perform_136 ?_
    have k36 := And.left hok
    replace hok := And.right hok
    refine g_calli (ci := 0) (q0 := 0) S wz_cons K h (c_X0_askItem l D cy q _ A _ _ _ _ k36) kc_X0_askItem km_X0_66 ki_X0_askItem ks_X0_askItem kn_X0 yd_X0_askItem ⟨⟨Nat.le_of_ble_eq_true rfl, Nat.le_of_ble_eq_true rfl⟩, rfl, rfl, Nat.zero_le _, Nat.zero_le _⟩ rfl rfl rfl hl.1 (Nat.le_of_ble_eq_true rfl) rfl dX0_perform_137 (fun H locs h => ?_)
    subst hR
    exact g_reti S hr hlocks h dX0_perform_140
  replace hok := And.right hok n10
  replace hR := (if_neg n10).symm.trans hR
  refine g_em 11 (fun c => ?_) (fun n11 => ?_)
  · replace hok := And.left hok c
    replace hR := (if_pos c).symm.trans hR
    refine g_sw (tgt := 128) S.1 S.2.1 dX0_perform_1 c rfl (by decide) (by decide) rfl (by decide) ?_
    refine lv_aload_n S.1 S.2.1 dX0_perform_128 rfl (lv_at hl 0 rfl) ?_
    refine lv_iload_n S.1 S.2.1 dX0_perform_129 rfl (lv_at hl 1 rfl) ?_
    refine lv_iload_n S.1 S.2.1 dX0_perform_130 rfl (lv_at hl 2 rfl) ?_
    refine lv_aload_n S.1 S.2.1 dX0_perform_131 rfl (lv_at hl 0 rfl) ?_
    refine fg_X0_15 S K h dX0_perform_132 ?_
    refine lv_iload_n S.1 S.2.1 dX0_perform_135 rfl (lv_at hl 3 rfl) ?_
    have k38 := And.left hok
    replace hok := And.right hok
    refine al_H2 S K h k38 dX0_perform_136 ?_
    have k40 := And.left hok
    replace hok := And.right hok
    refine g_calli (ci := 0) (q0 := 0) S wz_cons K h (c_X0_askItem l D cy q _ A _ _ _ _ k40) kc_X0_askItem km_X0_66 ki_X0_askItem ks_X0_askItem kn_X0 yd_X0_askItem ⟨⟨Nat.le_of_ble_eq_true rfl, Nat.le_of_ble_eq_true rfl⟩, rfl, rfl, Nat.zero_le _, Nat.zero_le _⟩ rfl rfl rfl hl.1 (Nat.le_of_ble_eq_true rfl) rfl dX0_perform_137 (fun H locs h => ?_)
    subst hR
    exact g_reti S hr hlocks h dX0_perform_140
  replace hok := And.right hok n11
  replace hR := (if_neg n11).symm.trans hR
  refine g_em 12 (fun c => ?_) (fun n12 => ?_)
  · replace hok := And.left hok c
    replace hR := (if_pos c).symm.trans hR
    refine g_sw (tgt := 158) S.1 S.2.1 dX0_perform_1 c rfl (by decide) (by decide) rfl (by decide) ?_
    refine lv_aload_n S.1 S.2.1 dX0_perform_158 rfl (lv_at hl 0 rfl) ?_
    refine lv_aload_n S.1 S.2.1 dX0_perform_159 rfl (lv_at hl 0 rfl) ?_
    refine fg_X0_15 S K h dX0_perform_160 ?_
    refine lv_iload_n S.1 S.2.1 dX0_perform_163 rfl (lv_at hl 2 rfl) ?_
    have k42 := And.left hok
    replace hok := And.right hok
    refine al_H2 S K h k42 dX0_perform_164 ?_
    refine lv_iload_n S.1 S.2.1 dX0_perform_165 rfl (lv_at hl 3 rfl) ?_
    have k44 := And.left hok
    replace hok := And.right hok
    refine g_calli (ci := 0) (q0 := 0) S wz_cons K h (c_X0_asKind l D cy q _ A _ _ _ k44) kc_X0_asKind km_X0_74 ki_X0_asKind ks_X0_asKind kn_X0 yd_X0_asKind ⟨⟨Nat.le_of_ble_eq_true rfl, Nat.le_of_ble_eq_true rfl⟩, rfl, rfl, Nat.zero_le _, Nat.zero_le _⟩ rfl rfl rfl hl.1 (Nat.le_of_ble_eq_true rfl) rfl dX0_perform_166 (fun H locs h => ?_)
    subst hR
    exact g_reti S hr hlocks h dX0_perform_169
  replace hok := And.right hok n12
  replace hR := (if_neg n12).symm.trans hR
  refine g_em 13 (fun c => ?_) (fun n13 => ?_)
  · replace hok := And.left hok c
    replace hR := (if_pos c).symm.trans hR
    refine g_sw (tgt := 170) S.1 S.2.1 dX0_perform_1 c rfl (by decide) (by decide) rfl (by decide) ?_
    refine lv_aload_n S.1 S.2.1 dX0_perform_170 rfl (lv_at hl 0 rfl) ?_
    refine lv_iload_n S.1 S.2.1 dX0_perform_171 rfl (lv_at hl 1 rfl) ?_
    refine lv_iload_n S.1 S.2.1 dX0_perform_172 rfl (lv_at hl 2 rfl) ?_
    refine lv_iload_n S.1 S.2.1 dX0_perform_173 rfl (lv_at hl 3 rfl) ?_
    refine lv_iload S.1 S.2.1 dX0_perform_174 (lv_at hl 4 rfl) ?_
    have k47 := And.left hok
    replace hok := And.right hok
    refine g_calli (ci := 0) (q0 := 0) S wz_cons K h (c_X0_counterAct l D cy q _ A _ _ _ _ _ k47) kc_X0_counterAct km_X0_77 ki_X0_counterAct ks_X0_counterAct kn_X0 yd_X0_counterAct ⟨⟨Nat.le_of_ble_eq_true rfl, Nat.le_of_ble_eq_true rfl⟩, rfl, rfl, Nat.zero_le _, Nat.zero_le _⟩ rfl rfl rfl hl.1 (Nat.le_of_ble_eq_true rfl) rfl dX0_perform_176 (fun H locs h => ?_)
    subst hR
    exact g_reti S hr hlocks h dX0_perform_179
  replace hok := And.right hok n13
  replace hR := (if_neg n13).symm.trans hR
  refine g_em 14 (fun c => ?_) (fun n14 => ?_)
  · replace hok := And.left hok c
    replace hR := (if_pos c).symm.trans hR
    refine g_sw (tgt := 170) S.1 S.2.1 dX0_perform_1 c rfl (by decide) (by decide) rfl (by decide) ?_
    refine lv_aload_n S.1 S.2.1 dX0_perform_170 rfl (lv_at hl 0 rfl) ?_
    refine lv_iload_n S.1 S.2.1 dX0_perform_171 rfl (lv_at hl 1 rfl) ?_
    refine lv_iload_n S.1 S.2.1 dX0_perform_172 rfl (lv_at hl 2 rfl) ?_
    refine lv_iload_n S.1 S.2.1 dX0_perform_173 rfl (lv_at hl 3 rfl) ?_
    refine lv_iload S.1 S.2.1 dX0_perform_174 (lv_at hl 4 rfl) ?_
    have k50 := And.left hok
    replace hok := And.right hok
    refine g_calli (ci := 0) (q0 := 0) S wz_cons K h (c_X0_counterAct l D cy q _ A _ _ _ _ _ k50) kc_X0_counterAct km_X0_77 ki_X0_counterAct ks_X0_counterAct kn_X0 yd_X0_counterAct ⟨⟨Nat.le_of_ble_eq_true rfl, Nat.le_of_ble_eq_true rfl⟩, rfl, rfl, Nat.zero_le _, Nat.zero_le _⟩ rfl rfl rfl hl.1 (Nat.le_of_ble_eq_true rfl) rfl dX0_perform_176 (fun H locs h => ?_)
    subst hR
    exact g_reti S hr hlocks h dX0_perform_179
  replace hok := And.right hok n14
  replace hR := (if_neg n14).symm.trans hR
  refine g_em 15 (fun c => ?_) (fun n15 => ?_)
  · replace hok := And.left hok c
    replace hR := (if_pos c).symm.trans hR
    refine g_sw (tgt := 170) S.1 S.2.1 dX0_perform_1 c rfl (by decide) (by decide) rfl (by decide) ?_
    refine lv_aload_n S.1 S.2.1 dX0_perform_170 rfl (lv_at hl 0 rfl) ?_
    refine lv_iload_n S.1 S.2.1 dX0_perform_171 rfl (lv_at hl 1 rfl) ?_
    refine lv_iload_n S.1 S.2.1 dX0_perform_172 rfl (lv_at hl 2 rfl) ?_
    refine lv_iload_n S.1 S.2.1 dX0_perform_173 rfl (lv_at hl 3 rfl) ?_
    refine lv_iload S.1 S.2.1 dX0_perform_174 (lv_at hl 4 rfl) ?_
    have k53 := And.left hok
    replace hok := And.right hok
    refine g_calli (ci := 0) (q0 := 0) S wz_cons K h (c_X0_counterAct l D cy q _ A _ _ _ _ _ k53) kc_X0_counterAct km_X0_77 ki_X0_counterAct ks_X0_counterAct kn_X0 yd_X0_counterAct ⟨⟨Nat.le_of_ble_eq_true rfl, Nat.le_of_ble_eq_true rfl⟩, rfl, rfl, Nat.zero_le _, Nat.zero_le _⟩ rfl rfl rfl hl.1 (Nat.le_of_ble_eq_true rfl) rfl dX0_perform_176 (fun H locs h => ?_)
    subst hR
    exact g_reti S hr hlocks h dX0_perform_179
  replace hok := And.right hok n15
  replace hR := (if_neg n15).symm.trans hR
  refine g_em 16 (fun c => ?_) (fun n16 => ?_)
  · replace hok := And.left hok c
    replace hR := (if_pos c).symm.trans hR
    refine g_sw (tgt := 180) S.1 S.2.1 dX0_perform_1 c rfl (by decide) (by decide) rfl (by decide) ?_
    refine lv_aload_n S.1 S.2.1 dX0_perform_180 rfl (lv_at hl 0 rfl) ?_
    refine lv_iload_n S.1 S.2.1 dX0_perform_181 rfl (lv_at hl 2 rfl) ?_
    refine lv_aload_n S.1 S.2.1 dX0_perform_182 rfl (lv_at hl 0 rfl) ?_
    refine fg_X0_9 S K h dX0_perform_183 ?_
    refine lv_iload_n S.1 S.2.1 dX0_perform_186 rfl (lv_at hl 3 rfl) ?_
    have k55 := And.left hok
    replace hok := And.right hok
    refine al_H1 S K h k55 dX0_perform_187 ?_
    refine lv_iload S.1 S.2.1 dX0_perform_188 (lv_at hl 4 rfl) ?_
    have k57 := And.left hok
    replace hok := And.right hok
    refine g_calli (ci := 0) (q0 := 0) S wz_cons K h (c_X0_newGrid l D cy q _ A _ _ _ _ k57) kc_X0_newGrid km_X0_80 ki_X0_newGrid ks_X0_newGrid kn_X0 yd_X0_newGrid ⟨⟨Nat.le_of_ble_eq_true rfl, Nat.le_of_ble_eq_true rfl⟩, rfl, rfl, Nat.zero_le _, Nat.zero_le _⟩ rfl rfl rfl hl.1 (Nat.le_of_ble_eq_true rfl) rfl dX0_perform_190 (fun H locs h => ?_)
    subst hR
    exact g_reti S hr hlocks h dX0_perform_193
  replace hok := And.right hok n16
  replace hR := (if_neg n16).symm.trans hR
  refine g_em 17 (fun c => ?_) (fun n17 => ?_)
  · replace hok := And.left hok c
    replace hR := (if_pos c).symm.trans hR
    refine g_sw (tgt := 194) S.1 S.2.1 dX0_perform_1 c rfl (by decide) (by decide) rfl (by decide) ?_
    refine lv_aload_n S.1 S.2.1 dX0_perform_194 rfl (lv_at hl 0 rfl) ?_
    refine lv_iload_n S.1 S.2.1 dX0_perform_195 rfl (lv_at hl 2 rfl) ?_
    refine lv_iload_n S.1 S.2.1 dX0_perform_196 rfl (lv_at hl 3 rfl) ?_
    have k60 := And.left hok
    replace hok := And.right hok
    refine g_calli (ci := 0) (q0 := 0) S wz_cons K h (c_X0_sumGrid l D cy q _ A _ _ _ k60) kc_X0_sumGrid km_X0_83 ki_X0_sumGrid ks_X0_sumGrid kn_X0 yd_X0_sumGrid ⟨⟨Nat.le_of_ble_eq_true rfl, Nat.le_of_ble_eq_true rfl⟩, rfl, rfl, Nat.zero_le _, Nat.zero_le _⟩ rfl rfl rfl hl.1 (Nat.le_of_ble_eq_true rfl) rfl dX0_perform_197 (fun H locs h => ?_)
    subst hR
    exact g_reti S hr hlocks h dX0_perform_200
  replace hok := And.right hok n17
  replace hR := (if_neg n17).symm.trans hR
  refine g_em 18 (fun c => ?_) (fun n18 => ?_)
  · replace hok := And.left hok c
    replace hR := (if_pos c).symm.trans hR
    refine g_sw (tgt := 201) S.1 S.2.1 dX0_perform_1 c rfl (by decide) (by decide) rfl (by decide) ?_
    refine lv_aload_n S.1 S.2.1 dX0_perform_201 rfl (lv_at hl 0 rfl) ?_
    refine lv_iload_n S.1 S.2.1 dX0_perform_202 rfl (lv_at hl 1 rfl) ?_
    refine lv_iload_n S.1 S.2.1 dX0_perform_203 rfl (lv_at hl 2 rfl) ?_
    refine lv_iload_n S.1 S.2.1 dX0_perform_204 rfl (lv_at hl 3 rfl) ?_
    have k63 := And.left hok
    replace hok := And.right hok
    refine g_calli (ci := 0) (q0 := 0) S wz_cons K h (c_X0_alarmAct l D cy q _ A _ _ _ _ k63) kc_X0_alarmAct km_X0_86 ki_X0_alarmAct ks_X0_alarmAct kn_X0 yd_X0_alarmAct ⟨⟨Nat.le_of_ble_eq_true rfl, Nat.le_of_ble_eq_true rfl⟩, rfl, rfl, Nat.zero_le _, Nat.zero_le _⟩ rfl rfl rfl hl.1 (Nat.le_of_ble_eq_true rfl) rfl dX0_perform_205 (fun H locs h => ?_)
    subst hR
    exact g_reti S hr hlocks h dX0_perform_208
  replace hok := And.right hok n18
  replace hR := (if_neg n18).symm.trans hR
  refine g_em 19 (fun c => ?_) (fun n19 => ?_)
  · replace hok := And.left hok c
    replace hR := (if_pos c).symm.trans hR
    refine g_sw (tgt := 201) S.1 S.2.1 dX0_perform_1 c rfl (by decide) (by decide) rfl (by decide) ?_
    refine lv_aload_n S.1 S.2.1 dX0_perform_201 rfl (lv_at hl 0 rfl) ?_
    refine lv_iload_n S.1 S.2.1 dX0_perform_202 rfl (lv_at hl 1 rfl) ?_
    refine lv_iload_n S.1 S.2.1 dX0_perform_203 rfl (lv_at hl 2 rfl) ?_
    refine lv_iload_n S.1 S.2.1 dX0_perform_204 rfl (lv_at hl 3 rfl) ?_
    have k66 := And.left hok
    replace hok := And.right hok
    refine g_calli (ci := 0) (q0 := 0) S wz_cons K h (c_X0_alarmAct l D cy q _ A _ _ _ _ k66) kc_X0_alarmAct km_X0_86 ki_X0_alarmAct ks_X0_alarmAct kn_X0 yd_X0_alarmAct ⟨⟨Nat.le_of_ble_eq_true rfl, Nat.le_of_ble_eq_true rfl⟩, rfl, rfl, Nat.zero_le _, Nat.zero_le _⟩ rfl rfl rfl hl.1 (Nat.le_of_ble_eq_true rfl) rfl dX0_perform_205 (fun H locs h => ?_)
    subst hR
    exact g_reti S hr hlocks h dX0_perform_208
  replace hok := And.right hok n19
  replace hR := (if_neg n19).symm.trans hR
  refine g_em 20 (fun c => ?_) (fun n20 => ?_)
  · replace hok := And.left hok c
    replace hR := (if_pos c).symm.trans hR
    refine g_sw (tgt := 201) S.1 S.2.1 dX0_perform_1 c rfl (by decide) (by decide) rfl (by decide) ?_
    refine lv_aload_n S.1 S.2.1 dX0_perform_201 rfl (lv_at hl 0 rfl) ?_
    refine lv_iload_n S.1 S.2.1 dX0_perform_202 rfl (lv_at hl 1 rfl) ?_
    refine lv_iload_n S.1 S.2.1 dX0_perform_203 rfl (lv_at hl 2 rfl) ?_
    refine lv_iload_n S.1 S.2.1 dX0_perform_204 rfl (lv_at hl 3 rfl) ?_
    have k69 := And.left hok
    replace hok := And.right hok
    refine g_calli (ci := 0) (q0 := 0) S wz_cons K h (c_X0_alarmAct l D cy q _ A _ _ _ _ k69) kc_X0_alarmAct km_X0_86 ki_X0_alarmAct ks_X0_alarmAct kn_X0 yd_X0_alarmAct ⟨⟨Nat.le_of_ble_eq_true rfl, Nat.le_of_ble_eq_true rfl⟩, rfl, rfl, Nat.zero_le _, Nat.zero_le _⟩ rfl rfl rfl hl.1 (Nat.le_of_ble_eq_true rfl) rfl dX0_perform_205 (fun H locs h => ?_)
    subst hR
    exact g_reti S hr hlocks h dX0_perform_208
  replace hok := And.right hok n20
  replace hR := (if_neg n20).symm.trans hR
  refine g_em 21 (fun c => ?_) (fun n21 => ?_)
  · replace hok := And.left hok c
    replace hR := (if_pos c).symm.trans hR
    refine g_sw (tgt := 209) S.1 S.2.1 dX0_perform_1 c rfl (by decide) (by decide) rfl (by decide) ?_
    refine lv_aload_n S.1 S.2.1 dX0_perform_209 rfl (lv_at hl 0 rfl) ?_
    refine fg_X0_9 S K h dX0_perform_210 ?_
    refine lv_iload_n S.1 S.2.1 dX0_perform_213 rfl (lv_at hl 2 rfl) ?_
    refine lv_iload_n S.1 S.2.1 dX0_perform_214 rfl (lv_at hl 3 rfl) ?_
    have k71 := And.left hok
    replace hok := And.right hok
    refine as_H1 S K h k71 dX0_perform_215 (fun H locs h => ?_)
    refine lv_iconst (v := 0) S.1 S.2.1 dX0_perform_216 (by decide) ?_
    subst hR
    exact g_reti S hr hlocks h dX0_perform_217
  replace hok := And.right hok n21
  replace hR := (if_neg n21).symm.trans hR
  refine g_em 22 (fun c => ?_) (fun n22 => ?_)
  · replace hok := And.left hok c
    replace hR := (if_pos c).symm.trans hR
    refine g_sw (tgt := 218) S.1 S.2.1 dX0_perform_1 c rfl (by decide) (by decide) rfl (by decide) ?_
    refine lv_aload_n S.1 S.2.1 dX0_perform_218 rfl (lv_at hl 0 rfl) ?_
    refine fg_X0_9 S K h dX0_perform_219 ?_
    refine lv_iload_n S.1 S.2.1 dX0_perform_222 rfl (lv_at hl 2 rfl) ?_
    refine lv_dup2_11 S.1 S.2.1 dX0_perform_223 rfl rfl ?_
    have k72 := And.left hok
    replace hok := And.right hok
    refine al_H1 S K h k72 dX0_perform_224 ?_
    refine lv_aload_n S.1 S.2.1 dX0_perform_225 rfl (lv_at hl 0 rfl) ?_
    refine fg_X0_9 S K h dX0_perform_226 ?_
    refine lv_iload_n S.1 S.2.1 dX0_perform_229 rfl (lv_at hl 3 rfl) ?_
    have k73 := And.left hok
    replace hok := And.right hok
    refine al_H1 S K h k73 dX0_perform_230 ?_
    refine lv_iadd S.1 S.2.1 dX0_perform_231 ?_
    have k74 := And.left hok
    replace hok := And.right hok
    refine as_H1 S K h k74 dX0_perform_232 (fun H locs h => ?_)
    refine lv_iconst (v := 0) S.1 S.2.1 dX0_perform_233 (by decide) ?_
    subst hR
    exact g_reti S hr hlocks h dX0_perform_234
  replace hok := And.right hok n22
  replace hR := (if_neg n22).symm.trans hR
  have m0 := lv_neT (a := 0) n0 rfl
  have m1 := lv_neT (a := 1) n1 rfl
  have m2 := lv_neT (a := 2) n2 rfl
  have m3 := lv_neT (a := 3) n3 rfl
  have m4 := lv_neT (a := 4) n4 rfl
  have m5 := lv_neT (a := 5) n5 rfl
  have m6 := lv_neT (a := 6) n6 rfl
  have m7 := lv_neT (a := 7) n7 rfl
  have m8 := lv_neT (a := 8) n8 rfl
  have m9 := lv_neT (a := 9) n9 rfl
  have m10 := lv_neT (a := 10) n10 rfl
  have m11 := lv_neT (a := 11) n11 rfl
  have m12 := lv_neT (a := 12) n12 rfl
  have m13 := lv_neT (a := 13) n13 rfl
  have m14 := lv_neT (a := 14) n14 rfl
  have m15 := lv_neT (a := 15) n15 rfl
  have m16 := lv_neT (a := 16) n16 rfl
  have m17 := lv_neT (a := 17) n17 rfl
  have m18 := lv_neT (a := 18) n18 rfl
  have m19 := lv_neT (a := 19) n19 rfl
  have m20 := lv_neT (a := 20) n20 rfl
  have m21 := lv_neT (a := 21) n21 rfl
  have m22 := lv_neT (a := 22) n22 rfl
  refine lv_tableOut (tgt := 235) S.1 S.2.1 dX0_perform_1 (by omega) (by decide) ?_
  refine lv_iconst (v := 0) S.1 S.2.1 dX0_perform_235 (by decide) ?_
  subst hR
  exact g_reti S hr hlocks h dX0_perform_236
