def xl_X6_fails_2 : Nat → GS → Int32 → Int32 → Int32 × GS
  | 0, σ, _, _ => (0, σ)
  | n + 1, σ, x1, x2 => if (σ 0 5) ≤ x2 then (0, st (st σ 0 28 (σ 0 27)) 0 29 x1) else if (xr_X6_in x1 (σ 5 x2.toNatClampNeg) ((σ 6 x2.toNatClampNeg) - 1)) = 0 then xl_X6_fails_2 n σ x1 (x2 + 1) else if (σ 7 x2.toNatClampNeg) = 0 then (0, st (st (st σ 0 31 ((σ 0 31) + 1)) 23 ((st σ 0 31 ((σ 0 31) + 1)) 0 27).toNatClampNeg (((st σ 0 31 ((σ 0 31) + 1)) 23 ((st σ 0 31 ((σ 0 31) + 1)) 0 27).toNatClampNeg) + 1)) 0 25 ((st (st σ 0 31 ((σ 0 31) + 1)) 23 ((st σ 0 31 ((σ 0 31) + 1)) 0 27).toNatClampNeg (((st σ 0 31 ((σ 0 31) + 1)) 23 ((st σ 0 31 ((σ 0 31) + 1)) 0 27).toNatClampNeg) + 1)) 8 x2.toNatClampNeg)) else if (σ 7 x2.toNatClampNeg) = (σ 0 27) then (0, st (st (st σ 0 31 ((σ 0 31) + 1)) 23 ((st σ 0 31 ((σ 0 31) + 1)) 0 27).toNatClampNeg (((st σ 0 31 ((σ 0 31) + 1)) 23 ((st σ 0 31 ((σ 0 31) + 1)) 0 27).toNatClampNeg) + 1)) 0 25 ((st (st σ 0 31 ((σ 0 31) + 1)) 23 ((st σ 0 31 ((σ 0 31) + 1)) 0 27).toNatClampNeg (((st σ 0 31 ((σ 0 31) + 1)) 23 ((st σ 0 31 ((σ 0 31) + 1)) 0 27).toNatClampNeg) + 1)) 8 x2.toNatClampNeg)) else xl_X6_fails_2 n σ x1 (x2 + 1)
def xlo_X6_fails_2 : Nat → GS → Int32 → Int32 → Prop
  | 0, _, _, _ => False
  | n + 1, σ, x1, x2 => ((σ 0 5) ≤ x2 → True) ∧ (¬ ((σ 0 5) ≤ x2) → vp_in x2 5 ∧ (vp_in x2 5 ∧ ((xo_X6_in x1 (σ 5 x2.toNatClampNeg) ((σ 6 x2.toNatClampNeg) - 1)) ∧ (((xr_X6_in x1 (σ 5 x2.toNatClampNeg) ((σ 6 x2.toNatClampNeg) - 1)) = 0 → xlo_X6_fails_2 n σ x1 (x2 + 1)) ∧ (¬ ((xr_X6_in x1 (σ 5 x2.toNatClampNeg) ((σ 6 x2.toNatClampNeg) - 1)) = 0) → vp_in x2 5 ∧ (((σ 7 x2.toNatClampNeg) = 0 → vp_in ((st σ 0 31 ((σ 0 31) + 1)) 0 27) 8 ∧ (vp_in ((st σ 0 31 ((σ 0 31) + 1)) 0 27) 8 ∧ (vp_in x2 5 ∧ (True)))) ∧ (¬ ((σ 7 x2.toNatClampNeg) = 0) → vp_in x2 5 ∧ (((σ 7 x2.toNatClampNeg) = (σ 0 27) → vp_in ((st σ 0 31 ((σ 0 31) + 1)) 0 27) 8 ∧ (vp_in ((st σ 0 31 ((σ 0 31) + 1)) 0 27) 8 ∧ (vp_in x2 5 ∧ (True)))) ∧ (¬ ((σ 7 x2.toNatClampNeg) = (σ 0 27)) → xlo_X6_fails_2 n σ x1 (x2 + 1))))))))))
set_option maxRecDepth 100000 in
set_option maxHeartbeats 4000000 in
theorem w_X6_fails_2 {p : Program} {l : Launch} {e : Env} {s : State} {m : MethodId} {args : Array Value} {below : List Frame} {meth : Method} {c : Code} {D : va_G} {cy : CY} {q : Nat → Nat} {ex : va_W} {A : Nat → Prop} (S : CallFix p m c cX6_fails 3 s args (wm yX6_fails cX6_fails 3 none) RX6) (K : KK D cy s) (hr : meth.sig.returnType = none) (hlocks : meth.locks = false) :
    ∀ (n : Nat) (σ : GS) (x1 : Int32) (x2 : Int32) (H : Heap) (locs : List Loc) (ls : Array Slot) (R : Int32 × GS), xlo_X6_fails_2 n σ x1 x2 → xl_X6_fails_2 n σ x1 x2 = R → WH D A s.heap H locs (wM cy q σ ++ ex) → lv_has ls 3 [(0, .ref (q 0)), (1, .int x1), (2, .int x2)] → W p l e ({ frames := 1, cells := 0, slots := 0, locals := 22 } : Room) s m args below meth c H locs 0 0 (MQ below (QV D (wM cy q R.2 ++ ex) A) args s 0 0 A) (F0 m 2 ls []) := by
  intro n
  induction n with
  | zero =>
    intro σ x1 x2 H locs ls R hok
    exact False.elim hok
  | succ n ih =>
    intro σ x1 x2 H locs ls R hok hR h hl
    refine lv_iload_n S.1 S.2.1 dX6_fails_2 rfl (lv_at hl 2 rfl) ?_
    refine lv_aload_n S.1 S.2.1 dX6_fails_3 rfl (lv_at hl 0 rfl) ?_
    refine fg_X6_124 S K h dX6_fails_4 ?_
    refine lv_icmp_ge (tgt := 93) S.1 S.2.1 dX6_fails_7 (by decide) (fun c => ?_) (fun c => ?_)
    · replace hok := And.left hok c
      replace hR := (if_pos c).symm.trans hR
      refine lv_aload_n S.1 S.2.1 dX6_fails_93 rfl (lv_at hl 0 rfl) ?_
      refine lv_aload_n S.1 S.2.1 dX6_fails_94 rfl (lv_at hl 0 rfl) ?_
      refine fg_X6_127 S K h dX6_fails_95 ?_
      refine fp_X6_94 S K h dX6_fails_98 (fun H locs h => ?_)
      refine lv_aload_n S.1 S.2.1 dX6_fails_101 rfl (lv_at hl 0 rfl) ?_
      refine lv_iload_n S.1 S.2.1 dX6_fails_102 rfl (lv_at hl 1 rfl) ?_
      refine fp_X6_97 S K h dX6_fails_103 (fun H locs h => ?_)
      subst hR
      exact g_retv S hr hlocks h dX6_fails_106
    · replace hok := And.right hok c
      replace hR := (if_neg c).symm.trans hR
      refine lv_iload_n S.1 S.2.1 dX6_fails_10 rfl (lv_at hl 1 rfl) ?_
      refine lv_aload_n S.1 S.2.1 dX6_fails_11 rfl (lv_at hl 0 rfl) ?_
      refine fg_X6_22 S K h dX6_fails_12 ?_
      refine lv_iload_n S.1 S.2.1 dX6_fails_15 rfl (lv_at hl 2 rfl) ?_
      have k1 := And.left hok
      replace hok := And.right hok
      refine al_M5 S K h k1 dX6_fails_16 ?_
      refine lv_aload_n S.1 S.2.1 dX6_fails_17 rfl (lv_at hl 0 rfl) ?_
      refine fg_X6_25 S K h dX6_fails_18 ?_
      refine lv_iload_n S.1 S.2.1 dX6_fails_21 rfl (lv_at hl 2 rfl) ?_
      have k2 := And.left hok
      replace hok := And.right hok
      refine al_M6 S K h k2 dX6_fails_22 ?_
      refine lv_iconst (v := 1) S.1 S.2.1 dX6_fails_23 (by decide) ?_
      refine lv_isub S.1 S.2.1 dX6_fails_24 ?_
      have k4 := And.left hok
      replace hok := And.right hok
      refine g_calls S wz_cons K.2 (c_X6_in l _ _ _ k4) kc_X6_in km_X6_106 kt_X6_in kn_X6 yd_X6_in.2 ⟨⟨Nat.le_of_ble_eq_true rfl, Nat.le_of_ble_eq_true rfl⟩, rfl, rfl, Nat.zero_le _, Nat.zero_le _⟩ rfl hl.1 (Nat.le_of_ble_eq_true rfl) rfl dX6_fails_25 ?_
      refine lv_if_eq (tgt := 87) S.1 S.2.1 dX6_fails_28 (by decide) (fun c => ?_) (fun c => ?_)
      · replace hok := And.left hok c
        replace hR := (if_pos c).symm.trans hR
        refine lv_iinc (v := _ + 1) (lv' := [(2, .int _), (0, .ref _), (1, .int _)]) S.1 S.2.1 dX6_fails_87 hl (k := 2) rfl rfl (by decide) rfl (fun ls hl => ?_)
        refine lv_goto (tgt := 2) S.1 S.2.1 dX6_fails_90 (by decide) ?_
        exact ih _ _ _ _ _ _ R hok hR h (lv_sub hl [1, 2, 0] rfl)
      · replace hok := And.right hok c
        replace hR := (if_neg c).symm.trans hR
        refine lv_aload_n S.1 S.2.1 dX6_fails_31 rfl (lv_at hl 0 rfl) ?_
        refine fg_X6_28 S K h dX6_fails_32 ?_
        refine lv_iload_n S.1 S.2.1 dX6_fails_35 rfl (lv_at hl 2 rfl) ?_
        have k6 := And.left hok
        replace hok := And.right hok
        refine al_M7 S K h k6 dX6_fails_36 ?_
        refine lv_if_eq (tgt := 53) S.1 S.2.1 dX6_fails_37 (by decide) (fun c => ?_) (fun c => ?_)
        · replace hok := And.left hok c
          replace hR := (if_pos c).symm.trans hR
          refine lv_aload_n S.1 S.2.1 dX6_fails_53 rfl (lv_at hl 0 rfl) ?_
          refine lv_dup S.1 S.2.1 dX6_fails_54 rfl ?_
          refine fg_X6_103 S K h dX6_fails_55 ?_
          refine lv_iconst (v := 1) S.1 S.2.1 dX6_fails_58 (by decide) ?_
          refine lv_iadd S.1 S.2.1 dX6_fails_59 ?_
          refine fp_X6_103 S K h dX6_fails_60 (fun H locs h => ?_)
          refine lv_aload_n S.1 S.2.1 dX6_fails_63 rfl (lv_at hl 0 rfl) ?_
          refine fg_X6_77 S K h dX6_fails_64 ?_
          refine lv_aload_n S.1 S.2.1 dX6_fails_67 rfl (lv_at hl 0 rfl) ?_
          refine fg_X6_127 S K h dX6_fails_68 ?_
          refine lv_dup2_11 S.1 S.2.1 dX6_fails_71 rfl rfl ?_
          have k7 := And.left hok
          replace hok := And.right hok
          refine al_M23 S K h k7 dX6_fails_72 ?_
          refine lv_iconst (v := 1) S.1 S.2.1 dX6_fails_73 (by decide) ?_
          refine lv_iadd S.1 S.2.1 dX6_fails_74 ?_
          have k8 := And.left hok
          replace hok := And.right hok
          refine as_M23 S K h k8 dX6_fails_75 (fun H locs h => ?_)
          refine lv_aload_n S.1 S.2.1 dX6_fails_76 rfl (lv_at hl 0 rfl) ?_
          refine lv_aload_n S.1 S.2.1 dX6_fails_77 rfl (lv_at hl 0 rfl) ?_
          refine fg_X6_31 S K h dX6_fails_78 ?_
          refine lv_iload_n S.1 S.2.1 dX6_fails_81 rfl (lv_at hl 2 rfl) ?_
          have k9 := And.left hok
          replace hok := And.right hok
          refine al_M8 S K h k9 dX6_fails_82 ?_
          refine fp_X6_88 S K h dX6_fails_83 (fun H locs h => ?_)
          subst hR
          exact g_retv S hr hlocks h dX6_fails_86
        · replace hok := And.right hok c
          replace hR := (if_neg c).symm.trans hR
          refine lv_aload_n S.1 S.2.1 dX6_fails_40 rfl (lv_at hl 0 rfl) ?_
          refine fg_X6_28 S K h dX6_fails_41 ?_
          refine lv_iload_n S.1 S.2.1 dX6_fails_44 rfl (lv_at hl 2 rfl) ?_
          have k10 := And.left hok
          replace hok := And.right hok
          refine al_M7 S K h k10 dX6_fails_45 ?_
          refine lv_aload_n S.1 S.2.1 dX6_fails_46 rfl (lv_at hl 0 rfl) ?_
          refine fg_X6_127 S K h dX6_fails_47 ?_
          refine lv_icmp_ne (tgt := 87) S.1 S.2.1 dX6_fails_50 (by decide) (fun c => ?_) (fun c => ?_)
          · replace hok := And.right hok c
            replace hR := (if_neg c).symm.trans hR
            refine lv_iinc (v := _ + 1) (lv' := [(2, .int _), (0, .ref _), (1, .int _)]) S.1 S.2.1 dX6_fails_87 hl (k := 2) rfl rfl (by decide) rfl (fun ls hl => ?_)
            refine lv_goto (tgt := 2) S.1 S.2.1 dX6_fails_90 (by decide) ?_
            exact ih _ _ _ _ _ _ R hok hR h (lv_sub hl [1, 2, 0] rfl)
          · replace hok := And.left hok c
            replace hR := (if_pos c).symm.trans hR
            refine lv_aload_n S.1 S.2.1 dX6_fails_53 rfl (lv_at hl 0 rfl) ?_
            refine lv_dup S.1 S.2.1 dX6_fails_54 rfl ?_
            refine fg_X6_103 S K h dX6_fails_55 ?_
            refine lv_iconst (v := 1) S.1 S.2.1 dX6_fails_58 (by decide) ?_
            refine lv_iadd S.1 S.2.1 dX6_fails_59 ?_
            refine fp_X6_103 S K h dX6_fails_60 (fun H locs h => ?_)
            refine lv_aload_n S.1 S.2.1 dX6_fails_63 rfl (lv_at hl 0 rfl) ?_
            refine fg_X6_77 S K h dX6_fails_64 ?_
            refine lv_aload_n S.1 S.2.1 dX6_fails_67 rfl (lv_at hl 0 rfl) ?_
            refine fg_X6_127 S K h dX6_fails_68 ?_
            refine lv_dup2_11 S.1 S.2.1 dX6_fails_71 rfl rfl ?_
            have k11 := And.left hok
            replace hok := And.right hok
            refine al_M23 S K h k11 dX6_fails_72 ?_
            refine lv_iconst (v := 1) S.1 S.2.1 dX6_fails_73 (by decide) ?_
            refine lv_iadd S.1 S.2.1 dX6_fails_74 ?_
            have k12 := And.left hok
            replace hok := And.right hok
            refine as_M23 S K h k12 dX6_fails_75 (fun H locs h => ?_)
            refine lv_aload_n S.1 S.2.1 dX6_fails_76 rfl (lv_at hl 0 rfl) ?_
            refine lv_aload_n S.1 S.2.1 dX6_fails_77 rfl (lv_at hl 0 rfl) ?_
            refine fg_X6_31 S K h dX6_fails_78 ?_
            refine lv_iload_n S.1 S.2.1 dX6_fails_81 rfl (lv_at hl 2 rfl) ?_
            have k13 := And.left hok
            replace hok := And.right hok
            refine al_M8 S K h k13 dX6_fails_82 ?_
            refine fp_X6_88 S K h dX6_fails_83 (fun H locs h => ?_)
            subst hR
            exact g_retv S hr hlocks h dX6_fails_86
def xr_X6_fails (σ : GS) (a1 : Int32) : Int32 × GS := xl_X6_fails_2 100 σ a1 0
def xo_X6_fails (σ : GS) (a1 : Int32) : Prop := xlo_X6_fails_2 100 σ a1 0
set_option maxRecDepth 100000 in
set_option maxHeartbeats 4000000 in
theorem c_X6_fails (l : Launch) (D : va_G) (cy : CY) (q : Nat → Nat) (ex : va_W) (A : Nat → Prop) (σ : GS) (a1 : Int32) (hok : xo_X6_fails σ a1) : Met l yX6_fails (wm yX6_fails cX6_fails 3 none) ({ frames := 1, cells := 0, slots := 0, locals := 22 } : Room) (PC D cy (wM cy q σ ++ ex) A [.ref (q 0), .int a1]) (QV D (wM cy q (xr_X6_fails σ a1).2 ++ ex) A) 0 0 A := by
  generalize hR : xr_X6_fails σ a1 = R
  refine g_met (lv := [(0, .ref (q 0)), (1, .int a1)]) (by decide) rfl (Nat.le_of_ble_eq_true rfl) rfl ?_
  intro p e s m below meth c ls S K h hr hlocks hl
  refine lv_iconst (v := 0) S.1 S.2.1 dX6_fails_0 (by decide) ?_
  refine lv_istore_n (lv' := [(2, .int _), (0, .ref _), (1, .int _)]) S.1 S.2.1 dX6_fails_1 rfl hl (by decide) rfl (fun ls hl => ?_)
  exact w_X6_fails_2  S K hr hlocks 100 _ _ _ _ _ _ R hok hR h (lv_sub hl [1, 2, 0] rfl)
def xl_X6_belts_62 : Nat → GS → Int32 → Int32 → Int32 → Int32 → Int32 → Int32 → Int32 → Int32 × GS
  | 0, σ, _, _, _, _, _, _, _ => (0, σ)
  | n + 1, σ, x1, x2, x3, x4, x5, x6, x7 => if x6 ≤ x7 then (0, σ) else xl_X6_belts_62 n (st σ 15 ((8 * x2) + x7).toNatClampNeg (-1)) x1 x2 x3 x4 x5 x6 (x7 + 1)
def xlo_X6_belts_62 : Nat → GS → Int32 → Int32 → Int32 → Int32 → Int32 → Int32 → Int32 → Prop
  | 0, _, _, _, _, _, _, _, _ => False
  | n + 1, σ, x1, x2, x3, x4, x5, x6, x7 => (x6 ≤ x7 → True) ∧ (¬ (x6 ≤ x7) → vp_in ((8 * x2) + x7) 32 ∧ (xlo_X6_belts_62 n (st σ 15 ((8 * x2) + x7).toNatClampNeg (-1)) x1 x2 x3 x4 x5 x6 (x7 + 1)))
set_option maxRecDepth 100000 in
set_option maxHeartbeats 4000000 in
theorem w_X6_belts_62 {p : Program} {l : Launch} {e : Env} {s : State} {m : MethodId} {args : Array Value} {below : List Frame} {meth : Method} {c : Code} {D : va_G} {cy : CY} {q : Nat → Nat} {ex : va_W} {A : Nat → Prop} (S : CallFix p m c cX6_belts 8 s args (wm yX6_belts cX6_belts 8 none) RX6) (K : KK D cy s) (hr : meth.sig.returnType = none) (hlocks : meth.locks = false) :
    ∀ (n : Nat) (σ : GS) (x1 : Int32) (x2 : Int32) (x3 : Int32) (x4 : Int32) (x5 : Int32) (x6 : Int32) (x7 : Int32) (H : Heap) (locs : List Loc) (ls : Array Slot) (R : Int32 × GS), xlo_X6_belts_62 n σ x1 x2 x3 x4 x5 x6 x7 → xl_X6_belts_62 n σ x1 x2 x3 x4 x5 x6 x7 = R → WH D A s.heap H locs (wM cy q σ ++ ex) → lv_has ls 8 [(0, .ref (q 0)), (1, .int x1), (2, .int x2), (3, .int x3), (4, .int x4), (5, .int x5), (6, .int x6), (7, .int x7)] → W p l e ({ frames := 2, cells := 0, slots := 0, locals := 44 } : Room) s m args below meth c H locs 0 0 (MQ below (QV D (wM cy q R.2 ++ ex) A) args s 0 0 A) (F0 m 62 ls []) := by
  intro n
  induction n with
  | zero =>
    intro σ x1 x2 x3 x4 x5 x6 x7 H locs ls R hok
    exact False.elim hok
  | succ n ih =>
    intro σ x1 x2 x3 x4 x5 x6 x7 H locs ls R hok hR h hl
    refine lv_iload S.1 S.2.1 dX6_belts_62 (lv_at hl 7 rfl) ?_
    refine lv_iload S.1 S.2.1 dX6_belts_64 (lv_at hl 6 rfl) ?_
    refine lv_icmp_ge (tgt := 88) S.1 S.2.1 dX6_belts_66 (by decide) (fun c => ?_) (fun c => ?_)
    · replace hok := And.left hok c
      replace hR := (if_pos c).symm.trans hR
      subst hR
      exact g_retv S hr hlocks h dX6_belts_88
    · replace hok := And.right hok c
      replace hR := (if_neg c).symm.trans hR
      refine lv_aload_n S.1 S.2.1 dX6_belts_69 rfl (lv_at hl 0 rfl) ?_
      refine fg_X6_52 S K h dX6_belts_70 ?_
      refine lv_bipush (v := 8) S.1 S.2.1 dX6_belts_73 (by decide) ?_
      refine lv_iload_n S.1 S.2.1 dX6_belts_75 rfl (lv_at hl 2 rfl) ?_
      refine lv_imul S.1 S.2.1 dX6_belts_76 ?_
      refine lv_iload S.1 S.2.1 dX6_belts_77 (lv_at hl 7 rfl) ?_
      refine lv_iadd S.1 S.2.1 dX6_belts_79 ?_
      refine lv_iconst (v := -1) S.1 S.2.1 dX6_belts_80 (by decide) ?_
      have k91 := And.left hok
      replace hok := And.right hok
      refine as_M15 S K h k91 dX6_belts_81 (fun H locs h => ?_)
      refine lv_iinc (v := _ + 1) (lv' := [(7, .int _), (0, .ref _), (1, .int _), (2, .int _), (3, .int _), (4, .int _), (5, .int _), (6, .int _)]) S.1 S.2.1 dX6_belts_82 hl (k := 7) rfl rfl (by decide) rfl (fun ls hl => ?_)
      refine lv_goto (tgt := 62) S.1 S.2.1 dX6_belts_85 (by decide) ?_
      exact ih _ _ _ _ _ _ _ _ _ _ _ R hok hR h (lv_sub hl [1, 2, 3, 4, 5, 6, 7, 0] rfl)
def xr_X6_belts (σ : GS) (a1 : Int32) (a2 : Int32) (a3 : Int32) (a4 : Int32) : Int32 × GS := if a1 = 3 then if a1 = 3 then bd (xr_X6_isSize σ (σ 22 a4.toNatClampNeg)) (fun v267 σ269 => if v267 = 0 then (0, σ269) else xl_X6_belts_62 100 (st (st σ269 13 a2.toNatClampNeg (σ 22 a4.toNatClampNeg)) 14 a2.toNatClampNeg a3) a1 a2 a3 a4 a2 (σ 22 a4.toNatClampNeg) 0) else if a1 = 4 then if (σ 13 a2.toNatClampNeg) = (-1) then bd (xr_X6_isThere σ 0) (fun v226 σ228 => if v226 = 0 then (0, σ228) else bd (xr_X6_isIndex σ228 (σ 22 a3.toNatClampNeg) (σ228 13 a2.toNatClampNeg)) (fun v230 σ232 => if v230 = 0 then (0, σ232) else if a1 = 5 then (0, st σ232 12 a2.toNatClampNeg (σ232 15 ((8 * a2) + (σ 22 a3.toNatClampNeg)).toNatClampNeg)) else if (σ232 12 a4.toNatClampNeg) = (-1) then (0, st σ232 15 ((8 * a2) + (σ 22 a3.toNatClampNeg)).toNatClampNeg (σ232 12 a4.toNatClampNeg)) else if (xr_X6_isOf (σ232 9 (σ232 12 a4.toNatClampNeg).toNatClampNeg) (σ232 14 a2.toNatClampNeg)) = 0 then (0, st σ232 0 27 5) else (0, st σ232 15 ((8 * a2) + (σ 22 a3.toNatClampNeg)).toNatClampNeg (σ232 12 a4.toNatClampNeg)))) else bd (xr_X6_isThere σ 1) (fun v246 σ248 => if v246 = 0 then (0, σ248) else bd (xr_X6_isIndex σ248 (σ 22 a3.toNatClampNeg) (σ248 13 a2.toNatClampNeg)) (fun v250 σ252 => if v250 = 0 then (0, σ252) else if a1 = 5 then (0, st σ252 12 a2.toNatClampNeg (σ252 15 ((8 * a2) + (σ 22 a3.toNatClampNeg)).toNatClampNeg)) else if (σ252 12 a4.toNatClampNeg) = (-1) then (0, st σ252 15 ((8 * a2) + (σ 22 a3.toNatClampNeg)).toNatClampNeg (σ252 12 a4.toNatClampNeg)) else if (xr_X6_isOf (σ252 9 (σ252 12 a4.toNatClampNeg).toNatClampNeg) (σ252 14 a2.toNatClampNeg)) = 0 then (0, st σ252 0 27 5) else (0, st σ252 15 ((8 * a2) + (σ 22 a3.toNatClampNeg)).toNatClampNeg (σ252 12 a4.toNatClampNeg)))) else if (σ 13 a2.toNatClampNeg) = (-1) then bd (xr_X6_isThere σ 0) (fun v184 σ186 => if v184 = 0 then (0, σ186) else bd (xr_X6_isIndex σ186 (σ 22 a4.toNatClampNeg) (σ186 13 a2.toNatClampNeg)) (fun v188 σ190 => if v188 = 0 then (0, σ190) else if a1 = 5 then (0, st σ190 12 a2.toNatClampNeg (σ190 15 ((8 * a2) + (σ 22 a4.toNatClampNeg)).toNatClampNeg)) else if (σ190 12 a4.toNatClampNeg) = (-1) then (0, st σ190 15 ((8 * a2) + (σ 22 a4.toNatClampNeg)).toNatClampNeg (σ190 12 a4.toNatClampNeg)) else if (xr_X6_isOf (σ190 9 (σ190 12 a4.toNatClampNeg).toNatClampNeg) (σ190 14 a2.toNatClampNeg)) = 0 then (0, st σ190 0 27 5) else (0, st σ190 15 ((8 * a2) + (σ 22 a4.toNatClampNeg)).toNatClampNeg (σ190 12 a4.toNatClampNeg)))) else bd (xr_X6_isThere σ 1) (fun v204 σ206 => if v204 = 0 then (0, σ206) else bd (xr_X6_isIndex σ206 (σ 22 a4.toNatClampNeg) (σ206 13 a2.toNatClampNeg)) (fun v208 σ210 => if v208 = 0 then (0, σ210) else if a1 = 5 then (0, st σ210 12 a2.toNatClampNeg (σ210 15 ((8 * a2) + (σ 22 a4.toNatClampNeg)).toNatClampNeg)) else if (σ210 12 a4.toNatClampNeg) = (-1) then (0, st σ210 15 ((8 * a2) + (σ 22 a4.toNatClampNeg)).toNatClampNeg (σ210 12 a4.toNatClampNeg)) else if (xr_X6_isOf (σ210 9 (σ210 12 a4.toNatClampNeg).toNatClampNeg) (σ210 14 a2.toNatClampNeg)) = 0 then (0, st σ210 0 27 5) else (0, st σ210 15 ((8 * a2) + (σ 22 a4.toNatClampNeg)).toNatClampNeg (σ210 12 a4.toNatClampNeg)))) else if a1 = 4 then if a1 = 3 then bd (xr_X6_isSize σ (σ 22 a4.toNatClampNeg)) (fun v177 σ179 => if v177 = 0 then (0, σ179) else xl_X6_belts_62 100 (st (st σ179 13 a2.toNatClampNeg (σ 22 a4.toNatClampNeg)) 14 a2.toNatClampNeg a3) a1 a2 a3 a4 a2 (σ 22 a4.toNatClampNeg) 0) else if a1 = 4 then if (σ 13 a2.toNatClampNeg) = (-1) then bd (xr_X6_isThere σ 0) (fun v136 σ138 => if v136 = 0 then (0, σ138) else bd (xr_X6_isIndex σ138 (σ 22 a3.toNatClampNeg) (σ138 13 a2.toNatClampNeg)) (fun v140 σ142 => if v140 = 0 then (0, σ142) else if a1 = 5 then (0, st σ142 12 a2.toNatClampNeg (σ142 15 ((8 * a2) + (σ 22 a3.toNatClampNeg)).toNatClampNeg)) else if (σ142 12 a4.toNatClampNeg) = (-1) then (0, st σ142 15 ((8 * a2) + (σ 22 a3.toNatClampNeg)).toNatClampNeg (σ142 12 a4.toNatClampNeg)) else if (xr_X6_isOf (σ142 9 (σ142 12 a4.toNatClampNeg).toNatClampNeg) (σ142 14 a2.toNatClampNeg)) = 0 then (0, st σ142 0 27 5) else (0, st σ142 15 ((8 * a2) + (σ 22 a3.toNatClampNeg)).toNatClampNeg (σ142 12 a4.toNatClampNeg)))) else bd (xr_X6_isThere σ 1) (fun v156 σ158 => if v156 = 0 then (0, σ158) else bd (xr_X6_isIndex σ158 (σ 22 a3.toNatClampNeg) (σ158 13 a2.toNatClampNeg)) (fun v160 σ162 => if v160 = 0 then (0, σ162) else if a1 = 5 then (0, st σ162 12 a2.toNatClampNeg (σ162 15 ((8 * a2) + (σ 22 a3.toNatClampNeg)).toNatClampNeg)) else if (σ162 12 a4.toNatClampNeg) = (-1) then (0, st σ162 15 ((8 * a2) + (σ 22 a3.toNatClampNeg)).toNatClampNeg (σ162 12 a4.toNatClampNeg)) else if (xr_X6_isOf (σ162 9 (σ162 12 a4.toNatClampNeg).toNatClampNeg) (σ162 14 a2.toNatClampNeg)) = 0 then (0, st σ162 0 27 5) else (0, st σ162 15 ((8 * a2) + (σ 22 a3.toNatClampNeg)).toNatClampNeg (σ162 12 a4.toNatClampNeg)))) else if (σ 13 a2.toNatClampNeg) = (-1) then bd (xr_X6_isThere σ 0) (fun v94 σ96 => if v94 = 0 then (0, σ96) else bd (xr_X6_isIndex σ96 (σ 22 a4.toNatClampNeg) (σ96 13 a2.toNatClampNeg)) (fun v98 σ100 => if v98 = 0 then (0, σ100) else if a1 = 5 then (0, st σ100 12 a2.toNatClampNeg (σ100 15 ((8 * a2) + (σ 22 a4.toNatClampNeg)).toNatClampNeg)) else if (σ100 12 a4.toNatClampNeg) = (-1) then (0, st σ100 15 ((8 * a2) + (σ 22 a4.toNatClampNeg)).toNatClampNeg (σ100 12 a4.toNatClampNeg)) else if (xr_X6_isOf (σ100 9 (σ100 12 a4.toNatClampNeg).toNatClampNeg) (σ100 14 a2.toNatClampNeg)) = 0 then (0, st σ100 0 27 5) else (0, st σ100 15 ((8 * a2) + (σ 22 a4.toNatClampNeg)).toNatClampNeg (σ100 12 a4.toNatClampNeg)))) else bd (xr_X6_isThere σ 1) (fun v114 σ116 => if v114 = 0 then (0, σ116) else bd (xr_X6_isIndex σ116 (σ 22 a4.toNatClampNeg) (σ116 13 a2.toNatClampNeg)) (fun v118 σ120 => if v118 = 0 then (0, σ120) else if a1 = 5 then (0, st σ120 12 a2.toNatClampNeg (σ120 15 ((8 * a2) + (σ 22 a4.toNatClampNeg)).toNatClampNeg)) else if (σ120 12 a4.toNatClampNeg) = (-1) then (0, st σ120 15 ((8 * a2) + (σ 22 a4.toNatClampNeg)).toNatClampNeg (σ120 12 a4.toNatClampNeg)) else if (xr_X6_isOf (σ120 9 (σ120 12 a4.toNatClampNeg).toNatClampNeg) (σ120 14 a2.toNatClampNeg)) = 0 then (0, st σ120 0 27 5) else (0, st σ120 15 ((8 * a2) + (σ 22 a4.toNatClampNeg)).toNatClampNeg (σ120 12 a4.toNatClampNeg)))) else if a1 = 3 then bd (xr_X6_isSize σ (σ 22 a4.toNatClampNeg)) (fun v86 σ88 => if v86 = 0 then (0, σ88) else xl_X6_belts_62 100 (st (st σ88 13 a2.toNatClampNeg (σ 22 a4.toNatClampNeg)) 14 a2.toNatClampNeg a3) a1 a2 a3 a4 a3 (σ 22 a4.toNatClampNeg) 0) else if a1 = 4 then if (σ 13 a3.toNatClampNeg) = (-1) then bd (xr_X6_isThere σ 0) (fun v45 σ47 => if v45 = 0 then (0, σ47) else bd (xr_X6_isIndex σ47 (σ 22 a3.toNatClampNeg) (σ47 13 a3.toNatClampNeg)) (fun v49 σ51 => if v49 = 0 then (0, σ51) else if a1 = 5 then (0, st σ51 12 a2.toNatClampNeg (σ51 15 ((8 * a3) + (σ 22 a3.toNatClampNeg)).toNatClampNeg)) else if (σ51 12 a4.toNatClampNeg) = (-1) then (0, st σ51 15 ((8 * a3) + (σ 22 a3.toNatClampNeg)).toNatClampNeg (σ51 12 a4.toNatClampNeg)) else if (xr_X6_isOf (σ51 9 (σ51 12 a4.toNatClampNeg).toNatClampNeg) (σ51 14 a3.toNatClampNeg)) = 0 then (0, st σ51 0 27 5) else (0, st σ51 15 ((8 * a3) + (σ 22 a3.toNatClampNeg)).toNatClampNeg (σ51 12 a4.toNatClampNeg)))) else bd (xr_X6_isThere σ 1) (fun v65 σ67 => if v65 = 0 then (0, σ67) else bd (xr_X6_isIndex σ67 (σ 22 a3.toNatClampNeg) (σ67 13 a3.toNatClampNeg)) (fun v69 σ71 => if v69 = 0 then (0, σ71) else if a1 = 5 then (0, st σ71 12 a2.toNatClampNeg (σ71 15 ((8 * a3) + (σ 22 a3.toNatClampNeg)).toNatClampNeg)) else if (σ71 12 a4.toNatClampNeg) = (-1) then (0, st σ71 15 ((8 * a3) + (σ 22 a3.toNatClampNeg)).toNatClampNeg (σ71 12 a4.toNatClampNeg)) else if (xr_X6_isOf (σ71 9 (σ71 12 a4.toNatClampNeg).toNatClampNeg) (σ71 14 a3.toNatClampNeg)) = 0 then (0, st σ71 0 27 5) else (0, st σ71 15 ((8 * a3) + (σ 22 a3.toNatClampNeg)).toNatClampNeg (σ71 12 a4.toNatClampNeg)))) else if (σ 13 a3.toNatClampNeg) = (-1) then bd (xr_X6_isThere σ 0) (fun v3 σ5 => if v3 = 0 then (0, σ5) else bd (xr_X6_isIndex σ5 (σ 22 a4.toNatClampNeg) (σ5 13 a3.toNatClampNeg)) (fun v7 σ9 => if v7 = 0 then (0, σ9) else if a1 = 5 then (0, st σ9 12 a2.toNatClampNeg (σ9 15 ((8 * a3) + (σ 22 a4.toNatClampNeg)).toNatClampNeg)) else if (σ9 12 a4.toNatClampNeg) = (-1) then (0, st σ9 15 ((8 * a3) + (σ 22 a4.toNatClampNeg)).toNatClampNeg (σ9 12 a4.toNatClampNeg)) else if (xr_X6_isOf (σ9 9 (σ9 12 a4.toNatClampNeg).toNatClampNeg) (σ9 14 a3.toNatClampNeg)) = 0 then (0, st σ9 0 27 5) else (0, st σ9 15 ((8 * a3) + (σ 22 a4.toNatClampNeg)).toNatClampNeg (σ9 12 a4.toNatClampNeg)))) else bd (xr_X6_isThere σ 1) (fun v23 σ25 => if v23 = 0 then (0, σ25) else bd (xr_X6_isIndex σ25 (σ 22 a4.toNatClampNeg) (σ25 13 a3.toNatClampNeg)) (fun v27 σ29 => if v27 = 0 then (0, σ29) else if a1 = 5 then (0, st σ29 12 a2.toNatClampNeg (σ29 15 ((8 * a3) + (σ 22 a4.toNatClampNeg)).toNatClampNeg)) else if (σ29 12 a4.toNatClampNeg) = (-1) then (0, st σ29 15 ((8 * a3) + (σ 22 a4.toNatClampNeg)).toNatClampNeg (σ29 12 a4.toNatClampNeg)) else if (xr_X6_isOf (σ29 9 (σ29 12 a4.toNatClampNeg).toNatClampNeg) (σ29 14 a3.toNatClampNeg)) = 0 then (0, st σ29 0 27 5) else (0, st σ29 15 ((8 * a3) + (σ 22 a4.toNatClampNeg)).toNatClampNeg (σ29 12 a4.toNatClampNeg))))
def xo_X6_belts (σ : GS) (a1 : Int32) (a2 : Int32) (a3 : Int32) (a4 : Int32) : Prop := (a1 = 3 → (a1 = 3 → vp_in a4 6 ∧ ((xo_X6_isSize σ (σ 22 a4.toNatClampNeg)) ∧ bd (xr_X6_isSize σ (σ 22 a4.toNatClampNeg)) (fun v267 σ269 => (v267 = 0 → True) ∧ (¬ (v267 = 0) → vp_in a2 4 ∧ (vp_in a2 4 ∧ (xlo_X6_belts_62 100 (st (st σ269 13 a2.toNatClampNeg (σ 22 a4.toNatClampNeg)) 14 a2.toNatClampNeg a3) a1 a2 a3 a4 a2 (σ 22 a4.toNatClampNeg) 0)))))) ∧ (¬ (a1 = 3) → (a1 = 4 → vp_in a3 6 ∧ (vp_in a2 4 ∧ (((σ 13 a2.toNatClampNeg) = (-1) → (xo_X6_isThere σ 0) ∧ bd (xr_X6_isThere σ 0) (fun v226 σ228 => (v226 = 0 → True) ∧ (¬ (v226 = 0) → vp_in a2 4 ∧ ((xo_X6_isIndex σ228 (σ 22 a3.toNatClampNeg) (σ228 13 a2.toNatClampNeg)) ∧ bd (xr_X6_isIndex σ228 (σ 22 a3.toNatClampNeg) (σ228 13 a2.toNatClampNeg)) (fun v230 σ232 => (v230 = 0 → True) ∧ (¬ (v230 = 0) → (a1 = 5 → vp_in ((8 * a2) + (σ 22 a3.toNatClampNeg)) 32 ∧ (vp_in a2 8 ∧ (True))) ∧ (¬ (a1 = 5) → vp_in a4 8 ∧ (((σ232 12 a4.toNatClampNeg) = (-1) → vp_in a4 8 ∧ (vp_in ((8 * a2) + (σ 22 a3.toNatClampNeg)) 32 ∧ (True))) ∧ (¬ ((σ232 12 a4.toNatClampNeg) = (-1)) → vp_in a4 8 ∧ (vp_in (σ232 12 a4.toNatClampNeg) 64 ∧ (vp_in a2 4 ∧ ((xo_X6_isOf (σ232 9 (σ232 12 a4.toNatClampNeg).toNatClampNeg) (σ232 14 a2.toNatClampNeg)) ∧ (((xr_X6_isOf (σ232 9 (σ232 12 a4.toNatClampNeg).toNatClampNeg) (σ232 14 a2.toNatClampNeg)) = 0 → True) ∧ (¬ ((xr_X6_isOf (σ232 9 (σ232 12 a4.toNatClampNeg).toNatClampNeg) (σ232 14 a2.toNatClampNeg)) = 0) → vp_in a4 8 ∧ (vp_in ((8 * a2) + (σ 22 a3.toNatClampNeg)) 32 ∧ (True)))))))))))))))) ∧ (¬ ((σ 13 a2.toNatClampNeg) = (-1)) → (xo_X6_isThere σ 1) ∧ bd (xr_X6_isThere σ 1) (fun v246 σ248 => (v246 = 0 → True) ∧ (¬ (v246 = 0) → vp_in a2 4 ∧ ((xo_X6_isIndex σ248 (σ 22 a3.toNatClampNeg) (σ248 13 a2.toNatClampNeg)) ∧ bd (xr_X6_isIndex σ248 (σ 22 a3.toNatClampNeg) (σ248 13 a2.toNatClampNeg)) (fun v250 σ252 => (v250 = 0 → True) ∧ (¬ (v250 = 0) → (a1 = 5 → vp_in ((8 * a2) + (σ 22 a3.toNatClampNeg)) 32 ∧ (vp_in a2 8 ∧ (True))) ∧ (¬ (a1 = 5) → vp_in a4 8 ∧ (((σ252 12 a4.toNatClampNeg) = (-1) → vp_in a4 8 ∧ (vp_in ((8 * a2) + (σ 22 a3.toNatClampNeg)) 32 ∧ (True))) ∧ (¬ ((σ252 12 a4.toNatClampNeg) = (-1)) → vp_in a4 8 ∧ (vp_in (σ252 12 a4.toNatClampNeg) 64 ∧ (vp_in a2 4 ∧ ((xo_X6_isOf (σ252 9 (σ252 12 a4.toNatClampNeg).toNatClampNeg) (σ252 14 a2.toNatClampNeg)) ∧ (((xr_X6_isOf (σ252 9 (σ252 12 a4.toNatClampNeg).toNatClampNeg) (σ252 14 a2.toNatClampNeg)) = 0 → True) ∧ (¬ ((xr_X6_isOf (σ252 9 (σ252 12 a4.toNatClampNeg).toNatClampNeg) (σ252 14 a2.toNatClampNeg)) = 0) → vp_in a4 8 ∧ (vp_in ((8 * a2) + (σ 22 a3.toNatClampNeg)) 32 ∧ (True))))))))))))))))))) ∧ (¬ (a1 = 4) → vp_in a4 6 ∧ (vp_in a2 4 ∧ (((σ 13 a2.toNatClampNeg) = (-1) → (xo_X6_isThere σ 0) ∧ bd (xr_X6_isThere σ 0) (fun v184 σ186 => (v184 = 0 → True) ∧ (¬ (v184 = 0) → vp_in a2 4 ∧ ((xo_X6_isIndex σ186 (σ 22 a4.toNatClampNeg) (σ186 13 a2.toNatClampNeg)) ∧ bd (xr_X6_isIndex σ186 (σ 22 a4.toNatClampNeg) (σ186 13 a2.toNatClampNeg)) (fun v188 σ190 => (v188 = 0 → True) ∧ (¬ (v188 = 0) → (a1 = 5 → vp_in ((8 * a2) + (σ 22 a4.toNatClampNeg)) 32 ∧ (vp_in a2 8 ∧ (True))) ∧ (¬ (a1 = 5) → vp_in a4 8 ∧ (((σ190 12 a4.toNatClampNeg) = (-1) → vp_in a4 8 ∧ (vp_in ((8 * a2) + (σ 22 a4.toNatClampNeg)) 32 ∧ (True))) ∧ (¬ ((σ190 12 a4.toNatClampNeg) = (-1)) → vp_in a4 8 ∧ (vp_in (σ190 12 a4.toNatClampNeg) 64 ∧ (vp_in a2 4 ∧ ((xo_X6_isOf (σ190 9 (σ190 12 a4.toNatClampNeg).toNatClampNeg) (σ190 14 a2.toNatClampNeg)) ∧ (((xr_X6_isOf (σ190 9 (σ190 12 a4.toNatClampNeg).toNatClampNeg) (σ190 14 a2.toNatClampNeg)) = 0 → True) ∧ (¬ ((xr_X6_isOf (σ190 9 (σ190 12 a4.toNatClampNeg).toNatClampNeg) (σ190 14 a2.toNatClampNeg)) = 0) → vp_in a4 8 ∧ (vp_in ((8 * a2) + (σ 22 a4.toNatClampNeg)) 32 ∧ (True)))))))))))))))) ∧ (¬ ((σ 13 a2.toNatClampNeg) = (-1)) → (xo_X6_isThere σ 1) ∧ bd (xr_X6_isThere σ 1) (fun v204 σ206 => (v204 = 0 → True) ∧ (¬ (v204 = 0) → vp_in a2 4 ∧ ((xo_X6_isIndex σ206 (σ 22 a4.toNatClampNeg) (σ206 13 a2.toNatClampNeg)) ∧ bd (xr_X6_isIndex σ206 (σ 22 a4.toNatClampNeg) (σ206 13 a2.toNatClampNeg)) (fun v208 σ210 => (v208 = 0 → True) ∧ (¬ (v208 = 0) → (a1 = 5 → vp_in ((8 * a2) + (σ 22 a4.toNatClampNeg)) 32 ∧ (vp_in a2 8 ∧ (True))) ∧ (¬ (a1 = 5) → vp_in a4 8 ∧ (((σ210 12 a4.toNatClampNeg) = (-1) → vp_in a4 8 ∧ (vp_in ((8 * a2) + (σ 22 a4.toNatClampNeg)) 32 ∧ (True))) ∧ (¬ ((σ210 12 a4.toNatClampNeg) = (-1)) → vp_in a4 8 ∧ (vp_in (σ210 12 a4.toNatClampNeg) 64 ∧ (vp_in a2 4 ∧ ((xo_X6_isOf (σ210 9 (σ210 12 a4.toNatClampNeg).toNatClampNeg) (σ210 14 a2.toNatClampNeg)) ∧ (((xr_X6_isOf (σ210 9 (σ210 12 a4.toNatClampNeg).toNatClampNeg) (σ210 14 a2.toNatClampNeg)) = 0 → True) ∧ (¬ ((xr_X6_isOf (σ210 9 (σ210 12 a4.toNatClampNeg).toNatClampNeg) (σ210 14 a2.toNatClampNeg)) = 0) → vp_in a4 8 ∧ (vp_in ((8 * a2) + (σ 22 a4.toNatClampNeg)) 32 ∧ (True))))))))))))))))))))) ∧ (¬ (a1 = 3) → (a1 = 4 → (a1 = 3 → vp_in a4 6 ∧ ((xo_X6_isSize σ (σ 22 a4.toNatClampNeg)) ∧ bd (xr_X6_isSize σ (σ 22 a4.toNatClampNeg)) (fun v177 σ179 => (v177 = 0 → True) ∧ (¬ (v177 = 0) → vp_in a2 4 ∧ (vp_in a2 4 ∧ (xlo_X6_belts_62 100 (st (st σ179 13 a2.toNatClampNeg (σ 22 a4.toNatClampNeg)) 14 a2.toNatClampNeg a3) a1 a2 a3 a4 a2 (σ 22 a4.toNatClampNeg) 0)))))) ∧ (¬ (a1 = 3) → (a1 = 4 → vp_in a3 6 ∧ (vp_in a2 4 ∧ (((σ 13 a2.toNatClampNeg) = (-1) → (xo_X6_isThere σ 0) ∧ bd (xr_X6_isThere σ 0) (fun v136 σ138 => (v136 = 0 → True) ∧ (¬ (v136 = 0) → vp_in a2 4 ∧ ((xo_X6_isIndex σ138 (σ 22 a3.toNatClampNeg) (σ138 13 a2.toNatClampNeg)) ∧ bd (xr_X6_isIndex σ138 (σ 22 a3.toNatClampNeg) (σ138 13 a2.toNatClampNeg)) (fun v140 σ142 => (v140 = 0 → True) ∧ (¬ (v140 = 0) → (a1 = 5 → vp_in ((8 * a2) + (σ 22 a3.toNatClampNeg)) 32 ∧ (vp_in a2 8 ∧ (True))) ∧ (¬ (a1 = 5) → vp_in a4 8 ∧ (((σ142 12 a4.toNatClampNeg) = (-1) → vp_in a4 8 ∧ (vp_in ((8 * a2) + (σ 22 a3.toNatClampNeg)) 32 ∧ (True))) ∧ (¬ ((σ142 12 a4.toNatClampNeg) = (-1)) → vp_in a4 8 ∧ (vp_in (σ142 12 a4.toNatClampNeg) 64 ∧ (vp_in a2 4 ∧ ((xo_X6_isOf (σ142 9 (σ142 12 a4.toNatClampNeg).toNatClampNeg) (σ142 14 a2.toNatClampNeg)) ∧ (((xr_X6_isOf (σ142 9 (σ142 12 a4.toNatClampNeg).toNatClampNeg) (σ142 14 a2.toNatClampNeg)) = 0 → True) ∧ (¬ ((xr_X6_isOf (σ142 9 (σ142 12 a4.toNatClampNeg).toNatClampNeg) (σ142 14 a2.toNatClampNeg)) = 0) → vp_in a4 8 ∧ (vp_in ((8 * a2) + (σ 22 a3.toNatClampNeg)) 32 ∧ (True)))))))))))))))) ∧ (¬ ((σ 13 a2.toNatClampNeg) = (-1)) → (xo_X6_isThere σ 1) ∧ bd (xr_X6_isThere σ 1) (fun v156 σ158 => (v156 = 0 → True) ∧ (¬ (v156 = 0) → vp_in a2 4 ∧ ((xo_X6_isIndex σ158 (σ 22 a3.toNatClampNeg) (σ158 13 a2.toNatClampNeg)) ∧ bd (xr_X6_isIndex σ158 (σ 22 a3.toNatClampNeg) (σ158 13 a2.toNatClampNeg)) (fun v160 σ162 => (v160 = 0 → True) ∧ (¬ (v160 = 0) → (a1 = 5 → vp_in ((8 * a2) + (σ 22 a3.toNatClampNeg)) 32 ∧ (vp_in a2 8 ∧ (True))) ∧ (¬ (a1 = 5) → vp_in a4 8 ∧ (((σ162 12 a4.toNatClampNeg) = (-1) → vp_in a4 8 ∧ (vp_in ((8 * a2) + (σ 22 a3.toNatClampNeg)) 32 ∧ (True))) ∧ (¬ ((σ162 12 a4.toNatClampNeg) = (-1)) → vp_in a4 8 ∧ (vp_in (σ162 12 a4.toNatClampNeg) 64 ∧ (vp_in a2 4 ∧ ((xo_X6_isOf (σ162 9 (σ162 12 a4.toNatClampNeg).toNatClampNeg) (σ162 14 a2.toNatClampNeg)) ∧ (((xr_X6_isOf (σ162 9 (σ162 12 a4.toNatClampNeg).toNatClampNeg) (σ162 14 a2.toNatClampNeg)) = 0 → True) ∧ (¬ ((xr_X6_isOf (σ162 9 (σ162 12 a4.toNatClampNeg).toNatClampNeg) (σ162 14 a2.toNatClampNeg)) = 0) → vp_in a4 8 ∧ (vp_in ((8 * a2) + (σ 22 a3.toNatClampNeg)) 32 ∧ (True))))))))))))))))))) ∧ (¬ (a1 = 4) → vp_in a4 6 ∧ (vp_in a2 4 ∧ (((σ 13 a2.toNatClampNeg) = (-1) → (xo_X6_isThere σ 0) ∧ bd (xr_X6_isThere σ 0) (fun v94 σ96 => (v94 = 0 → True) ∧ (¬ (v94 = 0) → vp_in a2 4 ∧ ((xo_X6_isIndex σ96 (σ 22 a4.toNatClampNeg) (σ96 13 a2.toNatClampNeg)) ∧ bd (xr_X6_isIndex σ96 (σ 22 a4.toNatClampNeg) (σ96 13 a2.toNatClampNeg)) (fun v98 σ100 => (v98 = 0 → True) ∧ (¬ (v98 = 0) → (a1 = 5 → vp_in ((8 * a2) + (σ 22 a4.toNatClampNeg)) 32 ∧ (vp_in a2 8 ∧ (True))) ∧ (¬ (a1 = 5) → vp_in a4 8 ∧ (((σ100 12 a4.toNatClampNeg) = (-1) → vp_in a4 8 ∧ (vp_in ((8 * a2) + (σ 22 a4.toNatClampNeg)) 32 ∧ (True))) ∧ (¬ ((σ100 12 a4.toNatClampNeg) = (-1)) → vp_in a4 8 ∧ (vp_in (σ100 12 a4.toNatClampNeg) 64 ∧ (vp_in a2 4 ∧ ((xo_X6_isOf (σ100 9 (σ100 12 a4.toNatClampNeg).toNatClampNeg) (σ100 14 a2.toNatClampNeg)) ∧ (((xr_X6_isOf (σ100 9 (σ100 12 a4.toNatClampNeg).toNatClampNeg) (σ100 14 a2.toNatClampNeg)) = 0 → True) ∧ (¬ ((xr_X6_isOf (σ100 9 (σ100 12 a4.toNatClampNeg).toNatClampNeg) (σ100 14 a2.toNatClampNeg)) = 0) → vp_in a4 8 ∧ (vp_in ((8 * a2) + (σ 22 a4.toNatClampNeg)) 32 ∧ (True)))))))))))))))) ∧ (¬ ((σ 13 a2.toNatClampNeg) = (-1)) → (xo_X6_isThere σ 1) ∧ bd (xr_X6_isThere σ 1) (fun v114 σ116 => (v114 = 0 → True) ∧ (¬ (v114 = 0) → vp_in a2 4 ∧ ((xo_X6_isIndex σ116 (σ 22 a4.toNatClampNeg) (σ116 13 a2.toNatClampNeg)) ∧ bd (xr_X6_isIndex σ116 (σ 22 a4.toNatClampNeg) (σ116 13 a2.toNatClampNeg)) (fun v118 σ120 => (v118 = 0 → True) ∧ (¬ (v118 = 0) → (a1 = 5 → vp_in ((8 * a2) + (σ 22 a4.toNatClampNeg)) 32 ∧ (vp_in a2 8 ∧ (True))) ∧ (¬ (a1 = 5) → vp_in a4 8 ∧ (((σ120 12 a4.toNatClampNeg) = (-1) → vp_in a4 8 ∧ (vp_in ((8 * a2) + (σ 22 a4.toNatClampNeg)) 32 ∧ (True))) ∧ (¬ ((σ120 12 a4.toNatClampNeg) = (-1)) → vp_in a4 8 ∧ (vp_in (σ120 12 a4.toNatClampNeg) 64 ∧ (vp_in a2 4 ∧ ((xo_X6_isOf (σ120 9 (σ120 12 a4.toNatClampNeg).toNatClampNeg) (σ120 14 a2.toNatClampNeg)) ∧ (((xr_X6_isOf (σ120 9 (σ120 12 a4.toNatClampNeg).toNatClampNeg) (σ120 14 a2.toNatClampNeg)) = 0 → True) ∧ (¬ ((xr_X6_isOf (σ120 9 (σ120 12 a4.toNatClampNeg).toNatClampNeg) (σ120 14 a2.toNatClampNeg)) = 0) → vp_in a4 8 ∧ (vp_in ((8 * a2) + (σ 22 a4.toNatClampNeg)) 32 ∧ (True))))))))))))))))))))) ∧ (¬ (a1 = 4) → (a1 = 3 → vp_in a4 6 ∧ ((xo_X6_isSize σ (σ 22 a4.toNatClampNeg)) ∧ bd (xr_X6_isSize σ (σ 22 a4.toNatClampNeg)) (fun v86 σ88 => (v86 = 0 → True) ∧ (¬ (v86 = 0) → vp_in a2 4 ∧ (vp_in a2 4 ∧ (xlo_X6_belts_62 100 (st (st σ88 13 a2.toNatClampNeg (σ 22 a4.toNatClampNeg)) 14 a2.toNatClampNeg a3) a1 a2 a3 a4 a3 (σ 22 a4.toNatClampNeg) 0)))))) ∧ (¬ (a1 = 3) → (a1 = 4 → vp_in a3 6 ∧ (vp_in a3 4 ∧ (((σ 13 a3.toNatClampNeg) = (-1) → (xo_X6_isThere σ 0) ∧ bd (xr_X6_isThere σ 0) (fun v45 σ47 => (v45 = 0 → True) ∧ (¬ (v45 = 0) → vp_in a3 4 ∧ ((xo_X6_isIndex σ47 (σ 22 a3.toNatClampNeg) (σ47 13 a3.toNatClampNeg)) ∧ bd (xr_X6_isIndex σ47 (σ 22 a3.toNatClampNeg) (σ47 13 a3.toNatClampNeg)) (fun v49 σ51 => (v49 = 0 → True) ∧ (¬ (v49 = 0) → (a1 = 5 → vp_in ((8 * a3) + (σ 22 a3.toNatClampNeg)) 32 ∧ (vp_in a2 8 ∧ (True))) ∧ (¬ (a1 = 5) → vp_in a4 8 ∧ (((σ51 12 a4.toNatClampNeg) = (-1) → vp_in a4 8 ∧ (vp_in ((8 * a3) + (σ 22 a3.toNatClampNeg)) 32 ∧ (True))) ∧ (¬ ((σ51 12 a4.toNatClampNeg) = (-1)) → vp_in a4 8 ∧ (vp_in (σ51 12 a4.toNatClampNeg) 64 ∧ (vp_in a3 4 ∧ ((xo_X6_isOf (σ51 9 (σ51 12 a4.toNatClampNeg).toNatClampNeg) (σ51 14 a3.toNatClampNeg)) ∧ (((xr_X6_isOf (σ51 9 (σ51 12 a4.toNatClampNeg).toNatClampNeg) (σ51 14 a3.toNatClampNeg)) = 0 → True) ∧ (¬ ((xr_X6_isOf (σ51 9 (σ51 12 a4.toNatClampNeg).toNatClampNeg) (σ51 14 a3.toNatClampNeg)) = 0) → vp_in a4 8 ∧ (vp_in ((8 * a3) + (σ 22 a3.toNatClampNeg)) 32 ∧ (True)))))))))))))))) ∧ (¬ ((σ 13 a3.toNatClampNeg) = (-1)) → (xo_X6_isThere σ 1) ∧ bd (xr_X6_isThere σ 1) (fun v65 σ67 => (v65 = 0 → True) ∧ (¬ (v65 = 0) → vp_in a3 4 ∧ ((xo_X6_isIndex σ67 (σ 22 a3.toNatClampNeg) (σ67 13 a3.toNatClampNeg)) ∧ bd (xr_X6_isIndex σ67 (σ 22 a3.toNatClampNeg) (σ67 13 a3.toNatClampNeg)) (fun v69 σ71 => (v69 = 0 → True) ∧ (¬ (v69 = 0) → (a1 = 5 → vp_in ((8 * a3) + (σ 22 a3.toNatClampNeg)) 32 ∧ (vp_in a2 8 ∧ (True))) ∧ (¬ (a1 = 5) → vp_in a4 8 ∧ (((σ71 12 a4.toNatClampNeg) = (-1) → vp_in a4 8 ∧ (vp_in ((8 * a3) + (σ 22 a3.toNatClampNeg)) 32 ∧ (True))) ∧ (¬ ((σ71 12 a4.toNatClampNeg) = (-1)) → vp_in a4 8 ∧ (vp_in (σ71 12 a4.toNatClampNeg) 64 ∧ (vp_in a3 4 ∧ ((xo_X6_isOf (σ71 9 (σ71 12 a4.toNatClampNeg).toNatClampNeg) (σ71 14 a3.toNatClampNeg)) ∧ (((xr_X6_isOf (σ71 9 (σ71 12 a4.toNatClampNeg).toNatClampNeg) (σ71 14 a3.toNatClampNeg)) = 0 → True) ∧ (¬ ((xr_X6_isOf (σ71 9 (σ71 12 a4.toNatClampNeg).toNatClampNeg) (σ71 14 a3.toNatClampNeg)) = 0) → vp_in a4 8 ∧ (vp_in ((8 * a3) + (σ 22 a3.toNatClampNeg)) 32 ∧ (True))))))))))))))))))) ∧ (¬ (a1 = 4) → vp_in a4 6 ∧ (vp_in a3 4 ∧ (((σ 13 a3.toNatClampNeg) = (-1) → (xo_X6_isThere σ 0) ∧ bd (xr_X6_isThere σ 0) (fun v3 σ5 => (v3 = 0 → True) ∧ (¬ (v3 = 0) → vp_in a3 4 ∧ ((xo_X6_isIndex σ5 (σ 22 a4.toNatClampNeg) (σ5 13 a3.toNatClampNeg)) ∧ bd (xr_X6_isIndex σ5 (σ 22 a4.toNatClampNeg) (σ5 13 a3.toNatClampNeg)) (fun v7 σ9 => (v7 = 0 → True) ∧ (¬ (v7 = 0) → (a1 = 5 → vp_in ((8 * a3) + (σ 22 a4.toNatClampNeg)) 32 ∧ (vp_in a2 8 ∧ (True))) ∧ (¬ (a1 = 5) → vp_in a4 8 ∧ (((σ9 12 a4.toNatClampNeg) = (-1) → vp_in a4 8 ∧ (vp_in ((8 * a3) + (σ 22 a4.toNatClampNeg)) 32 ∧ (True))) ∧ (¬ ((σ9 12 a4.toNatClampNeg) = (-1)) → vp_in a4 8 ∧ (vp_in (σ9 12 a4.toNatClampNeg) 64 ∧ (vp_in a3 4 ∧ ((xo_X6_isOf (σ9 9 (σ9 12 a4.toNatClampNeg).toNatClampNeg) (σ9 14 a3.toNatClampNeg)) ∧ (((xr_X6_isOf (σ9 9 (σ9 12 a4.toNatClampNeg).toNatClampNeg) (σ9 14 a3.toNatClampNeg)) = 0 → True) ∧ (¬ ((xr_X6_isOf (σ9 9 (σ9 12 a4.toNatClampNeg).toNatClampNeg) (σ9 14 a3.toNatClampNeg)) = 0) → vp_in a4 8 ∧ (vp_in ((8 * a3) + (σ 22 a4.toNatClampNeg)) 32 ∧ (True)))))))))))))))) ∧ (¬ ((σ 13 a3.toNatClampNeg) = (-1)) → (xo_X6_isThere σ 1) ∧ bd (xr_X6_isThere σ 1) (fun v23 σ25 => (v23 = 0 → True) ∧ (¬ (v23 = 0) → vp_in a3 4 ∧ ((xo_X6_isIndex σ25 (σ 22 a4.toNatClampNeg) (σ25 13 a3.toNatClampNeg)) ∧ bd (xr_X6_isIndex σ25 (σ 22 a4.toNatClampNeg) (σ25 13 a3.toNatClampNeg)) (fun v27 σ29 => (v27 = 0 → True) ∧ (¬ (v27 = 0) → (a1 = 5 → vp_in ((8 * a3) + (σ 22 a4.toNatClampNeg)) 32 ∧ (vp_in a2 8 ∧ (True))) ∧ (¬ (a1 = 5) → vp_in a4 8 ∧ (((σ29 12 a4.toNatClampNeg) = (-1) → vp_in a4 8 ∧ (vp_in ((8 * a3) + (σ 22 a4.toNatClampNeg)) 32 ∧ (True))) ∧ (¬ ((σ29 12 a4.toNatClampNeg) = (-1)) → vp_in a4 8 ∧ (vp_in (σ29 12 a4.toNatClampNeg) 64 ∧ (vp_in a3 4 ∧ ((xo_X6_isOf (σ29 9 (σ29 12 a4.toNatClampNeg).toNatClampNeg) (σ29 14 a3.toNatClampNeg)) ∧ (((xr_X6_isOf (σ29 9 (σ29 12 a4.toNatClampNeg).toNatClampNeg) (σ29 14 a3.toNatClampNeg)) = 0 → True) ∧ (¬ ((xr_X6_isOf (σ29 9 (σ29 12 a4.toNatClampNeg).toNatClampNeg) (σ29 14 a3.toNatClampNeg)) = 0) → vp_in a4 8 ∧ (vp_in ((8 * a3) + (σ 22 a4.toNatClampNeg)) 32 ∧ (True))))))))))))))))))))))
set_option maxRecDepth 100000 in
set_option maxHeartbeats 4000000 in
theorem c_X6_belts (l : Launch) (D : va_G) (cy : CY) (q : Nat → Nat) (ex : va_W) (A : Nat → Prop) (σ : GS) (a1 : Int32) (a2 : Int32) (a3 : Int32) (a4 : Int32) (hok : xo_X6_belts σ a1 a2 a3 a4) : Met l yX6_belts (wm yX6_belts cX6_belts 8 none) ({ frames := 2, cells := 0, slots := 0, locals := 44 } : Room) (PC D cy (wM cy q σ ++ ex) A [.ref (q 0), .int a1, .int a2, .int a3, .int a4]) (QV D (wM cy q (xr_X6_belts σ a1 a2 a3 a4).2 ++ ex) A) 0 0 A := by
  generalize hR : xr_X6_belts σ a1 a2 a3 a4 = R
  refine g_met (lv := [(0, .ref (q 0)), (1, .int a1), (2, .int a2), (3, .int a3), (4, .int a4)]) (by decide) rfl (Nat.le_of_ble_eq_true rfl) rfl ?_
  intro p e s m below meth c ls S K h hr hlocks hl
  refine lv_iload_n S.1 S.2.1 dX6_belts_0 rfl (lv_at hl 1 rfl) ?_
  refine lv_iconst (v := 3) S.1 S.2.1 dX6_belts_1 (by decide) ?_
  refine lv_icmp_ne (tgt := 9) S.1 S.2.1 dX6_belts_2 (by decide) (fun c => ?_) (fun c => ?_)
  · replace hok := And.right hok c
    replace hR := (if_neg c).symm.trans hR
    refine lv_iload_n S.1 S.2.1 dX6_belts_9 rfl (lv_at hl 1 rfl) ?_
    refine lv_iconst (v := 4) S.1 S.2.1 dX6_belts_10 (by decide) ?_
    refine lv_icmp_ne (tgt := 18) S.1 S.2.1 dX6_belts_11 (by decide) (fun c => ?_) (fun c => ?_)
    · replace hok := And.right hok c
      replace hR := (if_neg c).symm.trans hR
      refine lv_iload_n S.1 S.2.1 dX6_belts_18 rfl (lv_at hl 3 rfl) ?_
      refine lv_istore (lv' := [(5, .int _), (0, .ref _), (1, .int _), (2, .int _), (3, .int _), (4, .int _)]) S.1 S.2.1 dX6_belts_19 hl (by decide) rfl (fun ls hl => ?_)
      refine lv_iload_n S.1 S.2.1 dX6_belts_21 rfl (lv_at hl 2 rfl) ?_
      refine lv_iconst (v := 3) S.1 S.2.1 dX6_belts_22 (by decide) ?_
      refine lv_icmp_ne (tgt := 89) S.1 S.2.1 dX6_belts_23 (by decide) (fun c => ?_) (fun c => ?_)
      · replace hok := And.right hok c
        replace hR := (if_neg c).symm.trans hR
        refine lv_iload_n S.1 S.2.1 dX6_belts_89 rfl (lv_at hl 2 rfl) ?_
        refine lv_iconst (v := 4) S.1 S.2.1 dX6_belts_90 (by decide) ?_
        refine lv_icmp_ne (tgt := 103) S.1 S.2.1 dX6_belts_91 (by decide) (fun c => ?_) (fun c => ?_)
        · replace hok := And.right hok c
          replace hR := (if_neg c).symm.trans hR
          refine lv_aload_n S.1 S.2.1 dX6_belts_103 rfl (lv_at hl 1 rfl) ?_
          refine fg_X6_74 S K h dX6_belts_104 ?_
          refine lv_iload S.1 S.2.1 dX6_belts_107 (lv_at hl 5 rfl) ?_
          have k1 := And.left hok
          replace hok := And.right hok
          refine al_M22 S K h k1 dX6_belts_109 ?_
          refine lv_istore (lv' := [(6, .int _), (5, .int _), (0, .ref _), (1, .int _), (2, .int _), (3, .int _), (4, .int _)]) S.1 S.2.1 dX6_belts_110 hl (by decide) rfl (fun ls hl => ?_)
          refine lv_aload_n S.1 S.2.1 dX6_belts_112 rfl (lv_at hl 2 rfl) ?_
          refine lv_aload_n S.1 S.2.1 dX6_belts_113 rfl (lv_at hl 2 rfl) ?_
          refine fg_X6_46 S K h dX6_belts_114 ?_
          refine lv_iload S.1 S.2.1 dX6_belts_117 (lv_at hl 1 rfl) ?_
          have k2 := And.left hok
          replace hok := And.right hok
          refine al_M13 S K h k2 dX6_belts_119 ?_
          refine lv_iconst (v := -1) S.1 S.2.1 dX6_belts_120 (by decide) ?_
          refine lv_icmp_eq (tgt := 128) S.1 S.2.1 dX6_belts_121 (by decide) (fun c => ?_) (fun c => ?_)
          · replace hok := And.left hok c
            replace hR := (if_pos c).symm.trans hR
            refine lv_iconst (v := 0) S.1 S.2.1 dX6_belts_128 (by decide) ?_
            have k4 := And.left hok
            replace hok := And.right hok
            refine g_calli (ci := 6) (q0 := 0) S wz_cons K h (c_X6_isThere l D cy q _ A _ _ k4) kc_X6_isThere km_X6_133 ki_X6_isThere ks_X6_isThere kn_X6 yd_X6_isThere ⟨⟨Nat.le_of_ble_eq_true rfl, Nat.le_of_ble_eq_true rfl⟩, rfl, rfl, Nat.zero_le _, Nat.zero_le _⟩ rfl rfl rfl hl.1 (Nat.le_of_ble_eq_true rfl) rfl dX6_belts_129 (fun H locs h => ?_)
            refine lv_if_eq (tgt := 151) S.1 S.2.1 dX6_belts_132 (by decide) (fun c => ?_) (fun c => ?_)
            · replace hok := And.left hok c
              replace hR := (if_pos c).symm.trans hR
              subst hR
              exact g_retv S hr hlocks h dX6_belts_151
            · replace hok := And.right hok c
              replace hR := (if_neg c).symm.trans hR
              refine lv_aload_n S.1 S.2.1 dX6_belts_135 rfl (lv_at hl 2 rfl) ?_
              refine lv_iload S.1 S.2.1 dX6_belts_136 (lv_at hl 0 rfl) ?_
              refine lv_aload_n S.1 S.2.1 dX6_belts_138 rfl (lv_at hl 2 rfl) ?_
              refine fg_X6_46 S K h dX6_belts_139 ?_
              refine lv_iload S.1 S.2.1 dX6_belts_142 (lv_at hl 1 rfl) ?_
              have k6 := And.left hok
              replace hok := And.right hok
              refine al_M13 S K h k6 dX6_belts_144 ?_
              have k8 := And.left hok
              replace hok := And.right hok
              refine g_calli (ci := 6) (q0 := 0) S wz_cons K h (c_X6_isIndex l D cy q _ A _ _ _ k8) kc_X6_isIndex km_X6_137 ki_X6_isIndex ks_X6_isIndex kn_X6 yd_X6_isIndex ⟨⟨Nat.le_of_ble_eq_true rfl, Nat.le_of_ble_eq_true rfl⟩, rfl, rfl, Nat.zero_le _, Nat.zero_le _⟩ rfl rfl rfl hl.1 (Nat.le_of_ble_eq_true rfl) rfl dX6_belts_145 (fun H locs h => ?_)
              refine lv_if_ne (tgt := 152) S.1 S.2.1 dX6_belts_148 (by decide) (fun c => ?_) (fun c => ?_)
              · replace hok := And.right hok c
                replace hR := (if_neg c).symm.trans hR
                refine lv_iload_n S.1 S.2.1 dX6_belts_152 rfl (lv_at hl 3 rfl) ?_
                refine lv_iconst (v := 5) S.1 S.2.1 dX6_belts_153 (by decide) ?_
                refine lv_icmp_ne (tgt := 179) S.1 S.2.1 dX6_belts_154 (by decide) (fun c => ?_) (fun c => ?_)
                · replace hok := And.right hok c
                  replace hR := (if_neg c).symm.trans hR
                  refine lv_aload_n S.1 S.2.1 dX6_belts_179 rfl (lv_at hl 2 rfl) ?_
                  refine fg_X6_43 S K h dX6_belts_180 ?_
                  refine lv_iload S.1 S.2.1 dX6_belts_183 (lv_at hl 6 rfl) ?_
                  have k10 := And.left hok
                  replace hok := And.right hok
                  refine al_M12 S K h k10 dX6_belts_185 ?_
                  refine lv_iconst (v := -1) S.1 S.2.1 dX6_belts_186 (by decide) ?_
                  refine lv_icmp_eq (tgt := 223) S.1 S.2.1 dX6_belts_187 (by decide) (fun c => ?_) (fun c => ?_)
                  · replace hok := And.left hok c
                    replace hR := (if_pos c).symm.trans hR
                    refine lv_aload_n S.1 S.2.1 dX6_belts_223 rfl (lv_at hl 2 rfl) ?_
                    refine fg_X6_52 S K h dX6_belts_224 ?_
                    refine lv_bipush (v := 8) S.1 S.2.1 dX6_belts_227 (by decide) ?_
                    refine lv_iload S.1 S.2.1 dX6_belts_229 (lv_at hl 1 rfl) ?_
                    refine lv_imul S.1 S.2.1 dX6_belts_231 ?_
                    refine lv_iload S.1 S.2.1 dX6_belts_232 (lv_at hl 0 rfl) ?_
                    refine lv_iadd S.1 S.2.1 dX6_belts_234 ?_
                    refine lv_aload_n S.1 S.2.1 dX6_belts_235 rfl (lv_at hl 2 rfl) ?_
                    refine fg_X6_43 S K h dX6_belts_236 ?_
                    refine lv_iload S.1 S.2.1 dX6_belts_239 (lv_at hl 6 rfl) ?_
                    have k11 := And.left hok
                    replace hok := And.right hok
                    refine al_M12 S K h k11 dX6_belts_241 ?_
                    have k12 := And.left hok
                    replace hok := And.right hok
                    refine as_M15 S K h k12 dX6_belts_242 (fun H locs h => ?_)
                    subst hR
                    exact g_retv S hr hlocks h dX6_belts_243
                  · replace hok := And.right hok c
                    replace hR := (if_neg c).symm.trans hR
                    refine lv_aload_n S.1 S.2.1 dX6_belts_190 rfl (lv_at hl 2 rfl) ?_
                    refine fg_X6_34 S K h dX6_belts_191 ?_
                    refine lv_aload_n S.1 S.2.1 dX6_belts_194 rfl (lv_at hl 2 rfl) ?_
                    refine fg_X6_43 S K h dX6_belts_195 ?_
                    refine lv_iload S.1 S.2.1 dX6_belts_198 (lv_at hl 6 rfl) ?_
                    have k13 := And.left hok
                    replace hok := And.right hok
                    refine al_M12 S K h k13 dX6_belts_200 ?_
                    have k14 := And.left hok
                    replace hok := And.right hok
                    refine al_M9 S K h k14 dX6_belts_201 ?_
                    refine lv_aload_n S.1 S.2.1 dX6_belts_202 rfl (lv_at hl 2 rfl) ?_
                    refine fg_X6_49 S K h dX6_belts_203 ?_
                    refine lv_iload S.1 S.2.1 dX6_belts_206 (lv_at hl 1 rfl) ?_
                    have k15 := And.left hok
                    replace hok := And.right hok
                    refine al_M14 S K h k15 dX6_belts_208 ?_
                    have k17 := And.left hok
                    replace hok := And.right hok
                    refine g_calls S wz_cons K.2 (c_X6_isOf l _ _ k17) kc_X6_isOf km_X6_141 kt_X6_isOf kn_X6 yd_X6_isOf.2 ⟨⟨Nat.le_of_ble_eq_true rfl, Nat.le_of_ble_eq_true rfl⟩, rfl, rfl, Nat.zero_le _, Nat.zero_le _⟩ rfl hl.1 (Nat.le_of_ble_eq_true rfl) rfl dX6_belts_209 ?_
                    refine lv_if_ne (tgt := 223) S.1 S.2.1 dX6_belts_212 (by decide) (fun c => ?_) (fun c => ?_)
                    · replace hok := And.right hok c
                      replace hR := (if_neg c).symm.trans hR
                      refine lv_aload_n S.1 S.2.1 dX6_belts_223 rfl (lv_at hl 2 rfl) ?_
                      refine fg_X6_52 S K h dX6_belts_224 ?_
                      refine lv_bipush (v := 8) S.1 S.2.1 dX6_belts_227 (by decide) ?_
                      refine lv_iload S.1 S.2.1 dX6_belts_229 (lv_at hl 1 rfl) ?_
                      refine lv_imul S.1 S.2.1 dX6_belts_231 ?_
                      refine lv_iload S.1 S.2.1 dX6_belts_232 (lv_at hl 0 rfl) ?_
                      refine lv_iadd S.1 S.2.1 dX6_belts_234 ?_
                      refine lv_aload_n S.1 S.2.1 dX6_belts_235 rfl (lv_at hl 2 rfl) ?_
                      refine fg_X6_43 S K h dX6_belts_236 ?_
                      refine lv_iload S.1 S.2.1 dX6_belts_239 (lv_at hl 6 rfl) ?_
                      have k19 := And.left hok
                      replace hok := And.right hok
                      refine al_M12 S K h k19 dX6_belts_241 ?_
                      have k20 := And.left hok
                      replace hok := And.right hok
                      refine as_M15 S K h k20 dX6_belts_242 (fun H locs h => ?_)
                      subst hR
                      exact g_retv S hr hlocks h dX6_belts_243
                    · replace hok := And.left hok c
                      replace hR := (if_pos c).symm.trans hR
                      refine lv_aload_n S.1 S.2.1 dX6_belts_215 rfl (lv_at hl 2 rfl) ?_
                      refine lv_iconst (v := 5) S.1 S.2.1 dX6_belts_216 (by decide) ?_
                      refine fp_X6_127 S K h dX6_belts_217 (fun H locs h => ?_)
                      refine lv_goto (tgt := 243) S.1 S.2.1 dX6_belts_220 (by decide) ?_
                      subst hR
                      exact g_retv S hr hlocks h dX6_belts_243
                · replace hok := And.left hok c
                  replace hR := (if_pos c).symm.trans hR
                  refine lv_aload_n S.1 S.2.1 dX6_belts_157 rfl (lv_at hl 2 rfl) ?_
                  refine fg_X6_43 S K h dX6_belts_158 ?_
                  refine lv_iload_n S.1 S.2.1 dX6_belts_161 rfl (lv_at hl 4 rfl) ?_
                  refine lv_aload_n S.1 S.2.1 dX6_belts_162 rfl (lv_at hl 2 rfl) ?_
                  refine fg_X6_52 S K h dX6_belts_163 ?_
                  refine lv_bipush (v := 8) S.1 S.2.1 dX6_belts_166 (by decide) ?_
                  refine lv_iload S.1 S.2.1 dX6_belts_168 (lv_at hl 1 rfl) ?_
                  refine lv_imul S.1 S.2.1 dX6_belts_170 ?_
                  refine lv_iload S.1 S.2.1 dX6_belts_171 (lv_at hl 0 rfl) ?_
                  refine lv_iadd S.1 S.2.1 dX6_belts_173 ?_
                  have k21 := And.left hok
                  replace hok := And.right hok
                  refine al_M15 S K h k21 dX6_belts_174 ?_
                  have k22 := And.left hok
                  replace hok := And.right hok
                  refine as_M12 S K h k22 dX6_belts_175 (fun H locs h => ?_)
                  refine lv_goto (tgt := 243) S.1 S.2.1 dX6_belts_176 (by decide) ?_
                  subst hR
                  exact g_retv S hr hlocks h dX6_belts_243
              · replace hok := And.left hok c
                replace hR := (if_pos c).symm.trans hR
                subst hR
                exact g_retv S hr hlocks h dX6_belts_151
          · replace hok := And.right hok c
            replace hR := (if_neg c).symm.trans hR
            refine lv_iconst (v := 1) S.1 S.2.1 dX6_belts_124 (by decide) ?_
            refine lv_goto (tgt := 129) S.1 S.2.1 dX6_belts_125 (by decide) ?_
            have k24 := And.left hok
            replace hok := And.right hok
            refine g_calli (ci := 6) (q0 := 0) S wz_cons K h (c_X6_isThere l D cy q _ A _ _ k24) kc_X6_isThere km_X6_133 ki_X6_isThere ks_X6_isThere kn_X6 yd_X6_isThere ⟨⟨Nat.le_of_ble_eq_true rfl, Nat.le_of_ble_eq_true rfl⟩, rfl, rfl, Nat.zero_le _, Nat.zero_le _⟩ rfl rfl rfl hl.1 (Nat.le_of_ble_eq_true rfl) rfl dX6_belts_129 (fun H locs h => ?_)
            refine lv_if_eq (tgt := 151) S.1 S.2.1 dX6_belts_132 (by decide) (fun c => ?_) (fun c => ?_)
            · replace hok := And.left hok c
              replace hR := (if_pos c).symm.trans hR
              subst hR
              exact g_retv S hr hlocks h dX6_belts_151
            · replace hok := And.right hok c
              replace hR := (if_neg c).symm.trans hR
              refine lv_aload_n S.1 S.2.1 dX6_belts_135 rfl (lv_at hl 2 rfl) ?_
              refine lv_iload S.1 S.2.1 dX6_belts_136 (lv_at hl 0 rfl) ?_
              refine lv_aload_n S.1 S.2.1 dX6_belts_138 rfl (lv_at hl 2 rfl) ?_
              refine fg_X6_46 S K h dX6_belts_139 ?_
              refine lv_iload S.1 S.2.1 dX6_belts_142 (lv_at hl 1 rfl) ?_
              have k26 := And.left hok
              replace hok := And.right hok
              refine al_M13 S K h k26 dX6_belts_144 ?_
              have k28 := And.left hok
              replace hok := And.right hok
              refine g_calli (ci := 6) (q0 := 0) S wz_cons K h (c_X6_isIndex l D cy q _ A _ _ _ k28) kc_X6_isIndex km_X6_137 ki_X6_isIndex ks_X6_isIndex kn_X6 yd_X6_isIndex ⟨⟨Nat.le_of_ble_eq_true rfl, Nat.le_of_ble_eq_true rfl⟩, rfl, rfl, Nat.zero_le _, Nat.zero_le _⟩ rfl rfl rfl hl.1 (Nat.le_of_ble_eq_true rfl) rfl dX6_belts_145 (fun H locs h => ?_)
              refine lv_if_ne (tgt := 152) S.1 S.2.1 dX6_belts_148 (by decide) (fun c => ?_) (fun c => ?_)
              · replace hok := And.right hok c
                replace hR := (if_neg c).symm.trans hR
                refine lv_iload_n S.1 S.2.1 dX6_belts_152 rfl (lv_at hl 3 rfl) ?_
                refine lv_iconst (v := 5) S.1 S.2.1 dX6_belts_153 (by decide) ?_
                refine lv_icmp_ne (tgt := 179) S.1 S.2.1 dX6_belts_154 (by decide) (fun c => ?_) (fun c => ?_)
                · replace hok := And.right hok c
                  replace hR := (if_neg c).symm.trans hR
                  refine lv_aload_n S.1 S.2.1 dX6_belts_179 rfl (lv_at hl 2 rfl) ?_
                  refine fg_X6_43 S K h dX6_belts_180 ?_
                  refine lv_iload S.1 S.2.1 dX6_belts_183 (lv_at hl 6 rfl) ?_
                  have k30 := And.left hok
                  replace hok := And.right hok
                  refine al_M12 S K h k30 dX6_belts_185 ?_
                  refine lv_iconst (v := -1) S.1 S.2.1 dX6_belts_186 (by decide) ?_
                  refine lv_icmp_eq (tgt := 223) S.1 S.2.1 dX6_belts_187 (by decide) (fun c => ?_) (fun c => ?_)
                  · replace hok := And.left hok c
                    replace hR := (if_pos c).symm.trans hR
                    refine lv_aload_n S.1 S.2.1 dX6_belts_223 rfl (lv_at hl 2 rfl) ?_
                    refine fg_X6_52 S K h dX6_belts_224 ?_
                    refine lv_bipush (v := 8) S.1 S.2.1 dX6_belts_227 (by decide) ?_
                    refine lv_iload S.1 S.2.1 dX6_belts_229 (lv_at hl 1 rfl) ?_
                    refine lv_imul S.1 S.2.1 dX6_belts_231 ?_
                    refine lv_iload S.1 S.2.1 dX6_belts_232 (lv_at hl 0 rfl) ?_
                    refine lv_iadd S.1 S.2.1 dX6_belts_234 ?_
                    refine lv_aload_n S.1 S.2.1 dX6_belts_235 rfl (lv_at hl 2 rfl) ?_
                    refine fg_X6_43 S K h dX6_belts_236 ?_
                    refine lv_iload S.1 S.2.1 dX6_belts_239 (lv_at hl 6 rfl) ?_
                    have k31 := And.left hok
                    replace hok := And.right hok
                    refine al_M12 S K h k31 dX6_belts_241 ?_
                    have k32 := And.left hok
                    replace hok := And.right hok
                    refine as_M15 S K h k32 dX6_belts_242 (fun H locs h => ?_)
                    subst hR
                    exact g_retv S hr hlocks h dX6_belts_243
                  · replace hok := And.right hok c
                    replace hR := (if_neg c).symm.trans hR
                    refine lv_aload_n S.1 S.2.1 dX6_belts_190 rfl (lv_at hl 2 rfl) ?_
                    refine fg_X6_34 S K h dX6_belts_191 ?_
                    refine lv_aload_n S.1 S.2.1 dX6_belts_194 rfl (lv_at hl 2 rfl) ?_
                    refine fg_X6_43 S K h dX6_belts_195 ?_
                    refine lv_iload S.1 S.2.1 dX6_belts_198 (lv_at hl 6 rfl) ?_
                    have k33 := And.left hok
                    replace hok := And.right hok
                    refine al_M12 S K h k33 dX6_belts_200 ?_
                    have k34 := And.left hok
                    replace hok := And.right hok
                    refine al_M9 S K h k34 dX6_belts_201 ?_
                    refine lv_aload_n S.1 S.2.1 dX6_belts_202 rfl (lv_at hl 2 rfl) ?_
                    refine fg_X6_49 S K h dX6_belts_203 ?_
                    refine lv_iload S.1 S.2.1 dX6_belts_206 (lv_at hl 1 rfl) ?_
                    have k35 := And.left hok
                    replace hok := And.right hok
                    refine al_M14 S K h k35 dX6_belts_208 ?_
                    have k37 := And.left hok
                    replace hok := And.right hok
                    refine g_calls S wz_cons K.2 (c_X6_isOf l _ _ k37) kc_X6_isOf km_X6_141 kt_X6_isOf kn_X6 yd_X6_isOf.2 ⟨⟨Nat.le_of_ble_eq_true rfl, Nat.le_of_ble_eq_true rfl⟩, rfl, rfl, Nat.zero_le _, Nat.zero_le _⟩ rfl hl.1 (Nat.le_of_ble_eq_true rfl) rfl dX6_belts_209 ?_
                    refine lv_if_ne (tgt := 223) S.1 S.2.1 dX6_belts_212 (by decide) (fun c => ?_) (fun c => ?_)
                    · replace hok := And.right hok c
                      replace hR := (if_neg c).symm.trans hR
                      refine lv_aload_n S.1 S.2.1 dX6_belts_223 rfl (lv_at hl 2 rfl) ?_
                      refine fg_X6_52 S K h dX6_belts_224 ?_
                      refine lv_bipush (v := 8) S.1 S.2.1 dX6_belts_227 (by decide) ?_
                      refine lv_iload S.1 S.2.1 dX6_belts_229 (lv_at hl 1 rfl) ?_
                      refine lv_imul S.1 S.2.1 dX6_belts_231 ?_
                      refine lv_iload S.1 S.2.1 dX6_belts_232 (lv_at hl 0 rfl) ?_
                      refine lv_iadd S.1 S.2.1 dX6_belts_234 ?_
                      refine lv_aload_n S.1 S.2.1 dX6_belts_235 rfl (lv_at hl 2 rfl) ?_
                      refine fg_X6_43 S K h dX6_belts_236 ?_
                      refine lv_iload S.1 S.2.1 dX6_belts_239 (lv_at hl 6 rfl) ?_
                      have k39 := And.left hok
                      replace hok := And.right hok
                      refine al_M12 S K h k39 dX6_belts_241 ?_
                      have k40 := And.left hok
                      replace hok := And.right hok
                      refine as_M15 S K h k40 dX6_belts_242 (fun H locs h => ?_)
                      subst hR
                      exact g_retv S hr hlocks h dX6_belts_243
                    · replace hok := And.left hok c
                      replace hR := (if_pos c).symm.trans hR
                      refine lv_aload_n S.1 S.2.1 dX6_belts_215 rfl (lv_at hl 2 rfl) ?_
                      refine lv_iconst (v := 5) S.1 S.2.1 dX6_belts_216 (by decide) ?_
                      refine fp_X6_127 S K h dX6_belts_217 (fun H locs h => ?_)
                      refine lv_goto (tgt := 243) S.1 S.2.1 dX6_belts_220 (by decide) ?_
                      subst hR
                      exact g_retv S hr hlocks h dX6_belts_243
                · replace hok := And.left hok c
                  replace hR := (if_pos c).symm.trans hR
                  refine lv_aload_n S.1 S.2.1 dX6_belts_157 rfl (lv_at hl 2 rfl) ?_
                  refine fg_X6_43 S K h dX6_belts_158 ?_
                  refine lv_iload_n S.1 S.2.1 dX6_belts_161 rfl (lv_at hl 4 rfl) ?_
                  refine lv_aload_n S.1 S.2.1 dX6_belts_162 rfl (lv_at hl 2 rfl) ?_
                  refine fg_X6_52 S K h dX6_belts_163 ?_
                  refine lv_bipush (v := 8) S.1 S.2.1 dX6_belts_166 (by decide) ?_
                  refine lv_iload S.1 S.2.1 dX6_belts_168 (lv_at hl 1 rfl) ?_
                  refine lv_imul S.1 S.2.1 dX6_belts_170 ?_
                  refine lv_iload S.1 S.2.1 dX6_belts_171 (lv_at hl 0 rfl) ?_
                  refine lv_iadd S.1 S.2.1 dX6_belts_173 ?_
                  have k41 := And.left hok
                  replace hok := And.right hok
                  refine al_M15 S K h k41 dX6_belts_174 ?_
                  have k42 := And.left hok
                  replace hok := And.right hok
                  refine as_M12 S K h k42 dX6_belts_175 (fun H locs h => ?_)
                  refine lv_goto (tgt := 243) S.1 S.2.1 dX6_belts_176 (by decide) ?_
                  subst hR
                  exact g_retv S hr hlocks h dX6_belts_243
              · replace hok := And.left hok c
                replace hR := (if_pos c).symm.trans hR
                subst hR
                exact g_retv S hr hlocks h dX6_belts_151
        · replace hok := And.left hok c
          replace hR := (if_pos c).symm.trans hR
          refine lv_aload_n S.1 S.2.1 dX6_belts_94 rfl (lv_at hl 1 rfl) ?_
          refine fg_X6_74 S K h dX6_belts_95 ?_
          refine lv_iload_n S.1 S.2.1 dX6_belts_98 rfl (lv_at hl 4 rfl) ?_
          have k43 := And.left hok
          replace hok := And.right hok
          refine al_M22 S K h k43 dX6_belts_99 ?_
          refine lv_goto (tgt := 110) S.1 S.2.1 dX6_belts_100 (by decide) ?_
          refine lv_istore (lv' := [(6, .int _), (5, .int _), (0, .ref _), (1, .int _), (2, .int _), (3, .int _), (4, .int _)]) S.1 S.2.1 dX6_belts_110 hl (by decide) rfl (fun ls hl => ?_)
          refine lv_aload_n S.1 S.2.1 dX6_belts_112 rfl (lv_at hl 2 rfl) ?_
          refine lv_aload_n S.1 S.2.1 dX6_belts_113 rfl (lv_at hl 2 rfl) ?_
          refine fg_X6_46 S K h dX6_belts_114 ?_
          refine lv_iload S.1 S.2.1 dX6_belts_117 (lv_at hl 1 rfl) ?_
          have k44 := And.left hok
          replace hok := And.right hok
          refine al_M13 S K h k44 dX6_belts_119 ?_
          refine lv_iconst (v := -1) S.1 S.2.1 dX6_belts_120 (by decide) ?_
          refine lv_icmp_eq (tgt := 128) S.1 S.2.1 dX6_belts_121 (by decide) (fun c => ?_) (fun c => ?_)
          · replace hok := And.left hok c
            replace hR := (if_pos c).symm.trans hR
            refine lv_iconst (v := 0) S.1 S.2.1 dX6_belts_128 (by decide) ?_
            have k46 := And.left hok
            replace hok := And.right hok
            refine g_calli (ci := 6) (q0 := 0) S wz_cons K h (c_X6_isThere l D cy q _ A _ _ k46) kc_X6_isThere km_X6_133 ki_X6_isThere ks_X6_isThere kn_X6 yd_X6_isThere ⟨⟨Nat.le_of_ble_eq_true rfl, Nat.le_of_ble_eq_true rfl⟩, rfl, rfl, Nat.zero_le _, Nat.zero_le _⟩ rfl rfl rfl hl.1 (Nat.le_of_ble_eq_true rfl) rfl dX6_belts_129 (fun H locs h => ?_)
            refine lv_if_eq (tgt := 151) S.1 S.2.1 dX6_belts_132 (by decide) (fun c => ?_) (fun c => ?_)
            · replace hok := And.left hok c
              replace hR := (if_pos c).symm.trans hR
              subst hR
              exact g_retv S hr hlocks h dX6_belts_151
            · replace hok := And.right hok c
              replace hR := (if_neg c).symm.trans hR
              refine lv_aload_n S.1 S.2.1 dX6_belts_135 rfl (lv_at hl 2 rfl) ?_
              refine lv_iload S.1 S.2.1 dX6_belts_136 (lv_at hl 0 rfl) ?_
              refine lv_aload_n S.1 S.2.1 dX6_belts_138 rfl (lv_at hl 2 rfl) ?_
              refine fg_X6_46 S K h dX6_belts_139 ?_
              refine lv_iload S.1 S.2.1 dX6_belts_142 (lv_at hl 1 rfl) ?_
              have k48 := And.left hok
              replace hok := And.right hok
              refine al_M13 S K h k48 dX6_belts_144 ?_
              have k50 := And.left hok
              replace hok := And.right hok
              refine g_calli (ci := 6) (q0 := 0) S wz_cons K h (c_X6_isIndex l D cy q _ A _ _ _ k50) kc_X6_isIndex km_X6_137 ki_X6_isIndex ks_X6_isIndex kn_X6 yd_X6_isIndex ⟨⟨Nat.le_of_ble_eq_true rfl, Nat.le_of_ble_eq_true rfl⟩, rfl, rfl, Nat.zero_le _, Nat.zero_le _⟩ rfl rfl rfl hl.1 (Nat.le_of_ble_eq_true rfl) rfl dX6_belts_145 (fun H locs h => ?_)
              refine lv_if_ne (tgt := 152) S.1 S.2.1 dX6_belts_148 (by decide) (fun c => ?_) (fun c => ?_)
              · replace hok := And.right hok c
                replace hR := (if_neg c).symm.trans hR
                refine lv_iload_n S.1 S.2.1 dX6_belts_152 rfl (lv_at hl 3 rfl) ?_
                refine lv_iconst (v := 5) S.1 S.2.1 dX6_belts_153 (by decide) ?_
                refine lv_icmp_ne (tgt := 179) S.1 S.2.1 dX6_belts_154 (by decide) (fun c => ?_) (fun c => ?_)
                · replace hok := And.right hok c
                  replace hR := (if_neg c).symm.trans hR
                  refine lv_aload_n S.1 S.2.1 dX6_belts_179 rfl (lv_at hl 2 rfl) ?_
                  refine fg_X6_43 S K h dX6_belts_180 ?_
                  refine lv_iload S.1 S.2.1 dX6_belts_183 (lv_at hl 6 rfl) ?_
                  have k52 := And.left hok
                  replace hok := And.right hok
                  refine al_M12 S K h k52 dX6_belts_185 ?_
                  refine lv_iconst (v := -1) S.1 S.2.1 dX6_belts_186 (by decide) ?_
                  refine lv_icmp_eq (tgt := 223) S.1 S.2.1 dX6_belts_187 (by decide) (fun c => ?_) (fun c => ?_)
                  · replace hok := And.left hok c
                    replace hR := (if_pos c).symm.trans hR
                    refine lv_aload_n S.1 S.2.1 dX6_belts_223 rfl (lv_at hl 2 rfl) ?_
                    refine fg_X6_52 S K h dX6_belts_224 ?_
                    refine lv_bipush (v := 8) S.1 S.2.1 dX6_belts_227 (by decide) ?_
                    refine lv_iload S.1 S.2.1 dX6_belts_229 (lv_at hl 1 rfl) ?_
                    refine lv_imul S.1 S.2.1 dX6_belts_231 ?_
                    refine lv_iload S.1 S.2.1 dX6_belts_232 (lv_at hl 0 rfl) ?_
                    refine lv_iadd S.1 S.2.1 dX6_belts_234 ?_
                    refine lv_aload_n S.1 S.2.1 dX6_belts_235 rfl (lv_at hl 2 rfl) ?_
                    refine fg_X6_43 S K h dX6_belts_236 ?_
                    refine lv_iload S.1 S.2.1 dX6_belts_239 (lv_at hl 6 rfl) ?_
                    have k53 := And.left hok
                    replace hok := And.right hok
                    refine al_M12 S K h k53 dX6_belts_241 ?_
                    have k54 := And.left hok
                    replace hok := And.right hok
                    refine as_M15 S K h k54 dX6_belts_242 (fun H locs h => ?_)
                    subst hR
                    exact g_retv S hr hlocks h dX6_belts_243
                  · replace hok := And.right hok c
                    replace hR := (if_neg c).symm.trans hR
                    refine lv_aload_n S.1 S.2.1 dX6_belts_190 rfl (lv_at hl 2 rfl) ?_
                    refine fg_X6_34 S K h dX6_belts_191 ?_
                    refine lv_aload_n S.1 S.2.1 dX6_belts_194 rfl (lv_at hl 2 rfl) ?_
                    refine fg_X6_43 S K h dX6_belts_195 ?_
                    refine lv_iload S.1 S.2.1 dX6_belts_198 (lv_at hl 6 rfl) ?_
                    have k55 := And.left hok
                    replace hok := And.right hok
                    refine al_M12 S K h k55 dX6_belts_200 ?_
                    have k56 := And.left hok
                    replace hok := And.right hok
                    refine al_M9 S K h k56 dX6_belts_201 ?_
                    refine lv_aload_n S.1 S.2.1 dX6_belts_202 rfl (lv_at hl 2 rfl) ?_
                    refine fg_X6_49 S K h dX6_belts_203 ?_
                    refine lv_iload S.1 S.2.1 dX6_belts_206 (lv_at hl 1 rfl) ?_
                    have k57 := And.left hok
                    replace hok := And.right hok
                    refine al_M14 S K h k57 dX6_belts_208 ?_
                    have k59 := And.left hok
                    replace hok := And.right hok
                    refine g_calls S wz_cons K.2 (c_X6_isOf l _ _ k59) kc_X6_isOf km_X6_141 kt_X6_isOf kn_X6 yd_X6_isOf.2 ⟨⟨Nat.le_of_ble_eq_true rfl, Nat.le_of_ble_eq_true rfl⟩, rfl, rfl, Nat.zero_le _, Nat.zero_le _⟩ rfl hl.1 (Nat.le_of_ble_eq_true rfl) rfl dX6_belts_209 ?_
                    refine lv_if_ne (tgt := 223) S.1 S.2.1 dX6_belts_212 (by decide) (fun c => ?_) (fun c => ?_)
                    · replace hok := And.right hok c
                      replace hR := (if_neg c).symm.trans hR
                      refine lv_aload_n S.1 S.2.1 dX6_belts_223 rfl (lv_at hl 2 rfl) ?_
                      refine fg_X6_52 S K h dX6_belts_224 ?_
                      refine lv_bipush (v := 8) S.1 S.2.1 dX6_belts_227 (by decide) ?_
                      refine lv_iload S.1 S.2.1 dX6_belts_229 (lv_at hl 1 rfl) ?_
                      refine lv_imul S.1 S.2.1 dX6_belts_231 ?_
                      refine lv_iload S.1 S.2.1 dX6_belts_232 (lv_at hl 0 rfl) ?_
                      refine lv_iadd S.1 S.2.1 dX6_belts_234 ?_
                      refine lv_aload_n S.1 S.2.1 dX6_belts_235 rfl (lv_at hl 2 rfl) ?_
                      refine fg_X6_43 S K h dX6_belts_236 ?_
                      refine lv_iload S.1 S.2.1 dX6_belts_239 (lv_at hl 6 rfl) ?_
                      have k61 := And.left hok
                      replace hok := And.right hok
                      refine al_M12 S K h k61 dX6_belts_241 ?_
                      have k62 := And.left hok
                      replace hok := And.right hok
                      refine as_M15 S K h k62 dX6_belts_242 (fun H locs h => ?_)
                      subst hR
                      exact g_retv S hr hlocks h dX6_belts_243
                    · replace hok := And.left hok c
                      replace hR := (if_pos c).symm.trans hR
                      refine lv_aload_n S.1 S.2.1 dX6_belts_215 rfl (lv_at hl 2 rfl) ?_
                      refine lv_iconst (v := 5) S.1 S.2.1 dX6_belts_216 (by decide) ?_
                      refine fp_X6_127 S K h dX6_belts_217 (fun H locs h => ?_)
                      refine lv_goto (tgt := 243) S.1 S.2.1 dX6_belts_220 (by decide) ?_
                      subst hR
                      exact g_retv S hr hlocks h dX6_belts_243
                · replace hok := And.left hok c
                  replace hR := (if_pos c).symm.trans hR
                  refine lv_aload_n S.1 S.2.1 dX6_belts_157 rfl (lv_at hl 2 rfl) ?_
                  refine fg_X6_43 S K h dX6_belts_158 ?_
                  refine lv_iload_n S.1 S.2.1 dX6_belts_161 rfl (lv_at hl 4 rfl) ?_
                  refine lv_aload_n S.1 S.2.1 dX6_belts_162 rfl (lv_at hl 2 rfl) ?_
                  refine fg_X6_52 S K h dX6_belts_163 ?_
                  refine lv_bipush (v := 8) S.1 S.2.1 dX6_belts_166 (by decide) ?_
                  refine lv_iload S.1 S.2.1 dX6_belts_168 (lv_at hl 1 rfl) ?_
                  refine lv_imul S.1 S.2.1 dX6_belts_170 ?_
                  refine lv_iload S.1 S.2.1 dX6_belts_171 (lv_at hl 0 rfl) ?_
                  refine lv_iadd S.1 S.2.1 dX6_belts_173 ?_
                  have k63 := And.left hok
                  replace hok := And.right hok
                  refine al_M15 S K h k63 dX6_belts_174 ?_
                  have k64 := And.left hok
                  replace hok := And.right hok
                  refine as_M12 S K h k64 dX6_belts_175 (fun H locs h => ?_)
                  refine lv_goto (tgt := 243) S.1 S.2.1 dX6_belts_176 (by decide) ?_
                  subst hR
                  exact g_retv S hr hlocks h dX6_belts_243
              · replace hok := And.left hok c
                replace hR := (if_pos c).symm.trans hR
                subst hR
                exact g_retv S hr hlocks h dX6_belts_151
          · replace hok := And.right hok c
            replace hR := (if_neg c).symm.trans hR
            refine lv_iconst (v := 1) S.1 S.2.1 dX6_belts_124 (by decide) ?_
            refine lv_goto (tgt := 129) S.1 S.2.1 dX6_belts_125 (by decide) ?_
            have k66 := And.left hok
            replace hok := And.right hok
            refine g_calli (ci := 6) (q0 := 0) S wz_cons K h (c_X6_isThere l D cy q _ A _ _ k66) kc_X6_isThere km_X6_133 ki_X6_isThere ks_X6_isThere kn_X6 yd_X6_isThere ⟨⟨Nat.le_of_ble_eq_true rfl, Nat.le_of_ble_eq_true rfl⟩, rfl, rfl, Nat.zero_le _, Nat.zero_le _⟩ rfl rfl rfl hl.1 (Nat.le_of_ble_eq_true rfl) rfl dX6_belts_129 (fun H locs h => ?_)
            refine lv_if_eq (tgt := 151) S.1 S.2.1 dX6_belts_132 (by decide) (fun c => ?_) (fun c => ?_)
            · replace hok := And.left hok c
              replace hR := (if_pos c).symm.trans hR
              subst hR
              exact g_retv S hr hlocks h dX6_belts_151
            · replace hok := And.right hok c
              replace hR := (if_neg c).symm.trans hR
              refine lv_aload_n S.1 S.2.1 dX6_belts_135 rfl (lv_at hl 2 rfl) ?_
              refine lv_iload S.1 S.2.1 dX6_belts_136 (lv_at hl 0 rfl) ?_
              refine lv_aload_n S.1 S.2.1 dX6_belts_138 rfl (lv_at hl 2 rfl) ?_
              refine fg_X6_46 S K h dX6_belts_139 ?_
              refine lv_iload S.1 S.2.1 dX6_belts_142 (lv_at hl 1 rfl) ?_
              have k68 := And.left hok
              replace hok := And.right hok
              refine al_M13 S K h k68 dX6_belts_144 ?_
              have k70 := And.left hok
              replace hok := And.right hok
              refine g_calli (ci := 6) (q0 := 0) S wz_cons K h (c_X6_isIndex l D cy q _ A _ _ _ k70) kc_X6_isIndex km_X6_137 ki_X6_isIndex ks_X6_isIndex kn_X6 yd_X6_isIndex ⟨⟨Nat.le_of_ble_eq_true rfl, Nat.le_of_ble_eq_true rfl⟩, rfl, rfl, Nat.zero_le _, Nat.zero_le _⟩ rfl rfl rfl hl.1 (Nat.le_of_ble_eq_true rfl) rfl dX6_belts_145 (fun H locs h => ?_)
              refine lv_if_ne (tgt := 152) S.1 S.2.1 dX6_belts_148 (by decide) (fun c => ?_) (fun c => ?_)
              · replace hok := And.right hok c
                replace hR := (if_neg c).symm.trans hR
                refine lv_iload_n S.1 S.2.1 dX6_belts_152 rfl (lv_at hl 3 rfl) ?_
                refine lv_iconst (v := 5) S.1 S.2.1 dX6_belts_153 (by decide) ?_
                refine lv_icmp_ne (tgt := 179) S.1 S.2.1 dX6_belts_154 (by decide) (fun c => ?_) (fun c => ?_)
                · replace hok := And.right hok c
                  replace hR := (if_neg c).symm.trans hR
                  refine lv_aload_n S.1 S.2.1 dX6_belts_179 rfl (lv_at hl 2 rfl) ?_
                  refine fg_X6_43 S K h dX6_belts_180 ?_
                  refine lv_iload S.1 S.2.1 dX6_belts_183 (lv_at hl 6 rfl) ?_
                  have k72 := And.left hok
                  replace hok := And.right hok
                  refine al_M12 S K h k72 dX6_belts_185 ?_
                  refine lv_iconst (v := -1) S.1 S.2.1 dX6_belts_186 (by decide) ?_
                  refine lv_icmp_eq (tgt := 223) S.1 S.2.1 dX6_belts_187 (by decide) (fun c => ?_) (fun c => ?_)
                  · replace hok := And.left hok c
                    replace hR := (if_pos c).symm.trans hR
                    refine lv_aload_n S.1 S.2.1 dX6_belts_223 rfl (lv_at hl 2 rfl) ?_
                    refine fg_X6_52 S K h dX6_belts_224 ?_
                    refine lv_bipush (v := 8) S.1 S.2.1 dX6_belts_227 (by decide) ?_
                    refine lv_iload S.1 S.2.1 dX6_belts_229 (lv_at hl 1 rfl) ?_
                    refine lv_imul S.1 S.2.1 dX6_belts_231 ?_
                    refine lv_iload S.1 S.2.1 dX6_belts_232 (lv_at hl 0 rfl) ?_
                    refine lv_iadd S.1 S.2.1 dX6_belts_234 ?_
                    refine lv_aload_n S.1 S.2.1 dX6_belts_235 rfl (lv_at hl 2 rfl) ?_
                    refine fg_X6_43 S K h dX6_belts_236 ?_
                    refine lv_iload S.1 S.2.1 dX6_belts_239 (lv_at hl 6 rfl) ?_
                    have k73 := And.left hok
                    replace hok := And.right hok
                    refine al_M12 S K h k73 dX6_belts_241 ?_
                    have k74 := And.left hok
                    replace hok := And.right hok
                    refine as_M15 S K h k74 dX6_belts_242 (fun H locs h => ?_)
                    subst hR
                    exact g_retv S hr hlocks h dX6_belts_243
                  · replace hok := And.right hok c
                    replace hR := (if_neg c).symm.trans hR
                    refine lv_aload_n S.1 S.2.1 dX6_belts_190 rfl (lv_at hl 2 rfl) ?_
                    refine fg_X6_34 S K h dX6_belts_191 ?_
                    refine lv_aload_n S.1 S.2.1 dX6_belts_194 rfl (lv_at hl 2 rfl) ?_
                    refine fg_X6_43 S K h dX6_belts_195 ?_
                    refine lv_iload S.1 S.2.1 dX6_belts_198 (lv_at hl 6 rfl) ?_
                    have k75 := And.left hok
                    replace hok := And.right hok
                    refine al_M12 S K h k75 dX6_belts_200 ?_
                    have k76 := And.left hok
                    replace hok := And.right hok
                    refine al_M9 S K h k76 dX6_belts_201 ?_
                    refine lv_aload_n S.1 S.2.1 dX6_belts_202 rfl (lv_at hl 2 rfl) ?_
                    refine fg_X6_49 S K h dX6_belts_203 ?_
                    refine lv_iload S.1 S.2.1 dX6_belts_206 (lv_at hl 1 rfl) ?_
                    have k77 := And.left hok
                    replace hok := And.right hok
                    refine al_M14 S K h k77 dX6_belts_208 ?_
                    have k79 := And.left hok
                    replace hok := And.right hok
                    refine g_calls S wz_cons K.2 (c_X6_isOf l _ _ k79) kc_X6_isOf km_X6_141 kt_X6_isOf kn_X6 yd_X6_isOf.2 ⟨⟨Nat.le_of_ble_eq_true rfl, Nat.le_of_ble_eq_true rfl⟩, rfl, rfl, Nat.zero_le _, Nat.zero_le _⟩ rfl hl.1 (Nat.le_of_ble_eq_true rfl) rfl dX6_belts_209 ?_
                    refine lv_if_ne (tgt := 223) S.1 S.2.1 dX6_belts_212 (by decide) (fun c => ?_) (fun c => ?_)
                    · replace hok := And.right hok c
                      replace hR := (if_neg c).symm.trans hR
                      refine lv_aload_n S.1 S.2.1 dX6_belts_223 rfl (lv_at hl 2 rfl) ?_
                      refine fg_X6_52 S K h dX6_belts_224 ?_
                      refine lv_bipush (v := 8) S.1 S.2.1 dX6_belts_227 (by decide) ?_
                      refine lv_iload S.1 S.2.1 dX6_belts_229 (lv_at hl 1 rfl) ?_
                      refine lv_imul S.1 S.2.1 dX6_belts_231 ?_
                      refine lv_iload S.1 S.2.1 dX6_belts_232 (lv_at hl 0 rfl) ?_
                      refine lv_iadd S.1 S.2.1 dX6_belts_234 ?_
                      refine lv_aload_n S.1 S.2.1 dX6_belts_235 rfl (lv_at hl 2 rfl) ?_
                      refine fg_X6_43 S K h dX6_belts_236 ?_
                      refine lv_iload S.1 S.2.1 dX6_belts_239 (lv_at hl 6 rfl) ?_
                      have k81 := And.left hok
                      replace hok := And.right hok
                      refine al_M12 S K h k81 dX6_belts_241 ?_
                      have k82 := And.left hok
                      replace hok := And.right hok
                      refine as_M15 S K h k82 dX6_belts_242 (fun H locs h => ?_)
                      subst hR
                      exact g_retv S hr hlocks h dX6_belts_243
                    · replace hok := And.left hok c
                      replace hR := (if_pos c).symm.trans hR
                      refine lv_aload_n S.1 S.2.1 dX6_belts_215 rfl (lv_at hl 2 rfl) ?_
                      refine lv_iconst (v := 5) S.1 S.2.1 dX6_belts_216 (by decide) ?_
                      refine fp_X6_127 S K h dX6_belts_217 (fun H locs h => ?_)
                      refine lv_goto (tgt := 243) S.1 S.2.1 dX6_belts_220 (by decide) ?_
                      subst hR
                      exact g_retv S hr hlocks h dX6_belts_243
                · replace hok := And.left hok c
                  replace hR := (if_pos c).symm.trans hR
                  refine lv_aload_n S.1 S.2.1 dX6_belts_157 rfl (lv_at hl 2 rfl) ?_
                  refine fg_X6_43 S K h dX6_belts_158 ?_
                  refine lv_iload_n S.1 S.2.1 dX6_belts_161 rfl (lv_at hl 4 rfl) ?_
                  refine lv_aload_n S.1 S.2.1 dX6_belts_162 rfl (lv_at hl 2 rfl) ?_
                  refine fg_X6_52 S K h dX6_belts_163 ?_
                  refine lv_bipush (v := 8) S.1 S.2.1 dX6_belts_166 (by decide) ?_
                  refine lv_iload S.1 S.2.1 dX6_belts_168 (lv_at hl 1 rfl) ?_
                  refine lv_imul S.1 S.2.1 dX6_belts_170 ?_
                  refine lv_iload S.1 S.2.1 dX6_belts_171 (lv_at hl 0 rfl) ?_
                  refine lv_iadd S.1 S.2.1 dX6_belts_173 ?_
                  have k83 := And.left hok
                  replace hok := And.right hok
                  refine al_M15 S K h k83 dX6_belts_174 ?_
                  have k84 := And.left hok
                  replace hok := And.right hok
                  refine as_M12 S K h k84 dX6_belts_175 (fun H locs h => ?_)
                  refine lv_goto (tgt := 243) S.1 S.2.1 dX6_belts_176 (by decide) ?_
                  subst hR
                  exact g_retv S hr hlocks h dX6_belts_243
              · replace hok := And.left hok c
                replace hR := (if_pos c).symm.trans hR
                subst hR
                exact g_retv S hr hlocks h dX6_belts_151
      · replace hok := And.left hok c
        replace hR := (if_pos c).symm.trans hR
        refine lv_aload_n S.1 S.2.1 dX6_belts_26 rfl (lv_at hl 1 rfl) ?_
        refine fg_X6_74 S K h dX6_belts_27 ?_
        refine lv_iload S.1 S.2.1 dX6_belts_30 (lv_at hl 5 rfl) ?_
        have k85 := And.left hok
        replace hok := And.right hok
        refine al_M22 S K h k85 dX6_belts_32 ?_
        refine lv_istore (lv' := [(6, .int _), (5, .int _), (0, .ref _), (1, .int _), (2, .int _), (3, .int _), (4, .int _)]) S.1 S.2.1 dX6_belts_33 hl (by decide) rfl (fun ls hl => ?_)
        refine lv_aload_n S.1 S.2.1 dX6_belts_35 rfl (lv_at hl 2 rfl) ?_
        refine lv_iload S.1 S.2.1 dX6_belts_36 (lv_at hl 0 rfl) ?_
        have k87 := And.left hok
        replace hok := And.right hok
        refine g_calli (ci := 6) (q0 := 0) S wz_cons K h (c_X6_isSize l D cy q _ A _ _ k87) kc_X6_isSize km_X6_130 ki_X6_isSize ks_X6_isSize kn_X6 yd_X6_isSize ⟨⟨Nat.le_of_ble_eq_true rfl, Nat.le_of_ble_eq_true rfl⟩, rfl, rfl, Nat.zero_le _, Nat.zero_le _⟩ rfl rfl rfl hl.1 (Nat.le_of_ble_eq_true rfl) rfl dX6_belts_38 (fun H locs h => ?_)
        refine lv_if_eq (tgt := 88) S.1 S.2.1 dX6_belts_41 (by decide) (fun c => ?_) (fun c => ?_)
        · replace hok := And.left hok c
          replace hR := (if_pos c).symm.trans hR
          subst hR
          exact g_retv S hr hlocks h dX6_belts_88
        · replace hok := And.right hok c
          replace hR := (if_neg c).symm.trans hR
          refine lv_aload_n S.1 S.2.1 dX6_belts_44 rfl (lv_at hl 2 rfl) ?_
          refine fg_X6_46 S K h dX6_belts_45 ?_
          refine lv_iload_n S.1 S.2.1 dX6_belts_48 rfl (lv_at hl 4 rfl) ?_
          refine lv_iload S.1 S.2.1 dX6_belts_49 (lv_at hl 0 rfl) ?_
          have k89 := And.left hok
          replace hok := And.right hok
          refine as_M13 S K h k89 dX6_belts_51 (fun H locs h => ?_)
          refine lv_aload_n S.1 S.2.1 dX6_belts_52 rfl (lv_at hl 2 rfl) ?_
          refine fg_X6_49 S K h dX6_belts_53 ?_
          refine lv_iload_n S.1 S.2.1 dX6_belts_56 rfl (lv_at hl 4 rfl) ?_
          refine lv_iload_n S.1 S.2.1 dX6_belts_57 rfl (lv_at hl 5 rfl) ?_
          have k90 := And.left hok
          replace hok := And.right hok
          refine as_M14 S K h k90 dX6_belts_58 (fun H locs h => ?_)
          refine lv_iconst (v := 0) S.1 S.2.1 dX6_belts_59 (by decide) ?_
          refine lv_istore (lv' := [(7, .int _), (6, .int _), (5, .int _), (0, .ref _), (1, .int _), (2, .int _), (3, .int _), (4, .int _)]) S.1 S.2.1 dX6_belts_60 hl (by decide) rfl (fun ls hl => ?_)
          exact w_X6_belts_62  S K hr hlocks 100 _ _ _ _ _ _ _ _ _ _ _ R hok hR h (lv_sub hl [3, 4, 5, 6, 7, 2, 1, 0] rfl)
    · replace hok := And.left hok c
      replace hR := (if_pos c).symm.trans hR
      refine lv_iload_n S.1 S.2.1 dX6_belts_14 rfl (lv_at hl 2 rfl) ?_
      refine lv_goto (tgt := 19) S.1 S.2.1 dX6_belts_15 (by decide) ?_
      refine lv_istore (lv' := [(5, .int _), (0, .ref _), (1, .int _), (2, .int _), (3, .int _), (4, .int _)]) S.1 S.2.1 dX6_belts_19 hl (by decide) rfl (fun ls hl => ?_)
      refine lv_iload_n S.1 S.2.1 dX6_belts_21 rfl (lv_at hl 2 rfl) ?_
      refine lv_iconst (v := 3) S.1 S.2.1 dX6_belts_22 (by decide) ?_
      refine lv_icmp_ne (tgt := 89) S.1 S.2.1 dX6_belts_23 (by decide) (fun c => ?_) (fun c => ?_)
      · replace hok := And.right hok c
        replace hR := (if_neg c).symm.trans hR
        refine lv_iload_n S.1 S.2.1 dX6_belts_89 rfl (lv_at hl 2 rfl) ?_
        refine lv_iconst (v := 4) S.1 S.2.1 dX6_belts_90 (by decide) ?_
        refine lv_icmp_ne (tgt := 103) S.1 S.2.1 dX6_belts_91 (by decide) (fun c => ?_) (fun c => ?_)
        · replace hok := And.right hok c
          replace hR := (if_neg c).symm.trans hR
          refine lv_aload_n S.1 S.2.1 dX6_belts_103 rfl (lv_at hl 1 rfl) ?_
          refine fg_X6_74 S K h dX6_belts_104 ?_
          refine lv_iload S.1 S.2.1 dX6_belts_107 (lv_at hl 5 rfl) ?_
          have k92 := And.left hok
          replace hok := And.right hok
          refine al_M22 S K h k92 dX6_belts_109 ?_
          refine lv_istore (lv' := [(6, .int _), (5, .int _), (0, .ref _), (1, .int _), (2, .int _), (3, .int _), (4, .int _)]) S.1 S.2.1 dX6_belts_110 hl (by decide) rfl (fun ls hl => ?_)
          refine lv_aload_n S.1 S.2.1 dX6_belts_112 rfl (lv_at hl 2 rfl) ?_
          refine lv_aload_n S.1 S.2.1 dX6_belts_113 rfl (lv_at hl 2 rfl) ?_
          refine fg_X6_46 S K h dX6_belts_114 ?_
          refine lv_iload S.1 S.2.1 dX6_belts_117 (lv_at hl 1 rfl) ?_
          have k93 := And.left hok
          replace hok := And.right hok
          refine al_M13 S K h k93 dX6_belts_119 ?_
          refine lv_iconst (v := -1) S.1 S.2.1 dX6_belts_120 (by decide) ?_
          refine lv_icmp_eq (tgt := 128) S.1 S.2.1 dX6_belts_121 (by decide) (fun c => ?_) (fun c => ?_)
          · replace hok := And.left hok c
            replace hR := (if_pos c).symm.trans hR
            refine lv_iconst (v := 0) S.1 S.2.1 dX6_belts_128 (by decide) ?_
            have k95 := And.left hok
            replace hok := And.right hok
            refine g_calli (ci := 6) (q0 := 0) S wz_cons K h (c_X6_isThere l D cy q _ A _ _ k95) kc_X6_isThere km_X6_133 ki_X6_isThere ks_X6_isThere kn_X6 yd_X6_isThere ⟨⟨Nat.le_of_ble_eq_true rfl, Nat.le_of_ble_eq_true rfl⟩, rfl, rfl, Nat.zero_le _, Nat.zero_le _⟩ rfl rfl rfl hl.1 (Nat.le_of_ble_eq_true rfl) rfl dX6_belts_129 (fun H locs h => ?_)
            refine lv_if_eq (tgt := 151) S.1 S.2.1 dX6_belts_132 (by decide) (fun c => ?_) (fun c => ?_)
            · replace hok := And.left hok c
              replace hR := (if_pos c).symm.trans hR
              subst hR
              exact g_retv S hr hlocks h dX6_belts_151
            · replace hok := And.right hok c
              replace hR := (if_neg c).symm.trans hR
              refine lv_aload_n S.1 S.2.1 dX6_belts_135 rfl (lv_at hl 2 rfl) ?_
              refine lv_iload S.1 S.2.1 dX6_belts_136 (lv_at hl 0 rfl) ?_
              refine lv_aload_n S.1 S.2.1 dX6_belts_138 rfl (lv_at hl 2 rfl) ?_
              refine fg_X6_46 S K h dX6_belts_139 ?_
              refine lv_iload S.1 S.2.1 dX6_belts_142 (lv_at hl 1 rfl) ?_
              have k97 := And.left hok
              replace hok := And.right hok
              refine al_M13 S K h k97 dX6_belts_144 ?_
              have k99 := And.left hok
              replace hok := And.right hok
              refine g_calli (ci := 6) (q0 := 0) S wz_cons K h (c_X6_isIndex l D cy q _ A _ _ _ k99) kc_X6_isIndex km_X6_137 ki_X6_isIndex ks_X6_isIndex kn_X6 yd_X6_isIndex ⟨⟨Nat.le_of_ble_eq_true rfl, Nat.le_of_ble_eq_true rfl⟩, rfl, rfl, Nat.zero_le _, Nat.zero_le _⟩ rfl rfl rfl hl.1 (Nat.le_of_ble_eq_true rfl) rfl dX6_belts_145 (fun H locs h => ?_)
              refine lv_if_ne (tgt := 152) S.1 S.2.1 dX6_belts_148 (by decide) (fun c => ?_) (fun c => ?_)
              · replace hok := And.right hok c
                replace hR := (if_neg c).symm.trans hR
                refine lv_iload_n S.1 S.2.1 dX6_belts_152 rfl (lv_at hl 3 rfl) ?_
                refine lv_iconst (v := 5) S.1 S.2.1 dX6_belts_153 (by decide) ?_
                refine lv_icmp_ne (tgt := 179) S.1 S.2.1 dX6_belts_154 (by decide) (fun c => ?_) (fun c => ?_)
                · replace hok := And.right hok c
                  replace hR := (if_neg c).symm.trans hR
                  refine lv_aload_n S.1 S.2.1 dX6_belts_179 rfl (lv_at hl 2 rfl) ?_
                  refine fg_X6_43 S K h dX6_belts_180 ?_
                  refine lv_iload S.1 S.2.1 dX6_belts_183 (lv_at hl 6 rfl) ?_
                  have k101 := And.left hok
                  replace hok := And.right hok
                  refine al_M12 S K h k101 dX6_belts_185 ?_
                  refine lv_iconst (v := -1) S.1 S.2.1 dX6_belts_186 (by decide) ?_
                  refine lv_icmp_eq (tgt := 223) S.1 S.2.1 dX6_belts_187 (by decide) (fun c => ?_) (fun c => ?_)
                  · replace hok := And.left hok c
                    replace hR := (if_pos c).symm.trans hR
                    refine lv_aload_n S.1 S.2.1 dX6_belts_223 rfl (lv_at hl 2 rfl) ?_
                    refine fg_X6_52 S K h dX6_belts_224 ?_
                    refine lv_bipush (v := 8) S.1 S.2.1 dX6_belts_227 (by decide) ?_
                    refine lv_iload S.1 S.2.1 dX6_belts_229 (lv_at hl 1 rfl) ?_
                    refine lv_imul S.1 S.2.1 dX6_belts_231 ?_
                    refine lv_iload S.1 S.2.1 dX6_belts_232 (lv_at hl 0 rfl) ?_
                    refine lv_iadd S.1 S.2.1 dX6_belts_234 ?_
                    refine lv_aload_n S.1 S.2.1 dX6_belts_235 rfl (lv_at hl 2 rfl) ?_
                    refine fg_X6_43 S K h dX6_belts_236 ?_
                    refine lv_iload S.1 S.2.1 dX6_belts_239 (lv_at hl 6 rfl) ?_
                    have k102 := And.left hok
                    replace hok := And.right hok
                    refine al_M12 S K h k102 dX6_belts_241 ?_
                    have k103 := And.left hok
                    replace hok := And.right hok
                    refine as_M15 S K h k103 dX6_belts_242 (fun H locs h => ?_)
                    subst hR
                    exact g_retv S hr hlocks h dX6_belts_243
                  · replace hok := And.right hok c
                    replace hR := (if_neg c).symm.trans hR
                    refine lv_aload_n S.1 S.2.1 dX6_belts_190 rfl (lv_at hl 2 rfl) ?_
                    refine fg_X6_34 S K h dX6_belts_191 ?_
                    refine lv_aload_n S.1 S.2.1 dX6_belts_194 rfl (lv_at hl 2 rfl) ?_
                    refine fg_X6_43 S K h dX6_belts_195 ?_
                    refine lv_iload S.1 S.2.1 dX6_belts_198 (lv_at hl 6 rfl) ?_
                    have k104 := And.left hok
                    replace hok := And.right hok
                    refine al_M12 S K h k104 dX6_belts_200 ?_
                    have k105 := And.left hok
                    replace hok := And.right hok
                    refine al_M9 S K h k105 dX6_belts_201 ?_
                    refine lv_aload_n S.1 S.2.1 dX6_belts_202 rfl (lv_at hl 2 rfl) ?_
                    refine fg_X6_49 S K h dX6_belts_203 ?_
                    refine lv_iload S.1 S.2.1 dX6_belts_206 (lv_at hl 1 rfl) ?_
                    have k106 := And.left hok
                    replace hok := And.right hok
                    refine al_M14 S K h k106 dX6_belts_208 ?_
                    have k108 := And.left hok
                    replace hok := And.right hok
                    refine g_calls S wz_cons K.2 (c_X6_isOf l _ _ k108) kc_X6_isOf km_X6_141 kt_X6_isOf kn_X6 yd_X6_isOf.2 ⟨⟨Nat.le_of_ble_eq_true rfl, Nat.le_of_ble_eq_true rfl⟩, rfl, rfl, Nat.zero_le _, Nat.zero_le _⟩ rfl hl.1 (Nat.le_of_ble_eq_true rfl) rfl dX6_belts_209 ?_
                    refine lv_if_ne (tgt := 223) S.1 S.2.1 dX6_belts_212 (by decide) (fun c => ?_) (fun c => ?_)
                    · replace hok := And.right hok c
                      replace hR := (if_neg c).symm.trans hR
                      refine lv_aload_n S.1 S.2.1 dX6_belts_223 rfl (lv_at hl 2 rfl) ?_
                      refine fg_X6_52 S K h dX6_belts_224 ?_
                      refine lv_bipush (v := 8) S.1 S.2.1 dX6_belts_227 (by decide) ?_
                      refine lv_iload S.1 S.2.1 dX6_belts_229 (lv_at hl 1 rfl) ?_
                      refine lv_imul S.1 S.2.1 dX6_belts_231 ?_
                      refine lv_iload S.1 S.2.1 dX6_belts_232 (lv_at hl 0 rfl) ?_
                      refine lv_iadd S.1 S.2.1 dX6_belts_234 ?_
                      refine lv_aload_n S.1 S.2.1 dX6_belts_235 rfl (lv_at hl 2 rfl) ?_
                      refine fg_X6_43 S K h dX6_belts_236 ?_
                      refine lv_iload S.1 S.2.1 dX6_belts_239 (lv_at hl 6 rfl) ?_
                      have k110 := And.left hok
                      replace hok := And.right hok
                      refine al_M12 S K h k110 dX6_belts_241 ?_
                      have k111 := And.left hok
                      replace hok := And.right hok
                      refine as_M15 S K h k111 dX6_belts_242 (fun H locs h => ?_)
                      subst hR
                      exact g_retv S hr hlocks h dX6_belts_243
                    · replace hok := And.left hok c
                      replace hR := (if_pos c).symm.trans hR
                      refine lv_aload_n S.1 S.2.1 dX6_belts_215 rfl (lv_at hl 2 rfl) ?_
                      refine lv_iconst (v := 5) S.1 S.2.1 dX6_belts_216 (by decide) ?_
                      refine fp_X6_127 S K h dX6_belts_217 (fun H locs h => ?_)
                      refine lv_goto (tgt := 243) S.1 S.2.1 dX6_belts_220 (by decide) ?_
                      subst hR
                      exact g_retv S hr hlocks h dX6_belts_243
                · replace hok := And.left hok c
                  replace hR := (if_pos c).symm.trans hR
                  refine lv_aload_n S.1 S.2.1 dX6_belts_157 rfl (lv_at hl 2 rfl) ?_
                  refine fg_X6_43 S K h dX6_belts_158 ?_
                  refine lv_iload_n S.1 S.2.1 dX6_belts_161 rfl (lv_at hl 4 rfl) ?_
                  refine lv_aload_n S.1 S.2.1 dX6_belts_162 rfl (lv_at hl 2 rfl) ?_
                  refine fg_X6_52 S K h dX6_belts_163 ?_
                  refine lv_bipush (v := 8) S.1 S.2.1 dX6_belts_166 (by decide) ?_
                  refine lv_iload S.1 S.2.1 dX6_belts_168 (lv_at hl 1 rfl) ?_
                  refine lv_imul S.1 S.2.1 dX6_belts_170 ?_
                  refine lv_iload S.1 S.2.1 dX6_belts_171 (lv_at hl 0 rfl) ?_
                  refine lv_iadd S.1 S.2.1 dX6_belts_173 ?_
                  have k112 := And.left hok
                  replace hok := And.right hok
                  refine al_M15 S K h k112 dX6_belts_174 ?_
                  have k113 := And.left hok
                  replace hok := And.right hok
                  refine as_M12 S K h k113 dX6_belts_175 (fun H locs h => ?_)
                  refine lv_goto (tgt := 243) S.1 S.2.1 dX6_belts_176 (by decide) ?_
                  subst hR
                  exact g_retv S hr hlocks h dX6_belts_243
              · replace hok := And.left hok c
                replace hR := (if_pos c).symm.trans hR
                subst hR
                exact g_retv S hr hlocks h dX6_belts_151
          · replace hok := And.right hok c
            replace hR := (if_neg c).symm.trans hR
            refine lv_iconst (v := 1) S.1 S.2.1 dX6_belts_124 (by decide) ?_
            refine lv_goto (tgt := 129) S.1 S.2.1 dX6_belts_125 (by decide) ?_
            have k115 := And.left hok
            replace hok := And.right hok
            refine g_calli (ci := 6) (q0 := 0) S wz_cons K h (c_X6_isThere l D cy q _ A _ _ k115) kc_X6_isThere km_X6_133 ki_X6_isThere ks_X6_isThere kn_X6 yd_X6_isThere ⟨⟨Nat.le_of_ble_eq_true rfl, Nat.le_of_ble_eq_true rfl⟩, rfl, rfl, Nat.zero_le _, Nat.zero_le _⟩ rfl rfl rfl hl.1 (Nat.le_of_ble_eq_true rfl) rfl dX6_belts_129 (fun H locs h => ?_)
            refine lv_if_eq (tgt := 151) S.1 S.2.1 dX6_belts_132 (by decide) (fun c => ?_) (fun c => ?_)
            · replace hok := And.left hok c
              replace hR := (if_pos c).symm.trans hR
              subst hR
              exact g_retv S hr hlocks h dX6_belts_151
            · replace hok := And.right hok c
              replace hR := (if_neg c).symm.trans hR
              refine lv_aload_n S.1 S.2.1 dX6_belts_135 rfl (lv_at hl 2 rfl) ?_
              refine lv_iload S.1 S.2.1 dX6_belts_136 (lv_at hl 0 rfl) ?_
              refine lv_aload_n S.1 S.2.1 dX6_belts_138 rfl (lv_at hl 2 rfl) ?_
              refine fg_X6_46 S K h dX6_belts_139 ?_
              refine lv_iload S.1 S.2.1 dX6_belts_142 (lv_at hl 1 rfl) ?_
              have k117 := And.left hok
              replace hok := And.right hok
              refine al_M13 S K h k117 dX6_belts_144 ?_
              have k119 := And.left hok
              replace hok := And.right hok
              refine g_calli (ci := 6) (q0 := 0) S wz_cons K h (c_X6_isIndex l D cy q _ A _ _ _ k119) kc_X6_isIndex km_X6_137 ki_X6_isIndex ks_X6_isIndex kn_X6 yd_X6_isIndex ⟨⟨Nat.le_of_ble_eq_true rfl, Nat.le_of_ble_eq_true rfl⟩, rfl, rfl, Nat.zero_le _, Nat.zero_le _⟩ rfl rfl rfl hl.1 (Nat.le_of_ble_eq_true rfl) rfl dX6_belts_145 (fun H locs h => ?_)
              refine lv_if_ne (tgt := 152) S.1 S.2.1 dX6_belts_148 (by decide) (fun c => ?_) (fun c => ?_)
              · replace hok := And.right hok c
                replace hR := (if_neg c).symm.trans hR
                refine lv_iload_n S.1 S.2.1 dX6_belts_152 rfl (lv_at hl 3 rfl) ?_
                refine lv_iconst (v := 5) S.1 S.2.1 dX6_belts_153 (by decide) ?_
                refine lv_icmp_ne (tgt := 179) S.1 S.2.1 dX6_belts_154 (by decide) (fun c => ?_) (fun c => ?_)
                · replace hok := And.right hok c
                  replace hR := (if_neg c).symm.trans hR
                  refine lv_aload_n S.1 S.2.1 dX6_belts_179 rfl (lv_at hl 2 rfl) ?_
                  refine fg_X6_43 S K h dX6_belts_180 ?_
                  refine lv_iload S.1 S.2.1 dX6_belts_183 (lv_at hl 6 rfl) ?_
                  have k121 := And.left hok
                  replace hok := And.right hok
                  refine al_M12 S K h k121 dX6_belts_185 ?_
                  refine lv_iconst (v := -1) S.1 S.2.1 dX6_belts_186 (by decide) ?_
                  refine lv_icmp_eq (tgt := 223) S.1 S.2.1 dX6_belts_187 (by decide) (fun c => ?_) (fun c => ?_)
                  · replace hok := And.left hok c
                    replace hR := (if_pos c).symm.trans hR
                    refine lv_aload_n S.1 S.2.1 dX6_belts_223 rfl (lv_at hl 2 rfl) ?_
                    refine fg_X6_52 S K h dX6_belts_224 ?_
                    refine lv_bipush (v := 8) S.1 S.2.1 dX6_belts_227 (by decide) ?_
                    refine lv_iload S.1 S.2.1 dX6_belts_229 (lv_at hl 1 rfl) ?_
                    refine lv_imul S.1 S.2.1 dX6_belts_231 ?_
                    refine lv_iload S.1 S.2.1 dX6_belts_232 (lv_at hl 0 rfl) ?_
                    refine lv_iadd S.1 S.2.1 dX6_belts_234 ?_
                    refine lv_aload_n S.1 S.2.1 dX6_belts_235 rfl (lv_at hl 2 rfl) ?_
                    refine fg_X6_43 S K h dX6_belts_236 ?_
                    refine lv_iload S.1 S.2.1 dX6_belts_239 (lv_at hl 6 rfl) ?_
                    have k122 := And.left hok
                    replace hok := And.right hok
                    refine al_M12 S K h k122 dX6_belts_241 ?_
                    have k123 := And.left hok
                    replace hok := And.right hok
                    refine as_M15 S K h k123 dX6_belts_242 (fun H locs h => ?_)
                    subst hR
                    exact g_retv S hr hlocks h dX6_belts_243
                  · replace hok := And.right hok c
                    replace hR := (if_neg c).symm.trans hR
                    refine lv_aload_n S.1 S.2.1 dX6_belts_190 rfl (lv_at hl 2 rfl) ?_
                    refine fg_X6_34 S K h dX6_belts_191 ?_
                    refine lv_aload_n S.1 S.2.1 dX6_belts_194 rfl (lv_at hl 2 rfl) ?_
                    refine fg_X6_43 S K h dX6_belts_195 ?_
                    refine lv_iload S.1 S.2.1 dX6_belts_198 (lv_at hl 6 rfl) ?_
                    have k124 := And.left hok
                    replace hok := And.right hok
                    refine al_M12 S K h k124 dX6_belts_200 ?_
                    have k125 := And.left hok
                    replace hok := And.right hok
                    refine al_M9 S K h k125 dX6_belts_201 ?_
                    refine lv_aload_n S.1 S.2.1 dX6_belts_202 rfl (lv_at hl 2 rfl) ?_
                    refine fg_X6_49 S K h dX6_belts_203 ?_
                    refine lv_iload S.1 S.2.1 dX6_belts_206 (lv_at hl 1 rfl) ?_
                    have k126 := And.left hok
                    replace hok := And.right hok
                    refine al_M14 S K h k126 dX6_belts_208 ?_
                    have k128 := And.left hok
                    replace hok := And.right hok
                    refine g_calls S wz_cons K.2 (c_X6_isOf l _ _ k128) kc_X6_isOf km_X6_141 kt_X6_isOf kn_X6 yd_X6_isOf.2 ⟨⟨Nat.le_of_ble_eq_true rfl, Nat.le_of_ble_eq_true rfl⟩, rfl, rfl, Nat.zero_le _, Nat.zero_le _⟩ rfl hl.1 (Nat.le_of_ble_eq_true rfl) rfl dX6_belts_209 ?_
                    refine lv_if_ne (tgt := 223) S.1 S.2.1 dX6_belts_212 (by decide) (fun c => ?_) (fun c => ?_)
                    · replace hok := And.right hok c
                      replace hR := (if_neg c).symm.trans hR
                      refine lv_aload_n S.1 S.2.1 dX6_belts_223 rfl (lv_at hl 2 rfl) ?_
                      refine fg_X6_52 S K h dX6_belts_224 ?_
                      refine lv_bipush (v := 8) S.1 S.2.1 dX6_belts_227 (by decide) ?_
                      refine lv_iload S.1 S.2.1 dX6_belts_229 (lv_at hl 1 rfl) ?_
                      refine lv_imul S.1 S.2.1 dX6_belts_231 ?_
                      refine lv_iload S.1 S.2.1 dX6_belts_232 (lv_at hl 0 rfl) ?_
                      refine lv_iadd S.1 S.2.1 dX6_belts_234 ?_
                      refine lv_aload_n S.1 S.2.1 dX6_belts_235 rfl (lv_at hl 2 rfl) ?_
                      refine fg_X6_43 S K h dX6_belts_236 ?_
                      refine lv_iload S.1 S.2.1 dX6_belts_239 (lv_at hl 6 rfl) ?_
                      have k130 := And.left hok
                      replace hok := And.right hok
                      refine al_M12 S K h k130 dX6_belts_241 ?_
                      have k131 := And.left hok
                      replace hok := And.right hok
                      refine as_M15 S K h k131 dX6_belts_242 (fun H locs h => ?_)
                      subst hR
                      exact g_retv S hr hlocks h dX6_belts_243
                    · replace hok := And.left hok c
                      replace hR := (if_pos c).symm.trans hR
                      refine lv_aload_n S.1 S.2.1 dX6_belts_215 rfl (lv_at hl 2 rfl) ?_
                      refine lv_iconst (v := 5) S.1 S.2.1 dX6_belts_216 (by decide) ?_
                      refine fp_X6_127 S K h dX6_belts_217 (fun H locs h => ?_)
                      refine lv_goto (tgt := 243) S.1 S.2.1 dX6_belts_220 (by decide) ?_
                      subst hR
                      exact g_retv S hr hlocks h dX6_belts_243
                · replace hok := And.left hok c
                  replace hR := (if_pos c).symm.trans hR
                  refine lv_aload_n S.1 S.2.1 dX6_belts_157 rfl (lv_at hl 2 rfl) ?_
                  refine fg_X6_43 S K h dX6_belts_158 ?_
                  refine lv_iload_n S.1 S.2.1 dX6_belts_161 rfl (lv_at hl 4 rfl) ?_
                  refine lv_aload_n S.1 S.2.1 dX6_belts_162 rfl (lv_at hl 2 rfl) ?_
                  refine fg_X6_52 S K h dX6_belts_163 ?_
                  refine lv_bipush (v := 8) S.1 S.2.1 dX6_belts_166 (by decide) ?_
                  refine lv_iload S.1 S.2.1 dX6_belts_168 (lv_at hl 1 rfl) ?_
                  refine lv_imul S.1 S.2.1 dX6_belts_170 ?_
                  refine lv_iload S.1 S.2.1 dX6_belts_171 (lv_at hl 0 rfl) ?_
                  refine lv_iadd S.1 S.2.1 dX6_belts_173 ?_
                  have k132 := And.left hok
                  replace hok := And.right hok
                  refine al_M15 S K h k132 dX6_belts_174 ?_
                  have k133 := And.left hok
                  replace hok := And.right hok
                  refine as_M12 S K h k133 dX6_belts_175 (fun H locs h => ?_)
                  refine lv_goto (tgt := 243) S.1 S.2.1 dX6_belts_176 (by decide) ?_
                  subst hR
                  exact g_retv S hr hlocks h dX6_belts_243
              · replace hok := And.left hok c
                replace hR := (if_pos c).symm.trans hR
                subst hR
                exact g_retv S hr hlocks h dX6_belts_151
        · replace hok := And.left hok c
          replace hR := (if_pos c).symm.trans hR
          refine lv_aload_n S.1 S.2.1 dX6_belts_94 rfl (lv_at hl 1 rfl) ?_
          refine fg_X6_74 S K h dX6_belts_95 ?_
          refine lv_iload_n S.1 S.2.1 dX6_belts_98 rfl (lv_at hl 4 rfl) ?_
          have k134 := And.left hok
          replace hok := And.right hok
          refine al_M22 S K h k134 dX6_belts_99 ?_
          refine lv_goto (tgt := 110) S.1 S.2.1 dX6_belts_100 (by decide) ?_
          refine lv_istore (lv' := [(6, .int _), (5, .int _), (0, .ref _), (1, .int _), (2, .int _), (3, .int _), (4, .int _)]) S.1 S.2.1 dX6_belts_110 hl (by decide) rfl (fun ls hl => ?_)
          refine lv_aload_n S.1 S.2.1 dX6_belts_112 rfl (lv_at hl 2 rfl) ?_
          refine lv_aload_n S.1 S.2.1 dX6_belts_113 rfl (lv_at hl 2 rfl) ?_
          refine fg_X6_46 S K h dX6_belts_114 ?_
          refine lv_iload S.1 S.2.1 dX6_belts_117 (lv_at hl 1 rfl) ?_
          have k135 := And.left hok
          replace hok := And.right hok
          refine al_M13 S K h k135 dX6_belts_119 ?_
          refine lv_iconst (v := -1) S.1 S.2.1 dX6_belts_120 (by decide) ?_
          refine lv_icmp_eq (tgt := 128) S.1 S.2.1 dX6_belts_121 (by decide) (fun c => ?_) (fun c => ?_)
          · replace hok := And.left hok c
            replace hR := (if_pos c).symm.trans hR
            refine lv_iconst (v := 0) S.1 S.2.1 dX6_belts_128 (by decide) ?_
            have k137 := And.left hok
            replace hok := And.right hok
            refine g_calli (ci := 6) (q0 := 0) S wz_cons K h (c_X6_isThere l D cy q _ A _ _ k137) kc_X6_isThere km_X6_133 ki_X6_isThere ks_X6_isThere kn_X6 yd_X6_isThere ⟨⟨Nat.le_of_ble_eq_true rfl, Nat.le_of_ble_eq_true rfl⟩, rfl, rfl, Nat.zero_le _, Nat.zero_le _⟩ rfl rfl rfl hl.1 (Nat.le_of_ble_eq_true rfl) rfl dX6_belts_129 (fun H locs h => ?_)
            refine lv_if_eq (tgt := 151) S.1 S.2.1 dX6_belts_132 (by decide) (fun c => ?_) (fun c => ?_)
            · replace hok := And.left hok c
              replace hR := (if_pos c).symm.trans hR
              subst hR
              exact g_retv S hr hlocks h dX6_belts_151
            · replace hok := And.right hok c
              replace hR := (if_neg c).symm.trans hR
              refine lv_aload_n S.1 S.2.1 dX6_belts_135 rfl (lv_at hl 2 rfl) ?_
              refine lv_iload S.1 S.2.1 dX6_belts_136 (lv_at hl 0 rfl) ?_
              refine lv_aload_n S.1 S.2.1 dX6_belts_138 rfl (lv_at hl 2 rfl) ?_
              refine fg_X6_46 S K h dX6_belts_139 ?_
              refine lv_iload S.1 S.2.1 dX6_belts_142 (lv_at hl 1 rfl) ?_
              have k139 := And.left hok
              replace hok := And.right hok
              refine al_M13 S K h k139 dX6_belts_144 ?_
              have k141 := And.left hok
              replace hok := And.right hok
              refine g_calli (ci := 6) (q0 := 0) S wz_cons K h (c_X6_isIndex l D cy q _ A _ _ _ k141) kc_X6_isIndex km_X6_137 ki_X6_isIndex ks_X6_isIndex kn_X6 yd_X6_isIndex ⟨⟨Nat.le_of_ble_eq_true rfl, Nat.le_of_ble_eq_true rfl⟩, rfl, rfl, Nat.zero_le _, Nat.zero_le _⟩ rfl rfl rfl hl.1 (Nat.le_of_ble_eq_true rfl) rfl dX6_belts_145 (fun H locs h => ?_)
              refine lv_if_ne (tgt := 152) S.1 S.2.1 dX6_belts_148 (by decide) (fun c => ?_) (fun c => ?_)
              · replace hok := And.right hok c
                replace hR := (if_neg c).symm.trans hR
                refine lv_iload_n S.1 S.2.1 dX6_belts_152 rfl (lv_at hl 3 rfl) ?_
                refine lv_iconst (v := 5) S.1 S.2.1 dX6_belts_153 (by decide) ?_
                refine lv_icmp_ne (tgt := 179) S.1 S.2.1 dX6_belts_154 (by decide) (fun c => ?_) (fun c => ?_)
                · replace hok := And.right hok c
                  replace hR := (if_neg c).symm.trans hR
                  refine lv_aload_n S.1 S.2.1 dX6_belts_179 rfl (lv_at hl 2 rfl) ?_
                  refine fg_X6_43 S K h dX6_belts_180 ?_
                  refine lv_iload S.1 S.2.1 dX6_belts_183 (lv_at hl 6 rfl) ?_
                  have k143 := And.left hok
                  replace hok := And.right hok
                  refine al_M12 S K h k143 dX6_belts_185 ?_
                  refine lv_iconst (v := -1) S.1 S.2.1 dX6_belts_186 (by decide) ?_
                  refine lv_icmp_eq (tgt := 223) S.1 S.2.1 dX6_belts_187 (by decide) (fun c => ?_) (fun c => ?_)
                  · replace hok := And.left hok c
                    replace hR := (if_pos c).symm.trans hR
                    refine lv_aload_n S.1 S.2.1 dX6_belts_223 rfl (lv_at hl 2 rfl) ?_
                    refine fg_X6_52 S K h dX6_belts_224 ?_
                    refine lv_bipush (v := 8) S.1 S.2.1 dX6_belts_227 (by decide) ?_
                    refine lv_iload S.1 S.2.1 dX6_belts_229 (lv_at hl 1 rfl) ?_
                    refine lv_imul S.1 S.2.1 dX6_belts_231 ?_
                    refine lv_iload S.1 S.2.1 dX6_belts_232 (lv_at hl 0 rfl) ?_
                    refine lv_iadd S.1 S.2.1 dX6_belts_234 ?_
                    refine lv_aload_n S.1 S.2.1 dX6_belts_235 rfl (lv_at hl 2 rfl) ?_
                    refine fg_X6_43 S K h dX6_belts_236 ?_
                    refine lv_iload S.1 S.2.1 dX6_belts_239 (lv_at hl 6 rfl) ?_
                    have k144 := And.left hok
                    replace hok := And.right hok
                    refine al_M12 S K h k144 dX6_belts_241 ?_
                    have k145 := And.left hok
                    replace hok := And.right hok
                    refine as_M15 S K h k145 dX6_belts_242 (fun H locs h => ?_)
                    subst hR
                    exact g_retv S hr hlocks h dX6_belts_243
                  · replace hok := And.right hok c
                    replace hR := (if_neg c).symm.trans hR
                    refine lv_aload_n S.1 S.2.1 dX6_belts_190 rfl (lv_at hl 2 rfl) ?_
                    refine fg_X6_34 S K h dX6_belts_191 ?_
                    refine lv_aload_n S.1 S.2.1 dX6_belts_194 rfl (lv_at hl 2 rfl) ?_
                    refine fg_X6_43 S K h dX6_belts_195 ?_
                    refine lv_iload S.1 S.2.1 dX6_belts_198 (lv_at hl 6 rfl) ?_
                    have k146 := And.left hok
                    replace hok := And.right hok
                    refine al_M12 S K h k146 dX6_belts_200 ?_
                    have k147 := And.left hok
                    replace hok := And.right hok
                    refine al_M9 S K h k147 dX6_belts_201 ?_
                    refine lv_aload_n S.1 S.2.1 dX6_belts_202 rfl (lv_at hl 2 rfl) ?_
                    refine fg_X6_49 S K h dX6_belts_203 ?_
                    refine lv_iload S.1 S.2.1 dX6_belts_206 (lv_at hl 1 rfl) ?_
                    have k148 := And.left hok
                    replace hok := And.right hok
                    refine al_M14 S K h k148 dX6_belts_208 ?_
                    have k150 := And.left hok
                    replace hok := And.right hok
                    refine g_calls S wz_cons K.2 (c_X6_isOf l _ _ k150) kc_X6_isOf km_X6_141 kt_X6_isOf kn_X6 yd_X6_isOf.2 ⟨⟨Nat.le_of_ble_eq_true rfl, Nat.le_of_ble_eq_true rfl⟩, rfl, rfl, Nat.zero_le _, Nat.zero_le _⟩ rfl hl.1 (Nat.le_of_ble_eq_true rfl) rfl dX6_belts_209 ?_
                    refine lv_if_ne (tgt := 223) S.1 S.2.1 dX6_belts_212 (by decide) (fun c => ?_) (fun c => ?_)
                    · replace hok := And.right hok c
                      replace hR := (if_neg c).symm.trans hR
                      refine lv_aload_n S.1 S.2.1 dX6_belts_223 rfl (lv_at hl 2 rfl) ?_
                      refine fg_X6_52 S K h dX6_belts_224 ?_
                      refine lv_bipush (v := 8) S.1 S.2.1 dX6_belts_227 (by decide) ?_
                      refine lv_iload S.1 S.2.1 dX6_belts_229 (lv_at hl 1 rfl) ?_
                      refine lv_imul S.1 S.2.1 dX6_belts_231 ?_
                      refine lv_iload S.1 S.2.1 dX6_belts_232 (lv_at hl 0 rfl) ?_
                      refine lv_iadd S.1 S.2.1 dX6_belts_234 ?_
                      refine lv_aload_n S.1 S.2.1 dX6_belts_235 rfl (lv_at hl 2 rfl) ?_
                      refine fg_X6_43 S K h dX6_belts_236 ?_
                      refine lv_iload S.1 S.2.1 dX6_belts_239 (lv_at hl 6 rfl) ?_
                      have k152 := And.left hok
                      replace hok := And.right hok
                      refine al_M12 S K h k152 dX6_belts_241 ?_
                      have k153 := And.left hok
                      replace hok := And.right hok
                      refine as_M15 S K h k153 dX6_belts_242 (fun H locs h => ?_)
                      subst hR
                      exact g_retv S hr hlocks h dX6_belts_243
                    · replace hok := And.left hok c
                      replace hR := (if_pos c).symm.trans hR
                      refine lv_aload_n S.1 S.2.1 dX6_belts_215 rfl (lv_at hl 2 rfl) ?_
                      refine lv_iconst (v := 5) S.1 S.2.1 dX6_belts_216 (by decide) ?_
                      refine fp_X6_127 S K h dX6_belts_217 (fun H locs h => ?_)
                      refine lv_goto (tgt := 243) S.1 S.2.1 dX6_belts_220 (by decide) ?_
                      subst hR
                      exact g_retv S hr hlocks h dX6_belts_243
                · replace hok := And.left hok c
                  replace hR := (if_pos c).symm.trans hR
                  refine lv_aload_n S.1 S.2.1 dX6_belts_157 rfl (lv_at hl 2 rfl) ?_
                  refine fg_X6_43 S K h dX6_belts_158 ?_
                  refine lv_iload_n S.1 S.2.1 dX6_belts_161 rfl (lv_at hl 4 rfl) ?_
                  refine lv_aload_n S.1 S.2.1 dX6_belts_162 rfl (lv_at hl 2 rfl) ?_
                  refine fg_X6_52 S K h dX6_belts_163 ?_
                  refine lv_bipush (v := 8) S.1 S.2.1 dX6_belts_166 (by decide) ?_
                  refine lv_iload S.1 S.2.1 dX6_belts_168 (lv_at hl 1 rfl) ?_
                  refine lv_imul S.1 S.2.1 dX6_belts_170 ?_
                  refine lv_iload S.1 S.2.1 dX6_belts_171 (lv_at hl 0 rfl) ?_
                  refine lv_iadd S.1 S.2.1 dX6_belts_173 ?_
                  have k154 := And.left hok
                  replace hok := And.right hok
                  refine al_M15 S K h k154 dX6_belts_174 ?_
                  have k155 := And.left hok
                  replace hok := And.right hok
                  refine as_M12 S K h k155 dX6_belts_175 (fun H locs h => ?_)
                  refine lv_goto (tgt := 243) S.1 S.2.1 dX6_belts_176 (by decide) ?_
                  subst hR
                  exact g_retv S hr hlocks h dX6_belts_243
              · replace hok := And.left hok c
                replace hR := (if_pos c).symm.trans hR
                subst hR
                exact g_retv S hr hlocks h dX6_belts_151
          · replace hok := And.right hok c
            replace hR := (if_neg c).symm.trans hR
            refine lv_iconst (v := 1) S.1 S.2.1 dX6_belts_124 (by decide) ?_
            refine lv_goto (tgt := 129) S.1 S.2.1 dX6_belts_125 (by decide) ?_
            have k157 := And.left hok
            replace hok := And.right hok
            refine g_calli (ci := 6) (q0 := 0) S wz_cons K h (c_X6_isThere l D cy q _ A _ _ k157) kc_X6_isThere km_X6_133 ki_X6_isThere ks_X6_isThere kn_X6 yd_X6_isThere ⟨⟨Nat.le_of_ble_eq_true rfl, Nat.le_of_ble_eq_true rfl⟩, rfl, rfl, Nat.zero_le _, Nat.zero_le _⟩ rfl rfl rfl hl.1 (Nat.le_of_ble_eq_true rfl) rfl dX6_belts_129 (fun H locs h => ?_)
            refine lv_if_eq (tgt := 151) S.1 S.2.1 dX6_belts_132 (by decide) (fun c => ?_) (fun c => ?_)
            · replace hok := And.left hok c
              replace hR := (if_pos c).symm.trans hR
              subst hR
              exact g_retv S hr hlocks h dX6_belts_151
            · replace hok := And.right hok c
              replace hR := (if_neg c).symm.trans hR
              refine lv_aload_n S.1 S.2.1 dX6_belts_135 rfl (lv_at hl 2 rfl) ?_
              refine lv_iload S.1 S.2.1 dX6_belts_136 (lv_at hl 0 rfl) ?_
              refine lv_aload_n S.1 S.2.1 dX6_belts_138 rfl (lv_at hl 2 rfl) ?_
              refine fg_X6_46 S K h dX6_belts_139 ?_
              refine lv_iload S.1 S.2.1 dX6_belts_142 (lv_at hl 1 rfl) ?_
              have k159 := And.left hok
              replace hok := And.right hok
              refine al_M13 S K h k159 dX6_belts_144 ?_
              have k161 := And.left hok
              replace hok := And.right hok
              refine g_calli (ci := 6) (q0 := 0) S wz_cons K h (c_X6_isIndex l D cy q _ A _ _ _ k161) kc_X6_isIndex km_X6_137 ki_X6_isIndex ks_X6_isIndex kn_X6 yd_X6_isIndex ⟨⟨Nat.le_of_ble_eq_true rfl, Nat.le_of_ble_eq_true rfl⟩, rfl, rfl, Nat.zero_le _, Nat.zero_le _⟩ rfl rfl rfl hl.1 (Nat.le_of_ble_eq_true rfl) rfl dX6_belts_145 (fun H locs h => ?_)
              refine lv_if_ne (tgt := 152) S.1 S.2.1 dX6_belts_148 (by decide) (fun c => ?_) (fun c => ?_)
              · replace hok := And.right hok c
                replace hR := (if_neg c).symm.trans hR
                refine lv_iload_n S.1 S.2.1 dX6_belts_152 rfl (lv_at hl 3 rfl) ?_
                refine lv_iconst (v := 5) S.1 S.2.1 dX6_belts_153 (by decide) ?_
                refine lv_icmp_ne (tgt := 179) S.1 S.2.1 dX6_belts_154 (by decide) (fun c => ?_) (fun c => ?_)
                · replace hok := And.right hok c
                  replace hR := (if_neg c).symm.trans hR
                  refine lv_aload_n S.1 S.2.1 dX6_belts_179 rfl (lv_at hl 2 rfl) ?_
                  refine fg_X6_43 S K h dX6_belts_180 ?_
                  refine lv_iload S.1 S.2.1 dX6_belts_183 (lv_at hl 6 rfl) ?_
                  have k163 := And.left hok
                  replace hok := And.right hok
                  refine al_M12 S K h k163 dX6_belts_185 ?_
                  refine lv_iconst (v := -1) S.1 S.2.1 dX6_belts_186 (by decide) ?_
                  refine lv_icmp_eq (tgt := 223) S.1 S.2.1 dX6_belts_187 (by decide) (fun c => ?_) (fun c => ?_)
                  · replace hok := And.left hok c
                    replace hR := (if_pos c).symm.trans hR
                    refine lv_aload_n S.1 S.2.1 dX6_belts_223 rfl (lv_at hl 2 rfl) ?_
                    refine fg_X6_52 S K h dX6_belts_224 ?_
                    refine lv_bipush (v := 8) S.1 S.2.1 dX6_belts_227 (by decide) ?_
                    refine lv_iload S.1 S.2.1 dX6_belts_229 (lv_at hl 1 rfl) ?_
                    refine lv_imul S.1 S.2.1 dX6_belts_231 ?_
                    refine lv_iload S.1 S.2.1 dX6_belts_232 (lv_at hl 0 rfl) ?_
                    refine lv_iadd S.1 S.2.1 dX6_belts_234 ?_
                    refine lv_aload_n S.1 S.2.1 dX6_belts_235 rfl (lv_at hl 2 rfl) ?_
                    refine fg_X6_43 S K h dX6_belts_236 ?_
                    refine lv_iload S.1 S.2.1 dX6_belts_239 (lv_at hl 6 rfl) ?_
                    have k164 := And.left hok
                    replace hok := And.right hok
                    refine al_M12 S K h k164 dX6_belts_241 ?_
                    have k165 := And.left hok
                    replace hok := And.right hok
                    refine as_M15 S K h k165 dX6_belts_242 (fun H locs h => ?_)
                    subst hR
                    exact g_retv S hr hlocks h dX6_belts_243
                  · replace hok := And.right hok c
                    replace hR := (if_neg c).symm.trans hR
                    refine lv_aload_n S.1 S.2.1 dX6_belts_190 rfl (lv_at hl 2 rfl) ?_
                    refine fg_X6_34 S K h dX6_belts_191 ?_
                    refine lv_aload_n S.1 S.2.1 dX6_belts_194 rfl (lv_at hl 2 rfl) ?_
                    refine fg_X6_43 S K h dX6_belts_195 ?_
                    refine lv_iload S.1 S.2.1 dX6_belts_198 (lv_at hl 6 rfl) ?_
                    have k166 := And.left hok
                    replace hok := And.right hok
                    refine al_M12 S K h k166 dX6_belts_200 ?_
                    have k167 := And.left hok
                    replace hok := And.right hok
                    refine al_M9 S K h k167 dX6_belts_201 ?_
                    refine lv_aload_n S.1 S.2.1 dX6_belts_202 rfl (lv_at hl 2 rfl) ?_
                    refine fg_X6_49 S K h dX6_belts_203 ?_
                    refine lv_iload S.1 S.2.1 dX6_belts_206 (lv_at hl 1 rfl) ?_
                    have k168 := And.left hok
                    replace hok := And.right hok
                    refine al_M14 S K h k168 dX6_belts_208 ?_
                    have k170 := And.left hok
                    replace hok := And.right hok
                    refine g_calls S wz_cons K.2 (c_X6_isOf l _ _ k170) kc_X6_isOf km_X6_141 kt_X6_isOf kn_X6 yd_X6_isOf.2 ⟨⟨Nat.le_of_ble_eq_true rfl, Nat.le_of_ble_eq_true rfl⟩, rfl, rfl, Nat.zero_le _, Nat.zero_le _⟩ rfl hl.1 (Nat.le_of_ble_eq_true rfl) rfl dX6_belts_209 ?_
                    refine lv_if_ne (tgt := 223) S.1 S.2.1 dX6_belts_212 (by decide) (fun c => ?_) (fun c => ?_)
                    · replace hok := And.right hok c
                      replace hR := (if_neg c).symm.trans hR
                      refine lv_aload_n S.1 S.2.1 dX6_belts_223 rfl (lv_at hl 2 rfl) ?_
                      refine fg_X6_52 S K h dX6_belts_224 ?_
                      refine lv_bipush (v := 8) S.1 S.2.1 dX6_belts_227 (by decide) ?_
                      refine lv_iload S.1 S.2.1 dX6_belts_229 (lv_at hl 1 rfl) ?_
                      refine lv_imul S.1 S.2.1 dX6_belts_231 ?_
                      refine lv_iload S.1 S.2.1 dX6_belts_232 (lv_at hl 0 rfl) ?_
                      refine lv_iadd S.1 S.2.1 dX6_belts_234 ?_
                      refine lv_aload_n S.1 S.2.1 dX6_belts_235 rfl (lv_at hl 2 rfl) ?_
                      refine fg_X6_43 S K h dX6_belts_236 ?_
                      refine lv_iload S.1 S.2.1 dX6_belts_239 (lv_at hl 6 rfl) ?_
                      have k172 := And.left hok
                      replace hok := And.right hok
                      refine al_M12 S K h k172 dX6_belts_241 ?_
                      have k173 := And.left hok
                      replace hok := And.right hok
                      refine as_M15 S K h k173 dX6_belts_242 (fun H locs h => ?_)
                      subst hR
                      exact g_retv S hr hlocks h dX6_belts_243
                    · replace hok := And.left hok c
                      replace hR := (if_pos c).symm.trans hR
                      refine lv_aload_n S.1 S.2.1 dX6_belts_215 rfl (lv_at hl 2 rfl) ?_
                      refine lv_iconst (v := 5) S.1 S.2.1 dX6_belts_216 (by decide) ?_
                      refine fp_X6_127 S K h dX6_belts_217 (fun H locs h => ?_)
                      refine lv_goto (tgt := 243) S.1 S.2.1 dX6_belts_220 (by decide) ?_
                      subst hR
                      exact g_retv S hr hlocks h dX6_belts_243
                · replace hok := And.left hok c
                  replace hR := (if_pos c).symm.trans hR
                  refine lv_aload_n S.1 S.2.1 dX6_belts_157 rfl (lv_at hl 2 rfl) ?_
                  refine fg_X6_43 S K h dX6_belts_158 ?_
                  refine lv_iload_n S.1 S.2.1 dX6_belts_161 rfl (lv_at hl 4 rfl) ?_
                  refine lv_aload_n S.1 S.2.1 dX6_belts_162 rfl (lv_at hl 2 rfl) ?_
                  refine fg_X6_52 S K h dX6_belts_163 ?_
                  refine lv_bipush (v := 8) S.1 S.2.1 dX6_belts_166 (by decide) ?_
                  refine lv_iload S.1 S.2.1 dX6_belts_168 (lv_at hl 1 rfl) ?_
                  refine lv_imul S.1 S.2.1 dX6_belts_170 ?_
                  refine lv_iload S.1 S.2.1 dX6_belts_171 (lv_at hl 0 rfl) ?_
                  refine lv_iadd S.1 S.2.1 dX6_belts_173 ?_
                  have k174 := And.left hok
                  replace hok := And.right hok
                  refine al_M15 S K h k174 dX6_belts_174 ?_
                  have k175 := And.left hok
                  replace hok := And.right hok
                  refine as_M12 S K h k175 dX6_belts_175 (fun H locs h => ?_)
                  refine lv_goto (tgt := 243) S.1 S.2.1 dX6_belts_176 (by decide) ?_
                  subst hR
                  exact g_retv S hr hlocks h dX6_belts_243
              · replace hok := And.left hok c
                replace hR := (if_pos c).symm.trans hR
                subst hR
                exact g_retv S hr hlocks h dX6_belts_151
      · replace hok := And.left hok c
        replace hR := (if_pos c).symm.trans hR
        refine lv_aload_n S.1 S.2.1 dX6_belts_26 rfl (lv_at hl 1 rfl) ?_
        refine fg_X6_74 S K h dX6_belts_27 ?_
        refine lv_iload S.1 S.2.1 dX6_belts_30 (lv_at hl 5 rfl) ?_
        have k176 := And.left hok
        replace hok := And.right hok
        refine al_M22 S K h k176 dX6_belts_32 ?_
        refine lv_istore (lv' := [(6, .int _), (5, .int _), (0, .ref _), (1, .int _), (2, .int _), (3, .int _), (4, .int _)]) S.1 S.2.1 dX6_belts_33 hl (by decide) rfl (fun ls hl => ?_)
        refine lv_aload_n S.1 S.2.1 dX6_belts_35 rfl (lv_at hl 2 rfl) ?_
        refine lv_iload S.1 S.2.1 dX6_belts_36 (lv_at hl 0 rfl) ?_
        have k178 := And.left hok
        replace hok := And.right hok
        refine g_calli (ci := 6) (q0 := 0) S wz_cons K h (c_X6_isSize l D cy q _ A _ _ k178) kc_X6_isSize km_X6_130 ki_X6_isSize ks_X6_isSize kn_X6 yd_X6_isSize ⟨⟨Nat.le_of_ble_eq_true rfl, Nat.le_of_ble_eq_true rfl⟩, rfl, rfl, Nat.zero_le _, Nat.zero_le _⟩ rfl rfl rfl hl.1 (Nat.le_of_ble_eq_true rfl) rfl dX6_belts_38 (fun H locs h => ?_)
        refine lv_if_eq (tgt := 88) S.1 S.2.1 dX6_belts_41 (by decide) (fun c => ?_) (fun c => ?_)
        · replace hok := And.left hok c
          replace hR := (if_pos c).symm.trans hR
          subst hR
          exact g_retv S hr hlocks h dX6_belts_88
        · replace hok := And.right hok c
          replace hR := (if_neg c).symm.trans hR
          refine lv_aload_n S.1 S.2.1 dX6_belts_44 rfl (lv_at hl 2 rfl) ?_
          refine fg_X6_46 S K h dX6_belts_45 ?_
          refine lv_iload_n S.1 S.2.1 dX6_belts_48 rfl (lv_at hl 4 rfl) ?_
          refine lv_iload S.1 S.2.1 dX6_belts_49 (lv_at hl 0 rfl) ?_
          have k180 := And.left hok
          replace hok := And.right hok
          refine as_M13 S K h k180 dX6_belts_51 (fun H locs h => ?_)
          refine lv_aload_n S.1 S.2.1 dX6_belts_52 rfl (lv_at hl 2 rfl) ?_
          refine fg_X6_49 S K h dX6_belts_53 ?_
          refine lv_iload_n S.1 S.2.1 dX6_belts_56 rfl (lv_at hl 4 rfl) ?_
          refine lv_iload_n S.1 S.2.1 dX6_belts_57 rfl (lv_at hl 5 rfl) ?_
          have k181 := And.left hok
          replace hok := And.right hok
          refine as_M14 S K h k181 dX6_belts_58 (fun H locs h => ?_)
          refine lv_iconst (v := 0) S.1 S.2.1 dX6_belts_59 (by decide) ?_
          refine lv_istore (lv' := [(7, .int _), (6, .int _), (5, .int _), (0, .ref _), (1, .int _), (2, .int _), (3, .int _), (4, .int _)]) S.1 S.2.1 dX6_belts_60 hl (by decide) rfl (fun ls hl => ?_)
          exact w_X6_belts_62  S K hr hlocks 100 _ _ _ _ _ _ _ _ _ _ _ R hok hR h (lv_sub hl [3, 4, 5, 6, 7, 2, 1, 0] rfl)
  · replace hok := And.left hok c
    replace hR := (if_pos c).symm.trans hR
    refine lv_iload_n S.1 S.2.1 dX6_belts_5 rfl (lv_at hl 2 rfl) ?_
    refine lv_goto (tgt := 19) S.1 S.2.1 dX6_belts_6 (by decide) ?_
    refine lv_istore (lv' := [(5, .int _), (0, .ref _), (1, .int _), (2, .int _), (3, .int _), (4, .int _)]) S.1 S.2.1 dX6_belts_19 hl (by decide) rfl (fun ls hl => ?_)
    refine lv_iload_n S.1 S.2.1 dX6_belts_21 rfl (lv_at hl 2 rfl) ?_
    refine lv_iconst (v := 3) S.1 S.2.1 dX6_belts_22 (by decide) ?_
    refine lv_icmp_ne (tgt := 89) S.1 S.2.1 dX6_belts_23 (by decide) (fun c => ?_) (fun c => ?_)
    · replace hok := And.right hok c
      replace hR := (if_neg c).symm.trans hR
      refine lv_iload_n S.1 S.2.1 dX6_belts_89 rfl (lv_at hl 2 rfl) ?_
      refine lv_iconst (v := 4) S.1 S.2.1 dX6_belts_90 (by decide) ?_
      refine lv_icmp_ne (tgt := 103) S.1 S.2.1 dX6_belts_91 (by decide) (fun c => ?_) (fun c => ?_)
      · replace hok := And.right hok c
        replace hR := (if_neg c).symm.trans hR
        refine lv_aload_n S.1 S.2.1 dX6_belts_103 rfl (lv_at hl 1 rfl) ?_
        refine fg_X6_74 S K h dX6_belts_104 ?_
        refine lv_iload S.1 S.2.1 dX6_belts_107 (lv_at hl 5 rfl) ?_
        have k182 := And.left hok
        replace hok := And.right hok
        refine al_M22 S K h k182 dX6_belts_109 ?_
        refine lv_istore (lv' := [(6, .int _), (5, .int _), (0, .ref _), (1, .int _), (2, .int _), (3, .int _), (4, .int _)]) S.1 S.2.1 dX6_belts_110 hl (by decide) rfl (fun ls hl => ?_)
        refine lv_aload_n S.1 S.2.1 dX6_belts_112 rfl (lv_at hl 2 rfl) ?_
        refine lv_aload_n S.1 S.2.1 dX6_belts_113 rfl (lv_at hl 2 rfl) ?_
        refine fg_X6_46 S K h dX6_belts_114 ?_
        refine lv_iload S.1 S.2.1 dX6_belts_117 (lv_at hl 1 rfl) ?_
        have k183 := And.left hok
        replace hok := And.right hok
        refine al_M13 S K h k183 dX6_belts_119 ?_
        refine lv_iconst (v := -1) S.1 S.2.1 dX6_belts_120 (by decide) ?_
        refine lv_icmp_eq (tgt := 128) S.1 S.2.1 dX6_belts_121 (by decide) (fun c => ?_) (fun c => ?_)
        · replace hok := And.left hok c
          replace hR := (if_pos c).symm.trans hR
          refine lv_iconst (v := 0) S.1 S.2.1 dX6_belts_128 (by decide) ?_
          have k185 := And.left hok
          replace hok := And.right hok
          refine g_calli (ci := 6) (q0 := 0) S wz_cons K h (c_X6_isThere l D cy q _ A _ _ k185) kc_X6_isThere km_X6_133 ki_X6_isThere ks_X6_isThere kn_X6 yd_X6_isThere ⟨⟨Nat.le_of_ble_eq_true rfl, Nat.le_of_ble_eq_true rfl⟩, rfl, rfl, Nat.zero_le _, Nat.zero_le _⟩ rfl rfl rfl hl.1 (Nat.le_of_ble_eq_true rfl) rfl dX6_belts_129 (fun H locs h => ?_)
          refine lv_if_eq (tgt := 151) S.1 S.2.1 dX6_belts_132 (by decide) (fun c => ?_) (fun c => ?_)
          · replace hok := And.left hok c
            replace hR := (if_pos c).symm.trans hR
            subst hR
            exact g_retv S hr hlocks h dX6_belts_151
          · replace hok := And.right hok c
            replace hR := (if_neg c).symm.trans hR
            refine lv_aload_n S.1 S.2.1 dX6_belts_135 rfl (lv_at hl 2 rfl) ?_
            refine lv_iload S.1 S.2.1 dX6_belts_136 (lv_at hl 0 rfl) ?_
            refine lv_aload_n S.1 S.2.1 dX6_belts_138 rfl (lv_at hl 2 rfl) ?_
            refine fg_X6_46 S K h dX6_belts_139 ?_
            refine lv_iload S.1 S.2.1 dX6_belts_142 (lv_at hl 1 rfl) ?_
            have k187 := And.left hok
            replace hok := And.right hok
            refine al_M13 S K h k187 dX6_belts_144 ?_
            have k189 := And.left hok
            replace hok := And.right hok
            refine g_calli (ci := 6) (q0 := 0) S wz_cons K h (c_X6_isIndex l D cy q _ A _ _ _ k189) kc_X6_isIndex km_X6_137 ki_X6_isIndex ks_X6_isIndex kn_X6 yd_X6_isIndex ⟨⟨Nat.le_of_ble_eq_true rfl, Nat.le_of_ble_eq_true rfl⟩, rfl, rfl, Nat.zero_le _, Nat.zero_le _⟩ rfl rfl rfl hl.1 (Nat.le_of_ble_eq_true rfl) rfl dX6_belts_145 (fun H locs h => ?_)
            refine lv_if_ne (tgt := 152) S.1 S.2.1 dX6_belts_148 (by decide) (fun c => ?_) (fun c => ?_)
            · replace hok := And.right hok c
              replace hR := (if_neg c).symm.trans hR
              refine lv_iload_n S.1 S.2.1 dX6_belts_152 rfl (lv_at hl 3 rfl) ?_
              refine lv_iconst (v := 5) S.1 S.2.1 dX6_belts_153 (by decide) ?_
              refine lv_icmp_ne (tgt := 179) S.1 S.2.1 dX6_belts_154 (by decide) (fun c => ?_) (fun c => ?_)
              · replace hok := And.right hok c
                replace hR := (if_neg c).symm.trans hR
                refine lv_aload_n S.1 S.2.1 dX6_belts_179 rfl (lv_at hl 2 rfl) ?_
                refine fg_X6_43 S K h dX6_belts_180 ?_
                refine lv_iload S.1 S.2.1 dX6_belts_183 (lv_at hl 6 rfl) ?_
                have k191 := And.left hok
                replace hok := And.right hok
                refine al_M12 S K h k191 dX6_belts_185 ?_
                refine lv_iconst (v := -1) S.1 S.2.1 dX6_belts_186 (by decide) ?_
                refine lv_icmp_eq (tgt := 223) S.1 S.2.1 dX6_belts_187 (by decide) (fun c => ?_) (fun c => ?_)
                · replace hok := And.left hok c
                  replace hR := (if_pos c).symm.trans hR
                  refine lv_aload_n S.1 S.2.1 dX6_belts_223 rfl (lv_at hl 2 rfl) ?_
                  refine fg_X6_52 S K h dX6_belts_224 ?_
                  refine lv_bipush (v := 8) S.1 S.2.1 dX6_belts_227 (by decide) ?_
                  refine lv_iload S.1 S.2.1 dX6_belts_229 (lv_at hl 1 rfl) ?_
                  refine lv_imul S.1 S.2.1 dX6_belts_231 ?_
                  refine lv_iload S.1 S.2.1 dX6_belts_232 (lv_at hl 0 rfl) ?_
                  refine lv_iadd S.1 S.2.1 dX6_belts_234 ?_
                  refine lv_aload_n S.1 S.2.1 dX6_belts_235 rfl (lv_at hl 2 rfl) ?_
                  refine fg_X6_43 S K h dX6_belts_236 ?_
                  refine lv_iload S.1 S.2.1 dX6_belts_239 (lv_at hl 6 rfl) ?_
                  have k192 := And.left hok
                  replace hok := And.right hok
                  refine al_M12 S K h k192 dX6_belts_241 ?_
                  have k193 := And.left hok
                  replace hok := And.right hok
                  refine as_M15 S K h k193 dX6_belts_242 (fun H locs h => ?_)
                  subst hR
                  exact g_retv S hr hlocks h dX6_belts_243
                · replace hok := And.right hok c
                  replace hR := (if_neg c).symm.trans hR
                  refine lv_aload_n S.1 S.2.1 dX6_belts_190 rfl (lv_at hl 2 rfl) ?_
                  refine fg_X6_34 S K h dX6_belts_191 ?_
                  refine lv_aload_n S.1 S.2.1 dX6_belts_194 rfl (lv_at hl 2 rfl) ?_
                  refine fg_X6_43 S K h dX6_belts_195 ?_
                  refine lv_iload S.1 S.2.1 dX6_belts_198 (lv_at hl 6 rfl) ?_
                  have k194 := And.left hok
                  replace hok := And.right hok
                  refine al_M12 S K h k194 dX6_belts_200 ?_
                  have k195 := And.left hok
                  replace hok := And.right hok
                  refine al_M9 S K h k195 dX6_belts_201 ?_
                  refine lv_aload_n S.1 S.2.1 dX6_belts_202 rfl (lv_at hl 2 rfl) ?_
                  refine fg_X6_49 S K h dX6_belts_203 ?_
                  refine lv_iload S.1 S.2.1 dX6_belts_206 (lv_at hl 1 rfl) ?_
                  have k196 := And.left hok
                  replace hok := And.right hok
                  refine al_M14 S K h k196 dX6_belts_208 ?_
                  have k198 := And.left hok
                  replace hok := And.right hok
                  refine g_calls S wz_cons K.2 (c_X6_isOf l _ _ k198) kc_X6_isOf km_X6_141 kt_X6_isOf kn_X6 yd_X6_isOf.2 ⟨⟨Nat.le_of_ble_eq_true rfl, Nat.le_of_ble_eq_true rfl⟩, rfl, rfl, Nat.zero_le _, Nat.zero_le _⟩ rfl hl.1 (Nat.le_of_ble_eq_true rfl) rfl dX6_belts_209 ?_
                  refine lv_if_ne (tgt := 223) S.1 S.2.1 dX6_belts_212 (by decide) (fun c => ?_) (fun c => ?_)
                  · replace hok := And.right hok c
                    replace hR := (if_neg c).symm.trans hR
                    refine lv_aload_n S.1 S.2.1 dX6_belts_223 rfl (lv_at hl 2 rfl) ?_
                    refine fg_X6_52 S K h dX6_belts_224 ?_
                    refine lv_bipush (v := 8) S.1 S.2.1 dX6_belts_227 (by decide) ?_
                    refine lv_iload S.1 S.2.1 dX6_belts_229 (lv_at hl 1 rfl) ?_
                    refine lv_imul S.1 S.2.1 dX6_belts_231 ?_
                    refine lv_iload S.1 S.2.1 dX6_belts_232 (lv_at hl 0 rfl) ?_
                    refine lv_iadd S.1 S.2.1 dX6_belts_234 ?_
                    refine lv_aload_n S.1 S.2.1 dX6_belts_235 rfl (lv_at hl 2 rfl) ?_
                    refine fg_X6_43 S K h dX6_belts_236 ?_
                    refine lv_iload S.1 S.2.1 dX6_belts_239 (lv_at hl 6 rfl) ?_
                    have k200 := And.left hok
                    replace hok := And.right hok
                    refine al_M12 S K h k200 dX6_belts_241 ?_
                    have k201 := And.left hok
                    replace hok := And.right hok
                    refine as_M15 S K h k201 dX6_belts_242 (fun H locs h => ?_)
                    subst hR
                    exact g_retv S hr hlocks h dX6_belts_243
                  · replace hok := And.left hok c
                    replace hR := (if_pos c).symm.trans hR
                    refine lv_aload_n S.1 S.2.1 dX6_belts_215 rfl (lv_at hl 2 rfl) ?_
                    refine lv_iconst (v := 5) S.1 S.2.1 dX6_belts_216 (by decide) ?_
                    refine fp_X6_127 S K h dX6_belts_217 (fun H locs h => ?_)
                    refine lv_goto (tgt := 243) S.1 S.2.1 dX6_belts_220 (by decide) ?_
                    subst hR
                    exact g_retv S hr hlocks h dX6_belts_243
              · replace hok := And.left hok c
                replace hR := (if_pos c).symm.trans hR
                refine lv_aload_n S.1 S.2.1 dX6_belts_157 rfl (lv_at hl 2 rfl) ?_
                refine fg_X6_43 S K h dX6_belts_158 ?_
                refine lv_iload_n S.1 S.2.1 dX6_belts_161 rfl (lv_at hl 4 rfl) ?_
                refine lv_aload_n S.1 S.2.1 dX6_belts_162 rfl (lv_at hl 2 rfl) ?_
                refine fg_X6_52 S K h dX6_belts_163 ?_
                refine lv_bipush (v := 8) S.1 S.2.1 dX6_belts_166 (by decide) ?_
                refine lv_iload S.1 S.2.1 dX6_belts_168 (lv_at hl 1 rfl) ?_
                refine lv_imul S.1 S.2.1 dX6_belts_170 ?_
                refine lv_iload S.1 S.2.1 dX6_belts_171 (lv_at hl 0 rfl) ?_
                refine lv_iadd S.1 S.2.1 dX6_belts_173 ?_
                have k202 := And.left hok
                replace hok := And.right hok
                refine al_M15 S K h k202 dX6_belts_174 ?_
                have k203 := And.left hok
                replace hok := And.right hok
                refine as_M12 S K h k203 dX6_belts_175 (fun H locs h => ?_)
                refine lv_goto (tgt := 243) S.1 S.2.1 dX6_belts_176 (by decide) ?_
                subst hR
                exact g_retv S hr hlocks h dX6_belts_243
            · replace hok := And.left hok c
              replace hR := (if_pos c).symm.trans hR
              subst hR
              exact g_retv S hr hlocks h dX6_belts_151
        · replace hok := And.right hok c
          replace hR := (if_neg c).symm.trans hR
          refine lv_iconst (v := 1) S.1 S.2.1 dX6_belts_124 (by decide) ?_
          refine lv_goto (tgt := 129) S.1 S.2.1 dX6_belts_125 (by decide) ?_
          have k205 := And.left hok
          replace hok := And.right hok
          refine g_calli (ci := 6) (q0 := 0) S wz_cons K h (c_X6_isThere l D cy q _ A _ _ k205) kc_X6_isThere km_X6_133 ki_X6_isThere ks_X6_isThere kn_X6 yd_X6_isThere ⟨⟨Nat.le_of_ble_eq_true rfl, Nat.le_of_ble_eq_true rfl⟩, rfl, rfl, Nat.zero_le _, Nat.zero_le _⟩ rfl rfl rfl hl.1 (Nat.le_of_ble_eq_true rfl) rfl dX6_belts_129 (fun H locs h => ?_)
          refine lv_if_eq (tgt := 151) S.1 S.2.1 dX6_belts_132 (by decide) (fun c => ?_) (fun c => ?_)
          · replace hok := And.left hok c
            replace hR := (if_pos c).symm.trans hR
            subst hR
            exact g_retv S hr hlocks h dX6_belts_151
          · replace hok := And.right hok c
            replace hR := (if_neg c).symm.trans hR
            refine lv_aload_n S.1 S.2.1 dX6_belts_135 rfl (lv_at hl 2 rfl) ?_
            refine lv_iload S.1 S.2.1 dX6_belts_136 (lv_at hl 0 rfl) ?_
            refine lv_aload_n S.1 S.2.1 dX6_belts_138 rfl (lv_at hl 2 rfl) ?_
            refine fg_X6_46 S K h dX6_belts_139 ?_
            refine lv_iload S.1 S.2.1 dX6_belts_142 (lv_at hl 1 rfl) ?_
            have k207 := And.left hok
            replace hok := And.right hok
            refine al_M13 S K h k207 dX6_belts_144 ?_
            have k209 := And.left hok
            replace hok := And.right hok
            refine g_calli (ci := 6) (q0 := 0) S wz_cons K h (c_X6_isIndex l D cy q _ A _ _ _ k209) kc_X6_isIndex km_X6_137 ki_X6_isIndex ks_X6_isIndex kn_X6 yd_X6_isIndex ⟨⟨Nat.le_of_ble_eq_true rfl, Nat.le_of_ble_eq_true rfl⟩, rfl, rfl, Nat.zero_le _, Nat.zero_le _⟩ rfl rfl rfl hl.1 (Nat.le_of_ble_eq_true rfl) rfl dX6_belts_145 (fun H locs h => ?_)
            refine lv_if_ne (tgt := 152) S.1 S.2.1 dX6_belts_148 (by decide) (fun c => ?_) (fun c => ?_)
            · replace hok := And.right hok c
              replace hR := (if_neg c).symm.trans hR
              refine lv_iload_n S.1 S.2.1 dX6_belts_152 rfl (lv_at hl 3 rfl) ?_
              refine lv_iconst (v := 5) S.1 S.2.1 dX6_belts_153 (by decide) ?_
              refine lv_icmp_ne (tgt := 179) S.1 S.2.1 dX6_belts_154 (by decide) (fun c => ?_) (fun c => ?_)
              · replace hok := And.right hok c
                replace hR := (if_neg c).symm.trans hR
                refine lv_aload_n S.1 S.2.1 dX6_belts_179 rfl (lv_at hl 2 rfl) ?_
                refine fg_X6_43 S K h dX6_belts_180 ?_
                refine lv_iload S.1 S.2.1 dX6_belts_183 (lv_at hl 6 rfl) ?_
                have k211 := And.left hok
                replace hok := And.right hok
                refine al_M12 S K h k211 dX6_belts_185 ?_
                refine lv_iconst (v := -1) S.1 S.2.1 dX6_belts_186 (by decide) ?_
                refine lv_icmp_eq (tgt := 223) S.1 S.2.1 dX6_belts_187 (by decide) (fun c => ?_) (fun c => ?_)
                · replace hok := And.left hok c
                  replace hR := (if_pos c).symm.trans hR
                  refine lv_aload_n S.1 S.2.1 dX6_belts_223 rfl (lv_at hl 2 rfl) ?_
                  refine fg_X6_52 S K h dX6_belts_224 ?_
                  refine lv_bipush (v := 8) S.1 S.2.1 dX6_belts_227 (by decide) ?_
                  refine lv_iload S.1 S.2.1 dX6_belts_229 (lv_at hl 1 rfl) ?_
                  refine lv_imul S.1 S.2.1 dX6_belts_231 ?_
                  refine lv_iload S.1 S.2.1 dX6_belts_232 (lv_at hl 0 rfl) ?_
                  refine lv_iadd S.1 S.2.1 dX6_belts_234 ?_
                  refine lv_aload_n S.1 S.2.1 dX6_belts_235 rfl (lv_at hl 2 rfl) ?_
                  refine fg_X6_43 S K h dX6_belts_236 ?_
                  refine lv_iload S.1 S.2.1 dX6_belts_239 (lv_at hl 6 rfl) ?_
                  have k212 := And.left hok
                  replace hok := And.right hok
                  refine al_M12 S K h k212 dX6_belts_241 ?_
                  have k213 := And.left hok
                  replace hok := And.right hok
                  refine as_M15 S K h k213 dX6_belts_242 (fun H locs h => ?_)
                  subst hR
                  exact g_retv S hr hlocks h dX6_belts_243
                · replace hok := And.right hok c
                  replace hR := (if_neg c).symm.trans hR
                  refine lv_aload_n S.1 S.2.1 dX6_belts_190 rfl (lv_at hl 2 rfl) ?_
                  refine fg_X6_34 S K h dX6_belts_191 ?_
                  refine lv_aload_n S.1 S.2.1 dX6_belts_194 rfl (lv_at hl 2 rfl) ?_
                  refine fg_X6_43 S K h dX6_belts_195 ?_
                  refine lv_iload S.1 S.2.1 dX6_belts_198 (lv_at hl 6 rfl) ?_
                  have k214 := And.left hok
                  replace hok := And.right hok
                  refine al_M12 S K h k214 dX6_belts_200 ?_
                  have k215 := And.left hok
                  replace hok := And.right hok
                  refine al_M9 S K h k215 dX6_belts_201 ?_
                  refine lv_aload_n S.1 S.2.1 dX6_belts_202 rfl (lv_at hl 2 rfl) ?_
                  refine fg_X6_49 S K h dX6_belts_203 ?_
                  refine lv_iload S.1 S.2.1 dX6_belts_206 (lv_at hl 1 rfl) ?_
                  have k216 := And.left hok
                  replace hok := And.right hok
                  refine al_M14 S K h k216 dX6_belts_208 ?_
                  have k218 := And.left hok
                  replace hok := And.right hok
                  refine g_calls S wz_cons K.2 (c_X6_isOf l _ _ k218) kc_X6_isOf km_X6_141 kt_X6_isOf kn_X6 yd_X6_isOf.2 ⟨⟨Nat.le_of_ble_eq_true rfl, Nat.le_of_ble_eq_true rfl⟩, rfl, rfl, Nat.zero_le _, Nat.zero_le _⟩ rfl hl.1 (Nat.le_of_ble_eq_true rfl) rfl dX6_belts_209 ?_
                  refine lv_if_ne (tgt := 223) S.1 S.2.1 dX6_belts_212 (by decide) (fun c => ?_) (fun c => ?_)
                  · replace hok := And.right hok c
                    replace hR := (if_neg c).symm.trans hR
                    refine lv_aload_n S.1 S.2.1 dX6_belts_223 rfl (lv_at hl 2 rfl) ?_
                    refine fg_X6_52 S K h dX6_belts_224 ?_
                    refine lv_bipush (v := 8) S.1 S.2.1 dX6_belts_227 (by decide) ?_
                    refine lv_iload S.1 S.2.1 dX6_belts_229 (lv_at hl 1 rfl) ?_
                    refine lv_imul S.1 S.2.1 dX6_belts_231 ?_
                    refine lv_iload S.1 S.2.1 dX6_belts_232 (lv_at hl 0 rfl) ?_
                    refine lv_iadd S.1 S.2.1 dX6_belts_234 ?_
                    refine lv_aload_n S.1 S.2.1 dX6_belts_235 rfl (lv_at hl 2 rfl) ?_
                    refine fg_X6_43 S K h dX6_belts_236 ?_
                    refine lv_iload S.1 S.2.1 dX6_belts_239 (lv_at hl 6 rfl) ?_
                    have k220 := And.left hok
                    replace hok := And.right hok
                    refine al_M12 S K h k220 dX6_belts_241 ?_
                    have k221 := And.left hok
                    replace hok := And.right hok
                    refine as_M15 S K h k221 dX6_belts_242 (fun H locs h => ?_)
                    subst hR
                    exact g_retv S hr hlocks h dX6_belts_243
                  · replace hok := And.left hok c
                    replace hR := (if_pos c).symm.trans hR
                    refine lv_aload_n S.1 S.2.1 dX6_belts_215 rfl (lv_at hl 2 rfl) ?_
                    refine lv_iconst (v := 5) S.1 S.2.1 dX6_belts_216 (by decide) ?_
                    refine fp_X6_127 S K h dX6_belts_217 (fun H locs h => ?_)
                    refine lv_goto (tgt := 243) S.1 S.2.1 dX6_belts_220 (by decide) ?_
                    subst hR
                    exact g_retv S hr hlocks h dX6_belts_243
              · replace hok := And.left hok c
                replace hR := (if_pos c).symm.trans hR
                refine lv_aload_n S.1 S.2.1 dX6_belts_157 rfl (lv_at hl 2 rfl) ?_
                refine fg_X6_43 S K h dX6_belts_158 ?_
                refine lv_iload_n S.1 S.2.1 dX6_belts_161 rfl (lv_at hl 4 rfl) ?_
                refine lv_aload_n S.1 S.2.1 dX6_belts_162 rfl (lv_at hl 2 rfl) ?_
                refine fg_X6_52 S K h dX6_belts_163 ?_
                refine lv_bipush (v := 8) S.1 S.2.1 dX6_belts_166 (by decide) ?_
                refine lv_iload S.1 S.2.1 dX6_belts_168 (lv_at hl 1 rfl) ?_
                refine lv_imul S.1 S.2.1 dX6_belts_170 ?_
                refine lv_iload S.1 S.2.1 dX6_belts_171 (lv_at hl 0 rfl) ?_
                refine lv_iadd S.1 S.2.1 dX6_belts_173 ?_
                have k222 := And.left hok
                replace hok := And.right hok
                refine al_M15 S K h k222 dX6_belts_174 ?_
                have k223 := And.left hok
                replace hok := And.right hok
                refine as_M12 S K h k223 dX6_belts_175 (fun H locs h => ?_)
                refine lv_goto (tgt := 243) S.1 S.2.1 dX6_belts_176 (by decide) ?_
                subst hR
                exact g_retv S hr hlocks h dX6_belts_243
            · replace hok := And.left hok c
              replace hR := (if_pos c).symm.trans hR
              subst hR
              exact g_retv S hr hlocks h dX6_belts_151
      · replace hok := And.left hok c
        replace hR := (if_pos c).symm.trans hR
        refine lv_aload_n S.1 S.2.1 dX6_belts_94 rfl (lv_at hl 1 rfl) ?_
        refine fg_X6_74 S K h dX6_belts_95 ?_
        refine lv_iload_n S.1 S.2.1 dX6_belts_98 rfl (lv_at hl 4 rfl) ?_
        have k224 := And.left hok
        replace hok := And.right hok
        refine al_M22 S K h k224 dX6_belts_99 ?_
        refine lv_goto (tgt := 110) S.1 S.2.1 dX6_belts_100 (by decide) ?_
        refine lv_istore (lv' := [(6, .int _), (5, .int _), (0, .ref _), (1, .int _), (2, .int _), (3, .int _), (4, .int _)]) S.1 S.2.1 dX6_belts_110 hl (by decide) rfl (fun ls hl => ?_)
        refine lv_aload_n S.1 S.2.1 dX6_belts_112 rfl (lv_at hl 2 rfl) ?_
        refine lv_aload_n S.1 S.2.1 dX6_belts_113 rfl (lv_at hl 2 rfl) ?_
        refine fg_X6_46 S K h dX6_belts_114 ?_
        refine lv_iload S.1 S.2.1 dX6_belts_117 (lv_at hl 1 rfl) ?_
        have k225 := And.left hok
        replace hok := And.right hok
        refine al_M13 S K h k225 dX6_belts_119 ?_
        refine lv_iconst (v := -1) S.1 S.2.1 dX6_belts_120 (by decide) ?_
        refine lv_icmp_eq (tgt := 128) S.1 S.2.1 dX6_belts_121 (by decide) (fun c => ?_) (fun c => ?_)
        · replace hok := And.left hok c
          replace hR := (if_pos c).symm.trans hR
          refine lv_iconst (v := 0) S.1 S.2.1 dX6_belts_128 (by decide) ?_
          have k227 := And.left hok
          replace hok := And.right hok
          refine g_calli (ci := 6) (q0 := 0) S wz_cons K h (c_X6_isThere l D cy q _ A _ _ k227) kc_X6_isThere km_X6_133 ki_X6_isThere ks_X6_isThere kn_X6 yd_X6_isThere ⟨⟨Nat.le_of_ble_eq_true rfl, Nat.le_of_ble_eq_true rfl⟩, rfl, rfl, Nat.zero_le _, Nat.zero_le _⟩ rfl rfl rfl hl.1 (Nat.le_of_ble_eq_true rfl) rfl dX6_belts_129 (fun H locs h => ?_)
          refine lv_if_eq (tgt := 151) S.1 S.2.1 dX6_belts_132 (by decide) (fun c => ?_) (fun c => ?_)
          · replace hok := And.left hok c
            replace hR := (if_pos c).symm.trans hR
            subst hR
            exact g_retv S hr hlocks h dX6_belts_151
          · replace hok := And.right hok c
            replace hR := (if_neg c).symm.trans hR
            refine lv_aload_n S.1 S.2.1 dX6_belts_135 rfl (lv_at hl 2 rfl) ?_
            refine lv_iload S.1 S.2.1 dX6_belts_136 (lv_at hl 0 rfl) ?_
            refine lv_aload_n S.1 S.2.1 dX6_belts_138 rfl (lv_at hl 2 rfl) ?_
            refine fg_X6_46 S K h dX6_belts_139 ?_
            refine lv_iload S.1 S.2.1 dX6_belts_142 (lv_at hl 1 rfl) ?_
            have k229 := And.left hok
            replace hok := And.right hok
            refine al_M13 S K h k229 dX6_belts_144 ?_
            have k231 := And.left hok
            replace hok := And.right hok
            refine g_calli (ci := 6) (q0 := 0) S wz_cons K h (c_X6_isIndex l D cy q _ A _ _ _ k231) kc_X6_isIndex km_X6_137 ki_X6_isIndex ks_X6_isIndex kn_X6 yd_X6_isIndex ⟨⟨Nat.le_of_ble_eq_true rfl, Nat.le_of_ble_eq_true rfl⟩, rfl, rfl, Nat.zero_le _, Nat.zero_le _⟩ rfl rfl rfl hl.1 (Nat.le_of_ble_eq_true rfl) rfl dX6_belts_145 (fun H locs h => ?_)
            refine lv_if_ne (tgt := 152) S.1 S.2.1 dX6_belts_148 (by decide) (fun c => ?_) (fun c => ?_)
            · replace hok := And.right hok c
              replace hR := (if_neg c).symm.trans hR
              refine lv_iload_n S.1 S.2.1 dX6_belts_152 rfl (lv_at hl 3 rfl) ?_
              refine lv_iconst (v := 5) S.1 S.2.1 dX6_belts_153 (by decide) ?_
              refine lv_icmp_ne (tgt := 179) S.1 S.2.1 dX6_belts_154 (by decide) (fun c => ?_) (fun c => ?_)
              · replace hok := And.right hok c
                replace hR := (if_neg c).symm.trans hR
                refine lv_aload_n S.1 S.2.1 dX6_belts_179 rfl (lv_at hl 2 rfl) ?_
                refine fg_X6_43 S K h dX6_belts_180 ?_
                refine lv_iload S.1 S.2.1 dX6_belts_183 (lv_at hl 6 rfl) ?_
                have k233 := And.left hok
                replace hok := And.right hok
                refine al_M12 S K h k233 dX6_belts_185 ?_
                refine lv_iconst (v := -1) S.1 S.2.1 dX6_belts_186 (by decide) ?_
                refine lv_icmp_eq (tgt := 223) S.1 S.2.1 dX6_belts_187 (by decide) (fun c => ?_) (fun c => ?_)
                · replace hok := And.left hok c
                  replace hR := (if_pos c).symm.trans hR
                  refine lv_aload_n S.1 S.2.1 dX6_belts_223 rfl (lv_at hl 2 rfl) ?_
                  refine fg_X6_52 S K h dX6_belts_224 ?_
                  refine lv_bipush (v := 8) S.1 S.2.1 dX6_belts_227 (by decide) ?_
                  refine lv_iload S.1 S.2.1 dX6_belts_229 (lv_at hl 1 rfl) ?_
                  refine lv_imul S.1 S.2.1 dX6_belts_231 ?_
                  refine lv_iload S.1 S.2.1 dX6_belts_232 (lv_at hl 0 rfl) ?_
                  refine lv_iadd S.1 S.2.1 dX6_belts_234 ?_
                  refine lv_aload_n S.1 S.2.1 dX6_belts_235 rfl (lv_at hl 2 rfl) ?_
                  refine fg_X6_43 S K h dX6_belts_236 ?_
                  refine lv_iload S.1 S.2.1 dX6_belts_239 (lv_at hl 6 rfl) ?_
                  have k234 := And.left hok
                  replace hok := And.right hok
                  refine al_M12 S K h k234 dX6_belts_241 ?_
                  have k235 := And.left hok
                  replace hok := And.right hok
                  refine as_M15 S K h k235 dX6_belts_242 (fun H locs h => ?_)
                  subst hR
                  exact g_retv S hr hlocks h dX6_belts_243
                · replace hok := And.right hok c
                  replace hR := (if_neg c).symm.trans hR
                  refine lv_aload_n S.1 S.2.1 dX6_belts_190 rfl (lv_at hl 2 rfl) ?_
                  refine fg_X6_34 S K h dX6_belts_191 ?_
                  refine lv_aload_n S.1 S.2.1 dX6_belts_194 rfl (lv_at hl 2 rfl) ?_
                  refine fg_X6_43 S K h dX6_belts_195 ?_
                  refine lv_iload S.1 S.2.1 dX6_belts_198 (lv_at hl 6 rfl) ?_
                  have k236 := And.left hok
                  replace hok := And.right hok
                  refine al_M12 S K h k236 dX6_belts_200 ?_
                  have k237 := And.left hok
                  replace hok := And.right hok
                  refine al_M9 S K h k237 dX6_belts_201 ?_
                  refine lv_aload_n S.1 S.2.1 dX6_belts_202 rfl (lv_at hl 2 rfl) ?_
                  refine fg_X6_49 S K h dX6_belts_203 ?_
                  refine lv_iload S.1 S.2.1 dX6_belts_206 (lv_at hl 1 rfl) ?_
                  have k238 := And.left hok
                  replace hok := And.right hok
                  refine al_M14 S K h k238 dX6_belts_208 ?_
                  have k240 := And.left hok
                  replace hok := And.right hok
                  refine g_calls S wz_cons K.2 (c_X6_isOf l _ _ k240) kc_X6_isOf km_X6_141 kt_X6_isOf kn_X6 yd_X6_isOf.2 ⟨⟨Nat.le_of_ble_eq_true rfl, Nat.le_of_ble_eq_true rfl⟩, rfl, rfl, Nat.zero_le _, Nat.zero_le _⟩ rfl hl.1 (Nat.le_of_ble_eq_true rfl) rfl dX6_belts_209 ?_
                  refine lv_if_ne (tgt := 223) S.1 S.2.1 dX6_belts_212 (by decide) (fun c => ?_) (fun c => ?_)
                  · replace hok := And.right hok c
                    replace hR := (if_neg c).symm.trans hR
                    refine lv_aload_n S.1 S.2.1 dX6_belts_223 rfl (lv_at hl 2 rfl) ?_
                    refine fg_X6_52 S K h dX6_belts_224 ?_
                    refine lv_bipush (v := 8) S.1 S.2.1 dX6_belts_227 (by decide) ?_
                    refine lv_iload S.1 S.2.1 dX6_belts_229 (lv_at hl 1 rfl) ?_
                    refine lv_imul S.1 S.2.1 dX6_belts_231 ?_
                    refine lv_iload S.1 S.2.1 dX6_belts_232 (lv_at hl 0 rfl) ?_
                    refine lv_iadd S.1 S.2.1 dX6_belts_234 ?_
                    refine lv_aload_n S.1 S.2.1 dX6_belts_235 rfl (lv_at hl 2 rfl) ?_
                    refine fg_X6_43 S K h dX6_belts_236 ?_
                    refine lv_iload S.1 S.2.1 dX6_belts_239 (lv_at hl 6 rfl) ?_
                    have k242 := And.left hok
                    replace hok := And.right hok
                    refine al_M12 S K h k242 dX6_belts_241 ?_
                    have k243 := And.left hok
                    replace hok := And.right hok
                    refine as_M15 S K h k243 dX6_belts_242 (fun H locs h => ?_)
                    subst hR
                    exact g_retv S hr hlocks h dX6_belts_243
                  · replace hok := And.left hok c
                    replace hR := (if_pos c).symm.trans hR
                    refine lv_aload_n S.1 S.2.1 dX6_belts_215 rfl (lv_at hl 2 rfl) ?_
                    refine lv_iconst (v := 5) S.1 S.2.1 dX6_belts_216 (by decide) ?_
                    refine fp_X6_127 S K h dX6_belts_217 (fun H locs h => ?_)
                    refine lv_goto (tgt := 243) S.1 S.2.1 dX6_belts_220 (by decide) ?_
                    subst hR
                    exact g_retv S hr hlocks h dX6_belts_243
              · replace hok := And.left hok c
                replace hR := (if_pos c).symm.trans hR
                refine lv_aload_n S.1 S.2.1 dX6_belts_157 rfl (lv_at hl 2 rfl) ?_
                refine fg_X6_43 S K h dX6_belts_158 ?_
                refine lv_iload_n S.1 S.2.1 dX6_belts_161 rfl (lv_at hl 4 rfl) ?_
                refine lv_aload_n S.1 S.2.1 dX6_belts_162 rfl (lv_at hl 2 rfl) ?_
                refine fg_X6_52 S K h dX6_belts_163 ?_
                refine lv_bipush (v := 8) S.1 S.2.1 dX6_belts_166 (by decide) ?_
                refine lv_iload S.1 S.2.1 dX6_belts_168 (lv_at hl 1 rfl) ?_
                refine lv_imul S.1 S.2.1 dX6_belts_170 ?_
                refine lv_iload S.1 S.2.1 dX6_belts_171 (lv_at hl 0 rfl) ?_
                refine lv_iadd S.1 S.2.1 dX6_belts_173 ?_
                have k244 := And.left hok
                replace hok := And.right hok
                refine al_M15 S K h k244 dX6_belts_174 ?_
                have k245 := And.left hok
                replace hok := And.right hok
                refine as_M12 S K h k245 dX6_belts_175 (fun H locs h => ?_)
                refine lv_goto (tgt := 243) S.1 S.2.1 dX6_belts_176 (by decide) ?_
                subst hR
                exact g_retv S hr hlocks h dX6_belts_243
            · replace hok := And.left hok c
              replace hR := (if_pos c).symm.trans hR
              subst hR
              exact g_retv S hr hlocks h dX6_belts_151
        · replace hok := And.right hok c
          replace hR := (if_neg c).symm.trans hR
          refine lv_iconst (v := 1) S.1 S.2.1 dX6_belts_124 (by decide) ?_
          refine lv_goto (tgt := 129) S.1 S.2.1 dX6_belts_125 (by decide) ?_
          have k247 := And.left hok
          replace hok := And.right hok
          refine g_calli (ci := 6) (q0 := 0) S wz_cons K h (c_X6_isThere l D cy q _ A _ _ k247) kc_X6_isThere km_X6_133 ki_X6_isThere ks_X6_isThere kn_X6 yd_X6_isThere ⟨⟨Nat.le_of_ble_eq_true rfl, Nat.le_of_ble_eq_true rfl⟩, rfl, rfl, Nat.zero_le _, Nat.zero_le _⟩ rfl rfl rfl hl.1 (Nat.le_of_ble_eq_true rfl) rfl dX6_belts_129 (fun H locs h => ?_)
          refine lv_if_eq (tgt := 151) S.1 S.2.1 dX6_belts_132 (by decide) (fun c => ?_) (fun c => ?_)
          · replace hok := And.left hok c
            replace hR := (if_pos c).symm.trans hR
            subst hR
            exact g_retv S hr hlocks h dX6_belts_151
          · replace hok := And.right hok c
            replace hR := (if_neg c).symm.trans hR
            refine lv_aload_n S.1 S.2.1 dX6_belts_135 rfl (lv_at hl 2 rfl) ?_
            refine lv_iload S.1 S.2.1 dX6_belts_136 (lv_at hl 0 rfl) ?_
            refine lv_aload_n S.1 S.2.1 dX6_belts_138 rfl (lv_at hl 2 rfl) ?_
            refine fg_X6_46 S K h dX6_belts_139 ?_
            refine lv_iload S.1 S.2.1 dX6_belts_142 (lv_at hl 1 rfl) ?_
            have k249 := And.left hok
            replace hok := And.right hok
            refine al_M13 S K h k249 dX6_belts_144 ?_
            have k251 := And.left hok
            replace hok := And.right hok
            refine g_calli (ci := 6) (q0 := 0) S wz_cons K h (c_X6_isIndex l D cy q _ A _ _ _ k251) kc_X6_isIndex km_X6_137 ki_X6_isIndex ks_X6_isIndex kn_X6 yd_X6_isIndex ⟨⟨Nat.le_of_ble_eq_true rfl, Nat.le_of_ble_eq_true rfl⟩, rfl, rfl, Nat.zero_le _, Nat.zero_le _⟩ rfl rfl rfl hl.1 (Nat.le_of_ble_eq_true rfl) rfl dX6_belts_145 (fun H locs h => ?_)
            refine lv_if_ne (tgt := 152) S.1 S.2.1 dX6_belts_148 (by decide) (fun c => ?_) (fun c => ?_)
            · replace hok := And.right hok c
              replace hR := (if_neg c).symm.trans hR
              refine lv_iload_n S.1 S.2.1 dX6_belts_152 rfl (lv_at hl 3 rfl) ?_
              refine lv_iconst (v := 5) S.1 S.2.1 dX6_belts_153 (by decide) ?_
              refine lv_icmp_ne (tgt := 179) S.1 S.2.1 dX6_belts_154 (by decide) (fun c => ?_) (fun c => ?_)
              · replace hok := And.right hok c
                replace hR := (if_neg c).symm.trans hR
                refine lv_aload_n S.1 S.2.1 dX6_belts_179 rfl (lv_at hl 2 rfl) ?_
                refine fg_X6_43 S K h dX6_belts_180 ?_
                refine lv_iload S.1 S.2.1 dX6_belts_183 (lv_at hl 6 rfl) ?_
                have k253 := And.left hok
                replace hok := And.right hok
                refine al_M12 S K h k253 dX6_belts_185 ?_
                refine lv_iconst (v := -1) S.1 S.2.1 dX6_belts_186 (by decide) ?_
                refine lv_icmp_eq (tgt := 223) S.1 S.2.1 dX6_belts_187 (by decide) (fun c => ?_) (fun c => ?_)
                · replace hok := And.left hok c
                  replace hR := (if_pos c).symm.trans hR
                  refine lv_aload_n S.1 S.2.1 dX6_belts_223 rfl (lv_at hl 2 rfl) ?_
                  refine fg_X6_52 S K h dX6_belts_224 ?_
                  refine lv_bipush (v := 8) S.1 S.2.1 dX6_belts_227 (by decide) ?_
                  refine lv_iload S.1 S.2.1 dX6_belts_229 (lv_at hl 1 rfl) ?_
                  refine lv_imul S.1 S.2.1 dX6_belts_231 ?_
                  refine lv_iload S.1 S.2.1 dX6_belts_232 (lv_at hl 0 rfl) ?_
                  refine lv_iadd S.1 S.2.1 dX6_belts_234 ?_
                  refine lv_aload_n S.1 S.2.1 dX6_belts_235 rfl (lv_at hl 2 rfl) ?_
                  refine fg_X6_43 S K h dX6_belts_236 ?_
                  refine lv_iload S.1 S.2.1 dX6_belts_239 (lv_at hl 6 rfl) ?_
                  have k254 := And.left hok
                  replace hok := And.right hok
                  refine al_M12 S K h k254 dX6_belts_241 ?_
                  have k255 := And.left hok
                  replace hok := And.right hok
                  refine as_M15 S K h k255 dX6_belts_242 (fun H locs h => ?_)
                  subst hR
                  exact g_retv S hr hlocks h dX6_belts_243
                · replace hok := And.right hok c
                  replace hR := (if_neg c).symm.trans hR
                  refine lv_aload_n S.1 S.2.1 dX6_belts_190 rfl (lv_at hl 2 rfl) ?_
                  refine fg_X6_34 S K h dX6_belts_191 ?_
                  refine lv_aload_n S.1 S.2.1 dX6_belts_194 rfl (lv_at hl 2 rfl) ?_
                  refine fg_X6_43 S K h dX6_belts_195 ?_
                  refine lv_iload S.1 S.2.1 dX6_belts_198 (lv_at hl 6 rfl) ?_
                  have k256 := And.left hok
                  replace hok := And.right hok
                  refine al_M12 S K h k256 dX6_belts_200 ?_
                  have k257 := And.left hok
                  replace hok := And.right hok
                  refine al_M9 S K h k257 dX6_belts_201 ?_
                  refine lv_aload_n S.1 S.2.1 dX6_belts_202 rfl (lv_at hl 2 rfl) ?_
                  refine fg_X6_49 S K h dX6_belts_203 ?_
                  refine lv_iload S.1 S.2.1 dX6_belts_206 (lv_at hl 1 rfl) ?_
                  have k258 := And.left hok
                  replace hok := And.right hok
                  refine al_M14 S K h k258 dX6_belts_208 ?_
                  have k260 := And.left hok
                  replace hok := And.right hok
                  refine g_calls S wz_cons K.2 (c_X6_isOf l _ _ k260) kc_X6_isOf km_X6_141 kt_X6_isOf kn_X6 yd_X6_isOf.2 ⟨⟨Nat.le_of_ble_eq_true rfl, Nat.le_of_ble_eq_true rfl⟩, rfl, rfl, Nat.zero_le _, Nat.zero_le _⟩ rfl hl.1 (Nat.le_of_ble_eq_true rfl) rfl dX6_belts_209 ?_
                  refine lv_if_ne (tgt := 223) S.1 S.2.1 dX6_belts_212 (by decide) (fun c => ?_) (fun c => ?_)
                  · replace hok := And.right hok c
                    replace hR := (if_neg c).symm.trans hR
                    refine lv_aload_n S.1 S.2.1 dX6_belts_223 rfl (lv_at hl 2 rfl) ?_
                    refine fg_X6_52 S K h dX6_belts_224 ?_
                    refine lv_bipush (v := 8) S.1 S.2.1 dX6_belts_227 (by decide) ?_
                    refine lv_iload S.1 S.2.1 dX6_belts_229 (lv_at hl 1 rfl) ?_
                    refine lv_imul S.1 S.2.1 dX6_belts_231 ?_
                    refine lv_iload S.1 S.2.1 dX6_belts_232 (lv_at hl 0 rfl) ?_
                    refine lv_iadd S.1 S.2.1 dX6_belts_234 ?_
                    refine lv_aload_n S.1 S.2.1 dX6_belts_235 rfl (lv_at hl 2 rfl) ?_
                    refine fg_X6_43 S K h dX6_belts_236 ?_
                    refine lv_iload S.1 S.2.1 dX6_belts_239 (lv_at hl 6 rfl) ?_
                    have k262 := And.left hok
                    replace hok := And.right hok
                    refine al_M12 S K h k262 dX6_belts_241 ?_
                    have k263 := And.left hok
                    replace hok := And.right hok
                    refine as_M15 S K h k263 dX6_belts_242 (fun H locs h => ?_)
                    subst hR
                    exact g_retv S hr hlocks h dX6_belts_243
                  · replace hok := And.left hok c
                    replace hR := (if_pos c).symm.trans hR
                    refine lv_aload_n S.1 S.2.1 dX6_belts_215 rfl (lv_at hl 2 rfl) ?_
                    refine lv_iconst (v := 5) S.1 S.2.1 dX6_belts_216 (by decide) ?_
                    refine fp_X6_127 S K h dX6_belts_217 (fun H locs h => ?_)
                    refine lv_goto (tgt := 243) S.1 S.2.1 dX6_belts_220 (by decide) ?_
                    subst hR
                    exact g_retv S hr hlocks h dX6_belts_243
              · replace hok := And.left hok c
                replace hR := (if_pos c).symm.trans hR
                refine lv_aload_n S.1 S.2.1 dX6_belts_157 rfl (lv_at hl 2 rfl) ?_
                refine fg_X6_43 S K h dX6_belts_158 ?_
                refine lv_iload_n S.1 S.2.1 dX6_belts_161 rfl (lv_at hl 4 rfl) ?_
                refine lv_aload_n S.1 S.2.1 dX6_belts_162 rfl (lv_at hl 2 rfl) ?_
                refine fg_X6_52 S K h dX6_belts_163 ?_
                refine lv_bipush (v := 8) S.1 S.2.1 dX6_belts_166 (by decide) ?_
                refine lv_iload S.1 S.2.1 dX6_belts_168 (lv_at hl 1 rfl) ?_
                refine lv_imul S.1 S.2.1 dX6_belts_170 ?_
                refine lv_iload S.1 S.2.1 dX6_belts_171 (lv_at hl 0 rfl) ?_
                refine lv_iadd S.1 S.2.1 dX6_belts_173 ?_
                have k264 := And.left hok
                replace hok := And.right hok
                refine al_M15 S K h k264 dX6_belts_174 ?_
                have k265 := And.left hok
                replace hok := And.right hok
                refine as_M12 S K h k265 dX6_belts_175 (fun H locs h => ?_)
                refine lv_goto (tgt := 243) S.1 S.2.1 dX6_belts_176 (by decide) ?_
                subst hR
                exact g_retv S hr hlocks h dX6_belts_243
            · replace hok := And.left hok c
              replace hR := (if_pos c).symm.trans hR
              subst hR
              exact g_retv S hr hlocks h dX6_belts_151
    · replace hok := And.left hok c
      replace hR := (if_pos c).symm.trans hR
      refine lv_aload_n S.1 S.2.1 dX6_belts_26 rfl (lv_at hl 1 rfl) ?_
      refine fg_X6_74 S K h dX6_belts_27 ?_
      refine lv_iload S.1 S.2.1 dX6_belts_30 (lv_at hl 5 rfl) ?_
      have k266 := And.left hok
      replace hok := And.right hok
      refine al_M22 S K h k266 dX6_belts_32 ?_
      refine lv_istore (lv' := [(6, .int _), (5, .int _), (0, .ref _), (1, .int _), (2, .int _), (3, .int _), (4, .int _)]) S.1 S.2.1 dX6_belts_33 hl (by decide) rfl (fun ls hl => ?_)
      refine lv_aload_n S.1 S.2.1 dX6_belts_35 rfl (lv_at hl 2 rfl) ?_
      refine lv_iload S.1 S.2.1 dX6_belts_36 (lv_at hl 0 rfl) ?_
      have k268 := And.left hok
      replace hok := And.right hok
      refine g_calli (ci := 6) (q0 := 0) S wz_cons K h (c_X6_isSize l D cy q _ A _ _ k268) kc_X6_isSize km_X6_130 ki_X6_isSize ks_X6_isSize kn_X6 yd_X6_isSize ⟨⟨Nat.le_of_ble_eq_true rfl, Nat.le_of_ble_eq_true rfl⟩, rfl, rfl, Nat.zero_le _, Nat.zero_le _⟩ rfl rfl rfl hl.1 (Nat.le_of_ble_eq_true rfl) rfl dX6_belts_38 (fun H locs h => ?_)
      refine lv_if_eq (tgt := 88) S.1 S.2.1 dX6_belts_41 (by decide) (fun c => ?_) (fun c => ?_)
      · replace hok := And.left hok c
        replace hR := (if_pos c).symm.trans hR
        subst hR
        exact g_retv S hr hlocks h dX6_belts_88
      · replace hok := And.right hok c
        replace hR := (if_neg c).symm.trans hR
        refine lv_aload_n S.1 S.2.1 dX6_belts_44 rfl (lv_at hl 2 rfl) ?_
        refine fg_X6_46 S K h dX6_belts_45 ?_
        refine lv_iload_n S.1 S.2.1 dX6_belts_48 rfl (lv_at hl 4 rfl) ?_
        refine lv_iload S.1 S.2.1 dX6_belts_49 (lv_at hl 0 rfl) ?_
        have k270 := And.left hok
        replace hok := And.right hok
        refine as_M13 S K h k270 dX6_belts_51 (fun H locs h => ?_)
        refine lv_aload_n S.1 S.2.1 dX6_belts_52 rfl (lv_at hl 2 rfl) ?_
        refine fg_X6_49 S K h dX6_belts_53 ?_
        refine lv_iload_n S.1 S.2.1 dX6_belts_56 rfl (lv_at hl 4 rfl) ?_
        refine lv_iload_n S.1 S.2.1 dX6_belts_57 rfl (lv_at hl 5 rfl) ?_
        have k271 := And.left hok
        replace hok := And.right hok
        refine as_M14 S K h k271 dX6_belts_58 (fun H locs h => ?_)
        refine lv_iconst (v := 0) S.1 S.2.1 dX6_belts_59 (by decide) ?_
        refine lv_istore (lv' := [(7, .int _), (6, .int _), (5, .int _), (0, .ref _), (1, .int _), (2, .int _), (3, .int _), (4, .int _)]) S.1 S.2.1 dX6_belts_60 hl (by decide) rfl (fun ls hl => ?_)
        exact w_X6_belts_62  S K hr hlocks 100 _ _ _ _ _ _ _ _ _ _ _ R hok hR h (lv_sub hl [3, 4, 5, 6, 7, 2, 1, 0] rfl)
def xr_X6_one (σ : GS) (a1 : Int32) (a2 : Int32) (a3 : Int32) : Int32 × GS := if a1 = 9 then if a1 = 12 then if (σ 12 a2.toNatClampNeg) = (-1) then (0, st σ 0 27 0) else if (xr_X6_isOf (σ 9 (σ 12 a2.toNatClampNeg).toNatClampNeg) a3) = 0 then (0, st σ 0 27 4) else (0, st σ 0 27 0) else if (σ 12 a2.toNatClampNeg) = (-1) then bd (xr_X6_isThere σ 0) (fun v2 σ4 => if v2 = 0 then (0, σ4) else if a1 = 8 then (0, st σ4 22 a2.toNatClampNeg (σ4 10 (σ 12 a2.toNatClampNeg).toNatClampNeg)) else if a1 = 9 then (0, st σ4 10 (σ 12 a2.toNatClampNeg).toNatClampNeg (σ4 22 a3.toNatClampNeg)) else if a1 = 10 then bd (xr_X6_stamped σ4 (σ 12 a2.toNatClampNeg)) (fun v8 σ10 => (0, st σ10 22 a2.toNatClampNeg v8)) else bd (xr_X6_feed σ4 a2 (σ 12 a2.toNatClampNeg)) (fun v5 σ7 => (0, σ7))) else bd (xr_X6_isThere σ 1) (fun v16 σ18 => if v16 = 0 then (0, σ18) else if a1 = 8 then (0, st σ18 22 a2.toNatClampNeg (σ18 10 (σ 12 a2.toNatClampNeg).toNatClampNeg)) else if a1 = 9 then (0, st σ18 10 (σ 12 a2.toNatClampNeg).toNatClampNeg (σ18 22 a3.toNatClampNeg)) else if a1 = 10 then bd (xr_X6_stamped σ18 (σ 12 a2.toNatClampNeg)) (fun v22 σ24 => (0, st σ24 22 a2.toNatClampNeg v22)) else bd (xr_X6_feed σ18 a2 (σ 12 a2.toNatClampNeg)) (fun v19 σ21 => (0, σ21))) else if a1 = 12 then if a1 = 12 then if (σ 12 a2.toNatClampNeg) = (-1) then (0, st σ 0 27 0) else if (xr_X6_isOf (σ 9 (σ 12 a2.toNatClampNeg).toNatClampNeg) a3) = 0 then (0, st σ 0 27 4) else (0, st σ 0 27 0) else if (σ 12 a2.toNatClampNeg) = (-1) then bd (xr_X6_isThere σ 0) (fun v68 σ70 => if v68 = 0 then (0, σ70) else if a1 = 8 then (0, st σ70 22 a2.toNatClampNeg (σ70 10 (σ 12 a2.toNatClampNeg).toNatClampNeg)) else if a1 = 9 then (0, st σ70 10 (σ 12 a2.toNatClampNeg).toNatClampNeg (σ70 22 a3.toNatClampNeg)) else if a1 = 10 then bd (xr_X6_stamped σ70 (σ 12 a2.toNatClampNeg)) (fun v74 σ76 => (0, st σ76 22 a2.toNatClampNeg v74)) else bd (xr_X6_feed σ70 a2 (σ 12 a2.toNatClampNeg)) (fun v71 σ73 => (0, σ73))) else bd (xr_X6_isThere σ 1) (fun v82 σ84 => if v82 = 0 then (0, σ84) else if a1 = 8 then (0, st σ84 22 a2.toNatClampNeg (σ84 10 (σ 12 a2.toNatClampNeg).toNatClampNeg)) else if a1 = 9 then (0, st σ84 10 (σ 12 a2.toNatClampNeg).toNatClampNeg (σ84 22 a3.toNatClampNeg)) else if a1 = 10 then bd (xr_X6_stamped σ84 (σ 12 a2.toNatClampNeg)) (fun v88 σ90 => (0, st σ90 22 a2.toNatClampNeg v88)) else bd (xr_X6_feed σ84 a2 (σ 12 a2.toNatClampNeg)) (fun v85 σ87 => (0, σ87))) else if a1 = 12 then if (σ 12 a3.toNatClampNeg) = (-1) then (0, st σ 0 27 0) else if (xr_X6_isOf (σ 9 (σ 12 a3.toNatClampNeg).toNatClampNeg) a3) = 0 then (0, st σ 0 27 4) else (0, st σ 0 27 0) else if (σ 12 a3.toNatClampNeg) = (-1) then bd (xr_X6_isThere σ 0) (fun v35 σ37 => if v35 = 0 then (0, σ37) else if a1 = 8 then (0, st σ37 22 a2.toNatClampNeg (σ37 10 (σ 12 a3.toNatClampNeg).toNatClampNeg)) else if a1 = 9 then (0, st σ37 10 (σ 12 a3.toNatClampNeg).toNatClampNeg (σ37 22 a3.toNatClampNeg)) else if a1 = 10 then bd (xr_X6_stamped σ37 (σ 12 a3.toNatClampNeg)) (fun v41 σ43 => (0, st σ43 22 a2.toNatClampNeg v41)) else bd (xr_X6_feed σ37 a2 (σ 12 a3.toNatClampNeg)) (fun v38 σ40 => (0, σ40))) else bd (xr_X6_isThere σ 1) (fun v49 σ51 => if v49 = 0 then (0, σ51) else if a1 = 8 then (0, st σ51 22 a2.toNatClampNeg (σ51 10 (σ 12 a3.toNatClampNeg).toNatClampNeg)) else if a1 = 9 then (0, st σ51 10 (σ 12 a3.toNatClampNeg).toNatClampNeg (σ51 22 a3.toNatClampNeg)) else if a1 = 10 then bd (xr_X6_stamped σ51 (σ 12 a3.toNatClampNeg)) (fun v55 σ57 => (0, st σ57 22 a2.toNatClampNeg v55)) else bd (xr_X6_feed σ51 a2 (σ 12 a3.toNatClampNeg)) (fun v52 σ54 => (0, σ54)))
def xo_X6_one (σ : GS) (a1 : Int32) (a2 : Int32) (a3 : Int32) : Prop := (a1 = 9 → vp_in a2 8 ∧ ((a1 = 12 → ((σ 12 a2.toNatClampNeg) = (-1) → True) ∧ (¬ ((σ 12 a2.toNatClampNeg) = (-1)) → vp_in (σ 12 a2.toNatClampNeg) 64 ∧ ((xo_X6_isOf (σ 9 (σ 12 a2.toNatClampNeg).toNatClampNeg) a3) ∧ (((xr_X6_isOf (σ 9 (σ 12 a2.toNatClampNeg).toNatClampNeg) a3) = 0 → True) ∧ (¬ ((xr_X6_isOf (σ 9 (σ 12 a2.toNatClampNeg).toNatClampNeg) a3) = 0) → True))))) ∧ (¬ (a1 = 12) → ((σ 12 a2.toNatClampNeg) = (-1) → (xo_X6_isThere σ 0) ∧ bd (xr_X6_isThere σ 0) (fun v2 σ4 => (v2 = 0 → True) ∧ (¬ (v2 = 0) → (a1 = 8 → vp_in (σ 12 a2.toNatClampNeg) 64 ∧ (vp_in a2 6 ∧ (True))) ∧ (¬ (a1 = 8) → (a1 = 9 → vp_in a3 6 ∧ (vp_in (σ 12 a2.toNatClampNeg) 64 ∧ (True))) ∧ (¬ (a1 = 9) → (a1 = 10 → (xo_X6_stamped σ4 (σ 12 a2.toNatClampNeg)) ∧ bd (xr_X6_stamped σ4 (σ 12 a2.toNatClampNeg)) (fun v8 σ10 => vp_in a2 6 ∧ (True))) ∧ (¬ (a1 = 10) → (xo_X6_feed σ4 a2 (σ 12 a2.toNatClampNeg)) ∧ bd (xr_X6_feed σ4 a2 (σ 12 a2.toNatClampNeg)) (fun v5 σ7 => True))))))) ∧ (¬ ((σ 12 a2.toNatClampNeg) = (-1)) → (xo_X6_isThere σ 1) ∧ bd (xr_X6_isThere σ 1) (fun v16 σ18 => (v16 = 0 → True) ∧ (¬ (v16 = 0) → (a1 = 8 → vp_in (σ 12 a2.toNatClampNeg) 64 ∧ (vp_in a2 6 ∧ (True))) ∧ (¬ (a1 = 8) → (a1 = 9 → vp_in a3 6 ∧ (vp_in (σ 12 a2.toNatClampNeg) 64 ∧ (True))) ∧ (¬ (a1 = 9) → (a1 = 10 → (xo_X6_stamped σ18 (σ 12 a2.toNatClampNeg)) ∧ bd (xr_X6_stamped σ18 (σ 12 a2.toNatClampNeg)) (fun v22 σ24 => vp_in a2 6 ∧ (True))) ∧ (¬ (a1 = 10) → (xo_X6_feed σ18 a2 (σ 12 a2.toNatClampNeg)) ∧ bd (xr_X6_feed σ18 a2 (σ 12 a2.toNatClampNeg)) (fun v19 σ21 => True)))))))))) ∧ (¬ (a1 = 9) → (a1 = 12 → vp_in a2 8 ∧ ((a1 = 12 → ((σ 12 a2.toNatClampNeg) = (-1) → True) ∧ (¬ ((σ 12 a2.toNatClampNeg) = (-1)) → vp_in (σ 12 a2.toNatClampNeg) 64 ∧ ((xo_X6_isOf (σ 9 (σ 12 a2.toNatClampNeg).toNatClampNeg) a3) ∧ (((xr_X6_isOf (σ 9 (σ 12 a2.toNatClampNeg).toNatClampNeg) a3) = 0 → True) ∧ (¬ ((xr_X6_isOf (σ 9 (σ 12 a2.toNatClampNeg).toNatClampNeg) a3) = 0) → True))))) ∧ (¬ (a1 = 12) → ((σ 12 a2.toNatClampNeg) = (-1) → (xo_X6_isThere σ 0) ∧ bd (xr_X6_isThere σ 0) (fun v68 σ70 => (v68 = 0 → True) ∧ (¬ (v68 = 0) → (a1 = 8 → vp_in (σ 12 a2.toNatClampNeg) 64 ∧ (vp_in a2 6 ∧ (True))) ∧ (¬ (a1 = 8) → (a1 = 9 → vp_in a3 6 ∧ (vp_in (σ 12 a2.toNatClampNeg) 64 ∧ (True))) ∧ (¬ (a1 = 9) → (a1 = 10 → (xo_X6_stamped σ70 (σ 12 a2.toNatClampNeg)) ∧ bd (xr_X6_stamped σ70 (σ 12 a2.toNatClampNeg)) (fun v74 σ76 => vp_in a2 6 ∧ (True))) ∧ (¬ (a1 = 10) → (xo_X6_feed σ70 a2 (σ 12 a2.toNatClampNeg)) ∧ bd (xr_X6_feed σ70 a2 (σ 12 a2.toNatClampNeg)) (fun v71 σ73 => True))))))) ∧ (¬ ((σ 12 a2.toNatClampNeg) = (-1)) → (xo_X6_isThere σ 1) ∧ bd (xr_X6_isThere σ 1) (fun v82 σ84 => (v82 = 0 → True) ∧ (¬ (v82 = 0) → (a1 = 8 → vp_in (σ 12 a2.toNatClampNeg) 64 ∧ (vp_in a2 6 ∧ (True))) ∧ (¬ (a1 = 8) → (a1 = 9 → vp_in a3 6 ∧ (vp_in (σ 12 a2.toNatClampNeg) 64 ∧ (True))) ∧ (¬ (a1 = 9) → (a1 = 10 → (xo_X6_stamped σ84 (σ 12 a2.toNatClampNeg)) ∧ bd (xr_X6_stamped σ84 (σ 12 a2.toNatClampNeg)) (fun v88 σ90 => vp_in a2 6 ∧ (True))) ∧ (¬ (a1 = 10) → (xo_X6_feed σ84 a2 (σ 12 a2.toNatClampNeg)) ∧ bd (xr_X6_feed σ84 a2 (σ 12 a2.toNatClampNeg)) (fun v85 σ87 => True)))))))))) ∧ (¬ (a1 = 12) → vp_in a3 8 ∧ ((a1 = 12 → ((σ 12 a3.toNatClampNeg) = (-1) → True) ∧ (¬ ((σ 12 a3.toNatClampNeg) = (-1)) → vp_in (σ 12 a3.toNatClampNeg) 64 ∧ ((xo_X6_isOf (σ 9 (σ 12 a3.toNatClampNeg).toNatClampNeg) a3) ∧ (((xr_X6_isOf (σ 9 (σ 12 a3.toNatClampNeg).toNatClampNeg) a3) = 0 → True) ∧ (¬ ((xr_X6_isOf (σ 9 (σ 12 a3.toNatClampNeg).toNatClampNeg) a3) = 0) → True))))) ∧ (¬ (a1 = 12) → ((σ 12 a3.toNatClampNeg) = (-1) → (xo_X6_isThere σ 0) ∧ bd (xr_X6_isThere σ 0) (fun v35 σ37 => (v35 = 0 → True) ∧ (¬ (v35 = 0) → (a1 = 8 → vp_in (σ 12 a3.toNatClampNeg) 64 ∧ (vp_in a2 6 ∧ (True))) ∧ (¬ (a1 = 8) → (a1 = 9 → vp_in a3 6 ∧ (vp_in (σ 12 a3.toNatClampNeg) 64 ∧ (True))) ∧ (¬ (a1 = 9) → (a1 = 10 → (xo_X6_stamped σ37 (σ 12 a3.toNatClampNeg)) ∧ bd (xr_X6_stamped σ37 (σ 12 a3.toNatClampNeg)) (fun v41 σ43 => vp_in a2 6 ∧ (True))) ∧ (¬ (a1 = 10) → (xo_X6_feed σ37 a2 (σ 12 a3.toNatClampNeg)) ∧ bd (xr_X6_feed σ37 a2 (σ 12 a3.toNatClampNeg)) (fun v38 σ40 => True))))))) ∧ (¬ ((σ 12 a3.toNatClampNeg) = (-1)) → (xo_X6_isThere σ 1) ∧ bd (xr_X6_isThere σ 1) (fun v49 σ51 => (v49 = 0 → True) ∧ (¬ (v49 = 0) → (a1 = 8 → vp_in (σ 12 a3.toNatClampNeg) 64 ∧ (vp_in a2 6 ∧ (True))) ∧ (¬ (a1 = 8) → (a1 = 9 → vp_in a3 6 ∧ (vp_in (σ 12 a3.toNatClampNeg) 64 ∧ (True))) ∧ (¬ (a1 = 9) → (a1 = 10 → (xo_X6_stamped σ51 (σ 12 a3.toNatClampNeg)) ∧ bd (xr_X6_stamped σ51 (σ 12 a3.toNatClampNeg)) (fun v55 σ57 => vp_in a2 6 ∧ (True))) ∧ (¬ (a1 = 10) → (xo_X6_feed σ51 a2 (σ 12 a3.toNatClampNeg)) ∧ bd (xr_X6_feed σ51 a2 (σ 12 a3.toNatClampNeg)) (fun v52 σ54 => True)))))))))))
set_option maxRecDepth 100000 in
set_option maxHeartbeats 4000000 in
theorem c_X6_one (l : Launch) (D : va_G) (cy : CY) (q : Nat → Nat) (ex : va_W) (A : Nat → Prop) (σ : GS) (a1 : Int32) (a2 : Int32) (a3 : Int32) (hok : xo_X6_one σ a1 a2 a3) : Met l yX6_one (wm yX6_one cX6_one 5 none) ({ frames := 1, cells := 0, slots := 0, locals := 22 } : Room) (PC D cy (wM cy q σ ++ ex) A [.ref (q 0), .int a1, .int a2, .int a3]) (QV D (wM cy q (xr_X6_one σ a1 a2 a3).2 ++ ex) A) 0 0 A := by
  generalize hR : xr_X6_one σ a1 a2 a3 = R
  refine g_met (lv := [(0, .ref (q 0)), (1, .int a1), (2, .int a2), (3, .int a3)]) (by decide) rfl (Nat.le_of_ble_eq_true rfl) rfl ?_
  intro p e s m below meth c ls S K h hr hlocks hl
  refine lv_iload_n S.1 S.2.1 dX6_one_0 rfl (lv_at hl 1 rfl) ?_
  refine lv_bipush (v := 9) S.1 S.2.1 dX6_one_1 (by decide) ?_
  refine lv_icmp_eq (tgt := 12) S.1 S.2.1 dX6_one_3 (by decide) (fun c => ?_) (fun c => ?_)
  · replace hok := And.left hok c
    replace hR := (if_pos c).symm.trans hR
    refine lv_aload_n S.1 S.2.1 dX6_one_12 rfl (lv_at hl 0 rfl) ?_
    refine fg_X6_43 S K h dX6_one_13 ?_
    refine lv_iload_n S.1 S.2.1 dX6_one_16 rfl (lv_at hl 2 rfl) ?_
    have k1 := And.left hok
    replace hok := And.right hok
    refine al_M12 S K h k1 dX6_one_17 ?_
    refine lv_goto (tgt := 27) S.1 S.2.1 dX6_one_18 (by decide) ?_
    refine lv_istore (lv' := [(4, .int _), (0, .ref _), (1, .int _), (2, .int _), (3, .int _)]) S.1 S.2.1 dX6_one_27 hl (by decide) rfl (fun ls hl => ?_)
    refine lv_iload_n S.1 S.2.1 dX6_one_29 rfl (lv_at hl 2 rfl) ?_
    refine lv_bipush (v := 12) S.1 S.2.1 dX6_one_30 (by decide) ?_
    refine lv_icmp_ne (tgt := 65) S.1 S.2.1 dX6_one_32 (by decide) (fun c => ?_) (fun c => ?_)
    · replace hok := And.right hok c
      replace hR := (if_neg c).symm.trans hR
      refine lv_aload_n S.1 S.2.1 dX6_one_65 rfl (lv_at hl 1 rfl) ?_
      refine lv_iload S.1 S.2.1 dX6_one_66 (lv_at hl 0 rfl) ?_
      refine lv_iconst (v := -1) S.1 S.2.1 dX6_one_68 (by decide) ?_
      refine lv_icmp_eq (tgt := 76) S.1 S.2.1 dX6_one_69 (by decide) (fun c => ?_) (fun c => ?_)
      · replace hok := And.left hok c
        replace hR := (if_pos c).symm.trans hR
        refine lv_iconst (v := 0) S.1 S.2.1 dX6_one_76 (by decide) ?_
        have k3 := And.left hok
        replace hok := And.right hok
        refine g_calli (ci := 6) (q0 := 0) S wz_cons K h (c_X6_isThere l D cy q _ A _ _ k3) kc_X6_isThere km_X6_133 ki_X6_isThere ks_X6_isThere kn_X6 yd_X6_isThere ⟨⟨Nat.le_of_ble_eq_true rfl, Nat.le_of_ble_eq_true rfl⟩, rfl, rfl, Nat.zero_le _, Nat.zero_le _⟩ rfl rfl rfl hl.1 (Nat.le_of_ble_eq_true rfl) rfl dX6_one_77 (fun H locs h => ?_)
        refine lv_if_ne (tgt := 84) S.1 S.2.1 dX6_one_80 (by decide) (fun c => ?_) (fun c => ?_)
        · replace hok := And.right hok c
          replace hR := (if_neg c).symm.trans hR
          refine lv_iload_n S.1 S.2.1 dX6_one_84 rfl (lv_at hl 2 rfl) ?_
          refine lv_bipush (v := 8) S.1 S.2.1 dX6_one_85 (by decide) ?_
          refine lv_icmp_ne (tgt := 106) S.1 S.2.1 dX6_one_87 (by decide) (fun c => ?_) (fun c => ?_)
          · replace hok := And.right hok c
            replace hR := (if_neg c).symm.trans hR
            refine lv_iload_n S.1 S.2.1 dX6_one_106 rfl (lv_at hl 2 rfl) ?_
            refine lv_bipush (v := 9) S.1 S.2.1 dX6_one_107 (by decide) ?_
            refine lv_icmp_ne (tgt := 128) S.1 S.2.1 dX6_one_109 (by decide) (fun c => ?_) (fun c => ?_)
            · replace hok := And.right hok c
              replace hR := (if_neg c).symm.trans hR
              refine lv_iload_n S.1 S.2.1 dX6_one_128 rfl (lv_at hl 2 rfl) ?_
              refine lv_bipush (v := 10) S.1 S.2.1 dX6_one_129 (by decide) ?_
              refine lv_icmp_ne (tgt := 149) S.1 S.2.1 dX6_one_131 (by decide) (fun c => ?_) (fun c => ?_)
              · replace hok := And.right hok c
                replace hR := (if_neg c).symm.trans hR
                refine lv_aload_n S.1 S.2.1 dX6_one_149 rfl (lv_at hl 1 rfl) ?_
                refine lv_iload_n S.1 S.2.1 dX6_one_150 rfl (lv_at hl 3 rfl) ?_
                refine lv_iload S.1 S.2.1 dX6_one_151 (lv_at hl 0 rfl) ?_
                have k6 := And.left hok
                replace hok := And.right hok
                refine g_callv (ci := 6) (q0 := 0) S wz_cons K h (c_X6_feed l D cy q _ A _ _ _ k6) kc_X6_feed km_X6_148 ki_X6_feed ks_X6_feed kn_X6 yd_X6_feed ⟨⟨Nat.le_of_ble_eq_true rfl, Nat.le_of_ble_eq_true rfl⟩, rfl, rfl, Nat.zero_le _, Nat.zero_le _⟩ rfl rfl rfl hl.1 (Nat.le_of_ble_eq_true rfl) rfl dX6_one_153 (fun H locs h => ?_)
                subst hR
                exact g_retv S hr hlocks h dX6_one_156
              · replace hok := And.left hok c
                replace hR := (if_pos c).symm.trans hR
                refine lv_aload_n S.1 S.2.1 dX6_one_134 rfl (lv_at hl 1 rfl) ?_
                refine fg_X6_74 S K h dX6_one_135 ?_
                refine lv_iload_n S.1 S.2.1 dX6_one_138 rfl (lv_at hl 3 rfl) ?_
                refine lv_aload_n S.1 S.2.1 dX6_one_139 rfl (lv_at hl 1 rfl) ?_
                refine lv_iload S.1 S.2.1 dX6_one_140 (lv_at hl 0 rfl) ?_
                have k9 := And.left hok
                replace hok := And.right hok
                refine g_calli (ci := 6) (q0 := 0) S wz_cons K h (c_X6_stamped l D cy q _ A _ _ k9) kc_X6_stamped km_X6_144 ki_X6_stamped ks_X6_stamped kn_X6 yd_X6_stamped ⟨⟨Nat.le_of_ble_eq_true rfl, Nat.le_of_ble_eq_true rfl⟩, rfl, rfl, Nat.zero_le _, Nat.zero_le _⟩ rfl rfl rfl hl.1 (Nat.le_of_ble_eq_true rfl) rfl dX6_one_142 (fun H locs h => ?_)
                have k11 := And.left hok
                replace hok := And.right hok
                refine as_M22 S K h k11 dX6_one_145 (fun H locs h => ?_)
                refine lv_goto (tgt := 156) S.1 S.2.1 dX6_one_146 (by decide) ?_
                subst hR
                exact g_retv S hr hlocks h dX6_one_156
            · replace hok := And.left hok c
              replace hR := (if_pos c).symm.trans hR
              refine lv_aload_n S.1 S.2.1 dX6_one_112 rfl (lv_at hl 1 rfl) ?_
              refine fg_X6_37 S K h dX6_one_113 ?_
              refine lv_iload S.1 S.2.1 dX6_one_116 (lv_at hl 0 rfl) ?_
              refine lv_aload_n S.1 S.2.1 dX6_one_118 rfl (lv_at hl 1 rfl) ?_
              refine fg_X6_74 S K h dX6_one_119 ?_
              refine lv_iload_n S.1 S.2.1 dX6_one_122 rfl (lv_at hl 4 rfl) ?_
              have k12 := And.left hok
              replace hok := And.right hok
              refine al_M22 S K h k12 dX6_one_123 ?_
              have k13 := And.left hok
              replace hok := And.right hok
              refine as_M10 S K h k13 dX6_one_124 (fun H locs h => ?_)
              refine lv_goto (tgt := 156) S.1 S.2.1 dX6_one_125 (by decide) ?_
              subst hR
              exact g_retv S hr hlocks h dX6_one_156
          · replace hok := And.left hok c
            replace hR := (if_pos c).symm.trans hR
            refine lv_aload_n S.1 S.2.1 dX6_one_90 rfl (lv_at hl 1 rfl) ?_
            refine fg_X6_74 S K h dX6_one_91 ?_
            refine lv_iload_n S.1 S.2.1 dX6_one_94 rfl (lv_at hl 3 rfl) ?_
            refine lv_aload_n S.1 S.2.1 dX6_one_95 rfl (lv_at hl 1 rfl) ?_
            refine fg_X6_37 S K h dX6_one_96 ?_
            refine lv_iload S.1 S.2.1 dX6_one_99 (lv_at hl 0 rfl) ?_
            have k14 := And.left hok
            replace hok := And.right hok
            refine al_M10 S K h k14 dX6_one_101 ?_
            have k15 := And.left hok
            replace hok := And.right hok
            refine as_M22 S K h k15 dX6_one_102 (fun H locs h => ?_)
            refine lv_goto (tgt := 156) S.1 S.2.1 dX6_one_103 (by decide) ?_
            subst hR
            exact g_retv S hr hlocks h dX6_one_156
        · replace hok := And.left hok c
          replace hR := (if_pos c).symm.trans hR
          subst hR
          exact g_retv S hr hlocks h dX6_one_83
      · replace hok := And.right hok c
        replace hR := (if_neg c).symm.trans hR
        refine lv_iconst (v := 1) S.1 S.2.1 dX6_one_72 (by decide) ?_
        refine lv_goto (tgt := 77) S.1 S.2.1 dX6_one_73 (by decide) ?_
        have k17 := And.left hok
        replace hok := And.right hok
        refine g_calli (ci := 6) (q0 := 0) S wz_cons K h (c_X6_isThere l D cy q _ A _ _ k17) kc_X6_isThere km_X6_133 ki_X6_isThere ks_X6_isThere kn_X6 yd_X6_isThere ⟨⟨Nat.le_of_ble_eq_true rfl, Nat.le_of_ble_eq_true rfl⟩, rfl, rfl, Nat.zero_le _, Nat.zero_le _⟩ rfl rfl rfl hl.1 (Nat.le_of_ble_eq_true rfl) rfl dX6_one_77 (fun H locs h => ?_)
        refine lv_if_ne (tgt := 84) S.1 S.2.1 dX6_one_80 (by decide) (fun c => ?_) (fun c => ?_)
        · replace hok := And.right hok c
          replace hR := (if_neg c).symm.trans hR
          refine lv_iload_n S.1 S.2.1 dX6_one_84 rfl (lv_at hl 2 rfl) ?_
          refine lv_bipush (v := 8) S.1 S.2.1 dX6_one_85 (by decide) ?_
          refine lv_icmp_ne (tgt := 106) S.1 S.2.1 dX6_one_87 (by decide) (fun c => ?_) (fun c => ?_)
          · replace hok := And.right hok c
            replace hR := (if_neg c).symm.trans hR
            refine lv_iload_n S.1 S.2.1 dX6_one_106 rfl (lv_at hl 2 rfl) ?_
            refine lv_bipush (v := 9) S.1 S.2.1 dX6_one_107 (by decide) ?_
            refine lv_icmp_ne (tgt := 128) S.1 S.2.1 dX6_one_109 (by decide) (fun c => ?_) (fun c => ?_)
            · replace hok := And.right hok c
              replace hR := (if_neg c).symm.trans hR
              refine lv_iload_n S.1 S.2.1 dX6_one_128 rfl (lv_at hl 2 rfl) ?_
              refine lv_bipush (v := 10) S.1 S.2.1 dX6_one_129 (by decide) ?_
              refine lv_icmp_ne (tgt := 149) S.1 S.2.1 dX6_one_131 (by decide) (fun c => ?_) (fun c => ?_)
              · replace hok := And.right hok c
                replace hR := (if_neg c).symm.trans hR
                refine lv_aload_n S.1 S.2.1 dX6_one_149 rfl (lv_at hl 1 rfl) ?_
                refine lv_iload_n S.1 S.2.1 dX6_one_150 rfl (lv_at hl 3 rfl) ?_
                refine lv_iload S.1 S.2.1 dX6_one_151 (lv_at hl 0 rfl) ?_
                have k20 := And.left hok
                replace hok := And.right hok
                refine g_callv (ci := 6) (q0 := 0) S wz_cons K h (c_X6_feed l D cy q _ A _ _ _ k20) kc_X6_feed km_X6_148 ki_X6_feed ks_X6_feed kn_X6 yd_X6_feed ⟨⟨Nat.le_of_ble_eq_true rfl, Nat.le_of_ble_eq_true rfl⟩, rfl, rfl, Nat.zero_le _, Nat.zero_le _⟩ rfl rfl rfl hl.1 (Nat.le_of_ble_eq_true rfl) rfl dX6_one_153 (fun H locs h => ?_)
                subst hR
                exact g_retv S hr hlocks h dX6_one_156
              · replace hok := And.left hok c
                replace hR := (if_pos c).symm.trans hR
                refine lv_aload_n S.1 S.2.1 dX6_one_134 rfl (lv_at hl 1 rfl) ?_
                refine fg_X6_74 S K h dX6_one_135 ?_
                refine lv_iload_n S.1 S.2.1 dX6_one_138 rfl (lv_at hl 3 rfl) ?_
                refine lv_aload_n S.1 S.2.1 dX6_one_139 rfl (lv_at hl 1 rfl) ?_
                refine lv_iload S.1 S.2.1 dX6_one_140 (lv_at hl 0 rfl) ?_
                have k23 := And.left hok
                replace hok := And.right hok
                refine g_calli (ci := 6) (q0 := 0) S wz_cons K h (c_X6_stamped l D cy q _ A _ _ k23) kc_X6_stamped km_X6_144 ki_X6_stamped ks_X6_stamped kn_X6 yd_X6_stamped ⟨⟨Nat.le_of_ble_eq_true rfl, Nat.le_of_ble_eq_true rfl⟩, rfl, rfl, Nat.zero_le _, Nat.zero_le _⟩ rfl rfl rfl hl.1 (Nat.le_of_ble_eq_true rfl) rfl dX6_one_142 (fun H locs h => ?_)
                have k25 := And.left hok
                replace hok := And.right hok
                refine as_M22 S K h k25 dX6_one_145 (fun H locs h => ?_)
                refine lv_goto (tgt := 156) S.1 S.2.1 dX6_one_146 (by decide) ?_
                subst hR
                exact g_retv S hr hlocks h dX6_one_156
            · replace hok := And.left hok c
              replace hR := (if_pos c).symm.trans hR
              refine lv_aload_n S.1 S.2.1 dX6_one_112 rfl (lv_at hl 1 rfl) ?_
              refine fg_X6_37 S K h dX6_one_113 ?_
              refine lv_iload S.1 S.2.1 dX6_one_116 (lv_at hl 0 rfl) ?_
              refine lv_aload_n S.1 S.2.1 dX6_one_118 rfl (lv_at hl 1 rfl) ?_
              refine fg_X6_74 S K h dX6_one_119 ?_
              refine lv_iload_n S.1 S.2.1 dX6_one_122 rfl (lv_at hl 4 rfl) ?_
              have k26 := And.left hok
              replace hok := And.right hok
              refine al_M22 S K h k26 dX6_one_123 ?_
              have k27 := And.left hok
              replace hok := And.right hok
              refine as_M10 S K h k27 dX6_one_124 (fun H locs h => ?_)
              refine lv_goto (tgt := 156) S.1 S.2.1 dX6_one_125 (by decide) ?_
              subst hR
              exact g_retv S hr hlocks h dX6_one_156
          · replace hok := And.left hok c
            replace hR := (if_pos c).symm.trans hR
            refine lv_aload_n S.1 S.2.1 dX6_one_90 rfl (lv_at hl 1 rfl) ?_
            refine fg_X6_74 S K h dX6_one_91 ?_
            refine lv_iload_n S.1 S.2.1 dX6_one_94 rfl (lv_at hl 3 rfl) ?_
            refine lv_aload_n S.1 S.2.1 dX6_one_95 rfl (lv_at hl 1 rfl) ?_
            refine fg_X6_37 S K h dX6_one_96 ?_
            refine lv_iload S.1 S.2.1 dX6_one_99 (lv_at hl 0 rfl) ?_
            have k28 := And.left hok
            replace hok := And.right hok
            refine al_M10 S K h k28 dX6_one_101 ?_
            have k29 := And.left hok
            replace hok := And.right hok
            refine as_M22 S K h k29 dX6_one_102 (fun H locs h => ?_)
            refine lv_goto (tgt := 156) S.1 S.2.1 dX6_one_103 (by decide) ?_
            subst hR
            exact g_retv S hr hlocks h dX6_one_156
        · replace hok := And.left hok c
          replace hR := (if_pos c).symm.trans hR
          subst hR
          exact g_retv S hr hlocks h dX6_one_83
    · replace hok := And.left hok c
      replace hR := (if_pos c).symm.trans hR
      refine lv_aload_n S.1 S.2.1 dX6_one_35 rfl (lv_at hl 1 rfl) ?_
      refine lv_iload S.1 S.2.1 dX6_one_36 (lv_at hl 0 rfl) ?_
      refine lv_iconst (v := -1) S.1 S.2.1 dX6_one_38 (by decide) ?_
      refine lv_icmp_eq (tgt := 56) S.1 S.2.1 dX6_one_39 (by decide) (fun c => ?_) (fun c => ?_)
      · replace hok := And.left hok c
        replace hR := (if_pos c).symm.trans hR
        refine lv_iconst (v := 0) S.1 S.2.1 dX6_one_56 (by decide) ?_
        refine lv_goto (tgt := 61) S.1 S.2.1 dX6_one_57 (by decide) ?_
        refine fp_X6_127 S K h dX6_one_61 (fun H locs h => ?_)
        subst hR
        exact g_retv S hr hlocks h dX6_one_64
      · replace hok := And.right hok c
        replace hR := (if_neg c).symm.trans hR
        refine lv_aload_n S.1 S.2.1 dX6_one_42 rfl (lv_at hl 1 rfl) ?_
        refine fg_X6_34 S K h dX6_one_43 ?_
        refine lv_iload S.1 S.2.1 dX6_one_46 (lv_at hl 0 rfl) ?_
        have k30 := And.left hok
        replace hok := And.right hok
        refine al_M9 S K h k30 dX6_one_48 ?_
        refine lv_iload_n S.1 S.2.1 dX6_one_49 rfl (lv_at hl 4 rfl) ?_
        have k32 := And.left hok
        replace hok := And.right hok
        refine g_calls S wz_cons K.2 (c_X6_isOf l _ _ k32) kc_X6_isOf km_X6_141 kt_X6_isOf kn_X6 yd_X6_isOf.2 ⟨⟨Nat.le_of_ble_eq_true rfl, Nat.le_of_ble_eq_true rfl⟩, rfl, rfl, Nat.zero_le _, Nat.zero_le _⟩ rfl hl.1 (Nat.le_of_ble_eq_true rfl) rfl dX6_one_50 ?_
        refine lv_if_eq (tgt := 60) S.1 S.2.1 dX6_one_53 (by decide) (fun c => ?_) (fun c => ?_)
        · replace hok := And.left hok c
          replace hR := (if_pos c).symm.trans hR
          refine lv_iconst (v := 4) S.1 S.2.1 dX6_one_60 (by decide) ?_
          refine fp_X6_127 S K h dX6_one_61 (fun H locs h => ?_)
          subst hR
          exact g_retv S hr hlocks h dX6_one_64
        · replace hok := And.right hok c
          replace hR := (if_neg c).symm.trans hR
          refine lv_iconst (v := 0) S.1 S.2.1 dX6_one_56 (by decide) ?_
          refine lv_goto (tgt := 61) S.1 S.2.1 dX6_one_57 (by decide) ?_
          refine fp_X6_127 S K h dX6_one_61 (fun H locs h => ?_)
          subst hR
          exact g_retv S hr hlocks h dX6_one_64
  · replace hok := And.right hok c
    replace hR := (if_neg c).symm.trans hR
    refine lv_iload_n S.1 S.2.1 dX6_one_6 rfl (lv_at hl 1 rfl) ?_
    refine lv_bipush (v := 12) S.1 S.2.1 dX6_one_7 (by decide) ?_
    refine lv_icmp_ne (tgt := 21) S.1 S.2.1 dX6_one_9 (by decide) (fun c => ?_) (fun c => ?_)
    · replace hok := And.right hok c
      replace hR := (if_neg c).symm.trans hR
      refine lv_aload_n S.1 S.2.1 dX6_one_21 rfl (lv_at hl 0 rfl) ?_
      refine fg_X6_43 S K h dX6_one_22 ?_
      refine lv_iload_n S.1 S.2.1 dX6_one_25 rfl (lv_at hl 3 rfl) ?_
      have k34 := And.left hok
      replace hok := And.right hok
      refine al_M12 S K h k34 dX6_one_26 ?_
      refine lv_istore (lv' := [(4, .int _), (0, .ref _), (1, .int _), (2, .int _), (3, .int _)]) S.1 S.2.1 dX6_one_27 hl (by decide) rfl (fun ls hl => ?_)
      refine lv_iload_n S.1 S.2.1 dX6_one_29 rfl (lv_at hl 2 rfl) ?_
      refine lv_bipush (v := 12) S.1 S.2.1 dX6_one_30 (by decide) ?_
      refine lv_icmp_ne (tgt := 65) S.1 S.2.1 dX6_one_32 (by decide) (fun c => ?_) (fun c => ?_)
      · replace hok := And.right hok c
        replace hR := (if_neg c).symm.trans hR
        refine lv_aload_n S.1 S.2.1 dX6_one_65 rfl (lv_at hl 1 rfl) ?_
        refine lv_iload S.1 S.2.1 dX6_one_66 (lv_at hl 0 rfl) ?_
        refine lv_iconst (v := -1) S.1 S.2.1 dX6_one_68 (by decide) ?_
        refine lv_icmp_eq (tgt := 76) S.1 S.2.1 dX6_one_69 (by decide) (fun c => ?_) (fun c => ?_)
        · replace hok := And.left hok c
          replace hR := (if_pos c).symm.trans hR
          refine lv_iconst (v := 0) S.1 S.2.1 dX6_one_76 (by decide) ?_
          have k36 := And.left hok
          replace hok := And.right hok
          refine g_calli (ci := 6) (q0 := 0) S wz_cons K h (c_X6_isThere l D cy q _ A _ _ k36) kc_X6_isThere km_X6_133 ki_X6_isThere ks_X6_isThere kn_X6 yd_X6_isThere ⟨⟨Nat.le_of_ble_eq_true rfl, Nat.le_of_ble_eq_true rfl⟩, rfl, rfl, Nat.zero_le _, Nat.zero_le _⟩ rfl rfl rfl hl.1 (Nat.le_of_ble_eq_true rfl) rfl dX6_one_77 (fun H locs h => ?_)
          refine lv_if_ne (tgt := 84) S.1 S.2.1 dX6_one_80 (by decide) (fun c => ?_) (fun c => ?_)
          · replace hok := And.right hok c
            replace hR := (if_neg c).symm.trans hR
            refine lv_iload_n S.1 S.2.1 dX6_one_84 rfl (lv_at hl 2 rfl) ?_
            refine lv_bipush (v := 8) S.1 S.2.1 dX6_one_85 (by decide) ?_
            refine lv_icmp_ne (tgt := 106) S.1 S.2.1 dX6_one_87 (by decide) (fun c => ?_) (fun c => ?_)
            · replace hok := And.right hok c
              replace hR := (if_neg c).symm.trans hR
              refine lv_iload_n S.1 S.2.1 dX6_one_106 rfl (lv_at hl 2 rfl) ?_
              refine lv_bipush (v := 9) S.1 S.2.1 dX6_one_107 (by decide) ?_
              refine lv_icmp_ne (tgt := 128) S.1 S.2.1 dX6_one_109 (by decide) (fun c => ?_) (fun c => ?_)
              · replace hok := And.right hok c
                replace hR := (if_neg c).symm.trans hR
                refine lv_iload_n S.1 S.2.1 dX6_one_128 rfl (lv_at hl 2 rfl) ?_
                refine lv_bipush (v := 10) S.1 S.2.1 dX6_one_129 (by decide) ?_
                refine lv_icmp_ne (tgt := 149) S.1 S.2.1 dX6_one_131 (by decide) (fun c => ?_) (fun c => ?_)
                · replace hok := And.right hok c
                  replace hR := (if_neg c).symm.trans hR
                  refine lv_aload_n S.1 S.2.1 dX6_one_149 rfl (lv_at hl 1 rfl) ?_
                  refine lv_iload_n S.1 S.2.1 dX6_one_150 rfl (lv_at hl 3 rfl) ?_
                  refine lv_iload S.1 S.2.1 dX6_one_151 (lv_at hl 0 rfl) ?_
                  have k39 := And.left hok
                  replace hok := And.right hok
                  refine g_callv (ci := 6) (q0 := 0) S wz_cons K h (c_X6_feed l D cy q _ A _ _ _ k39) kc_X6_feed km_X6_148 ki_X6_feed ks_X6_feed kn_X6 yd_X6_feed ⟨⟨Nat.le_of_ble_eq_true rfl, Nat.le_of_ble_eq_true rfl⟩, rfl, rfl, Nat.zero_le _, Nat.zero_le _⟩ rfl rfl rfl hl.1 (Nat.le_of_ble_eq_true rfl) rfl dX6_one_153 (fun H locs h => ?_)
                  subst hR
                  exact g_retv S hr hlocks h dX6_one_156
                · replace hok := And.left hok c
                  replace hR := (if_pos c).symm.trans hR
                  refine lv_aload_n S.1 S.2.1 dX6_one_134 rfl (lv_at hl 1 rfl) ?_
                  refine fg_X6_74 S K h dX6_one_135 ?_
                  refine lv_iload_n S.1 S.2.1 dX6_one_138 rfl (lv_at hl 3 rfl) ?_
                  refine lv_aload_n S.1 S.2.1 dX6_one_139 rfl (lv_at hl 1 rfl) ?_
                  refine lv_iload S.1 S.2.1 dX6_one_140 (lv_at hl 0 rfl) ?_
                  have k42 := And.left hok
                  replace hok := And.right hok
                  refine g_calli (ci := 6) (q0 := 0) S wz_cons K h (c_X6_stamped l D cy q _ A _ _ k42) kc_X6_stamped km_X6_144 ki_X6_stamped ks_X6_stamped kn_X6 yd_X6_stamped ⟨⟨Nat.le_of_ble_eq_true rfl, Nat.le_of_ble_eq_true rfl⟩, rfl, rfl, Nat.zero_le _, Nat.zero_le _⟩ rfl rfl rfl hl.1 (Nat.le_of_ble_eq_true rfl) rfl dX6_one_142 (fun H locs h => ?_)
                  have k44 := And.left hok
                  replace hok := And.right hok
                  refine as_M22 S K h k44 dX6_one_145 (fun H locs h => ?_)
                  refine lv_goto (tgt := 156) S.1 S.2.1 dX6_one_146 (by decide) ?_
                  subst hR
                  exact g_retv S hr hlocks h dX6_one_156
              · replace hok := And.left hok c
                replace hR := (if_pos c).symm.trans hR
                refine lv_aload_n S.1 S.2.1 dX6_one_112 rfl (lv_at hl 1 rfl) ?_
                refine fg_X6_37 S K h dX6_one_113 ?_
                refine lv_iload S.1 S.2.1 dX6_one_116 (lv_at hl 0 rfl) ?_
                refine lv_aload_n S.1 S.2.1 dX6_one_118 rfl (lv_at hl 1 rfl) ?_
                refine fg_X6_74 S K h dX6_one_119 ?_
                refine lv_iload_n S.1 S.2.1 dX6_one_122 rfl (lv_at hl 4 rfl) ?_
                have k45 := And.left hok
                replace hok := And.right hok
                refine al_M22 S K h k45 dX6_one_123 ?_
                have k46 := And.left hok
                replace hok := And.right hok
                refine as_M10 S K h k46 dX6_one_124 (fun H locs h => ?_)
                refine lv_goto (tgt := 156) S.1 S.2.1 dX6_one_125 (by decide) ?_
                subst hR
                exact g_retv S hr hlocks h dX6_one_156
            · replace hok := And.left hok c
              replace hR := (if_pos c).symm.trans hR
              refine lv_aload_n S.1 S.2.1 dX6_one_90 rfl (lv_at hl 1 rfl) ?_
              refine fg_X6_74 S K h dX6_one_91 ?_
              refine lv_iload_n S.1 S.2.1 dX6_one_94 rfl (lv_at hl 3 rfl) ?_
              refine lv_aload_n S.1 S.2.1 dX6_one_95 rfl (lv_at hl 1 rfl) ?_
              refine fg_X6_37 S K h dX6_one_96 ?_
              refine lv_iload S.1 S.2.1 dX6_one_99 (lv_at hl 0 rfl) ?_
              have k47 := And.left hok
              replace hok := And.right hok
              refine al_M10 S K h k47 dX6_one_101 ?_
              have k48 := And.left hok
              replace hok := And.right hok
              refine as_M22 S K h k48 dX6_one_102 (fun H locs h => ?_)
              refine lv_goto (tgt := 156) S.1 S.2.1 dX6_one_103 (by decide) ?_
              subst hR
              exact g_retv S hr hlocks h dX6_one_156
          · replace hok := And.left hok c
            replace hR := (if_pos c).symm.trans hR
            subst hR
            exact g_retv S hr hlocks h dX6_one_83
        · replace hok := And.right hok c
          replace hR := (if_neg c).symm.trans hR
          refine lv_iconst (v := 1) S.1 S.2.1 dX6_one_72 (by decide) ?_
          refine lv_goto (tgt := 77) S.1 S.2.1 dX6_one_73 (by decide) ?_
          have k50 := And.left hok
          replace hok := And.right hok
          refine g_calli (ci := 6) (q0 := 0) S wz_cons K h (c_X6_isThere l D cy q _ A _ _ k50) kc_X6_isThere km_X6_133 ki_X6_isThere ks_X6_isThere kn_X6 yd_X6_isThere ⟨⟨Nat.le_of_ble_eq_true rfl, Nat.le_of_ble_eq_true rfl⟩, rfl, rfl, Nat.zero_le _, Nat.zero_le _⟩ rfl rfl rfl hl.1 (Nat.le_of_ble_eq_true rfl) rfl dX6_one_77 (fun H locs h => ?_)
          refine lv_if_ne (tgt := 84) S.1 S.2.1 dX6_one_80 (by decide) (fun c => ?_) (fun c => ?_)
          · replace hok := And.right hok c
            replace hR := (if_neg c).symm.trans hR
            refine lv_iload_n S.1 S.2.1 dX6_one_84 rfl (lv_at hl 2 rfl) ?_
            refine lv_bipush (v := 8) S.1 S.2.1 dX6_one_85 (by decide) ?_
            refine lv_icmp_ne (tgt := 106) S.1 S.2.1 dX6_one_87 (by decide) (fun c => ?_) (fun c => ?_)
            · replace hok := And.right hok c
              replace hR := (if_neg c).symm.trans hR
              refine lv_iload_n S.1 S.2.1 dX6_one_106 rfl (lv_at hl 2 rfl) ?_
              refine lv_bipush (v := 9) S.1 S.2.1 dX6_one_107 (by decide) ?_
              refine lv_icmp_ne (tgt := 128) S.1 S.2.1 dX6_one_109 (by decide) (fun c => ?_) (fun c => ?_)
              · replace hok := And.right hok c
                replace hR := (if_neg c).symm.trans hR
                refine lv_iload_n S.1 S.2.1 dX6_one_128 rfl (lv_at hl 2 rfl) ?_
                refine lv_bipush (v := 10) S.1 S.2.1 dX6_one_129 (by decide) ?_
                refine lv_icmp_ne (tgt := 149) S.1 S.2.1 dX6_one_131 (by decide) (fun c => ?_) (fun c => ?_)
                · replace hok := And.right hok c
                  replace hR := (if_neg c).symm.trans hR
                  refine lv_aload_n S.1 S.2.1 dX6_one_149 rfl (lv_at hl 1 rfl) ?_
                  refine lv_iload_n S.1 S.2.1 dX6_one_150 rfl (lv_at hl 3 rfl) ?_
                  refine lv_iload S.1 S.2.1 dX6_one_151 (lv_at hl 0 rfl) ?_
                  have k53 := And.left hok
                  replace hok := And.right hok
                  refine g_callv (ci := 6) (q0 := 0) S wz_cons K h (c_X6_feed l D cy q _ A _ _ _ k53) kc_X6_feed km_X6_148 ki_X6_feed ks_X6_feed kn_X6 yd_X6_feed ⟨⟨Nat.le_of_ble_eq_true rfl, Nat.le_of_ble_eq_true rfl⟩, rfl, rfl, Nat.zero_le _, Nat.zero_le _⟩ rfl rfl rfl hl.1 (Nat.le_of_ble_eq_true rfl) rfl dX6_one_153 (fun H locs h => ?_)
                  subst hR
                  exact g_retv S hr hlocks h dX6_one_156
                · replace hok := And.left hok c
                  replace hR := (if_pos c).symm.trans hR
                  refine lv_aload_n S.1 S.2.1 dX6_one_134 rfl (lv_at hl 1 rfl) ?_
                  refine fg_X6_74 S K h dX6_one_135 ?_
                  refine lv_iload_n S.1 S.2.1 dX6_one_138 rfl (lv_at hl 3 rfl) ?_
                  refine lv_aload_n S.1 S.2.1 dX6_one_139 rfl (lv_at hl 1 rfl) ?_
                  refine lv_iload S.1 S.2.1 dX6_one_140 (lv_at hl 0 rfl) ?_
                  have k56 := And.left hok
                  replace hok := And.right hok
                  refine g_calli (ci := 6) (q0 := 0) S wz_cons K h (c_X6_stamped l D cy q _ A _ _ k56) kc_X6_stamped km_X6_144 ki_X6_stamped ks_X6_stamped kn_X6 yd_X6_stamped ⟨⟨Nat.le_of_ble_eq_true rfl, Nat.le_of_ble_eq_true rfl⟩, rfl, rfl, Nat.zero_le _, Nat.zero_le _⟩ rfl rfl rfl hl.1 (Nat.le_of_ble_eq_true rfl) rfl dX6_one_142 (fun H locs h => ?_)
                  have k58 := And.left hok
                  replace hok := And.right hok
                  refine as_M22 S K h k58 dX6_one_145 (fun H locs h => ?_)
                  refine lv_goto (tgt := 156) S.1 S.2.1 dX6_one_146 (by decide) ?_
                  subst hR
                  exact g_retv S hr hlocks h dX6_one_156
              · replace hok := And.left hok c
                replace hR := (if_pos c).symm.trans hR
                refine lv_aload_n S.1 S.2.1 dX6_one_112 rfl (lv_at hl 1 rfl) ?_
                refine fg_X6_37 S K h dX6_one_113 ?_
                refine lv_iload S.1 S.2.1 dX6_one_116 (lv_at hl 0 rfl) ?_
                refine lv_aload_n S.1 S.2.1 dX6_one_118 rfl (lv_at hl 1 rfl) ?_
                refine fg_X6_74 S K h dX6_one_119 ?_
                refine lv_iload_n S.1 S.2.1 dX6_one_122 rfl (lv_at hl 4 rfl) ?_
                have k59 := And.left hok
                replace hok := And.right hok
                refine al_M22 S K h k59 dX6_one_123 ?_
                have k60 := And.left hok
                replace hok := And.right hok
                refine as_M10 S K h k60 dX6_one_124 (fun H locs h => ?_)
                refine lv_goto (tgt := 156) S.1 S.2.1 dX6_one_125 (by decide) ?_
                subst hR
                exact g_retv S hr hlocks h dX6_one_156
            · replace hok := And.left hok c
              replace hR := (if_pos c).symm.trans hR
              refine lv_aload_n S.1 S.2.1 dX6_one_90 rfl (lv_at hl 1 rfl) ?_
              refine fg_X6_74 S K h dX6_one_91 ?_
              refine lv_iload_n S.1 S.2.1 dX6_one_94 rfl (lv_at hl 3 rfl) ?_
              refine lv_aload_n S.1 S.2.1 dX6_one_95 rfl (lv_at hl 1 rfl) ?_
              refine fg_X6_37 S K h dX6_one_96 ?_
              refine lv_iload S.1 S.2.1 dX6_one_99 (lv_at hl 0 rfl) ?_
              have k61 := And.left hok
              replace hok := And.right hok
              refine al_M10 S K h k61 dX6_one_101 ?_
              have k62 := And.left hok
              replace hok := And.right hok
              refine as_M22 S K h k62 dX6_one_102 (fun H locs h => ?_)
              refine lv_goto (tgt := 156) S.1 S.2.1 dX6_one_103 (by decide) ?_
              subst hR
              exact g_retv S hr hlocks h dX6_one_156
          · replace hok := And.left hok c
            replace hR := (if_pos c).symm.trans hR
            subst hR
            exact g_retv S hr hlocks h dX6_one_83
      · replace hok := And.left hok c
        replace hR := (if_pos c).symm.trans hR
        refine lv_aload_n S.1 S.2.1 dX6_one_35 rfl (lv_at hl 1 rfl) ?_
        refine lv_iload S.1 S.2.1 dX6_one_36 (lv_at hl 0 rfl) ?_
        refine lv_iconst (v := -1) S.1 S.2.1 dX6_one_38 (by decide) ?_
        refine lv_icmp_eq (tgt := 56) S.1 S.2.1 dX6_one_39 (by decide) (fun c => ?_) (fun c => ?_)
        · replace hok := And.left hok c
          replace hR := (if_pos c).symm.trans hR
          refine lv_iconst (v := 0) S.1 S.2.1 dX6_one_56 (by decide) ?_
          refine lv_goto (tgt := 61) S.1 S.2.1 dX6_one_57 (by decide) ?_
          refine fp_X6_127 S K h dX6_one_61 (fun H locs h => ?_)
          subst hR
          exact g_retv S hr hlocks h dX6_one_64
        · replace hok := And.right hok c
          replace hR := (if_neg c).symm.trans hR
          refine lv_aload_n S.1 S.2.1 dX6_one_42 rfl (lv_at hl 1 rfl) ?_
          refine fg_X6_34 S K h dX6_one_43 ?_
          refine lv_iload S.1 S.2.1 dX6_one_46 (lv_at hl 0 rfl) ?_
          have k63 := And.left hok
          replace hok := And.right hok
          refine al_M9 S K h k63 dX6_one_48 ?_
          refine lv_iload_n S.1 S.2.1 dX6_one_49 rfl (lv_at hl 4 rfl) ?_
          have k65 := And.left hok
          replace hok := And.right hok
          refine g_calls S wz_cons K.2 (c_X6_isOf l _ _ k65) kc_X6_isOf km_X6_141 kt_X6_isOf kn_X6 yd_X6_isOf.2 ⟨⟨Nat.le_of_ble_eq_true rfl, Nat.le_of_ble_eq_true rfl⟩, rfl, rfl, Nat.zero_le _, Nat.zero_le _⟩ rfl hl.1 (Nat.le_of_ble_eq_true rfl) rfl dX6_one_50 ?_
          refine lv_if_eq (tgt := 60) S.1 S.2.1 dX6_one_53 (by decide) (fun c => ?_) (fun c => ?_)
          · replace hok := And.left hok c
            replace hR := (if_pos c).symm.trans hR
            refine lv_iconst (v := 4) S.1 S.2.1 dX6_one_60 (by decide) ?_
            refine fp_X6_127 S K h dX6_one_61 (fun H locs h => ?_)
            subst hR
            exact g_retv S hr hlocks h dX6_one_64
          · replace hok := And.right hok c
            replace hR := (if_neg c).symm.trans hR
            refine lv_iconst (v := 0) S.1 S.2.1 dX6_one_56 (by decide) ?_
            refine lv_goto (tgt := 61) S.1 S.2.1 dX6_one_57 (by decide) ?_
            refine fp_X6_127 S K h dX6_one_61 (fun H locs h => ?_)
            subst hR
            exact g_retv S hr hlocks h dX6_one_64
    · replace hok := And.left hok c
      replace hR := (if_pos c).symm.trans hR
      refine lv_aload_n S.1 S.2.1 dX6_one_12 rfl (lv_at hl 0 rfl) ?_
      refine fg_X6_43 S K h dX6_one_13 ?_
      refine lv_iload_n S.1 S.2.1 dX6_one_16 rfl (lv_at hl 2 rfl) ?_
      have k67 := And.left hok
      replace hok := And.right hok
      refine al_M12 S K h k67 dX6_one_17 ?_
      refine lv_goto (tgt := 27) S.1 S.2.1 dX6_one_18 (by decide) ?_
      refine lv_istore (lv' := [(4, .int _), (0, .ref _), (1, .int _), (2, .int _), (3, .int _)]) S.1 S.2.1 dX6_one_27 hl (by decide) rfl (fun ls hl => ?_)
      refine lv_iload_n S.1 S.2.1 dX6_one_29 rfl (lv_at hl 2 rfl) ?_
      refine lv_bipush (v := 12) S.1 S.2.1 dX6_one_30 (by decide) ?_
      refine lv_icmp_ne (tgt := 65) S.1 S.2.1 dX6_one_32 (by decide) (fun c => ?_) (fun c => ?_)
      · replace hok := And.right hok c
        replace hR := (if_neg c).symm.trans hR
        refine lv_aload_n S.1 S.2.1 dX6_one_65 rfl (lv_at hl 1 rfl) ?_
        refine lv_iload S.1 S.2.1 dX6_one_66 (lv_at hl 0 rfl) ?_
        refine lv_iconst (v := -1) S.1 S.2.1 dX6_one_68 (by decide) ?_
        refine lv_icmp_eq (tgt := 76) S.1 S.2.1 dX6_one_69 (by decide) (fun c => ?_) (fun c => ?_)
        · replace hok := And.left hok c
          replace hR := (if_pos c).symm.trans hR
          refine lv_iconst (v := 0) S.1 S.2.1 dX6_one_76 (by decide) ?_
          have k69 := And.left hok
          replace hok := And.right hok
          refine g_calli (ci := 6) (q0 := 0) S wz_cons K h (c_X6_isThere l D cy q _ A _ _ k69) kc_X6_isThere km_X6_133 ki_X6_isThere ks_X6_isThere kn_X6 yd_X6_isThere ⟨⟨Nat.le_of_ble_eq_true rfl, Nat.le_of_ble_eq_true rfl⟩, rfl, rfl, Nat.zero_le _, Nat.zero_le _⟩ rfl rfl rfl hl.1 (Nat.le_of_ble_eq_true rfl) rfl dX6_one_77 (fun H locs h => ?_)
          refine lv_if_ne (tgt := 84) S.1 S.2.1 dX6_one_80 (by decide) (fun c => ?_) (fun c => ?_)
          · replace hok := And.right hok c
            replace hR := (if_neg c).symm.trans hR
            refine lv_iload_n S.1 S.2.1 dX6_one_84 rfl (lv_at hl 2 rfl) ?_
            refine lv_bipush (v := 8) S.1 S.2.1 dX6_one_85 (by decide) ?_
            refine lv_icmp_ne (tgt := 106) S.1 S.2.1 dX6_one_87 (by decide) (fun c => ?_) (fun c => ?_)
            · replace hok := And.right hok c
              replace hR := (if_neg c).symm.trans hR
              refine lv_iload_n S.1 S.2.1 dX6_one_106 rfl (lv_at hl 2 rfl) ?_
              refine lv_bipush (v := 9) S.1 S.2.1 dX6_one_107 (by decide) ?_
              refine lv_icmp_ne (tgt := 128) S.1 S.2.1 dX6_one_109 (by decide) (fun c => ?_) (fun c => ?_)
              · replace hok := And.right hok c
                replace hR := (if_neg c).symm.trans hR
                refine lv_iload_n S.1 S.2.1 dX6_one_128 rfl (lv_at hl 2 rfl) ?_
                refine lv_bipush (v := 10) S.1 S.2.1 dX6_one_129 (by decide) ?_
                refine lv_icmp_ne (tgt := 149) S.1 S.2.1 dX6_one_131 (by decide) (fun c => ?_) (fun c => ?_)
                · replace hok := And.right hok c
                  replace hR := (if_neg c).symm.trans hR
                  refine lv_aload_n S.1 S.2.1 dX6_one_149 rfl (lv_at hl 1 rfl) ?_
                  refine lv_iload_n S.1 S.2.1 dX6_one_150 rfl (lv_at hl 3 rfl) ?_
                  refine lv_iload S.1 S.2.1 dX6_one_151 (lv_at hl 0 rfl) ?_
                  have k72 := And.left hok
                  replace hok := And.right hok
                  refine g_callv (ci := 6) (q0 := 0) S wz_cons K h (c_X6_feed l D cy q _ A _ _ _ k72) kc_X6_feed km_X6_148 ki_X6_feed ks_X6_feed kn_X6 yd_X6_feed ⟨⟨Nat.le_of_ble_eq_true rfl, Nat.le_of_ble_eq_true rfl⟩, rfl, rfl, Nat.zero_le _, Nat.zero_le _⟩ rfl rfl rfl hl.1 (Nat.le_of_ble_eq_true rfl) rfl dX6_one_153 (fun H locs h => ?_)
                  subst hR
                  exact g_retv S hr hlocks h dX6_one_156
                · replace hok := And.left hok c
                  replace hR := (if_pos c).symm.trans hR
                  refine lv_aload_n S.1 S.2.1 dX6_one_134 rfl (lv_at hl 1 rfl) ?_
                  refine fg_X6_74 S K h dX6_one_135 ?_
                  refine lv_iload_n S.1 S.2.1 dX6_one_138 rfl (lv_at hl 3 rfl) ?_
                  refine lv_aload_n S.1 S.2.1 dX6_one_139 rfl (lv_at hl 1 rfl) ?_
                  refine lv_iload S.1 S.2.1 dX6_one_140 (lv_at hl 0 rfl) ?_
                  have k75 := And.left hok
                  replace hok := And.right hok
                  refine g_calli (ci := 6) (q0 := 0) S wz_cons K h (c_X6_stamped l D cy q _ A _ _ k75) kc_X6_stamped km_X6_144 ki_X6_stamped ks_X6_stamped kn_X6 yd_X6_stamped ⟨⟨Nat.le_of_ble_eq_true rfl, Nat.le_of_ble_eq_true rfl⟩, rfl, rfl, Nat.zero_le _, Nat.zero_le _⟩ rfl rfl rfl hl.1 (Nat.le_of_ble_eq_true rfl) rfl dX6_one_142 (fun H locs h => ?_)
                  have k77 := And.left hok
                  replace hok := And.right hok
                  refine as_M22 S K h k77 dX6_one_145 (fun H locs h => ?_)
                  refine lv_goto (tgt := 156) S.1 S.2.1 dX6_one_146 (by decide) ?_
                  subst hR
                  exact g_retv S hr hlocks h dX6_one_156
              · replace hok := And.left hok c
                replace hR := (if_pos c).symm.trans hR
                refine lv_aload_n S.1 S.2.1 dX6_one_112 rfl (lv_at hl 1 rfl) ?_
                refine fg_X6_37 S K h dX6_one_113 ?_
                refine lv_iload S.1 S.2.1 dX6_one_116 (lv_at hl 0 rfl) ?_
                refine lv_aload_n S.1 S.2.1 dX6_one_118 rfl (lv_at hl 1 rfl) ?_
                refine fg_X6_74 S K h dX6_one_119 ?_
                refine lv_iload_n S.1 S.2.1 dX6_one_122 rfl (lv_at hl 4 rfl) ?_
                have k78 := And.left hok
                replace hok := And.right hok
                refine al_M22 S K h k78 dX6_one_123 ?_
                have k79 := And.left hok
                replace hok := And.right hok
                refine as_M10 S K h k79 dX6_one_124 (fun H locs h => ?_)
                refine lv_goto (tgt := 156) S.1 S.2.1 dX6_one_125 (by decide) ?_
                subst hR
                exact g_retv S hr hlocks h dX6_one_156
            · replace hok := And.left hok c
              replace hR := (if_pos c).symm.trans hR
              refine lv_aload_n S.1 S.2.1 dX6_one_90 rfl (lv_at hl 1 rfl) ?_
              refine fg_X6_74 S K h dX6_one_91 ?_
              refine lv_iload_n S.1 S.2.1 dX6_one_94 rfl (lv_at hl 3 rfl) ?_
              refine lv_aload_n S.1 S.2.1 dX6_one_95 rfl (lv_at hl 1 rfl) ?_
              refine fg_X6_37 S K h dX6_one_96 ?_
              refine lv_iload S.1 S.2.1 dX6_one_99 (lv_at hl 0 rfl) ?_
              have k80 := And.left hok
              replace hok := And.right hok
              refine al_M10 S K h k80 dX6_one_101 ?_
              have k81 := And.left hok
              replace hok := And.right hok
              refine as_M22 S K h k81 dX6_one_102 (fun H locs h => ?_)
              refine lv_goto (tgt := 156) S.1 S.2.1 dX6_one_103 (by decide) ?_
              subst hR
              exact g_retv S hr hlocks h dX6_one_156
          · replace hok := And.left hok c
            replace hR := (if_pos c).symm.trans hR
            subst hR
            exact g_retv S hr hlocks h dX6_one_83
        · replace hok := And.right hok c
          replace hR := (if_neg c).symm.trans hR
          refine lv_iconst (v := 1) S.1 S.2.1 dX6_one_72 (by decide) ?_
          refine lv_goto (tgt := 77) S.1 S.2.1 dX6_one_73 (by decide) ?_
          have k83 := And.left hok
          replace hok := And.right hok
          refine g_calli (ci := 6) (q0 := 0) S wz_cons K h (c_X6_isThere l D cy q _ A _ _ k83) kc_X6_isThere km_X6_133 ki_X6_isThere ks_X6_isThere kn_X6 yd_X6_isThere ⟨⟨Nat.le_of_ble_eq_true rfl, Nat.le_of_ble_eq_true rfl⟩, rfl, rfl, Nat.zero_le _, Nat.zero_le _⟩ rfl rfl rfl hl.1 (Nat.le_of_ble_eq_true rfl) rfl dX6_one_77 (fun H locs h => ?_)
          refine lv_if_ne (tgt := 84) S.1 S.2.1 dX6_one_80 (by decide) (fun c => ?_) (fun c => ?_)
          · replace hok := And.right hok c
            replace hR := (if_neg c).symm.trans hR
            refine lv_iload_n S.1 S.2.1 dX6_one_84 rfl (lv_at hl 2 rfl) ?_
            refine lv_bipush (v := 8) S.1 S.2.1 dX6_one_85 (by decide) ?_
            refine lv_icmp_ne (tgt := 106) S.1 S.2.1 dX6_one_87 (by decide) (fun c => ?_) (fun c => ?_)
            · replace hok := And.right hok c
              replace hR := (if_neg c).symm.trans hR
              refine lv_iload_n S.1 S.2.1 dX6_one_106 rfl (lv_at hl 2 rfl) ?_
              refine lv_bipush (v := 9) S.1 S.2.1 dX6_one_107 (by decide) ?_
              refine lv_icmp_ne (tgt := 128) S.1 S.2.1 dX6_one_109 (by decide) (fun c => ?_) (fun c => ?_)
              · replace hok := And.right hok c
                replace hR := (if_neg c).symm.trans hR
                refine lv_iload_n S.1 S.2.1 dX6_one_128 rfl (lv_at hl 2 rfl) ?_
                refine lv_bipush (v := 10) S.1 S.2.1 dX6_one_129 (by decide) ?_
                refine lv_icmp_ne (tgt := 149) S.1 S.2.1 dX6_one_131 (by decide) (fun c => ?_) (fun c => ?_)
                · replace hok := And.right hok c
                  replace hR := (if_neg c).symm.trans hR
                  refine lv_aload_n S.1 S.2.1 dX6_one_149 rfl (lv_at hl 1 rfl) ?_
                  refine lv_iload_n S.1 S.2.1 dX6_one_150 rfl (lv_at hl 3 rfl) ?_
                  refine lv_iload S.1 S.2.1 dX6_one_151 (lv_at hl 0 rfl) ?_
                  have k86 := And.left hok
                  replace hok := And.right hok
                  refine g_callv (ci := 6) (q0 := 0) S wz_cons K h (c_X6_feed l D cy q _ A _ _ _ k86) kc_X6_feed km_X6_148 ki_X6_feed ks_X6_feed kn_X6 yd_X6_feed ⟨⟨Nat.le_of_ble_eq_true rfl, Nat.le_of_ble_eq_true rfl⟩, rfl, rfl, Nat.zero_le _, Nat.zero_le _⟩ rfl rfl rfl hl.1 (Nat.le_of_ble_eq_true rfl) rfl dX6_one_153 (fun H locs h => ?_)
                  subst hR
                  exact g_retv S hr hlocks h dX6_one_156
                · replace hok := And.left hok c
                  replace hR := (if_pos c).symm.trans hR
                  refine lv_aload_n S.1 S.2.1 dX6_one_134 rfl (lv_at hl 1 rfl) ?_
                  refine fg_X6_74 S K h dX6_one_135 ?_
                  refine lv_iload_n S.1 S.2.1 dX6_one_138 rfl (lv_at hl 3 rfl) ?_
                  refine lv_aload_n S.1 S.2.1 dX6_one_139 rfl (lv_at hl 1 rfl) ?_
                  refine lv_iload S.1 S.2.1 dX6_one_140 (lv_at hl 0 rfl) ?_
                  have k89 := And.left hok
                  replace hok := And.right hok
                  refine g_calli (ci := 6) (q0 := 0) S wz_cons K h (c_X6_stamped l D cy q _ A _ _ k89) kc_X6_stamped km_X6_144 ki_X6_stamped ks_X6_stamped kn_X6 yd_X6_stamped ⟨⟨Nat.le_of_ble_eq_true rfl, Nat.le_of_ble_eq_true rfl⟩, rfl, rfl, Nat.zero_le _, Nat.zero_le _⟩ rfl rfl rfl hl.1 (Nat.le_of_ble_eq_true rfl) rfl dX6_one_142 (fun H locs h => ?_)
                  have k91 := And.left hok
                  replace hok := And.right hok
                  refine as_M22 S K h k91 dX6_one_145 (fun H locs h => ?_)
                  refine lv_goto (tgt := 156) S.1 S.2.1 dX6_one_146 (by decide) ?_
                  subst hR
                  exact g_retv S hr hlocks h dX6_one_156
              · replace hok := And.left hok c
                replace hR := (if_pos c).symm.trans hR
                refine lv_aload_n S.1 S.2.1 dX6_one_112 rfl (lv_at hl 1 rfl) ?_
                refine fg_X6_37 S K h dX6_one_113 ?_
                refine lv_iload S.1 S.2.1 dX6_one_116 (lv_at hl 0 rfl) ?_
                refine lv_aload_n S.1 S.2.1 dX6_one_118 rfl (lv_at hl 1 rfl) ?_
                refine fg_X6_74 S K h dX6_one_119 ?_
                refine lv_iload_n S.1 S.2.1 dX6_one_122 rfl (lv_at hl 4 rfl) ?_
                have k92 := And.left hok
                replace hok := And.right hok
                refine al_M22 S K h k92 dX6_one_123 ?_
                have k93 := And.left hok
                replace hok := And.right hok
                refine as_M10 S K h k93 dX6_one_124 (fun H locs h => ?_)
                refine lv_goto (tgt := 156) S.1 S.2.1 dX6_one_125 (by decide) ?_
                subst hR
                exact g_retv S hr hlocks h dX6_one_156
            · replace hok := And.left hok c
              replace hR := (if_pos c).symm.trans hR
              refine lv_aload_n S.1 S.2.1 dX6_one_90 rfl (lv_at hl 1 rfl) ?_
              refine fg_X6_74 S K h dX6_one_91 ?_
              refine lv_iload_n S.1 S.2.1 dX6_one_94 rfl (lv_at hl 3 rfl) ?_
              refine lv_aload_n S.1 S.2.1 dX6_one_95 rfl (lv_at hl 1 rfl) ?_
              refine fg_X6_37 S K h dX6_one_96 ?_
              refine lv_iload S.1 S.2.1 dX6_one_99 (lv_at hl 0 rfl) ?_
              have k94 := And.left hok
              replace hok := And.right hok
              refine al_M10 S K h k94 dX6_one_101 ?_
              have k95 := And.left hok
              replace hok := And.right hok
              refine as_M22 S K h k95 dX6_one_102 (fun H locs h => ?_)
              refine lv_goto (tgt := 156) S.1 S.2.1 dX6_one_103 (by decide) ?_
              subst hR
              exact g_retv S hr hlocks h dX6_one_156
          · replace hok := And.left hok c
            replace hR := (if_pos c).symm.trans hR
            subst hR
            exact g_retv S hr hlocks h dX6_one_83
      · replace hok := And.left hok c
        replace hR := (if_pos c).symm.trans hR
        refine lv_aload_n S.1 S.2.1 dX6_one_35 rfl (lv_at hl 1 rfl) ?_
        refine lv_iload S.1 S.2.1 dX6_one_36 (lv_at hl 0 rfl) ?_
        refine lv_iconst (v := -1) S.1 S.2.1 dX6_one_38 (by decide) ?_
        refine lv_icmp_eq (tgt := 56) S.1 S.2.1 dX6_one_39 (by decide) (fun c => ?_) (fun c => ?_)
        · replace hok := And.left hok c
          replace hR := (if_pos c).symm.trans hR
          refine lv_iconst (v := 0) S.1 S.2.1 dX6_one_56 (by decide) ?_
          refine lv_goto (tgt := 61) S.1 S.2.1 dX6_one_57 (by decide) ?_
          refine fp_X6_127 S K h dX6_one_61 (fun H locs h => ?_)
          subst hR
          exact g_retv S hr hlocks h dX6_one_64
        · replace hok := And.right hok c
          replace hR := (if_neg c).symm.trans hR
          refine lv_aload_n S.1 S.2.1 dX6_one_42 rfl (lv_at hl 1 rfl) ?_
          refine fg_X6_34 S K h dX6_one_43 ?_
          refine lv_iload S.1 S.2.1 dX6_one_46 (lv_at hl 0 rfl) ?_
          have k96 := And.left hok
          replace hok := And.right hok
          refine al_M9 S K h k96 dX6_one_48 ?_
          refine lv_iload_n S.1 S.2.1 dX6_one_49 rfl (lv_at hl 4 rfl) ?_
          have k98 := And.left hok
          replace hok := And.right hok
          refine g_calls S wz_cons K.2 (c_X6_isOf l _ _ k98) kc_X6_isOf km_X6_141 kt_X6_isOf kn_X6 yd_X6_isOf.2 ⟨⟨Nat.le_of_ble_eq_true rfl, Nat.le_of_ble_eq_true rfl⟩, rfl, rfl, Nat.zero_le _, Nat.zero_le _⟩ rfl hl.1 (Nat.le_of_ble_eq_true rfl) rfl dX6_one_50 ?_
          refine lv_if_eq (tgt := 60) S.1 S.2.1 dX6_one_53 (by decide) (fun c => ?_) (fun c => ?_)
          · replace hok := And.left hok c
            replace hR := (if_pos c).symm.trans hR
            refine lv_iconst (v := 4) S.1 S.2.1 dX6_one_60 (by decide) ?_
            refine fp_X6_127 S K h dX6_one_61 (fun H locs h => ?_)
            subst hR
            exact g_retv S hr hlocks h dX6_one_64
          · replace hok := And.right hok c
            replace hR := (if_neg c).symm.trans hR
            refine lv_iconst (v := 0) S.1 S.2.1 dX6_one_56 (by decide) ?_
            refine lv_goto (tgt := 61) S.1 S.2.1 dX6_one_57 (by decide) ?_
            refine fp_X6_127 S K h dX6_one_61 (fun H locs h => ?_)
            subst hR
            exact g_retv S hr hlocks h dX6_one_64
def xl_X6_counts_34 : Nat → GS → Int32 → Int32 → Int32 → Int32 → Int32 → Int32 → Int32 × GS
  | 0, σ, _, _, _, _, _, _ => (0, σ)
  | n + 1, σ, x1, x2, x3, x4, x5, x6 => if x5 ≤ x6 then (0, σ) else xl_X6_counts_34 n (st σ 17 ((8 * x2) + x6).toNatClampNeg 0) x1 x2 x3 x4 x5 (x6 + 1)
def xlo_X6_counts_34 : Nat → GS → Int32 → Int32 → Int32 → Int32 → Int32 → Int32 → Prop
  | 0, _, _, _, _, _, _, _ => False
  | n + 1, σ, x1, x2, x3, x4, x5, x6 => (x5 ≤ x6 → True) ∧ (¬ (x5 ≤ x6) → vp_in ((8 * x2) + x6) 24 ∧ (xlo_X6_counts_34 n (st σ 17 ((8 * x2) + x6).toNatClampNeg 0) x1 x2 x3 x4 x5 (x6 + 1)))
set_option maxRecDepth 100000 in
set_option maxHeartbeats 4000000 in
theorem w_X6_counts_34 {p : Program} {l : Launch} {e : Env} {s : State} {m : MethodId} {args : Array Value} {below : List Frame} {meth : Method} {c : Code} {D : va_G} {cy : CY} {q : Nat → Nat} {ex : va_W} {A : Nat → Prop} (S : CallFix p m c cX6_counts 7 s args (wm yX6_counts cX6_counts 7 none) RX6) (K : KK D cy s) (hr : meth.sig.returnType = none) (hlocks : meth.locks = false) :
    ∀ (n : Nat) (σ : GS) (x1 : Int32) (x2 : Int32) (x3 : Int32) (x4 : Int32) (x5 : Int32) (x6 : Int32) (H : Heap) (locs : List Loc) (ls : Array Slot) (R : Int32 × GS), xlo_X6_counts_34 n σ x1 x2 x3 x4 x5 x6 → xl_X6_counts_34 n σ x1 x2 x3 x4 x5 x6 = R → WH D A s.heap H locs (wM cy q σ ++ ex) → lv_has ls 7 [(0, .ref (q 0)), (1, .int x1), (2, .int x2), (3, .int x3), (4, .int x4), (5, .int x5), (6, .int x6)] → W p l e ({ frames := 2, cells := 0, slots := 0, locals := 44 } : Room) s m args below meth c H locs 0 0 (MQ below (QV D (wM cy q R.2 ++ ex) A) args s 0 0 A) (F0 m 34 ls []) := by
  intro n
  induction n with
  | zero =>
    intro σ x1 x2 x3 x4 x5 x6 H locs ls R hok
    exact False.elim hok
  | succ n ih =>
    intro σ x1 x2 x3 x4 x5 x6 H locs ls R hok hR h hl
    refine lv_iload S.1 S.2.1 dX6_counts_34 (lv_at hl 6 rfl) ?_
    refine lv_iload S.1 S.2.1 dX6_counts_36 (lv_at hl 5 rfl) ?_
    refine lv_icmp_ge (tgt := 60) S.1 S.2.1 dX6_counts_38 (by decide) (fun c => ?_) (fun c => ?_)
    · replace hok := And.left hok c
      replace hR := (if_pos c).symm.trans hR
      subst hR
      exact g_retv S hr hlocks h dX6_counts_60
    · replace hok := And.right hok c
      replace hR := (if_neg c).symm.trans hR
      refine lv_aload_n S.1 S.2.1 dX6_counts_41 rfl (lv_at hl 0 rfl) ?_
      refine fg_X6_58 S K h dX6_counts_42 ?_
      refine lv_bipush (v := 8) S.1 S.2.1 dX6_counts_45 (by decide) ?_
      refine lv_iload_n S.1 S.2.1 dX6_counts_47 rfl (lv_at hl 2 rfl) ?_
      refine lv_imul S.1 S.2.1 dX6_counts_48 ?_
      refine lv_iload S.1 S.2.1 dX6_counts_49 (lv_at hl 6 rfl) ?_
      refine lv_iadd S.1 S.2.1 dX6_counts_51 ?_
      refine lv_iconst (v := 0) S.1 S.2.1 dX6_counts_52 (by decide) ?_
      have k102 := And.left hok
      replace hok := And.right hok
      refine as_M17 S K h k102 dX6_counts_53 (fun H locs h => ?_)
      refine lv_iinc (v := _ + 1) (lv' := [(6, .int _), (0, .ref _), (1, .int _), (2, .int _), (3, .int _), (4, .int _), (5, .int _)]) S.1 S.2.1 dX6_counts_54 hl (k := 6) rfl rfl (by decide) rfl (fun ls hl => ?_)
      refine lv_goto (tgt := 34) S.1 S.2.1 dX6_counts_57 (by decide) ?_
      exact ih _ _ _ _ _ _ _ _ _ _ R hok hR h (lv_sub hl [1, 2, 3, 4, 5, 6, 0] rfl)
def xr_X6_counts (σ : GS) (a1 : Int32) (a2 : Int32) (a3 : Int32) (a4 : Int32) : Int32 × GS := if a1 = 13 then bd (xr_X6_isSize σ (σ 22 a3.toNatClampNeg)) (fun v98 σ100 => if v98 = 0 then (0, σ100) else xl_X6_counts_34 100 (st σ100 16 a2.toNatClampNeg (σ 22 a3.toNatClampNeg)) a1 a2 a3 a4 (σ 22 a3.toNatClampNeg) 0) else if a1 = 14 then if a1 = 14 then if (σ 16 a2.toNatClampNeg) = (-1) then bd (xr_X6_isThere σ 0) (fun v75 σ77 => if v75 = 0 then (0, σ77) else bd (xr_X6_isIndex σ77 (σ 22 a3.toNatClampNeg) (σ77 16 a2.toNatClampNeg)) (fun v79 σ81 => if v79 = 0 then (0, σ81) else if a1 = 14 then (0, st σ81 17 ((8 * a2) + (σ 22 a3.toNatClampNeg)).toNatClampNeg ((σ81 17 ((8 * a2) + (σ 22 a3.toNatClampNeg)).toNatClampNeg) + 1)) else (0, st σ81 22 a2.toNatClampNeg (σ81 17 ((8 * a2) + (σ 22 a3.toNatClampNeg)).toNatClampNeg)))) else bd (xr_X6_isThere σ 1) (fun v86 σ88 => if v86 = 0 then (0, σ88) else bd (xr_X6_isIndex σ88 (σ 22 a3.toNatClampNeg) (σ88 16 a2.toNatClampNeg)) (fun v90 σ92 => if v90 = 0 then (0, σ92) else if a1 = 14 then (0, st σ92 17 ((8 * a2) + (σ 22 a3.toNatClampNeg)).toNatClampNeg ((σ92 17 ((8 * a2) + (σ 22 a3.toNatClampNeg)).toNatClampNeg) + 1)) else (0, st σ92 22 a2.toNatClampNeg (σ92 17 ((8 * a2) + (σ 22 a3.toNatClampNeg)).toNatClampNeg)))) else if (σ 16 a2.toNatClampNeg) = (-1) then bd (xr_X6_isThere σ 0) (fun v51 σ53 => if v51 = 0 then (0, σ53) else bd (xr_X6_isIndex σ53 (σ 22 a4.toNatClampNeg) (σ53 16 a2.toNatClampNeg)) (fun v55 σ57 => if v55 = 0 then (0, σ57) else if a1 = 14 then (0, st σ57 17 ((8 * a2) + (σ 22 a4.toNatClampNeg)).toNatClampNeg ((σ57 17 ((8 * a2) + (σ 22 a4.toNatClampNeg)).toNatClampNeg) + 1)) else (0, st σ57 22 a2.toNatClampNeg (σ57 17 ((8 * a2) + (σ 22 a4.toNatClampNeg)).toNatClampNeg)))) else bd (xr_X6_isThere σ 1) (fun v62 σ64 => if v62 = 0 then (0, σ64) else bd (xr_X6_isIndex σ64 (σ 22 a4.toNatClampNeg) (σ64 16 a2.toNatClampNeg)) (fun v66 σ68 => if v66 = 0 then (0, σ68) else if a1 = 14 then (0, st σ68 17 ((8 * a2) + (σ 22 a4.toNatClampNeg)).toNatClampNeg ((σ68 17 ((8 * a2) + (σ 22 a4.toNatClampNeg)).toNatClampNeg) + 1)) else (0, st σ68 22 a2.toNatClampNeg (σ68 17 ((8 * a2) + (σ 22 a4.toNatClampNeg)).toNatClampNeg)))) else if a1 = 14 then if (σ 16 a3.toNatClampNeg) = (-1) then bd (xr_X6_isThere σ 0) (fun v27 σ29 => if v27 = 0 then (0, σ29) else bd (xr_X6_isIndex σ29 (σ 22 a3.toNatClampNeg) (σ29 16 a3.toNatClampNeg)) (fun v31 σ33 => if v31 = 0 then (0, σ33) else if a1 = 14 then (0, st σ33 17 ((8 * a3) + (σ 22 a3.toNatClampNeg)).toNatClampNeg ((σ33 17 ((8 * a3) + (σ 22 a3.toNatClampNeg)).toNatClampNeg) + 1)) else (0, st σ33 22 a2.toNatClampNeg (σ33 17 ((8 * a3) + (σ 22 a3.toNatClampNeg)).toNatClampNeg)))) else bd (xr_X6_isThere σ 1) (fun v38 σ40 => if v38 = 0 then (0, σ40) else bd (xr_X6_isIndex σ40 (σ 22 a3.toNatClampNeg) (σ40 16 a3.toNatClampNeg)) (fun v42 σ44 => if v42 = 0 then (0, σ44) else if a1 = 14 then (0, st σ44 17 ((8 * a3) + (σ 22 a3.toNatClampNeg)).toNatClampNeg ((σ44 17 ((8 * a3) + (σ 22 a3.toNatClampNeg)).toNatClampNeg) + 1)) else (0, st σ44 22 a2.toNatClampNeg (σ44 17 ((8 * a3) + (σ 22 a3.toNatClampNeg)).toNatClampNeg)))) else if (σ 16 a3.toNatClampNeg) = (-1) then bd (xr_X6_isThere σ 0) (fun v3 σ5 => if v3 = 0 then (0, σ5) else bd (xr_X6_isIndex σ5 (σ 22 a4.toNatClampNeg) (σ5 16 a3.toNatClampNeg)) (fun v7 σ9 => if v7 = 0 then (0, σ9) else if a1 = 14 then (0, st σ9 17 ((8 * a3) + (σ 22 a4.toNatClampNeg)).toNatClampNeg ((σ9 17 ((8 * a3) + (σ 22 a4.toNatClampNeg)).toNatClampNeg) + 1)) else (0, st σ9 22 a2.toNatClampNeg (σ9 17 ((8 * a3) + (σ 22 a4.toNatClampNeg)).toNatClampNeg)))) else bd (xr_X6_isThere σ 1) (fun v14 σ16 => if v14 = 0 then (0, σ16) else bd (xr_X6_isIndex σ16 (σ 22 a4.toNatClampNeg) (σ16 16 a3.toNatClampNeg)) (fun v18 σ20 => if v18 = 0 then (0, σ20) else if a1 = 14 then (0, st σ20 17 ((8 * a3) + (σ 22 a4.toNatClampNeg)).toNatClampNeg ((σ20 17 ((8 * a3) + (σ 22 a4.toNatClampNeg)).toNatClampNeg) + 1)) else (0, st σ20 22 a2.toNatClampNeg (σ20 17 ((8 * a3) + (σ 22 a4.toNatClampNeg)).toNatClampNeg))))
def xo_X6_counts (σ : GS) (a1 : Int32) (a2 : Int32) (a3 : Int32) (a4 : Int32) : Prop := (a1 = 13 → vp_in a3 6 ∧ ((xo_X6_isSize σ (σ 22 a3.toNatClampNeg)) ∧ bd (xr_X6_isSize σ (σ 22 a3.toNatClampNeg)) (fun v98 σ100 => (v98 = 0 → True) ∧ (¬ (v98 = 0) → vp_in a2 3 ∧ (xlo_X6_counts_34 100 (st σ100 16 a2.toNatClampNeg (σ 22 a3.toNatClampNeg)) a1 a2 a3 a4 (σ 22 a3.toNatClampNeg) 0))))) ∧ (¬ (a1 = 13) → (a1 = 14 → (a1 = 14 → vp_in a3 6 ∧ (vp_in a2 3 ∧ (((σ 16 a2.toNatClampNeg) = (-1) → (xo_X6_isThere σ 0) ∧ bd (xr_X6_isThere σ 0) (fun v75 σ77 => (v75 = 0 → True) ∧ (¬ (v75 = 0) → vp_in a2 3 ∧ ((xo_X6_isIndex σ77 (σ 22 a3.toNatClampNeg) (σ77 16 a2.toNatClampNeg)) ∧ bd (xr_X6_isIndex σ77 (σ 22 a3.toNatClampNeg) (σ77 16 a2.toNatClampNeg)) (fun v79 σ81 => (v79 = 0 → True) ∧ (¬ (v79 = 0) → (a1 = 14 → vp_in ((8 * a2) + (σ 22 a3.toNatClampNeg)) 24 ∧ (vp_in ((8 * a2) + (σ 22 a3.toNatClampNeg)) 24 ∧ (True))) ∧ (¬ (a1 = 14) → vp_in ((8 * a2) + (σ 22 a3.toNatClampNeg)) 24 ∧ (vp_in a2 6 ∧ (True))))))))) ∧ (¬ ((σ 16 a2.toNatClampNeg) = (-1)) → (xo_X6_isThere σ 1) ∧ bd (xr_X6_isThere σ 1) (fun v86 σ88 => (v86 = 0 → True) ∧ (¬ (v86 = 0) → vp_in a2 3 ∧ ((xo_X6_isIndex σ88 (σ 22 a3.toNatClampNeg) (σ88 16 a2.toNatClampNeg)) ∧ bd (xr_X6_isIndex σ88 (σ 22 a3.toNatClampNeg) (σ88 16 a2.toNatClampNeg)) (fun v90 σ92 => (v90 = 0 → True) ∧ (¬ (v90 = 0) → (a1 = 14 → vp_in ((8 * a2) + (σ 22 a3.toNatClampNeg)) 24 ∧ (vp_in ((8 * a2) + (σ 22 a3.toNatClampNeg)) 24 ∧ (True))) ∧ (¬ (a1 = 14) → vp_in ((8 * a2) + (σ 22 a3.toNatClampNeg)) 24 ∧ (vp_in a2 6 ∧ (True)))))))))))) ∧ (¬ (a1 = 14) → vp_in a4 6 ∧ (vp_in a2 3 ∧ (((σ 16 a2.toNatClampNeg) = (-1) → (xo_X6_isThere σ 0) ∧ bd (xr_X6_isThere σ 0) (fun v51 σ53 => (v51 = 0 → True) ∧ (¬ (v51 = 0) → vp_in a2 3 ∧ ((xo_X6_isIndex σ53 (σ 22 a4.toNatClampNeg) (σ53 16 a2.toNatClampNeg)) ∧ bd (xr_X6_isIndex σ53 (σ 22 a4.toNatClampNeg) (σ53 16 a2.toNatClampNeg)) (fun v55 σ57 => (v55 = 0 → True) ∧ (¬ (v55 = 0) → (a1 = 14 → vp_in ((8 * a2) + (σ 22 a4.toNatClampNeg)) 24 ∧ (vp_in ((8 * a2) + (σ 22 a4.toNatClampNeg)) 24 ∧ (True))) ∧ (¬ (a1 = 14) → vp_in ((8 * a2) + (σ 22 a4.toNatClampNeg)) 24 ∧ (vp_in a2 6 ∧ (True))))))))) ∧ (¬ ((σ 16 a2.toNatClampNeg) = (-1)) → (xo_X6_isThere σ 1) ∧ bd (xr_X6_isThere σ 1) (fun v62 σ64 => (v62 = 0 → True) ∧ (¬ (v62 = 0) → vp_in a2 3 ∧ ((xo_X6_isIndex σ64 (σ 22 a4.toNatClampNeg) (σ64 16 a2.toNatClampNeg)) ∧ bd (xr_X6_isIndex σ64 (σ 22 a4.toNatClampNeg) (σ64 16 a2.toNatClampNeg)) (fun v66 σ68 => (v66 = 0 → True) ∧ (¬ (v66 = 0) → (a1 = 14 → vp_in ((8 * a2) + (σ 22 a4.toNatClampNeg)) 24 ∧ (vp_in ((8 * a2) + (σ 22 a4.toNatClampNeg)) 24 ∧ (True))) ∧ (¬ (a1 = 14) → vp_in ((8 * a2) + (σ 22 a4.toNatClampNeg)) 24 ∧ (vp_in a2 6 ∧ (True))))))))))))) ∧ (¬ (a1 = 14) → (a1 = 14 → vp_in a3 6 ∧ (vp_in a3 3 ∧ (((σ 16 a3.toNatClampNeg) = (-1) → (xo_X6_isThere σ 0) ∧ bd (xr_X6_isThere σ 0) (fun v27 σ29 => (v27 = 0 → True) ∧ (¬ (v27 = 0) → vp_in a3 3 ∧ ((xo_X6_isIndex σ29 (σ 22 a3.toNatClampNeg) (σ29 16 a3.toNatClampNeg)) ∧ bd (xr_X6_isIndex σ29 (σ 22 a3.toNatClampNeg) (σ29 16 a3.toNatClampNeg)) (fun v31 σ33 => (v31 = 0 → True) ∧ (¬ (v31 = 0) → (a1 = 14 → vp_in ((8 * a3) + (σ 22 a3.toNatClampNeg)) 24 ∧ (vp_in ((8 * a3) + (σ 22 a3.toNatClampNeg)) 24 ∧ (True))) ∧ (¬ (a1 = 14) → vp_in ((8 * a3) + (σ 22 a3.toNatClampNeg)) 24 ∧ (vp_in a2 6 ∧ (True))))))))) ∧ (¬ ((σ 16 a3.toNatClampNeg) = (-1)) → (xo_X6_isThere σ 1) ∧ bd (xr_X6_isThere σ 1) (fun v38 σ40 => (v38 = 0 → True) ∧ (¬ (v38 = 0) → vp_in a3 3 ∧ ((xo_X6_isIndex σ40 (σ 22 a3.toNatClampNeg) (σ40 16 a3.toNatClampNeg)) ∧ bd (xr_X6_isIndex σ40 (σ 22 a3.toNatClampNeg) (σ40 16 a3.toNatClampNeg)) (fun v42 σ44 => (v42 = 0 → True) ∧ (¬ (v42 = 0) → (a1 = 14 → vp_in ((8 * a3) + (σ 22 a3.toNatClampNeg)) 24 ∧ (vp_in ((8 * a3) + (σ 22 a3.toNatClampNeg)) 24 ∧ (True))) ∧ (¬ (a1 = 14) → vp_in ((8 * a3) + (σ 22 a3.toNatClampNeg)) 24 ∧ (vp_in a2 6 ∧ (True)))))))))))) ∧ (¬ (a1 = 14) → vp_in a4 6 ∧ (vp_in a3 3 ∧ (((σ 16 a3.toNatClampNeg) = (-1) → (xo_X6_isThere σ 0) ∧ bd (xr_X6_isThere σ 0) (fun v3 σ5 => (v3 = 0 → True) ∧ (¬ (v3 = 0) → vp_in a3 3 ∧ ((xo_X6_isIndex σ5 (σ 22 a4.toNatClampNeg) (σ5 16 a3.toNatClampNeg)) ∧ bd (xr_X6_isIndex σ5 (σ 22 a4.toNatClampNeg) (σ5 16 a3.toNatClampNeg)) (fun v7 σ9 => (v7 = 0 → True) ∧ (¬ (v7 = 0) → (a1 = 14 → vp_in ((8 * a3) + (σ 22 a4.toNatClampNeg)) 24 ∧ (vp_in ((8 * a3) + (σ 22 a4.toNatClampNeg)) 24 ∧ (True))) ∧ (¬ (a1 = 14) → vp_in ((8 * a3) + (σ 22 a4.toNatClampNeg)) 24 ∧ (vp_in a2 6 ∧ (True))))))))) ∧ (¬ ((σ 16 a3.toNatClampNeg) = (-1)) → (xo_X6_isThere σ 1) ∧ bd (xr_X6_isThere σ 1) (fun v14 σ16 => (v14 = 0 → True) ∧ (¬ (v14 = 0) → vp_in a3 3 ∧ ((xo_X6_isIndex σ16 (σ 22 a4.toNatClampNeg) (σ16 16 a3.toNatClampNeg)) ∧ bd (xr_X6_isIndex σ16 (σ 22 a4.toNatClampNeg) (σ16 16 a3.toNatClampNeg)) (fun v18 σ20 => (v18 = 0 → True) ∧ (¬ (v18 = 0) → (a1 = 14 → vp_in ((8 * a3) + (σ 22 a4.toNatClampNeg)) 24 ∧ (vp_in ((8 * a3) + (σ 22 a4.toNatClampNeg)) 24 ∧ (True))) ∧ (¬ (a1 = 14) → vp_in ((8 * a3) + (σ 22 a4.toNatClampNeg)) 24 ∧ (vp_in a2 6 ∧ (True))))))))))))))
set_option maxRecDepth 100000 in
set_option maxHeartbeats 4000000 in
theorem c_X6_counts (l : Launch) (D : va_G) (cy : CY) (q : Nat → Nat) (ex : va_W) (A : Nat → Prop) (σ : GS) (a1 : Int32) (a2 : Int32) (a3 : Int32) (a4 : Int32) (hok : xo_X6_counts σ a1 a2 a3 a4) : Met l yX6_counts (wm yX6_counts cX6_counts 7 none) ({ frames := 2, cells := 0, slots := 0, locals := 44 } : Room) (PC D cy (wM cy q σ ++ ex) A [.ref (q 0), .int a1, .int a2, .int a3, .int a4]) (QV D (wM cy q (xr_X6_counts σ a1 a2 a3 a4).2 ++ ex) A) 0 0 A := by
  generalize hR : xr_X6_counts σ a1 a2 a3 a4 = R
  refine g_met (lv := [(0, .ref (q 0)), (1, .int a1), (2, .int a2), (3, .int a3), (4, .int a4)]) (by decide) rfl (Nat.le_of_ble_eq_true rfl) rfl ?_
  intro p e s m below meth c ls S K h hr hlocks hl
  refine lv_iload_n S.1 S.2.1 dX6_counts_0 rfl (lv_at hl 1 rfl) ?_
  refine lv_bipush (v := 13) S.1 S.2.1 dX6_counts_1 (by decide) ?_
  refine lv_icmp_ne (tgt := 61) S.1 S.2.1 dX6_counts_3 (by decide) (fun c => ?_) (fun c => ?_)
  · replace hok := And.right hok c
    replace hR := (if_neg c).symm.trans hR
    refine lv_iload_n S.1 S.2.1 dX6_counts_61 rfl (lv_at hl 1 rfl) ?_
    refine lv_bipush (v := 14) S.1 S.2.1 dX6_counts_62 (by decide) ?_
    refine lv_icmp_ne (tgt := 71) S.1 S.2.1 dX6_counts_64 (by decide) (fun c => ?_) (fun c => ?_)
    · replace hok := And.right hok c
      replace hR := (if_neg c).symm.trans hR
      refine lv_iload_n S.1 S.2.1 dX6_counts_71 rfl (lv_at hl 3 rfl) ?_
      refine lv_istore (lv' := [(5, .int _), (0, .ref _), (1, .int _), (2, .int _), (3, .int _), (4, .int _)]) S.1 S.2.1 dX6_counts_72 hl (by decide) rfl (fun ls hl => ?_)
      refine lv_iload_n S.1 S.2.1 dX6_counts_74 rfl (lv_at hl 2 rfl) ?_
      refine lv_bipush (v := 14) S.1 S.2.1 dX6_counts_75 (by decide) ?_
      refine lv_icmp_ne (tgt := 89) S.1 S.2.1 dX6_counts_77 (by decide) (fun c => ?_) (fun c => ?_)
      · replace hok := And.right hok c
        replace hR := (if_neg c).symm.trans hR
        refine lv_aload_n S.1 S.2.1 dX6_counts_89 rfl (lv_at hl 1 rfl) ?_
        refine fg_X6_74 S K h dX6_counts_90 ?_
        refine lv_iload S.1 S.2.1 dX6_counts_93 (lv_at hl 5 rfl) ?_
        have k1 := And.left hok
        replace hok := And.right hok
        refine al_M22 S K h k1 dX6_counts_95 ?_
        refine lv_istore (lv' := [(6, .int _), (5, .int _), (0, .ref _), (1, .int _), (2, .int _), (3, .int _), (4, .int _)]) S.1 S.2.1 dX6_counts_96 hl (by decide) rfl (fun ls hl => ?_)
        refine lv_aload_n S.1 S.2.1 dX6_counts_98 rfl (lv_at hl 2 rfl) ?_
        refine lv_aload_n S.1 S.2.1 dX6_counts_99 rfl (lv_at hl 2 rfl) ?_
        refine fg_X6_55 S K h dX6_counts_100 ?_
        refine lv_iload S.1 S.2.1 dX6_counts_103 (lv_at hl 1 rfl) ?_
        have k2 := And.left hok
        replace hok := And.right hok
        refine al_M16 S K h k2 dX6_counts_105 ?_
        refine lv_iconst (v := -1) S.1 S.2.1 dX6_counts_106 (by decide) ?_
        refine lv_icmp_eq (tgt := 114) S.1 S.2.1 dX6_counts_107 (by decide) (fun c => ?_) (fun c => ?_)
        · replace hok := And.left hok c
          replace hR := (if_pos c).symm.trans hR
          refine lv_iconst (v := 0) S.1 S.2.1 dX6_counts_114 (by decide) ?_
          have k4 := And.left hok
          replace hok := And.right hok
          refine g_calli (ci := 6) (q0 := 0) S wz_cons K h (c_X6_isThere l D cy q _ A _ _ k4) kc_X6_isThere km_X6_133 ki_X6_isThere ks_X6_isThere kn_X6 yd_X6_isThere ⟨⟨Nat.le_of_ble_eq_true rfl, Nat.le_of_ble_eq_true rfl⟩, rfl, rfl, Nat.zero_le _, Nat.zero_le _⟩ rfl rfl rfl hl.1 (Nat.le_of_ble_eq_true rfl) rfl dX6_counts_115 (fun H locs h => ?_)
          refine lv_if_eq (tgt := 137) S.1 S.2.1 dX6_counts_118 (by decide) (fun c => ?_) (fun c => ?_)
          · replace hok := And.left hok c
            replace hR := (if_pos c).symm.trans hR
            subst hR
            exact g_retv S hr hlocks h dX6_counts_137
          · replace hok := And.right hok c
            replace hR := (if_neg c).symm.trans hR
            refine lv_aload_n S.1 S.2.1 dX6_counts_121 rfl (lv_at hl 2 rfl) ?_
            refine lv_iload S.1 S.2.1 dX6_counts_122 (lv_at hl 0 rfl) ?_
            refine lv_aload_n S.1 S.2.1 dX6_counts_124 rfl (lv_at hl 2 rfl) ?_
            refine fg_X6_55 S K h dX6_counts_125 ?_
            refine lv_iload S.1 S.2.1 dX6_counts_128 (lv_at hl 1 rfl) ?_
            have k6 := And.left hok
            replace hok := And.right hok
            refine al_M16 S K h k6 dX6_counts_130 ?_
            have k8 := And.left hok
            replace hok := And.right hok
            refine g_calli (ci := 6) (q0 := 0) S wz_cons K h (c_X6_isIndex l D cy q _ A _ _ _ k8) kc_X6_isIndex km_X6_137 ki_X6_isIndex ks_X6_isIndex kn_X6 yd_X6_isIndex ⟨⟨Nat.le_of_ble_eq_true rfl, Nat.le_of_ble_eq_true rfl⟩, rfl, rfl, Nat.zero_le _, Nat.zero_le _⟩ rfl rfl rfl hl.1 (Nat.le_of_ble_eq_true rfl) rfl dX6_counts_131 (fun H locs h => ?_)
            refine lv_if_ne (tgt := 138) S.1 S.2.1 dX6_counts_134 (by decide) (fun c => ?_) (fun c => ?_)
            · replace hok := And.right hok c
              replace hR := (if_neg c).symm.trans hR
              refine lv_iload_n S.1 S.2.1 dX6_counts_138 rfl (lv_at hl 3 rfl) ?_
              refine lv_bipush (v := 14) S.1 S.2.1 dX6_counts_139 (by decide) ?_
              refine lv_icmp_ne (tgt := 164) S.1 S.2.1 dX6_counts_141 (by decide) (fun c => ?_) (fun c => ?_)
              · replace hok := And.right hok c
                replace hR := (if_neg c).symm.trans hR
                refine lv_aload_n S.1 S.2.1 dX6_counts_164 rfl (lv_at hl 2 rfl) ?_
                refine fg_X6_74 S K h dX6_counts_165 ?_
                refine lv_iload_n S.1 S.2.1 dX6_counts_168 rfl (lv_at hl 4 rfl) ?_
                refine lv_aload_n S.1 S.2.1 dX6_counts_169 rfl (lv_at hl 2 rfl) ?_
                refine fg_X6_58 S K h dX6_counts_170 ?_
                refine lv_bipush (v := 8) S.1 S.2.1 dX6_counts_173 (by decide) ?_
                refine lv_iload S.1 S.2.1 dX6_counts_175 (lv_at hl 1 rfl) ?_
                refine lv_imul S.1 S.2.1 dX6_counts_177 ?_
                refine lv_iload S.1 S.2.1 dX6_counts_178 (lv_at hl 0 rfl) ?_
                refine lv_iadd S.1 S.2.1 dX6_counts_180 ?_
                have k10 := And.left hok
                replace hok := And.right hok
                refine al_M17 S K h k10 dX6_counts_181 ?_
                have k11 := And.left hok
                replace hok := And.right hok
                refine as_M22 S K h k11 dX6_counts_182 (fun H locs h => ?_)
                subst hR
                exact g_retv S hr hlocks h dX6_counts_183
              · replace hok := And.left hok c
                replace hR := (if_pos c).symm.trans hR
                refine lv_aload_n S.1 S.2.1 dX6_counts_144 rfl (lv_at hl 2 rfl) ?_
                refine fg_X6_58 S K h dX6_counts_145 ?_
                refine lv_bipush (v := 8) S.1 S.2.1 dX6_counts_148 (by decide) ?_
                refine lv_iload S.1 S.2.1 dX6_counts_150 (lv_at hl 1 rfl) ?_
                refine lv_imul S.1 S.2.1 dX6_counts_152 ?_
                refine lv_iload S.1 S.2.1 dX6_counts_153 (lv_at hl 0 rfl) ?_
                refine lv_iadd S.1 S.2.1 dX6_counts_155 ?_
                refine lv_dup2_11 S.1 S.2.1 dX6_counts_156 rfl rfl ?_
                have k12 := And.left hok
                replace hok := And.right hok
                refine al_M17 S K h k12 dX6_counts_157 ?_
                refine lv_iconst (v := 1) S.1 S.2.1 dX6_counts_158 (by decide) ?_
                refine lv_iadd S.1 S.2.1 dX6_counts_159 ?_
                have k13 := And.left hok
                replace hok := And.right hok
                refine as_M17 S K h k13 dX6_counts_160 (fun H locs h => ?_)
                refine lv_goto (tgt := 183) S.1 S.2.1 dX6_counts_161 (by decide) ?_
                subst hR
                exact g_retv S hr hlocks h dX6_counts_183
            · replace hok := And.left hok c
              replace hR := (if_pos c).symm.trans hR
              subst hR
              exact g_retv S hr hlocks h dX6_counts_137
        · replace hok := And.right hok c
          replace hR := (if_neg c).symm.trans hR
          refine lv_iconst (v := 1) S.1 S.2.1 dX6_counts_110 (by decide) ?_
          refine lv_goto (tgt := 115) S.1 S.2.1 dX6_counts_111 (by decide) ?_
          have k15 := And.left hok
          replace hok := And.right hok
          refine g_calli (ci := 6) (q0 := 0) S wz_cons K h (c_X6_isThere l D cy q _ A _ _ k15) kc_X6_isThere km_X6_133 ki_X6_isThere ks_X6_isThere kn_X6 yd_X6_isThere ⟨⟨Nat.le_of_ble_eq_true rfl, Nat.le_of_ble_eq_true rfl⟩, rfl, rfl, Nat.zero_le _, Nat.zero_le _⟩ rfl rfl rfl hl.1 (Nat.le_of_ble_eq_true rfl) rfl dX6_counts_115 (fun H locs h => ?_)
          refine lv_if_eq (tgt := 137) S.1 S.2.1 dX6_counts_118 (by decide) (fun c => ?_) (fun c => ?_)
          · replace hok := And.left hok c
            replace hR := (if_pos c).symm.trans hR
            subst hR
            exact g_retv S hr hlocks h dX6_counts_137
          · replace hok := And.right hok c
            replace hR := (if_neg c).symm.trans hR
            refine lv_aload_n S.1 S.2.1 dX6_counts_121 rfl (lv_at hl 2 rfl) ?_
            refine lv_iload S.1 S.2.1 dX6_counts_122 (lv_at hl 0 rfl) ?_
            refine lv_aload_n S.1 S.2.1 dX6_counts_124 rfl (lv_at hl 2 rfl) ?_
            refine fg_X6_55 S K h dX6_counts_125 ?_
            refine lv_iload S.1 S.2.1 dX6_counts_128 (lv_at hl 1 rfl) ?_
            have k17 := And.left hok
            replace hok := And.right hok
            refine al_M16 S K h k17 dX6_counts_130 ?_
            have k19 := And.left hok
            replace hok := And.right hok
            refine g_calli (ci := 6) (q0 := 0) S wz_cons K h (c_X6_isIndex l D cy q _ A _ _ _ k19) kc_X6_isIndex km_X6_137 ki_X6_isIndex ks_X6_isIndex kn_X6 yd_X6_isIndex ⟨⟨Nat.le_of_ble_eq_true rfl, Nat.le_of_ble_eq_true rfl⟩, rfl, rfl, Nat.zero_le _, Nat.zero_le _⟩ rfl rfl rfl hl.1 (Nat.le_of_ble_eq_true rfl) rfl dX6_counts_131 (fun H locs h => ?_)
            refine lv_if_ne (tgt := 138) S.1 S.2.1 dX6_counts_134 (by decide) (fun c => ?_) (fun c => ?_)
            · replace hok := And.right hok c
              replace hR := (if_neg c).symm.trans hR
              refine lv_iload_n S.1 S.2.1 dX6_counts_138 rfl (lv_at hl 3 rfl) ?_
              refine lv_bipush (v := 14) S.1 S.2.1 dX6_counts_139 (by decide) ?_
              refine lv_icmp_ne (tgt := 164) S.1 S.2.1 dX6_counts_141 (by decide) (fun c => ?_) (fun c => ?_)
              · replace hok := And.right hok c
                replace hR := (if_neg c).symm.trans hR
                refine lv_aload_n S.1 S.2.1 dX6_counts_164 rfl (lv_at hl 2 rfl) ?_
                refine fg_X6_74 S K h dX6_counts_165 ?_
                refine lv_iload_n S.1 S.2.1 dX6_counts_168 rfl (lv_at hl 4 rfl) ?_
                refine lv_aload_n S.1 S.2.1 dX6_counts_169 rfl (lv_at hl 2 rfl) ?_
                refine fg_X6_58 S K h dX6_counts_170 ?_
                refine lv_bipush (v := 8) S.1 S.2.1 dX6_counts_173 (by decide) ?_
                refine lv_iload S.1 S.2.1 dX6_counts_175 (lv_at hl 1 rfl) ?_
                refine lv_imul S.1 S.2.1 dX6_counts_177 ?_
                refine lv_iload S.1 S.2.1 dX6_counts_178 (lv_at hl 0 rfl) ?_
                refine lv_iadd S.1 S.2.1 dX6_counts_180 ?_
                have k21 := And.left hok
                replace hok := And.right hok
                refine al_M17 S K h k21 dX6_counts_181 ?_
                have k22 := And.left hok
                replace hok := And.right hok
                refine as_M22 S K h k22 dX6_counts_182 (fun H locs h => ?_)
                subst hR
                exact g_retv S hr hlocks h dX6_counts_183
              · replace hok := And.left hok c
                replace hR := (if_pos c).symm.trans hR
                refine lv_aload_n S.1 S.2.1 dX6_counts_144 rfl (lv_at hl 2 rfl) ?_
                refine fg_X6_58 S K h dX6_counts_145 ?_
                refine lv_bipush (v := 8) S.1 S.2.1 dX6_counts_148 (by decide) ?_
                refine lv_iload S.1 S.2.1 dX6_counts_150 (lv_at hl 1 rfl) ?_
                refine lv_imul S.1 S.2.1 dX6_counts_152 ?_
                refine lv_iload S.1 S.2.1 dX6_counts_153 (lv_at hl 0 rfl) ?_
                refine lv_iadd S.1 S.2.1 dX6_counts_155 ?_
                refine lv_dup2_11 S.1 S.2.1 dX6_counts_156 rfl rfl ?_
                have k23 := And.left hok
                replace hok := And.right hok
                refine al_M17 S K h k23 dX6_counts_157 ?_
                refine lv_iconst (v := 1) S.1 S.2.1 dX6_counts_158 (by decide) ?_
                refine lv_iadd S.1 S.2.1 dX6_counts_159 ?_
                have k24 := And.left hok
                replace hok := And.right hok
                refine as_M17 S K h k24 dX6_counts_160 (fun H locs h => ?_)
                refine lv_goto (tgt := 183) S.1 S.2.1 dX6_counts_161 (by decide) ?_
                subst hR
                exact g_retv S hr hlocks h dX6_counts_183
            · replace hok := And.left hok c
              replace hR := (if_pos c).symm.trans hR
              subst hR
              exact g_retv S hr hlocks h dX6_counts_137
      · replace hok := And.left hok c
        replace hR := (if_pos c).symm.trans hR
        refine lv_aload_n S.1 S.2.1 dX6_counts_80 rfl (lv_at hl 1 rfl) ?_
        refine fg_X6_74 S K h dX6_counts_81 ?_
        refine lv_iload_n S.1 S.2.1 dX6_counts_84 rfl (lv_at hl 4 rfl) ?_
        have k25 := And.left hok
        replace hok := And.right hok
        refine al_M22 S K h k25 dX6_counts_85 ?_
        refine lv_goto (tgt := 96) S.1 S.2.1 dX6_counts_86 (by decide) ?_
        refine lv_istore (lv' := [(6, .int _), (5, .int _), (0, .ref _), (1, .int _), (2, .int _), (3, .int _), (4, .int _)]) S.1 S.2.1 dX6_counts_96 hl (by decide) rfl (fun ls hl => ?_)
        refine lv_aload_n S.1 S.2.1 dX6_counts_98 rfl (lv_at hl 2 rfl) ?_
        refine lv_aload_n S.1 S.2.1 dX6_counts_99 rfl (lv_at hl 2 rfl) ?_
        refine fg_X6_55 S K h dX6_counts_100 ?_
        refine lv_iload S.1 S.2.1 dX6_counts_103 (lv_at hl 1 rfl) ?_
        have k26 := And.left hok
        replace hok := And.right hok
        refine al_M16 S K h k26 dX6_counts_105 ?_
        refine lv_iconst (v := -1) S.1 S.2.1 dX6_counts_106 (by decide) ?_
        refine lv_icmp_eq (tgt := 114) S.1 S.2.1 dX6_counts_107 (by decide) (fun c => ?_) (fun c => ?_)
        · replace hok := And.left hok c
          replace hR := (if_pos c).symm.trans hR
          refine lv_iconst (v := 0) S.1 S.2.1 dX6_counts_114 (by decide) ?_
          have k28 := And.left hok
          replace hok := And.right hok
          refine g_calli (ci := 6) (q0 := 0) S wz_cons K h (c_X6_isThere l D cy q _ A _ _ k28) kc_X6_isThere km_X6_133 ki_X6_isThere ks_X6_isThere kn_X6 yd_X6_isThere ⟨⟨Nat.le_of_ble_eq_true rfl, Nat.le_of_ble_eq_true rfl⟩, rfl, rfl, Nat.zero_le _, Nat.zero_le _⟩ rfl rfl rfl hl.1 (Nat.le_of_ble_eq_true rfl) rfl dX6_counts_115 (fun H locs h => ?_)
          refine lv_if_eq (tgt := 137) S.1 S.2.1 dX6_counts_118 (by decide) (fun c => ?_) (fun c => ?_)
          · replace hok := And.left hok c
            replace hR := (if_pos c).symm.trans hR
            subst hR
            exact g_retv S hr hlocks h dX6_counts_137
          · replace hok := And.right hok c
            replace hR := (if_neg c).symm.trans hR
            refine lv_aload_n S.1 S.2.1 dX6_counts_121 rfl (lv_at hl 2 rfl) ?_
            refine lv_iload S.1 S.2.1 dX6_counts_122 (lv_at hl 0 rfl) ?_
            refine lv_aload_n S.1 S.2.1 dX6_counts_124 rfl (lv_at hl 2 rfl) ?_
            refine fg_X6_55 S K h dX6_counts_125 ?_
            refine lv_iload S.1 S.2.1 dX6_counts_128 (lv_at hl 1 rfl) ?_
            have k30 := And.left hok
            replace hok := And.right hok
            refine al_M16 S K h k30 dX6_counts_130 ?_
            have k32 := And.left hok
            replace hok := And.right hok
            refine g_calli (ci := 6) (q0 := 0) S wz_cons K h (c_X6_isIndex l D cy q _ A _ _ _ k32) kc_X6_isIndex km_X6_137 ki_X6_isIndex ks_X6_isIndex kn_X6 yd_X6_isIndex ⟨⟨Nat.le_of_ble_eq_true rfl, Nat.le_of_ble_eq_true rfl⟩, rfl, rfl, Nat.zero_le _, Nat.zero_le _⟩ rfl rfl rfl hl.1 (Nat.le_of_ble_eq_true rfl) rfl dX6_counts_131 (fun H locs h => ?_)
            refine lv_if_ne (tgt := 138) S.1 S.2.1 dX6_counts_134 (by decide) (fun c => ?_) (fun c => ?_)
            · replace hok := And.right hok c
              replace hR := (if_neg c).symm.trans hR
              refine lv_iload_n S.1 S.2.1 dX6_counts_138 rfl (lv_at hl 3 rfl) ?_
              refine lv_bipush (v := 14) S.1 S.2.1 dX6_counts_139 (by decide) ?_
              refine lv_icmp_ne (tgt := 164) S.1 S.2.1 dX6_counts_141 (by decide) (fun c => ?_) (fun c => ?_)
              · replace hok := And.right hok c
                replace hR := (if_neg c).symm.trans hR
                refine lv_aload_n S.1 S.2.1 dX6_counts_164 rfl (lv_at hl 2 rfl) ?_
                refine fg_X6_74 S K h dX6_counts_165 ?_
                refine lv_iload_n S.1 S.2.1 dX6_counts_168 rfl (lv_at hl 4 rfl) ?_
                refine lv_aload_n S.1 S.2.1 dX6_counts_169 rfl (lv_at hl 2 rfl) ?_
                refine fg_X6_58 S K h dX6_counts_170 ?_
                refine lv_bipush (v := 8) S.1 S.2.1 dX6_counts_173 (by decide) ?_
                refine lv_iload S.1 S.2.1 dX6_counts_175 (lv_at hl 1 rfl) ?_
                refine lv_imul S.1 S.2.1 dX6_counts_177 ?_
                refine lv_iload S.1 S.2.1 dX6_counts_178 (lv_at hl 0 rfl) ?_
                refine lv_iadd S.1 S.2.1 dX6_counts_180 ?_
                have k34 := And.left hok
                replace hok := And.right hok
                refine al_M17 S K h k34 dX6_counts_181 ?_
                have k35 := And.left hok
                replace hok := And.right hok
                refine as_M22 S K h k35 dX6_counts_182 (fun H locs h => ?_)
                subst hR
                exact g_retv S hr hlocks h dX6_counts_183
              · replace hok := And.left hok c
                replace hR := (if_pos c).symm.trans hR
                refine lv_aload_n S.1 S.2.1 dX6_counts_144 rfl (lv_at hl 2 rfl) ?_
                refine fg_X6_58 S K h dX6_counts_145 ?_
                refine lv_bipush (v := 8) S.1 S.2.1 dX6_counts_148 (by decide) ?_
                refine lv_iload S.1 S.2.1 dX6_counts_150 (lv_at hl 1 rfl) ?_
                refine lv_imul S.1 S.2.1 dX6_counts_152 ?_
                refine lv_iload S.1 S.2.1 dX6_counts_153 (lv_at hl 0 rfl) ?_
                refine lv_iadd S.1 S.2.1 dX6_counts_155 ?_
                refine lv_dup2_11 S.1 S.2.1 dX6_counts_156 rfl rfl ?_
                have k36 := And.left hok
                replace hok := And.right hok
                refine al_M17 S K h k36 dX6_counts_157 ?_
                refine lv_iconst (v := 1) S.1 S.2.1 dX6_counts_158 (by decide) ?_
                refine lv_iadd S.1 S.2.1 dX6_counts_159 ?_
                have k37 := And.left hok
                replace hok := And.right hok
                refine as_M17 S K h k37 dX6_counts_160 (fun H locs h => ?_)
                refine lv_goto (tgt := 183) S.1 S.2.1 dX6_counts_161 (by decide) ?_
                subst hR
                exact g_retv S hr hlocks h dX6_counts_183
            · replace hok := And.left hok c
              replace hR := (if_pos c).symm.trans hR
              subst hR
              exact g_retv S hr hlocks h dX6_counts_137
        · replace hok := And.right hok c
          replace hR := (if_neg c).symm.trans hR
          refine lv_iconst (v := 1) S.1 S.2.1 dX6_counts_110 (by decide) ?_
          refine lv_goto (tgt := 115) S.1 S.2.1 dX6_counts_111 (by decide) ?_
          have k39 := And.left hok
          replace hok := And.right hok
          refine g_calli (ci := 6) (q0 := 0) S wz_cons K h (c_X6_isThere l D cy q _ A _ _ k39) kc_X6_isThere km_X6_133 ki_X6_isThere ks_X6_isThere kn_X6 yd_X6_isThere ⟨⟨Nat.le_of_ble_eq_true rfl, Nat.le_of_ble_eq_true rfl⟩, rfl, rfl, Nat.zero_le _, Nat.zero_le _⟩ rfl rfl rfl hl.1 (Nat.le_of_ble_eq_true rfl) rfl dX6_counts_115 (fun H locs h => ?_)
          refine lv_if_eq (tgt := 137) S.1 S.2.1 dX6_counts_118 (by decide) (fun c => ?_) (fun c => ?_)
          · replace hok := And.left hok c
            replace hR := (if_pos c).symm.trans hR
            subst hR
            exact g_retv S hr hlocks h dX6_counts_137
          · replace hok := And.right hok c
            replace hR := (if_neg c).symm.trans hR
            refine lv_aload_n S.1 S.2.1 dX6_counts_121 rfl (lv_at hl 2 rfl) ?_
            refine lv_iload S.1 S.2.1 dX6_counts_122 (lv_at hl 0 rfl) ?_
            refine lv_aload_n S.1 S.2.1 dX6_counts_124 rfl (lv_at hl 2 rfl) ?_
            refine fg_X6_55 S K h dX6_counts_125 ?_
            refine lv_iload S.1 S.2.1 dX6_counts_128 (lv_at hl 1 rfl) ?_
            have k41 := And.left hok
            replace hok := And.right hok
            refine al_M16 S K h k41 dX6_counts_130 ?_
            have k43 := And.left hok
            replace hok := And.right hok
            refine g_calli (ci := 6) (q0 := 0) S wz_cons K h (c_X6_isIndex l D cy q _ A _ _ _ k43) kc_X6_isIndex km_X6_137 ki_X6_isIndex ks_X6_isIndex kn_X6 yd_X6_isIndex ⟨⟨Nat.le_of_ble_eq_true rfl, Nat.le_of_ble_eq_true rfl⟩, rfl, rfl, Nat.zero_le _, Nat.zero_le _⟩ rfl rfl rfl hl.1 (Nat.le_of_ble_eq_true rfl) rfl dX6_counts_131 (fun H locs h => ?_)
            refine lv_if_ne (tgt := 138) S.1 S.2.1 dX6_counts_134 (by decide) (fun c => ?_) (fun c => ?_)
            · replace hok := And.right hok c
              replace hR := (if_neg c).symm.trans hR
              refine lv_iload_n S.1 S.2.1 dX6_counts_138 rfl (lv_at hl 3 rfl) ?_
              refine lv_bipush (v := 14) S.1 S.2.1 dX6_counts_139 (by decide) ?_
              refine lv_icmp_ne (tgt := 164) S.1 S.2.1 dX6_counts_141 (by decide) (fun c => ?_) (fun c => ?_)
              · replace hok := And.right hok c
                replace hR := (if_neg c).symm.trans hR
                refine lv_aload_n S.1 S.2.1 dX6_counts_164 rfl (lv_at hl 2 rfl) ?_
                refine fg_X6_74 S K h dX6_counts_165 ?_
                refine lv_iload_n S.1 S.2.1 dX6_counts_168 rfl (lv_at hl 4 rfl) ?_
                refine lv_aload_n S.1 S.2.1 dX6_counts_169 rfl (lv_at hl 2 rfl) ?_
                refine fg_X6_58 S K h dX6_counts_170 ?_
                refine lv_bipush (v := 8) S.1 S.2.1 dX6_counts_173 (by decide) ?_
                refine lv_iload S.1 S.2.1 dX6_counts_175 (lv_at hl 1 rfl) ?_
                refine lv_imul S.1 S.2.1 dX6_counts_177 ?_
                refine lv_iload S.1 S.2.1 dX6_counts_178 (lv_at hl 0 rfl) ?_
                refine lv_iadd S.1 S.2.1 dX6_counts_180 ?_
                have k45 := And.left hok
                replace hok := And.right hok
                refine al_M17 S K h k45 dX6_counts_181 ?_
                have k46 := And.left hok
                replace hok := And.right hok
                refine as_M22 S K h k46 dX6_counts_182 (fun H locs h => ?_)
                subst hR
                exact g_retv S hr hlocks h dX6_counts_183
              · replace hok := And.left hok c
                replace hR := (if_pos c).symm.trans hR
                refine lv_aload_n S.1 S.2.1 dX6_counts_144 rfl (lv_at hl 2 rfl) ?_
                refine fg_X6_58 S K h dX6_counts_145 ?_
                refine lv_bipush (v := 8) S.1 S.2.1 dX6_counts_148 (by decide) ?_
                refine lv_iload S.1 S.2.1 dX6_counts_150 (lv_at hl 1 rfl) ?_
                refine lv_imul S.1 S.2.1 dX6_counts_152 ?_
                refine lv_iload S.1 S.2.1 dX6_counts_153 (lv_at hl 0 rfl) ?_
                refine lv_iadd S.1 S.2.1 dX6_counts_155 ?_
                refine lv_dup2_11 S.1 S.2.1 dX6_counts_156 rfl rfl ?_
                have k47 := And.left hok
                replace hok := And.right hok
                refine al_M17 S K h k47 dX6_counts_157 ?_
                refine lv_iconst (v := 1) S.1 S.2.1 dX6_counts_158 (by decide) ?_
                refine lv_iadd S.1 S.2.1 dX6_counts_159 ?_
                have k48 := And.left hok
                replace hok := And.right hok
                refine as_M17 S K h k48 dX6_counts_160 (fun H locs h => ?_)
                refine lv_goto (tgt := 183) S.1 S.2.1 dX6_counts_161 (by decide) ?_
                subst hR
                exact g_retv S hr hlocks h dX6_counts_183
            · replace hok := And.left hok c
              replace hR := (if_pos c).symm.trans hR
              subst hR
              exact g_retv S hr hlocks h dX6_counts_137
    · replace hok := And.left hok c
      replace hR := (if_pos c).symm.trans hR
      refine lv_iload_n S.1 S.2.1 dX6_counts_67 rfl (lv_at hl 2 rfl) ?_
      refine lv_goto (tgt := 72) S.1 S.2.1 dX6_counts_68 (by decide) ?_
      refine lv_istore (lv' := [(5, .int _), (0, .ref _), (1, .int _), (2, .int _), (3, .int _), (4, .int _)]) S.1 S.2.1 dX6_counts_72 hl (by decide) rfl (fun ls hl => ?_)
      refine lv_iload_n S.1 S.2.1 dX6_counts_74 rfl (lv_at hl 2 rfl) ?_
      refine lv_bipush (v := 14) S.1 S.2.1 dX6_counts_75 (by decide) ?_
      refine lv_icmp_ne (tgt := 89) S.1 S.2.1 dX6_counts_77 (by decide) (fun c => ?_) (fun c => ?_)
      · replace hok := And.right hok c
        replace hR := (if_neg c).symm.trans hR
        refine lv_aload_n S.1 S.2.1 dX6_counts_89 rfl (lv_at hl 1 rfl) ?_
        refine fg_X6_74 S K h dX6_counts_90 ?_
        refine lv_iload S.1 S.2.1 dX6_counts_93 (lv_at hl 5 rfl) ?_
        have k49 := And.left hok
        replace hok := And.right hok
        refine al_M22 S K h k49 dX6_counts_95 ?_
        refine lv_istore (lv' := [(6, .int _), (5, .int _), (0, .ref _), (1, .int _), (2, .int _), (3, .int _), (4, .int _)]) S.1 S.2.1 dX6_counts_96 hl (by decide) rfl (fun ls hl => ?_)
        refine lv_aload_n S.1 S.2.1 dX6_counts_98 rfl (lv_at hl 2 rfl) ?_
        refine lv_aload_n S.1 S.2.1 dX6_counts_99 rfl (lv_at hl 2 rfl) ?_
        refine fg_X6_55 S K h dX6_counts_100 ?_
        refine lv_iload S.1 S.2.1 dX6_counts_103 (lv_at hl 1 rfl) ?_
        have k50 := And.left hok
        replace hok := And.right hok
        refine al_M16 S K h k50 dX6_counts_105 ?_
        refine lv_iconst (v := -1) S.1 S.2.1 dX6_counts_106 (by decide) ?_
        refine lv_icmp_eq (tgt := 114) S.1 S.2.1 dX6_counts_107 (by decide) (fun c => ?_) (fun c => ?_)
        · replace hok := And.left hok c
          replace hR := (if_pos c).symm.trans hR
          refine lv_iconst (v := 0) S.1 S.2.1 dX6_counts_114 (by decide) ?_
          have k52 := And.left hok
          replace hok := And.right hok
          refine g_calli (ci := 6) (q0 := 0) S wz_cons K h (c_X6_isThere l D cy q _ A _ _ k52) kc_X6_isThere km_X6_133 ki_X6_isThere ks_X6_isThere kn_X6 yd_X6_isThere ⟨⟨Nat.le_of_ble_eq_true rfl, Nat.le_of_ble_eq_true rfl⟩, rfl, rfl, Nat.zero_le _, Nat.zero_le _⟩ rfl rfl rfl hl.1 (Nat.le_of_ble_eq_true rfl) rfl dX6_counts_115 (fun H locs h => ?_)
          refine lv_if_eq (tgt := 137) S.1 S.2.1 dX6_counts_118 (by decide) (fun c => ?_) (fun c => ?_)
          · replace hok := And.left hok c
            replace hR := (if_pos c).symm.trans hR
            subst hR
            exact g_retv S hr hlocks h dX6_counts_137
          · replace hok := And.right hok c
            replace hR := (if_neg c).symm.trans hR
            refine lv_aload_n S.1 S.2.1 dX6_counts_121 rfl (lv_at hl 2 rfl) ?_
            refine lv_iload S.1 S.2.1 dX6_counts_122 (lv_at hl 0 rfl) ?_
            refine lv_aload_n S.1 S.2.1 dX6_counts_124 rfl (lv_at hl 2 rfl) ?_
            refine fg_X6_55 S K h dX6_counts_125 ?_
            refine lv_iload S.1 S.2.1 dX6_counts_128 (lv_at hl 1 rfl) ?_
            have k54 := And.left hok
            replace hok := And.right hok
            refine al_M16 S K h k54 dX6_counts_130 ?_
            have k56 := And.left hok
            replace hok := And.right hok
            refine g_calli (ci := 6) (q0 := 0) S wz_cons K h (c_X6_isIndex l D cy q _ A _ _ _ k56) kc_X6_isIndex km_X6_137 ki_X6_isIndex ks_X6_isIndex kn_X6 yd_X6_isIndex ⟨⟨Nat.le_of_ble_eq_true rfl, Nat.le_of_ble_eq_true rfl⟩, rfl, rfl, Nat.zero_le _, Nat.zero_le _⟩ rfl rfl rfl hl.1 (Nat.le_of_ble_eq_true rfl) rfl dX6_counts_131 (fun H locs h => ?_)
            refine lv_if_ne (tgt := 138) S.1 S.2.1 dX6_counts_134 (by decide) (fun c => ?_) (fun c => ?_)
            · replace hok := And.right hok c
              replace hR := (if_neg c).symm.trans hR
              refine lv_iload_n S.1 S.2.1 dX6_counts_138 rfl (lv_at hl 3 rfl) ?_
              refine lv_bipush (v := 14) S.1 S.2.1 dX6_counts_139 (by decide) ?_
              refine lv_icmp_ne (tgt := 164) S.1 S.2.1 dX6_counts_141 (by decide) (fun c => ?_) (fun c => ?_)
              · replace hok := And.right hok c
                replace hR := (if_neg c).symm.trans hR
                refine lv_aload_n S.1 S.2.1 dX6_counts_164 rfl (lv_at hl 2 rfl) ?_
                refine fg_X6_74 S K h dX6_counts_165 ?_
                refine lv_iload_n S.1 S.2.1 dX6_counts_168 rfl (lv_at hl 4 rfl) ?_
                refine lv_aload_n S.1 S.2.1 dX6_counts_169 rfl (lv_at hl 2 rfl) ?_
                refine fg_X6_58 S K h dX6_counts_170 ?_
                refine lv_bipush (v := 8) S.1 S.2.1 dX6_counts_173 (by decide) ?_
                refine lv_iload S.1 S.2.1 dX6_counts_175 (lv_at hl 1 rfl) ?_
                refine lv_imul S.1 S.2.1 dX6_counts_177 ?_
                refine lv_iload S.1 S.2.1 dX6_counts_178 (lv_at hl 0 rfl) ?_
                refine lv_iadd S.1 S.2.1 dX6_counts_180 ?_
                have k58 := And.left hok
                replace hok := And.right hok
                refine al_M17 S K h k58 dX6_counts_181 ?_
                have k59 := And.left hok
                replace hok := And.right hok
                refine as_M22 S K h k59 dX6_counts_182 (fun H locs h => ?_)
                subst hR
                exact g_retv S hr hlocks h dX6_counts_183
              · replace hok := And.left hok c
                replace hR := (if_pos c).symm.trans hR
                refine lv_aload_n S.1 S.2.1 dX6_counts_144 rfl (lv_at hl 2 rfl) ?_
                refine fg_X6_58 S K h dX6_counts_145 ?_
                refine lv_bipush (v := 8) S.1 S.2.1 dX6_counts_148 (by decide) ?_
                refine lv_iload S.1 S.2.1 dX6_counts_150 (lv_at hl 1 rfl) ?_
                refine lv_imul S.1 S.2.1 dX6_counts_152 ?_
                refine lv_iload S.1 S.2.1 dX6_counts_153 (lv_at hl 0 rfl) ?_
                refine lv_iadd S.1 S.2.1 dX6_counts_155 ?_
                refine lv_dup2_11 S.1 S.2.1 dX6_counts_156 rfl rfl ?_
                have k60 := And.left hok
                replace hok := And.right hok
                refine al_M17 S K h k60 dX6_counts_157 ?_
                refine lv_iconst (v := 1) S.1 S.2.1 dX6_counts_158 (by decide) ?_
                refine lv_iadd S.1 S.2.1 dX6_counts_159 ?_
                have k61 := And.left hok
                replace hok := And.right hok
                refine as_M17 S K h k61 dX6_counts_160 (fun H locs h => ?_)
                refine lv_goto (tgt := 183) S.1 S.2.1 dX6_counts_161 (by decide) ?_
                subst hR
                exact g_retv S hr hlocks h dX6_counts_183
            · replace hok := And.left hok c
              replace hR := (if_pos c).symm.trans hR
              subst hR
              exact g_retv S hr hlocks h dX6_counts_137
        · replace hok := And.right hok c
          replace hR := (if_neg c).symm.trans hR
          refine lv_iconst (v := 1) S.1 S.2.1 dX6_counts_110 (by decide) ?_
          refine lv_goto (tgt := 115) S.1 S.2.1 dX6_counts_111 (by decide) ?_
          have k63 := And.left hok
          replace hok := And.right hok
          refine g_calli (ci := 6) (q0 := 0) S wz_cons K h (c_X6_isThere l D cy q _ A _ _ k63) kc_X6_isThere km_X6_133 ki_X6_isThere ks_X6_isThere kn_X6 yd_X6_isThere ⟨⟨Nat.le_of_ble_eq_true rfl, Nat.le_of_ble_eq_true rfl⟩, rfl, rfl, Nat.zero_le _, Nat.zero_le _⟩ rfl rfl rfl hl.1 (Nat.le_of_ble_eq_true rfl) rfl dX6_counts_115 (fun H locs h => ?_)
          refine lv_if_eq (tgt := 137) S.1 S.2.1 dX6_counts_118 (by decide) (fun c => ?_) (fun c => ?_)
          · replace hok := And.left hok c
            replace hR := (if_pos c).symm.trans hR
            subst hR
            exact g_retv S hr hlocks h dX6_counts_137
          · replace hok := And.right hok c
            replace hR := (if_neg c).symm.trans hR
            refine lv_aload_n S.1 S.2.1 dX6_counts_121 rfl (lv_at hl 2 rfl) ?_
            refine lv_iload S.1 S.2.1 dX6_counts_122 (lv_at hl 0 rfl) ?_
            refine lv_aload_n S.1 S.2.1 dX6_counts_124 rfl (lv_at hl 2 rfl) ?_
            refine fg_X6_55 S K h dX6_counts_125 ?_
            refine lv_iload S.1 S.2.1 dX6_counts_128 (lv_at hl 1 rfl) ?_
            have k65 := And.left hok
            replace hok := And.right hok
            refine al_M16 S K h k65 dX6_counts_130 ?_
            have k67 := And.left hok
            replace hok := And.right hok
            refine g_calli (ci := 6) (q0 := 0) S wz_cons K h (c_X6_isIndex l D cy q _ A _ _ _ k67) kc_X6_isIndex km_X6_137 ki_X6_isIndex ks_X6_isIndex kn_X6 yd_X6_isIndex ⟨⟨Nat.le_of_ble_eq_true rfl, Nat.le_of_ble_eq_true rfl⟩, rfl, rfl, Nat.zero_le _, Nat.zero_le _⟩ rfl rfl rfl hl.1 (Nat.le_of_ble_eq_true rfl) rfl dX6_counts_131 (fun H locs h => ?_)
            refine lv_if_ne (tgt := 138) S.1 S.2.1 dX6_counts_134 (by decide) (fun c => ?_) (fun c => ?_)
            · replace hok := And.right hok c
              replace hR := (if_neg c).symm.trans hR
              refine lv_iload_n S.1 S.2.1 dX6_counts_138 rfl (lv_at hl 3 rfl) ?_
              refine lv_bipush (v := 14) S.1 S.2.1 dX6_counts_139 (by decide) ?_
              refine lv_icmp_ne (tgt := 164) S.1 S.2.1 dX6_counts_141 (by decide) (fun c => ?_) (fun c => ?_)
              · replace hok := And.right hok c
                replace hR := (if_neg c).symm.trans hR
                refine lv_aload_n S.1 S.2.1 dX6_counts_164 rfl (lv_at hl 2 rfl) ?_
                refine fg_X6_74 S K h dX6_counts_165 ?_
                refine lv_iload_n S.1 S.2.1 dX6_counts_168 rfl (lv_at hl 4 rfl) ?_
                refine lv_aload_n S.1 S.2.1 dX6_counts_169 rfl (lv_at hl 2 rfl) ?_
                refine fg_X6_58 S K h dX6_counts_170 ?_
                refine lv_bipush (v := 8) S.1 S.2.1 dX6_counts_173 (by decide) ?_
                refine lv_iload S.1 S.2.1 dX6_counts_175 (lv_at hl 1 rfl) ?_
                refine lv_imul S.1 S.2.1 dX6_counts_177 ?_
                refine lv_iload S.1 S.2.1 dX6_counts_178 (lv_at hl 0 rfl) ?_
                refine lv_iadd S.1 S.2.1 dX6_counts_180 ?_
                have k69 := And.left hok
                replace hok := And.right hok
                refine al_M17 S K h k69 dX6_counts_181 ?_
                have k70 := And.left hok
                replace hok := And.right hok
                refine as_M22 S K h k70 dX6_counts_182 (fun H locs h => ?_)
                subst hR
                exact g_retv S hr hlocks h dX6_counts_183
              · replace hok := And.left hok c
                replace hR := (if_pos c).symm.trans hR
                refine lv_aload_n S.1 S.2.1 dX6_counts_144 rfl (lv_at hl 2 rfl) ?_
                refine fg_X6_58 S K h dX6_counts_145 ?_
                refine lv_bipush (v := 8) S.1 S.2.1 dX6_counts_148 (by decide) ?_
                refine lv_iload S.1 S.2.1 dX6_counts_150 (lv_at hl 1 rfl) ?_
                refine lv_imul S.1 S.2.1 dX6_counts_152 ?_
                refine lv_iload S.1 S.2.1 dX6_counts_153 (lv_at hl 0 rfl) ?_
                refine lv_iadd S.1 S.2.1 dX6_counts_155 ?_
                refine lv_dup2_11 S.1 S.2.1 dX6_counts_156 rfl rfl ?_
                have k71 := And.left hok
                replace hok := And.right hok
                refine al_M17 S K h k71 dX6_counts_157 ?_
                refine lv_iconst (v := 1) S.1 S.2.1 dX6_counts_158 (by decide) ?_
                refine lv_iadd S.1 S.2.1 dX6_counts_159 ?_
                have k72 := And.left hok
                replace hok := And.right hok
                refine as_M17 S K h k72 dX6_counts_160 (fun H locs h => ?_)
                refine lv_goto (tgt := 183) S.1 S.2.1 dX6_counts_161 (by decide) ?_
                subst hR
                exact g_retv S hr hlocks h dX6_counts_183
            · replace hok := And.left hok c
              replace hR := (if_pos c).symm.trans hR
              subst hR
              exact g_retv S hr hlocks h dX6_counts_137
      · replace hok := And.left hok c
        replace hR := (if_pos c).symm.trans hR
        refine lv_aload_n S.1 S.2.1 dX6_counts_80 rfl (lv_at hl 1 rfl) ?_
        refine fg_X6_74 S K h dX6_counts_81 ?_
        refine lv_iload_n S.1 S.2.1 dX6_counts_84 rfl (lv_at hl 4 rfl) ?_
        have k73 := And.left hok
        replace hok := And.right hok
        refine al_M22 S K h k73 dX6_counts_85 ?_
        refine lv_goto (tgt := 96) S.1 S.2.1 dX6_counts_86 (by decide) ?_
        refine lv_istore (lv' := [(6, .int _), (5, .int _), (0, .ref _), (1, .int _), (2, .int _), (3, .int _), (4, .int _)]) S.1 S.2.1 dX6_counts_96 hl (by decide) rfl (fun ls hl => ?_)
        refine lv_aload_n S.1 S.2.1 dX6_counts_98 rfl (lv_at hl 2 rfl) ?_
        refine lv_aload_n S.1 S.2.1 dX6_counts_99 rfl (lv_at hl 2 rfl) ?_
        refine fg_X6_55 S K h dX6_counts_100 ?_
        refine lv_iload S.1 S.2.1 dX6_counts_103 (lv_at hl 1 rfl) ?_
        have k74 := And.left hok
        replace hok := And.right hok
        refine al_M16 S K h k74 dX6_counts_105 ?_
        refine lv_iconst (v := -1) S.1 S.2.1 dX6_counts_106 (by decide) ?_
        refine lv_icmp_eq (tgt := 114) S.1 S.2.1 dX6_counts_107 (by decide) (fun c => ?_) (fun c => ?_)
        · replace hok := And.left hok c
          replace hR := (if_pos c).symm.trans hR
          refine lv_iconst (v := 0) S.1 S.2.1 dX6_counts_114 (by decide) ?_
          have k76 := And.left hok
          replace hok := And.right hok
          refine g_calli (ci := 6) (q0 := 0) S wz_cons K h (c_X6_isThere l D cy q _ A _ _ k76) kc_X6_isThere km_X6_133 ki_X6_isThere ks_X6_isThere kn_X6 yd_X6_isThere ⟨⟨Nat.le_of_ble_eq_true rfl, Nat.le_of_ble_eq_true rfl⟩, rfl, rfl, Nat.zero_le _, Nat.zero_le _⟩ rfl rfl rfl hl.1 (Nat.le_of_ble_eq_true rfl) rfl dX6_counts_115 (fun H locs h => ?_)
          refine lv_if_eq (tgt := 137) S.1 S.2.1 dX6_counts_118 (by decide) (fun c => ?_) (fun c => ?_)
          · replace hok := And.left hok c
            replace hR := (if_pos c).symm.trans hR
            subst hR
            exact g_retv S hr hlocks h dX6_counts_137
          · replace hok := And.right hok c
            replace hR := (if_neg c).symm.trans hR
            refine lv_aload_n S.1 S.2.1 dX6_counts_121 rfl (lv_at hl 2 rfl) ?_
            refine lv_iload S.1 S.2.1 dX6_counts_122 (lv_at hl 0 rfl) ?_
            refine lv_aload_n S.1 S.2.1 dX6_counts_124 rfl (lv_at hl 2 rfl) ?_
            refine fg_X6_55 S K h dX6_counts_125 ?_
            refine lv_iload S.1 S.2.1 dX6_counts_128 (lv_at hl 1 rfl) ?_
            have k78 := And.left hok
            replace hok := And.right hok
            refine al_M16 S K h k78 dX6_counts_130 ?_
            have k80 := And.left hok
            replace hok := And.right hok
            refine g_calli (ci := 6) (q0 := 0) S wz_cons K h (c_X6_isIndex l D cy q _ A _ _ _ k80) kc_X6_isIndex km_X6_137 ki_X6_isIndex ks_X6_isIndex kn_X6 yd_X6_isIndex ⟨⟨Nat.le_of_ble_eq_true rfl, Nat.le_of_ble_eq_true rfl⟩, rfl, rfl, Nat.zero_le _, Nat.zero_le _⟩ rfl rfl rfl hl.1 (Nat.le_of_ble_eq_true rfl) rfl dX6_counts_131 (fun H locs h => ?_)
            refine lv_if_ne (tgt := 138) S.1 S.2.1 dX6_counts_134 (by decide) (fun c => ?_) (fun c => ?_)
            · replace hok := And.right hok c
              replace hR := (if_neg c).symm.trans hR
              refine lv_iload_n S.1 S.2.1 dX6_counts_138 rfl (lv_at hl 3 rfl) ?_
              refine lv_bipush (v := 14) S.1 S.2.1 dX6_counts_139 (by decide) ?_
              refine lv_icmp_ne (tgt := 164) S.1 S.2.1 dX6_counts_141 (by decide) (fun c => ?_) (fun c => ?_)
              · replace hok := And.right hok c
                replace hR := (if_neg c).symm.trans hR
                refine lv_aload_n S.1 S.2.1 dX6_counts_164 rfl (lv_at hl 2 rfl) ?_
                refine fg_X6_74 S K h dX6_counts_165 ?_
                refine lv_iload_n S.1 S.2.1 dX6_counts_168 rfl (lv_at hl 4 rfl) ?_
                refine lv_aload_n S.1 S.2.1 dX6_counts_169 rfl (lv_at hl 2 rfl) ?_
                refine fg_X6_58 S K h dX6_counts_170 ?_
                refine lv_bipush (v := 8) S.1 S.2.1 dX6_counts_173 (by decide) ?_
                refine lv_iload S.1 S.2.1 dX6_counts_175 (lv_at hl 1 rfl) ?_
                refine lv_imul S.1 S.2.1 dX6_counts_177 ?_
                refine lv_iload S.1 S.2.1 dX6_counts_178 (lv_at hl 0 rfl) ?_
                refine lv_iadd S.1 S.2.1 dX6_counts_180 ?_
                have k82 := And.left hok
                replace hok := And.right hok
                refine al_M17 S K h k82 dX6_counts_181 ?_
                have k83 := And.left hok
                replace hok := And.right hok
                refine as_M22 S K h k83 dX6_counts_182 (fun H locs h => ?_)
                subst hR
                exact g_retv S hr hlocks h dX6_counts_183
              · replace hok := And.left hok c
                replace hR := (if_pos c).symm.trans hR
                refine lv_aload_n S.1 S.2.1 dX6_counts_144 rfl (lv_at hl 2 rfl) ?_
                refine fg_X6_58 S K h dX6_counts_145 ?_
                refine lv_bipush (v := 8) S.1 S.2.1 dX6_counts_148 (by decide) ?_
                refine lv_iload S.1 S.2.1 dX6_counts_150 (lv_at hl 1 rfl) ?_
                refine lv_imul S.1 S.2.1 dX6_counts_152 ?_
                refine lv_iload S.1 S.2.1 dX6_counts_153 (lv_at hl 0 rfl) ?_
                refine lv_iadd S.1 S.2.1 dX6_counts_155 ?_
                refine lv_dup2_11 S.1 S.2.1 dX6_counts_156 rfl rfl ?_
                have k84 := And.left hok
                replace hok := And.right hok
                refine al_M17 S K h k84 dX6_counts_157 ?_
                refine lv_iconst (v := 1) S.1 S.2.1 dX6_counts_158 (by decide) ?_
                refine lv_iadd S.1 S.2.1 dX6_counts_159 ?_
                have k85 := And.left hok
                replace hok := And.right hok
                refine as_M17 S K h k85 dX6_counts_160 (fun H locs h => ?_)
                refine lv_goto (tgt := 183) S.1 S.2.1 dX6_counts_161 (by decide) ?_
                subst hR
                exact g_retv S hr hlocks h dX6_counts_183
            · replace hok := And.left hok c
              replace hR := (if_pos c).symm.trans hR
              subst hR
              exact g_retv S hr hlocks h dX6_counts_137
        · replace hok := And.right hok c
          replace hR := (if_neg c).symm.trans hR
          refine lv_iconst (v := 1) S.1 S.2.1 dX6_counts_110 (by decide) ?_
          refine lv_goto (tgt := 115) S.1 S.2.1 dX6_counts_111 (by decide) ?_
          have k87 := And.left hok
          replace hok := And.right hok
          refine g_calli (ci := 6) (q0 := 0) S wz_cons K h (c_X6_isThere l D cy q _ A _ _ k87) kc_X6_isThere km_X6_133 ki_X6_isThere ks_X6_isThere kn_X6 yd_X6_isThere ⟨⟨Nat.le_of_ble_eq_true rfl, Nat.le_of_ble_eq_true rfl⟩, rfl, rfl, Nat.zero_le _, Nat.zero_le _⟩ rfl rfl rfl hl.1 (Nat.le_of_ble_eq_true rfl) rfl dX6_counts_115 (fun H locs h => ?_)
          refine lv_if_eq (tgt := 137) S.1 S.2.1 dX6_counts_118 (by decide) (fun c => ?_) (fun c => ?_)
          · replace hok := And.left hok c
            replace hR := (if_pos c).symm.trans hR
            subst hR
            exact g_retv S hr hlocks h dX6_counts_137
          · replace hok := And.right hok c
            replace hR := (if_neg c).symm.trans hR
            refine lv_aload_n S.1 S.2.1 dX6_counts_121 rfl (lv_at hl 2 rfl) ?_
            refine lv_iload S.1 S.2.1 dX6_counts_122 (lv_at hl 0 rfl) ?_
            refine lv_aload_n S.1 S.2.1 dX6_counts_124 rfl (lv_at hl 2 rfl) ?_
            refine fg_X6_55 S K h dX6_counts_125 ?_
            refine lv_iload S.1 S.2.1 dX6_counts_128 (lv_at hl 1 rfl) ?_
            have k89 := And.left hok
            replace hok := And.right hok
            refine al_M16 S K h k89 dX6_counts_130 ?_
            have k91 := And.left hok
            replace hok := And.right hok
            refine g_calli (ci := 6) (q0 := 0) S wz_cons K h (c_X6_isIndex l D cy q _ A _ _ _ k91) kc_X6_isIndex km_X6_137 ki_X6_isIndex ks_X6_isIndex kn_X6 yd_X6_isIndex ⟨⟨Nat.le_of_ble_eq_true rfl, Nat.le_of_ble_eq_true rfl⟩, rfl, rfl, Nat.zero_le _, Nat.zero_le _⟩ rfl rfl rfl hl.1 (Nat.le_of_ble_eq_true rfl) rfl dX6_counts_131 (fun H locs h => ?_)
            refine lv_if_ne (tgt := 138) S.1 S.2.1 dX6_counts_134 (by decide) (fun c => ?_) (fun c => ?_)
            · replace hok := And.right hok c
              replace hR := (if_neg c).symm.trans hR
              refine lv_iload_n S.1 S.2.1 dX6_counts_138 rfl (lv_at hl 3 rfl) ?_
              refine lv_bipush (v := 14) S.1 S.2.1 dX6_counts_139 (by decide) ?_
              refine lv_icmp_ne (tgt := 164) S.1 S.2.1 dX6_counts_141 (by decide) (fun c => ?_) (fun c => ?_)
              · replace hok := And.right hok c
                replace hR := (if_neg c).symm.trans hR
                refine lv_aload_n S.1 S.2.1 dX6_counts_164 rfl (lv_at hl 2 rfl) ?_
                refine fg_X6_74 S K h dX6_counts_165 ?_
                refine lv_iload_n S.1 S.2.1 dX6_counts_168 rfl (lv_at hl 4 rfl) ?_
                refine lv_aload_n S.1 S.2.1 dX6_counts_169 rfl (lv_at hl 2 rfl) ?_
                refine fg_X6_58 S K h dX6_counts_170 ?_
                refine lv_bipush (v := 8) S.1 S.2.1 dX6_counts_173 (by decide) ?_
                refine lv_iload S.1 S.2.1 dX6_counts_175 (lv_at hl 1 rfl) ?_
                refine lv_imul S.1 S.2.1 dX6_counts_177 ?_
                refine lv_iload S.1 S.2.1 dX6_counts_178 (lv_at hl 0 rfl) ?_
                refine lv_iadd S.1 S.2.1 dX6_counts_180 ?_
                have k93 := And.left hok
                replace hok := And.right hok
                refine al_M17 S K h k93 dX6_counts_181 ?_
                have k94 := And.left hok
                replace hok := And.right hok
                refine as_M22 S K h k94 dX6_counts_182 (fun H locs h => ?_)
                subst hR
                exact g_retv S hr hlocks h dX6_counts_183
              · replace hok := And.left hok c
                replace hR := (if_pos c).symm.trans hR
                refine lv_aload_n S.1 S.2.1 dX6_counts_144 rfl (lv_at hl 2 rfl) ?_
                refine fg_X6_58 S K h dX6_counts_145 ?_
                refine lv_bipush (v := 8) S.1 S.2.1 dX6_counts_148 (by decide) ?_
                refine lv_iload S.1 S.2.1 dX6_counts_150 (lv_at hl 1 rfl) ?_
                refine lv_imul S.1 S.2.1 dX6_counts_152 ?_
                refine lv_iload S.1 S.2.1 dX6_counts_153 (lv_at hl 0 rfl) ?_
                refine lv_iadd S.1 S.2.1 dX6_counts_155 ?_
                refine lv_dup2_11 S.1 S.2.1 dX6_counts_156 rfl rfl ?_
                have k95 := And.left hok
                replace hok := And.right hok
                refine al_M17 S K h k95 dX6_counts_157 ?_
                refine lv_iconst (v := 1) S.1 S.2.1 dX6_counts_158 (by decide) ?_
                refine lv_iadd S.1 S.2.1 dX6_counts_159 ?_
                have k96 := And.left hok
                replace hok := And.right hok
                refine as_M17 S K h k96 dX6_counts_160 (fun H locs h => ?_)
                refine lv_goto (tgt := 183) S.1 S.2.1 dX6_counts_161 (by decide) ?_
                subst hR
                exact g_retv S hr hlocks h dX6_counts_183
            · replace hok := And.left hok c
              replace hR := (if_pos c).symm.trans hR
              subst hR
              exact g_retv S hr hlocks h dX6_counts_137
  · replace hok := And.left hok c
    replace hR := (if_pos c).symm.trans hR
    refine lv_aload_n S.1 S.2.1 dX6_counts_6 rfl (lv_at hl 0 rfl) ?_
    refine fg_X6_74 S K h dX6_counts_7 ?_
    refine lv_iload_n S.1 S.2.1 dX6_counts_10 rfl (lv_at hl 3 rfl) ?_
    have k97 := And.left hok
    replace hok := And.right hok
    refine al_M22 S K h k97 dX6_counts_11 ?_
    refine lv_istore (lv' := [(5, .int _), (0, .ref _), (1, .int _), (2, .int _), (3, .int _), (4, .int _)]) S.1 S.2.1 dX6_counts_12 hl (by decide) rfl (fun ls hl => ?_)
    refine lv_aload_n S.1 S.2.1 dX6_counts_14 rfl (lv_at hl 1 rfl) ?_
    refine lv_iload S.1 S.2.1 dX6_counts_15 (lv_at hl 0 rfl) ?_
    have k99 := And.left hok
    replace hok := And.right hok
    refine g_calli (ci := 6) (q0 := 0) S wz_cons K h (c_X6_isSize l D cy q _ A _ _ k99) kc_X6_isSize km_X6_130 ki_X6_isSize ks_X6_isSize kn_X6 yd_X6_isSize ⟨⟨Nat.le_of_ble_eq_true rfl, Nat.le_of_ble_eq_true rfl⟩, rfl, rfl, Nat.zero_le _, Nat.zero_le _⟩ rfl rfl rfl hl.1 (Nat.le_of_ble_eq_true rfl) rfl dX6_counts_17 (fun H locs h => ?_)
    refine lv_if_eq (tgt := 60) S.1 S.2.1 dX6_counts_20 (by decide) (fun c => ?_) (fun c => ?_)
    · replace hok := And.left hok c
      replace hR := (if_pos c).symm.trans hR
      subst hR
      exact g_retv S hr hlocks h dX6_counts_60
    · replace hok := And.right hok c
      replace hR := (if_neg c).symm.trans hR
      refine lv_aload_n S.1 S.2.1 dX6_counts_23 rfl (lv_at hl 1 rfl) ?_
      refine fg_X6_55 S K h dX6_counts_24 ?_
      refine lv_iload_n S.1 S.2.1 dX6_counts_27 rfl (lv_at hl 3 rfl) ?_
      refine lv_iload S.1 S.2.1 dX6_counts_28 (lv_at hl 0 rfl) ?_
      have k101 := And.left hok
      replace hok := And.right hok
      refine as_M16 S K h k101 dX6_counts_30 (fun H locs h => ?_)
      refine lv_iconst (v := 0) S.1 S.2.1 dX6_counts_31 (by decide) ?_
      refine lv_istore (lv' := [(6, .int _), (5, .int _), (0, .ref _), (1, .int _), (2, .int _), (3, .int _), (4, .int _)]) S.1 S.2.1 dX6_counts_32 hl (by decide) rfl (fun ls hl => ?_)
      exact w_X6_counts_34  S K hr hlocks 100 _ _ _ _ _ _ _ _ _ _ R hok hR h (lv_sub hl [2, 3, 4, 5, 6, 1, 0] rfl)
def xr_X6_rest (σ : GS) (a1 : Int32) (a2 : Int32) (a3 : Int32) (a4 : Int32) : Int32 × GS := if a1 = 0 then (0, st (st (st (st (st σ 9 (σ 0 10).toNatClampNeg a3) 10 ((st σ 9 (σ 0 10).toNatClampNeg a3) 0 10).toNatClampNeg ((st σ 9 (σ 0 10).toNatClampNeg a3) 22 a4.toNatClampNeg)) 11 ((st (st σ 9 (σ 0 10).toNatClampNeg a3) 10 ((st σ 9 (σ 0 10).toNatClampNeg a3) 0 10).toNatClampNeg ((st σ 9 (σ 0 10).toNatClampNeg a3) 22 a4.toNatClampNeg)) 0 10).toNatClampNeg 0) 12 a2.toNatClampNeg ((st (st (st σ 9 (σ 0 10).toNatClampNeg a3) 10 ((st σ 9 (σ 0 10).toNatClampNeg a3) 0 10).toNatClampNeg ((st σ 9 (σ 0 10).toNatClampNeg a3) 22 a4.toNatClampNeg)) 11 ((st (st σ 9 (σ 0 10).toNatClampNeg a3) 10 ((st σ 9 (σ 0 10).toNatClampNeg a3) 0 10).toNatClampNeg ((st σ 9 (σ 0 10).toNatClampNeg a3) 22 a4.toNatClampNeg)) 0 10).toNatClampNeg 0) 0 10)) 0 10 (((st (st (st (st σ 9 (σ 0 10).toNatClampNeg a3) 10 ((st σ 9 (σ 0 10).toNatClampNeg a3) 0 10).toNatClampNeg ((st σ 9 (σ 0 10).toNatClampNeg a3) 22 a4.toNatClampNeg)) 11 ((st (st σ 9 (σ 0 10).toNatClampNeg a3) 10 ((st σ 9 (σ 0 10).toNatClampNeg a3) 0 10).toNatClampNeg ((st σ 9 (σ 0 10).toNatClampNeg a3) 22 a4.toNatClampNeg)) 0 10).toNatClampNeg 0) 12 a2.toNatClampNeg ((st (st (st σ 9 (σ 0 10).toNatClampNeg a3) 10 ((st σ 9 (σ 0 10).toNatClampNeg a3) 0 10).toNatClampNeg ((st σ 9 (σ 0 10).toNatClampNeg a3) 22 a4.toNatClampNeg)) 11 ((st (st σ 9 (σ 0 10).toNatClampNeg a3) 10 ((st σ 9 (σ 0 10).toNatClampNeg a3) 0 10).toNatClampNeg ((st σ 9 (σ 0 10).toNatClampNeg a3) 22 a4.toNatClampNeg)) 0 10).toNatClampNeg 0) 0 10)) 0 10) + 1)) else if a1 = 1 then (0, st σ 12 a2.toNatClampNeg (-1)) else if a1 = 2 then (0, st σ 12 a2.toNatClampNeg (σ 12 a3.toNatClampNeg)) else if a1 = 3 then if (1 : Int32) ≤ (σ 22 a2.toNatClampNeg) then (0, st σ 0 25 (σ 0 25)) else (0, st σ 0 25 a3) else if a1 = 4 then if (1 : Int32) ≤ (σ 22 a2.toNatClampNeg) then (0, st σ 0 25 (σ 0 25)) else (0, st σ 0 25 a3) else if a1 = 5 then if (1 : Int32) ≤ (σ 22 a2.toNatClampNeg) then (0, st σ 0 25 (σ 0 25)) else (0, st σ 0 25 a3) else if a1 = 6 then if (σ 13 a3.toNatClampNeg) = (-1) then bd (xr_X6_isThere σ 0) (fun v13 σ15 => if v13 = 0 then (0, σ15) else (0, st σ15 22 a2.toNatClampNeg (σ15 13 a3.toNatClampNeg))) else bd (xr_X6_isThere σ 1) (fun v18 σ20 => if v18 = 0 then (0, σ20) else (0, st σ20 22 a2.toNatClampNeg (σ20 13 a3.toNatClampNeg))) else if a1 = 7 then (0, st σ 13 a2.toNatClampNeg (-1)) else if a1 = 8 then if (1 : Int32) ≤ (σ 22 a2.toNatClampNeg) then (0, st σ 0 25 (σ 0 25)) else (0, st σ 0 25 a3) else if a1 = 9 then if (1 : Int32) ≤ (σ 22 a2.toNatClampNeg) then (0, st σ 0 25 (σ 0 25)) else (0, st σ 0 25 a3) else if a1 = 10 then if (1 : Int32) ≤ (σ 22 a2.toNatClampNeg) then (0, st σ 0 25 (σ 0 25)) else (0, st σ 0 25 a3) else if a1 = 11 then if (1 : Int32) ≤ (σ 22 a2.toNatClampNeg) then (0, st σ 0 25 (σ 0 25)) else (0, st σ 0 25 a3) else if a1 = 12 then if (1 : Int32) ≤ (σ 22 a2.toNatClampNeg) then (0, st σ 0 25 (σ 0 25)) else (0, st σ 0 25 a3) else if a1 = 13 then if (1 : Int32) ≤ (σ 22 a2.toNatClampNeg) then (0, st σ 0 25 (σ 0 25)) else (0, st σ 0 25 a3) else if a1 = 14 then if (1 : Int32) ≤ (σ 22 a2.toNatClampNeg) then (0, st σ 0 25 (σ 0 25)) else (0, st σ 0 25 a3) else if a1 = 15 then if (1 : Int32) ≤ (σ 22 a2.toNatClampNeg) then (0, st σ 0 25 (σ 0 25)) else (0, st σ 0 25 a3) else if a1 = 16 then bd (xr_X6_isSize σ (σ 22 a3.toNatClampNeg)) (fun v33 σ35 => if v33 = 0 then (0, σ35) else (0, st (st σ35 18 a2.toNatClampNeg (σ35 22 a3.toNatClampNeg)) 19 a2.toNatClampNeg a4)) else if a1 = 17 then if (σ 18 a3.toNatClampNeg) = (-1) then bd (xr_X6_isThere σ 0) (fun v40 σ42 => if v40 = 0 then (0, σ42) else (0, st σ42 22 a2.toNatClampNeg ((σ42 18 a3.toNatClampNeg) * (σ42 19 a3.toNatClampNeg)))) else bd (xr_X6_isThere σ 1) (fun v46 σ48 => if v46 = 0 then (0, σ48) else (0, st σ48 22 a2.toNatClampNeg ((σ48 18 a3.toNatClampNeg) * (σ48 19 a3.toNatClampNeg)))) else if a1 = 18 then (0, st (st σ 20 a2.toNatClampNeg (vp_nar .boolean 1)) 21 a2.toNatClampNeg ((st σ 20 a2.toNatClampNeg (vp_nar .boolean 1)) 22 a3.toNatClampNeg)) else if a1 = 19 then (0, st σ 20 a2.toNatClampNeg (vp_nar .boolean 0)) else if a1 = 20 then bd (xr_X6_isThere σ (σ 20 a2.toNatClampNeg)) (fun v57 σ59 => if v57 = 0 then (0, σ59) else (0, st (st σ59 0 27 7) 0 30 ((st σ59 0 27 7) 21 a2.toNatClampNeg))) else if a1 = 21 then (0, st σ 22 a2.toNatClampNeg a3) else if a1 = 22 then (0, st σ 22 a2.toNatClampNeg ((σ 22 a2.toNatClampNeg) + (σ 22 a3.toNatClampNeg))) else if a1 = 23 then (0, st σ 0 25 a2) else if (1 : Int32) ≤ (σ 22 a2.toNatClampNeg) then (0, st σ 0 25 (σ 0 25)) else (0, st σ 0 25 a3)
def xo_X6_rest (σ : GS) (a1 : Int32) (a2 : Int32) (a3 : Int32) (a4 : Int32) : Prop := (a1 = 0 → vp_in (σ 0 10) 64 ∧ (vp_in a4 6 ∧ (vp_in ((st σ 9 (σ 0 10).toNatClampNeg a3) 0 10) 64 ∧ (vp_in ((st (st σ 9 (σ 0 10).toNatClampNeg a3) 10 ((st σ 9 (σ 0 10).toNatClampNeg a3) 0 10).toNatClampNeg ((st σ 9 (σ 0 10).toNatClampNeg a3) 22 a4.toNatClampNeg)) 0 10) 64 ∧ (vp_in a2 8 ∧ (True)))))) ∧ (¬ (a1 = 0) → (a1 = 1 → vp_in a2 8 ∧ (True)) ∧ (¬ (a1 = 1) → (a1 = 2 → vp_in a3 8 ∧ (vp_in a2 8 ∧ (True))) ∧ (¬ (a1 = 2) → (a1 = 3 → vp_in a2 6 ∧ (((1 : Int32) ≤ (σ 22 a2.toNatClampNeg) → True) ∧ (¬ ((1 : Int32) ≤ (σ 22 a2.toNatClampNeg)) → True))) ∧ (¬ (a1 = 3) → (a1 = 4 → vp_in a2 6 ∧ (((1 : Int32) ≤ (σ 22 a2.toNatClampNeg) → True) ∧ (¬ ((1 : Int32) ≤ (σ 22 a2.toNatClampNeg)) → True))) ∧ (¬ (a1 = 4) → (a1 = 5 → vp_in a2 6 ∧ (((1 : Int32) ≤ (σ 22 a2.toNatClampNeg) → True) ∧ (¬ ((1 : Int32) ≤ (σ 22 a2.toNatClampNeg)) → True))) ∧ (¬ (a1 = 5) → (a1 = 6 → vp_in a3 4 ∧ (((σ 13 a3.toNatClampNeg) = (-1) → (xo_X6_isThere σ 0) ∧ bd (xr_X6_isThere σ 0) (fun v13 σ15 => (v13 = 0 → True) ∧ (¬ (v13 = 0) → vp_in a3 4 ∧ (vp_in a2 6 ∧ (True))))) ∧ (¬ ((σ 13 a3.toNatClampNeg) = (-1)) → (xo_X6_isThere σ 1) ∧ bd (xr_X6_isThere σ 1) (fun v18 σ20 => (v18 = 0 → True) ∧ (¬ (v18 = 0) → vp_in a3 4 ∧ (vp_in a2 6 ∧ (True))))))) ∧ (¬ (a1 = 6) → (a1 = 7 → vp_in a2 4 ∧ (True)) ∧ (¬ (a1 = 7) → (a1 = 8 → vp_in a2 6 ∧ (((1 : Int32) ≤ (σ 22 a2.toNatClampNeg) → True) ∧ (¬ ((1 : Int32) ≤ (σ 22 a2.toNatClampNeg)) → True))) ∧ (¬ (a1 = 8) → (a1 = 9 → vp_in a2 6 ∧ (((1 : Int32) ≤ (σ 22 a2.toNatClampNeg) → True) ∧ (¬ ((1 : Int32) ≤ (σ 22 a2.toNatClampNeg)) → True))) ∧ (¬ (a1 = 9) → (a1 = 10 → vp_in a2 6 ∧ (((1 : Int32) ≤ (σ 22 a2.toNatClampNeg) → True) ∧ (¬ ((1 : Int32) ≤ (σ 22 a2.toNatClampNeg)) → True))) ∧ (¬ (a1 = 10) → (a1 = 11 → vp_in a2 6 ∧ (((1 : Int32) ≤ (σ 22 a2.toNatClampNeg) → True) ∧ (¬ ((1 : Int32) ≤ (σ 22 a2.toNatClampNeg)) → True))) ∧ (¬ (a1 = 11) → (a1 = 12 → vp_in a2 6 ∧ (((1 : Int32) ≤ (σ 22 a2.toNatClampNeg) → True) ∧ (¬ ((1 : Int32) ≤ (σ 22 a2.toNatClampNeg)) → True))) ∧ (¬ (a1 = 12) → (a1 = 13 → vp_in a2 6 ∧ (((1 : Int32) ≤ (σ 22 a2.toNatClampNeg) → True) ∧ (¬ ((1 : Int32) ≤ (σ 22 a2.toNatClampNeg)) → True))) ∧ (¬ (a1 = 13) → (a1 = 14 → vp_in a2 6 ∧ (((1 : Int32) ≤ (σ 22 a2.toNatClampNeg) → True) ∧ (¬ ((1 : Int32) ≤ (σ 22 a2.toNatClampNeg)) → True))) ∧ (¬ (a1 = 14) → (a1 = 15 → vp_in a2 6 ∧ (((1 : Int32) ≤ (σ 22 a2.toNatClampNeg) → True) ∧ (¬ ((1 : Int32) ≤ (σ 22 a2.toNatClampNeg)) → True))) ∧ (¬ (a1 = 15) → (a1 = 16 → vp_in a3 6 ∧ ((xo_X6_isSize σ (σ 22 a3.toNatClampNeg)) ∧ bd (xr_X6_isSize σ (σ 22 a3.toNatClampNeg)) (fun v33 σ35 => (v33 = 0 → True) ∧ (¬ (v33 = 0) → vp_in a3 6 ∧ (vp_in a2 2 ∧ (vp_in a2 2 ∧ (True))))))) ∧ (¬ (a1 = 16) → (a1 = 17 → vp_in a3 2 ∧ (((σ 18 a3.toNatClampNeg) = (-1) → (xo_X6_isThere σ 0) ∧ bd (xr_X6_isThere σ 0) (fun v40 σ42 => (v40 = 0 → True) ∧ (¬ (v40 = 0) → vp_in a3 2 ∧ (vp_in a3 2 ∧ (vp_in a2 6 ∧ (True)))))) ∧ (¬ ((σ 18 a3.toNatClampNeg) = (-1)) → (xo_X6_isThere σ 1) ∧ bd (xr_X6_isThere σ 1) (fun v46 σ48 => (v46 = 0 → True) ∧ (¬ (v46 = 0) → vp_in a3 2 ∧ (vp_in a3 2 ∧ (vp_in a2 6 ∧ (True)))))))) ∧ (¬ (a1 = 17) → (a1 = 18 → vp_in a2 3 ∧ (vp_in a3 6 ∧ (vp_in a2 3 ∧ (True)))) ∧ (¬ (a1 = 18) → (a1 = 19 → vp_in a2 3 ∧ (True)) ∧ (¬ (a1 = 19) → (a1 = 20 → vp_in a2 3 ∧ ((xo_X6_isThere σ (σ 20 a2.toNatClampNeg)) ∧ bd (xr_X6_isThere σ (σ 20 a2.toNatClampNeg)) (fun v57 σ59 => (v57 = 0 → True) ∧ (¬ (v57 = 0) → vp_in a2 3 ∧ (True))))) ∧ (¬ (a1 = 20) → (a1 = 21 → vp_in a2 6 ∧ (True)) ∧ (¬ (a1 = 21) → (a1 = 22 → vp_in a2 6 ∧ (vp_in a3 6 ∧ (vp_in a2 6 ∧ (True)))) ∧ (¬ (a1 = 22) → (a1 = 23 → True) ∧ (¬ (a1 = 23) → vp_in a2 6 ∧ (((1 : Int32) ≤ (σ 22 a2.toNatClampNeg) → True) ∧ (¬ ((1 : Int32) ≤ (σ 22 a2.toNatClampNeg)) → True))))))))))))))))))))))))))
set_option maxRecDepth 100000 in
set_option maxHeartbeats 4000000 in
theorem c_X6_rest (l : Launch) (D : va_G) (cy : CY) (q : Nat → Nat) (ex : va_W) (A : Nat → Prop) (σ : GS) (a1 : Int32) (a2 : Int32) (a3 : Int32) (a4 : Int32) (hok : xo_X6_rest σ a1 a2 a3 a4) : Met l yX6_rest (wm yX6_rest cX6_rest 5 none) ({ frames := 1, cells := 0, slots := 0, locals := 21 } : Room) (PC D cy (wM cy q σ ++ ex) A [.ref (q 0), .int a1, .int a2, .int a3, .int a4]) (QV D (wM cy q (xr_X6_rest σ a1 a2 a3 a4).2 ++ ex) A) 0 0 A := by
  generalize hR : xr_X6_rest σ a1 a2 a3 a4 = R
  refine g_met (lv := [(0, .ref (q 0)), (1, .int a1), (2, .int a2), (3, .int a3), (4, .int a4)]) (by decide) rfl (Nat.le_of_ble_eq_true rfl) rfl ?_
  intro p e s m below meth c ls S K h hr hlocks hl
  refine lv_iload_n S.1 S.2.1 dX6_rest_0 rfl (lv_at hl 1 rfl) ?_
  refine g_em 0 (fun c => ?_) (fun n0 => ?_)
  · replace hok := And.left hok c
    replace hR := (if_pos c).symm.trans hR
    refine g_sw (tgt := 112) S.1 S.2.1 dX6_rest_1 c rfl (by decide) (by decide) rfl (by decide) ?_
    refine lv_aload_n S.1 S.2.1 dX6_rest_112 rfl (lv_at hl 0 rfl) ?_
    refine fg_X6_34 S K h dX6_rest_113 ?_
    refine lv_aload_n S.1 S.2.1 dX6_rest_116 rfl (lv_at hl 0 rfl) ?_
    refine fg_X6_84 S K h dX6_rest_117 ?_
    refine lv_iload_n S.1 S.2.1 dX6_rest_120 rfl (lv_at hl 3 rfl) ?_
    have k1 := And.left hok
    replace hok := And.right hok
    refine as_M9 S K h k1 dX6_rest_121 (fun H locs h => ?_)
    refine lv_aload_n S.1 S.2.1 dX6_rest_122 rfl (lv_at hl 0 rfl) ?_
    refine fg_X6_37 S K h dX6_rest_123 ?_
    refine lv_aload_n S.1 S.2.1 dX6_rest_126 rfl (lv_at hl 0 rfl) ?_
    refine fg_X6_84 S K h dX6_rest_127 ?_
    refine lv_aload_n S.1 S.2.1 dX6_rest_130 rfl (lv_at hl 0 rfl) ?_
    refine fg_X6_74 S K h dX6_rest_131 ?_
    refine lv_iload S.1 S.2.1 dX6_rest_134 (lv_at hl 4 rfl) ?_
    have k2 := And.left hok
    replace hok := And.right hok
    refine al_M22 S K h k2 dX6_rest_136 ?_
    have k3 := And.left hok
    replace hok := And.right hok
    refine as_M10 S K h k3 dX6_rest_137 (fun H locs h => ?_)
    refine lv_aload_n S.1 S.2.1 dX6_rest_138 rfl (lv_at hl 0 rfl) ?_
    refine fg_X6_40 S K h dX6_rest_139 ?_
    refine lv_aload_n S.1 S.2.1 dX6_rest_142 rfl (lv_at hl 0 rfl) ?_
    refine fg_X6_84 S K h dX6_rest_143 ?_
    refine lv_iconst (v := 0) S.1 S.2.1 dX6_rest_146 (by decide) ?_
    have k4 := And.left hok
    replace hok := And.right hok
    refine as_M11 S K h k4 dX6_rest_147 (fun H locs h => ?_)
    refine lv_aload_n S.1 S.2.1 dX6_rest_148 rfl (lv_at hl 0 rfl) ?_
    refine fg_X6_43 S K h dX6_rest_149 ?_
    refine lv_iload_n S.1 S.2.1 dX6_rest_152 rfl (lv_at hl 2 rfl) ?_
    refine lv_aload_n S.1 S.2.1 dX6_rest_153 rfl (lv_at hl 0 rfl) ?_
    refine fg_X6_84 S K h dX6_rest_154 ?_
    have k5 := And.left hok
    replace hok := And.right hok
    refine as_M12 S K h k5 dX6_rest_157 (fun H locs h => ?_)
    refine lv_aload_n S.1 S.2.1 dX6_rest_158 rfl (lv_at hl 0 rfl) ?_
    refine lv_dup S.1 S.2.1 dX6_rest_159 rfl ?_
    refine fg_X6_84 S K h dX6_rest_160 ?_
    refine lv_iconst (v := 1) S.1 S.2.1 dX6_rest_163 (by decide) ?_
    refine lv_iadd S.1 S.2.1 dX6_rest_164 ?_
    refine fp_X6_84 S K h dX6_rest_165 (fun H locs h => ?_)
    refine lv_goto (tgt := 445) S.1 S.2.1 dX6_rest_168 (by decide) ?_
    subst hR
    exact g_retv S hr hlocks h dX6_rest_445
  replace hok := And.right hok n0
  replace hR := (if_neg n0).symm.trans hR
  refine g_em 1 (fun c => ?_) (fun n1 => ?_)
  · replace hok := And.left hok c
    replace hR := (if_pos c).symm.trans hR
    refine g_sw (tgt := 171) S.1 S.2.1 dX6_rest_1 c rfl (by decide) (by decide) rfl (by decide) ?_
    refine lv_aload_n S.1 S.2.1 dX6_rest_171 rfl (lv_at hl 0 rfl) ?_
    refine fg_X6_43 S K h dX6_rest_172 ?_
    refine lv_iload_n S.1 S.2.1 dX6_rest_175 rfl (lv_at hl 2 rfl) ?_
    refine lv_iconst (v := -1) S.1 S.2.1 dX6_rest_176 (by decide) ?_
    have k6 := And.left hok
    replace hok := And.right hok
    refine as_M12 S K h k6 dX6_rest_177 (fun H locs h => ?_)
    refine lv_goto (tgt := 445) S.1 S.2.1 dX6_rest_178 (by decide) ?_
    subst hR
    exact g_retv S hr hlocks h dX6_rest_445
  replace hok := And.right hok n1
  replace hR := (if_neg n1).symm.trans hR
  refine g_em 2 (fun c => ?_) (fun n2 => ?_)
  · replace hok := And.left hok c
    replace hR := (if_pos c).symm.trans hR
    refine g_sw (tgt := 181) S.1 S.2.1 dX6_rest_1 c rfl (by decide) (by decide) rfl (by decide) ?_
    refine lv_aload_n S.1 S.2.1 dX6_rest_181 rfl (lv_at hl 0 rfl) ?_
    refine fg_X6_43 S K h dX6_rest_182 ?_
    refine lv_iload_n S.1 S.2.1 dX6_rest_185 rfl (lv_at hl 2 rfl) ?_
    refine lv_aload_n S.1 S.2.1 dX6_rest_186 rfl (lv_at hl 0 rfl) ?_
    refine fg_X6_43 S K h dX6_rest_187 ?_
    refine lv_iload_n S.1 S.2.1 dX6_rest_190 rfl (lv_at hl 3 rfl) ?_
    have k7 := And.left hok
    replace hok := And.right hok
    refine al_M12 S K h k7 dX6_rest_191 ?_
    have k8 := And.left hok
    replace hok := And.right hok
    refine as_M12 S K h k8 dX6_rest_192 (fun H locs h => ?_)
    refine lv_goto (tgt := 445) S.1 S.2.1 dX6_rest_193 (by decide) ?_
    subst hR
    exact g_retv S hr hlocks h dX6_rest_445
  replace hok := And.right hok n2
  replace hR := (if_neg n2).symm.trans hR
  refine g_em 3 (fun c => ?_) (fun n3 => ?_)
  · replace hok := And.left hok c
    replace hR := (if_pos c).symm.trans hR
    refine g_sw (tgt := 423) S.1 S.2.1 dX6_rest_1 c rfl (by decide) (by decide) rfl (by decide) ?_
    refine lv_aload_n S.1 S.2.1 dX6_rest_423 rfl (lv_at hl 0 rfl) ?_
    refine lv_aload_n S.1 S.2.1 dX6_rest_424 rfl (lv_at hl 0 rfl) ?_
    refine fg_X6_74 S K h dX6_rest_425 ?_
    refine lv_iload_n S.1 S.2.1 dX6_rest_428 rfl (lv_at hl 2 rfl) ?_
    have k9 := And.left hok
    replace hok := And.right hok
    refine al_M22 S K h k9 dX6_rest_429 ?_
    refine lv_iconst (v := 1) S.1 S.2.1 dX6_rest_430 (by decide) ?_
    refine lv_icmp_ge (tgt := 438) S.1 S.2.1 dX6_rest_431 (by decide) (fun c => ?_) (fun c => ?_)
    · replace hok := And.left hok c
      replace hR := (if_pos c).symm.trans hR
      refine lv_aload_n S.1 S.2.1 dX6_rest_438 rfl (lv_at hl 0 rfl) ?_
      refine fg_X6_88 S K h dX6_rest_439 ?_
      refine fp_X6_88 S K h dX6_rest_442 (fun H locs h => ?_)
      subst hR
      exact g_retv S hr hlocks h dX6_rest_445
    · replace hok := And.right hok c
      replace hR := (if_neg c).symm.trans hR
      refine lv_iload_n S.1 S.2.1 dX6_rest_434 rfl (lv_at hl 3 rfl) ?_
      refine lv_goto (tgt := 442) S.1 S.2.1 dX6_rest_435 (by decide) ?_
      refine fp_X6_88 S K h dX6_rest_442 (fun H locs h => ?_)
      subst hR
      exact g_retv S hr hlocks h dX6_rest_445
  replace hok := And.right hok n3
  replace hR := (if_neg n3).symm.trans hR
  refine g_em 4 (fun c => ?_) (fun n4 => ?_)
  · replace hok := And.left hok c
    replace hR := (if_pos c).symm.trans hR
    refine g_sw (tgt := 423) S.1 S.2.1 dX6_rest_1 c rfl (by decide) (by decide) rfl (by decide) ?_
    refine lv_aload_n S.1 S.2.1 dX6_rest_423 rfl (lv_at hl 0 rfl) ?_
    refine lv_aload_n S.1 S.2.1 dX6_rest_424 rfl (lv_at hl 0 rfl) ?_
    refine fg_X6_74 S K h dX6_rest_425 ?_
    refine lv_iload_n S.1 S.2.1 dX6_rest_428 rfl (lv_at hl 2 rfl) ?_
    have k10 := And.left hok
    replace hok := And.right hok
    refine al_M22 S K h k10 dX6_rest_429 ?_
    refine lv_iconst (v := 1) S.1 S.2.1 dX6_rest_430 (by decide) ?_
    refine lv_icmp_ge (tgt := 438) S.1 S.2.1 dX6_rest_431 (by decide) (fun c => ?_) (fun c => ?_)
    · replace hok := And.left hok c
      replace hR := (if_pos c).symm.trans hR
      refine lv_aload_n S.1 S.2.1 dX6_rest_438 rfl (lv_at hl 0 rfl) ?_
      refine fg_X6_88 S K h dX6_rest_439 ?_
      refine fp_X6_88 S K h dX6_rest_442 (fun H locs h => ?_)
      subst hR
      exact g_retv S hr hlocks h dX6_rest_445
    · replace hok := And.right hok c
      replace hR := (if_neg c).symm.trans hR
      refine lv_iload_n S.1 S.2.1 dX6_rest_434 rfl (lv_at hl 3 rfl) ?_
      refine lv_goto (tgt := 442) S.1 S.2.1 dX6_rest_435 (by decide) ?_
      refine fp_X6_88 S K h dX6_rest_442 (fun H locs h => ?_)
      subst hR
      exact g_retv S hr hlocks h dX6_rest_445
  replace hok := And.right hok n4
  replace hR := (if_neg n4).symm.trans hR
  refine g_em 5 (fun c => ?_) (fun n5 => ?_)
  · replace hok := And.left hok c
    replace hR := (if_pos c).symm.trans hR
    refine g_sw (tgt := 423) S.1 S.2.1 dX6_rest_1 c rfl (by decide) (by decide) rfl (by decide) ?_
    refine lv_aload_n S.1 S.2.1 dX6_rest_423 rfl (lv_at hl 0 rfl) ?_
    refine lv_aload_n S.1 S.2.1 dX6_rest_424 rfl (lv_at hl 0 rfl) ?_
    refine fg_X6_74 S K h dX6_rest_425 ?_
    refine lv_iload_n S.1 S.2.1 dX6_rest_428 rfl (lv_at hl 2 rfl) ?_
    have k11 := And.left hok
    replace hok := And.right hok
    refine al_M22 S K h k11 dX6_rest_429 ?_
    refine lv_iconst (v := 1) S.1 S.2.1 dX6_rest_430 (by decide) ?_
    refine lv_icmp_ge (tgt := 438) S.1 S.2.1 dX6_rest_431 (by decide) (fun c => ?_) (fun c => ?_)
    · replace hok := And.left hok c
      replace hR := (if_pos c).symm.trans hR
      refine lv_aload_n S.1 S.2.1 dX6_rest_438 rfl (lv_at hl 0 rfl) ?_
      refine fg_X6_88 S K h dX6_rest_439 ?_
      refine fp_X6_88 S K h dX6_rest_442 (fun H locs h => ?_)
      subst hR
      exact g_retv S hr hlocks h dX6_rest_445
    · replace hok := And.right hok c
      replace hR := (if_neg c).symm.trans hR
      refine lv_iload_n S.1 S.2.1 dX6_rest_434 rfl (lv_at hl 3 rfl) ?_
      refine lv_goto (tgt := 442) S.1 S.2.1 dX6_rest_435 (by decide) ?_
      refine fp_X6_88 S K h dX6_rest_442 (fun H locs h => ?_)
      subst hR
      exact g_retv S hr hlocks h dX6_rest_445
  replace hok := And.right hok n5
  replace hR := (if_neg n5).symm.trans hR
  refine g_em 6 (fun c => ?_) (fun n6 => ?_)
  · replace hok := And.left hok c
    replace hR := (if_pos c).symm.trans hR
    refine g_sw (tgt := 196) S.1 S.2.1 dX6_rest_1 c rfl (by decide) (by decide) rfl (by decide) ?_
    refine lv_aload_n S.1 S.2.1 dX6_rest_196 rfl (lv_at hl 0 rfl) ?_
    refine lv_aload_n S.1 S.2.1 dX6_rest_197 rfl (lv_at hl 0 rfl) ?_
    refine fg_X6_46 S K h dX6_rest_198 ?_
    refine lv_iload_n S.1 S.2.1 dX6_rest_201 rfl (lv_at hl 3 rfl) ?_
    have k12 := And.left hok
    replace hok := And.right hok
    refine al_M13 S K h k12 dX6_rest_202 ?_
    refine lv_iconst (v := -1) S.1 S.2.1 dX6_rest_203 (by decide) ?_
    refine lv_icmp_eq (tgt := 211) S.1 S.2.1 dX6_rest_204 (by decide) (fun c => ?_) (fun c => ?_)
    · replace hok := And.left hok c
      replace hR := (if_pos c).symm.trans hR
      refine lv_iconst (v := 0) S.1 S.2.1 dX6_rest_211 (by decide) ?_
      have k14 := And.left hok
      replace hok := And.right hok
      refine g_calli (ci := 6) (q0 := 0) S wz_cons K h (c_X6_isThere l D cy q _ A _ _ k14) kc_X6_isThere km_X6_133 ki_X6_isThere ks_X6_isThere kn_X6 yd_X6_isThere ⟨⟨Nat.le_of_ble_eq_true rfl, Nat.le_of_ble_eq_true rfl⟩, rfl, rfl, Nat.zero_le _, Nat.zero_le _⟩ rfl rfl rfl hl.1 (Nat.le_of_ble_eq_true rfl) rfl dX6_rest_212 (fun H locs h => ?_)
      refine lv_if_eq (tgt := 445) S.1 S.2.1 dX6_rest_215 (by decide) (fun c => ?_) (fun c => ?_)
      · replace hok := And.left hok c
        replace hR := (if_pos c).symm.trans hR
        subst hR
        exact g_retv S hr hlocks h dX6_rest_445
      · replace hok := And.right hok c
        replace hR := (if_neg c).symm.trans hR
        refine lv_aload_n S.1 S.2.1 dX6_rest_218 rfl (lv_at hl 0 rfl) ?_
        refine fg_X6_74 S K h dX6_rest_219 ?_
        refine lv_iload_n S.1 S.2.1 dX6_rest_222 rfl (lv_at hl 2 rfl) ?_
        refine lv_aload_n S.1 S.2.1 dX6_rest_223 rfl (lv_at hl 0 rfl) ?_
        refine fg_X6_46 S K h dX6_rest_224 ?_
        refine lv_iload_n S.1 S.2.1 dX6_rest_227 rfl (lv_at hl 3 rfl) ?_
        have k16 := And.left hok
        replace hok := And.right hok
        refine al_M13 S K h k16 dX6_rest_228 ?_
        have k17 := And.left hok
        replace hok := And.right hok
        refine as_M22 S K h k17 dX6_rest_229 (fun H locs h => ?_)
        refine lv_goto (tgt := 445) S.1 S.2.1 dX6_rest_230 (by decide) ?_
        subst hR
        exact g_retv S hr hlocks h dX6_rest_445
    · replace hok := And.right hok c
      replace hR := (if_neg c).symm.trans hR
      refine lv_iconst (v := 1) S.1 S.2.1 dX6_rest_207 (by decide) ?_
      refine lv_goto (tgt := 212) S.1 S.2.1 dX6_rest_208 (by decide) ?_
      have k19 := And.left hok
      replace hok := And.right hok
      refine g_calli (ci := 6) (q0 := 0) S wz_cons K h (c_X6_isThere l D cy q _ A _ _ k19) kc_X6_isThere km_X6_133 ki_X6_isThere ks_X6_isThere kn_X6 yd_X6_isThere ⟨⟨Nat.le_of_ble_eq_true rfl, Nat.le_of_ble_eq_true rfl⟩, rfl, rfl, Nat.zero_le _, Nat.zero_le _⟩ rfl rfl rfl hl.1 (Nat.le_of_ble_eq_true rfl) rfl dX6_rest_212 (fun H locs h => ?_)
      refine lv_if_eq (tgt := 445) S.1 S.2.1 dX6_rest_215 (by decide) (fun c => ?_) (fun c => ?_)
      · replace hok := And.left hok c
        replace hR := (if_pos c).symm.trans hR
        subst hR
        exact g_retv S hr hlocks h dX6_rest_445
      · replace hok := And.right hok c
        replace hR := (if_neg c).symm.trans hR
        refine lv_aload_n S.1 S.2.1 dX6_rest_218 rfl (lv_at hl 0 rfl) ?_
        refine fg_X6_74 S K h dX6_rest_219 ?_
        refine lv_iload_n S.1 S.2.1 dX6_rest_222 rfl (lv_at hl 2 rfl) ?_
        refine lv_aload_n S.1 S.2.1 dX6_rest_223 rfl (lv_at hl 0 rfl) ?_
        refine fg_X6_46 S K h dX6_rest_224 ?_
        refine lv_iload_n S.1 S.2.1 dX6_rest_227 rfl (lv_at hl 3 rfl) ?_
        have k21 := And.left hok
        replace hok := And.right hok
        refine al_M13 S K h k21 dX6_rest_228 ?_
        have k22 := And.left hok
        replace hok := And.right hok
        refine as_M22 S K h k22 dX6_rest_229 (fun H locs h => ?_)
        refine lv_goto (tgt := 445) S.1 S.2.1 dX6_rest_230 (by decide) ?_
        subst hR
        exact g_retv S hr hlocks h dX6_rest_445
  replace hok := And.right hok n6
  replace hR := (if_neg n6).symm.trans hR
  refine g_em 7 (fun c => ?_) (fun n7 => ?_)
  · replace hok := And.left hok c
    replace hR := (if_pos c).symm.trans hR
    refine g_sw (tgt := 233) S.1 S.2.1 dX6_rest_1 c rfl (by decide) (by decide) rfl (by decide) ?_
    refine lv_aload_n S.1 S.2.1 dX6_rest_233 rfl (lv_at hl 0 rfl) ?_
    refine fg_X6_46 S K h dX6_rest_234 ?_
    refine lv_iload_n S.1 S.2.1 dX6_rest_237 rfl (lv_at hl 2 rfl) ?_
    refine lv_iconst (v := -1) S.1 S.2.1 dX6_rest_238 (by decide) ?_
    have k23 := And.left hok
    replace hok := And.right hok
    refine as_M13 S K h k23 dX6_rest_239 (fun H locs h => ?_)
    refine lv_goto (tgt := 445) S.1 S.2.1 dX6_rest_240 (by decide) ?_
    subst hR
    exact g_retv S hr hlocks h dX6_rest_445
  replace hok := And.right hok n7
  replace hR := (if_neg n7).symm.trans hR
  refine g_em 8 (fun c => ?_) (fun n8 => ?_)
  · replace hok := And.left hok c
    replace hR := (if_pos c).symm.trans hR
    refine g_sw (tgt := 423) S.1 S.2.1 dX6_rest_1 c rfl (by decide) (by decide) rfl (by decide) ?_
    refine lv_aload_n S.1 S.2.1 dX6_rest_423 rfl (lv_at hl 0 rfl) ?_
    refine lv_aload_n S.1 S.2.1 dX6_rest_424 rfl (lv_at hl 0 rfl) ?_
    refine fg_X6_74 S K h dX6_rest_425 ?_
    refine lv_iload_n S.1 S.2.1 dX6_rest_428 rfl (lv_at hl 2 rfl) ?_
    have k24 := And.left hok
    replace hok := And.right hok
    refine al_M22 S K h k24 dX6_rest_429 ?_
    refine lv_iconst (v := 1) S.1 S.2.1 dX6_rest_430 (by decide) ?_
    refine lv_icmp_ge (tgt := 438) S.1 S.2.1 dX6_rest_431 (by decide) (fun c => ?_) (fun c => ?_)
    · replace hok := And.left hok c
      replace hR := (if_pos c).symm.trans hR
      refine lv_aload_n S.1 S.2.1 dX6_rest_438 rfl (lv_at hl 0 rfl) ?_
      refine fg_X6_88 S K h dX6_rest_439 ?_
      refine fp_X6_88 S K h dX6_rest_442 (fun H locs h => ?_)
      subst hR
      exact g_retv S hr hlocks h dX6_rest_445
    · replace hok := And.right hok c
      replace hR := (if_neg c).symm.trans hR
      refine lv_iload_n S.1 S.2.1 dX6_rest_434 rfl (lv_at hl 3 rfl) ?_
      refine lv_goto (tgt := 442) S.1 S.2.1 dX6_rest_435 (by decide) ?_
      refine fp_X6_88 S K h dX6_rest_442 (fun H locs h => ?_)
      subst hR
      exact g_retv S hr hlocks h dX6_rest_445
  replace hok := And.right hok n8
  replace hR := (if_neg n8).symm.trans hR
  refine g_em 9 (fun c => ?_) (fun n9 => ?_)
  · replace hok := And.left hok c
    replace hR := (if_pos c).symm.trans hR
    refine g_sw (tgt := 423) S.1 S.2.1 dX6_rest_1 c rfl (by decide) (by decide) rfl (by decide) ?_
    refine lv_aload_n S.1 S.2.1 dX6_rest_423 rfl (lv_at hl 0 rfl) ?_
    refine lv_aload_n S.1 S.2.1 dX6_rest_424 rfl (lv_at hl 0 rfl) ?_
    refine fg_X6_74 S K h dX6_rest_425 ?_
    refine lv_iload_n S.1 S.2.1 dX6_rest_428 rfl (lv_at hl 2 rfl) ?_
    have k25 := And.left hok
    replace hok := And.right hok
    refine al_M22 S K h k25 dX6_rest_429 ?_
    refine lv_iconst (v := 1) S.1 S.2.1 dX6_rest_430 (by decide) ?_
    refine lv_icmp_ge (tgt := 438) S.1 S.2.1 dX6_rest_431 (by decide) (fun c => ?_) (fun c => ?_)
    · replace hok := And.left hok c
      replace hR := (if_pos c).symm.trans hR
      refine lv_aload_n S.1 S.2.1 dX6_rest_438 rfl (lv_at hl 0 rfl) ?_
      refine fg_X6_88 S K h dX6_rest_439 ?_
      refine fp_X6_88 S K h dX6_rest_442 (fun H locs h => ?_)
      subst hR
      exact g_retv S hr hlocks h dX6_rest_445
    · replace hok := And.right hok c
      replace hR := (if_neg c).symm.trans hR
      refine lv_iload_n S.1 S.2.1 dX6_rest_434 rfl (lv_at hl 3 rfl) ?_
      refine lv_goto (tgt := 442) S.1 S.2.1 dX6_rest_435 (by decide) ?_
      refine fp_X6_88 S K h dX6_rest_442 (fun H locs h => ?_)
      subst hR
      exact g_retv S hr hlocks h dX6_rest_445
  replace hok := And.right hok n9
  replace hR := (if_neg n9).symm.trans hR
  refine g_em 10 (fun c => ?_) (fun n10 => ?_)
  · replace hok := And.left hok c
    replace hR := (if_pos c).symm.trans hR
    refine g_sw (tgt := 423) S.1 S.2.1 dX6_rest_1 c rfl (by decide) (by decide) rfl (by decide) ?_
    refine lv_aload_n S.1 S.2.1 dX6_rest_423 rfl (lv_at hl 0 rfl) ?_
    refine lv_aload_n S.1 S.2.1 dX6_rest_424 rfl (lv_at hl 0 rfl) ?_
    refine fg_X6_74 S K h dX6_rest_425 ?_
    refine lv_iload_n S.1 S.2.1 dX6_rest_428 rfl (lv_at hl 2 rfl) ?_
    have k26 := And.left hok
    replace hok := And.right hok
    refine al_M22 S K h k26 dX6_rest_429 ?_
    refine lv_iconst (v := 1) S.1 S.2.1 dX6_rest_430 (by decide) ?_
    refine lv_icmp_ge (tgt := 438) S.1 S.2.1 dX6_rest_431 (by decide) (fun c => ?_) (fun c => ?_)
    · replace hok := And.left hok c
      replace hR := (if_pos c).symm.trans hR
      refine lv_aload_n S.1 S.2.1 dX6_rest_438 rfl (lv_at hl 0 rfl) ?_
      refine fg_X6_88 S K h dX6_rest_439 ?_
      refine fp_X6_88 S K h dX6_rest_442 (fun H locs h => ?_)
      subst hR
      exact g_retv S hr hlocks h dX6_rest_445
    · replace hok := And.right hok c
      replace hR := (if_neg c).symm.trans hR
      refine lv_iload_n S.1 S.2.1 dX6_rest_434 rfl (lv_at hl 3 rfl) ?_
      refine lv_goto (tgt := 442) S.1 S.2.1 dX6_rest_435 (by decide) ?_
      refine fp_X6_88 S K h dX6_rest_442 (fun H locs h => ?_)
      subst hR
      exact g_retv S hr hlocks h dX6_rest_445
  replace hok := And.right hok n10
  replace hR := (if_neg n10).symm.trans hR
  refine g_em 11 (fun c => ?_) (fun n11 => ?_)
  · replace hok := And.left hok c
    replace hR := (if_pos c).symm.trans hR
    refine g_sw (tgt := 423) S.1 S.2.1 dX6_rest_1 c rfl (by decide) (by decide) rfl (by decide) ?_
    refine lv_aload_n S.1 S.2.1 dX6_rest_423 rfl (lv_at hl 0 rfl) ?_
    refine lv_aload_n S.1 S.2.1 dX6_rest_424 rfl (lv_at hl 0 rfl) ?_
    refine fg_X6_74 S K h dX6_rest_425 ?_
    refine lv_iload_n S.1 S.2.1 dX6_rest_428 rfl (lv_at hl 2 rfl) ?_
    have k27 := And.left hok
    replace hok := And.right hok
    refine al_M22 S K h k27 dX6_rest_429 ?_
    refine lv_iconst (v := 1) S.1 S.2.1 dX6_rest_430 (by decide) ?_
    refine lv_icmp_ge (tgt := 438) S.1 S.2.1 dX6_rest_431 (by decide) (fun c => ?_) (fun c => ?_)
    · replace hok := And.left hok c
      replace hR := (if_pos c).symm.trans hR
      refine lv_aload_n S.1 S.2.1 dX6_rest_438 rfl (lv_at hl 0 rfl) ?_
      refine fg_X6_88 S K h dX6_rest_439 ?_
      refine fp_X6_88 S K h dX6_rest_442 (fun H locs h => ?_)
      subst hR
      exact g_retv S hr hlocks h dX6_rest_445
    · replace hok := And.right hok c
      replace hR := (if_neg c).symm.trans hR
      refine lv_iload_n S.1 S.2.1 dX6_rest_434 rfl (lv_at hl 3 rfl) ?_
      refine lv_goto (tgt := 442) S.1 S.2.1 dX6_rest_435 (by decide) ?_
      refine fp_X6_88 S K h dX6_rest_442 (fun H locs h => ?_)
      subst hR
      exact g_retv S hr hlocks h dX6_rest_445
  replace hok := And.right hok n11
  replace hR := (if_neg n11).symm.trans hR
  refine g_em 12 (fun c => ?_) (fun n12 => ?_)
  · replace hok := And.left hok c
    replace hR := (if_pos c).symm.trans hR
    refine g_sw (tgt := 423) S.1 S.2.1 dX6_rest_1 c rfl (by decide) (by decide) rfl (by decide) ?_
    refine lv_aload_n S.1 S.2.1 dX6_rest_423 rfl (lv_at hl 0 rfl) ?_
    refine lv_aload_n S.1 S.2.1 dX6_rest_424 rfl (lv_at hl 0 rfl) ?_
    refine fg_X6_74 S K h dX6_rest_425 ?_
    refine lv_iload_n S.1 S.2.1 dX6_rest_428 rfl (lv_at hl 2 rfl) ?_
    have k28 := And.left hok
    replace hok := And.right hok
    refine al_M22 S K h k28 dX6_rest_429 ?_
    refine lv_iconst (v := 1) S.1 S.2.1 dX6_rest_430 (by decide) ?_
    refine lv_icmp_ge (tgt := 438) S.1 S.2.1 dX6_rest_431 (by decide) (fun c => ?_) (fun c => ?_)
    · replace hok := And.left hok c
      replace hR := (if_pos c).symm.trans hR
      refine lv_aload_n S.1 S.2.1 dX6_rest_438 rfl (lv_at hl 0 rfl) ?_
      refine fg_X6_88 S K h dX6_rest_439 ?_
      refine fp_X6_88 S K h dX6_rest_442 (fun H locs h => ?_)
      subst hR
      exact g_retv S hr hlocks h dX6_rest_445
    · replace hok := And.right hok c
      replace hR := (if_neg c).symm.trans hR
      refine lv_iload_n S.1 S.2.1 dX6_rest_434 rfl (lv_at hl 3 rfl) ?_
      refine lv_goto (tgt := 442) S.1 S.2.1 dX6_rest_435 (by decide) ?_
      refine fp_X6_88 S K h dX6_rest_442 (fun H locs h => ?_)
      subst hR
      exact g_retv S hr hlocks h dX6_rest_445
  replace hok := And.right hok n12
  replace hR := (if_neg n12).symm.trans hR
  refine g_em 13 (fun c => ?_) (fun n13 => ?_)
  · replace hok := And.left hok c
    replace hR := (if_pos c).symm.trans hR
    refine g_sw (tgt := 423) S.1 S.2.1 dX6_rest_1 c rfl (by decide) (by decide) rfl (by decide) ?_
    refine lv_aload_n S.1 S.2.1 dX6_rest_423 rfl (lv_at hl 0 rfl) ?_
    refine lv_aload_n S.1 S.2.1 dX6_rest_424 rfl (lv_at hl 0 rfl) ?_
    refine fg_X6_74 S K h dX6_rest_425 ?_
    refine lv_iload_n S.1 S.2.1 dX6_rest_428 rfl (lv_at hl 2 rfl) ?_
    have k29 := And.left hok
    replace hok := And.right hok
    refine al_M22 S K h k29 dX6_rest_429 ?_
    refine lv_iconst (v := 1) S.1 S.2.1 dX6_rest_430 (by decide) ?_
    refine lv_icmp_ge (tgt := 438) S.1 S.2.1 dX6_rest_431 (by decide) (fun c => ?_) (fun c => ?_)
    · replace hok := And.left hok c
      replace hR := (if_pos c).symm.trans hR
      refine lv_aload_n S.1 S.2.1 dX6_rest_438 rfl (lv_at hl 0 rfl) ?_
      refine fg_X6_88 S K h dX6_rest_439 ?_
      refine fp_X6_88 S K h dX6_rest_442 (fun H locs h => ?_)
      subst hR
      exact g_retv S hr hlocks h dX6_rest_445
    · replace hok := And.right hok c
      replace hR := (if_neg c).symm.trans hR
      refine lv_iload_n S.1 S.2.1 dX6_rest_434 rfl (lv_at hl 3 rfl) ?_
      refine lv_goto (tgt := 442) S.1 S.2.1 dX6_rest_435 (by decide) ?_
      refine fp_X6_88 S K h dX6_rest_442 (fun H locs h => ?_)
      subst hR
      exact g_retv S hr hlocks h dX6_rest_445
  replace hok := And.right hok n13
  replace hR := (if_neg n13).symm.trans hR
  refine g_em 14 (fun c => ?_) (fun n14 => ?_)
  · replace hok := And.left hok c
    replace hR := (if_pos c).symm.trans hR
    refine g_sw (tgt := 423) S.1 S.2.1 dX6_rest_1 c rfl (by decide) (by decide) rfl (by decide) ?_
    refine lv_aload_n S.1 S.2.1 dX6_rest_423 rfl (lv_at hl 0 rfl) ?_
    refine lv_aload_n S.1 S.2.1 dX6_rest_424 rfl (lv_at hl 0 rfl) ?_
    refine fg_X6_74 S K h dX6_rest_425 ?_
    refine lv_iload_n S.1 S.2.1 dX6_rest_428 rfl (lv_at hl 2 rfl) ?_
    have k30 := And.left hok
    replace hok := And.right hok
    refine al_M22 S K h k30 dX6_rest_429 ?_
    refine lv_iconst (v := 1) S.1 S.2.1 dX6_rest_430 (by decide) ?_
    refine lv_icmp_ge (tgt := 438) S.1 S.2.1 dX6_rest_431 (by decide) (fun c => ?_) (fun c => ?_)
    · replace hok := And.left hok c
      replace hR := (if_pos c).symm.trans hR
      refine lv_aload_n S.1 S.2.1 dX6_rest_438 rfl (lv_at hl 0 rfl) ?_
      refine fg_X6_88 S K h dX6_rest_439 ?_
      refine fp_X6_88 S K h dX6_rest_442 (fun H locs h => ?_)
      subst hR
      exact g_retv S hr hlocks h dX6_rest_445
    · replace hok := And.right hok c
      replace hR := (if_neg c).symm.trans hR
      refine lv_iload_n S.1 S.2.1 dX6_rest_434 rfl (lv_at hl 3 rfl) ?_
      refine lv_goto (tgt := 442) S.1 S.2.1 dX6_rest_435 (by decide) ?_
      refine fp_X6_88 S K h dX6_rest_442 (fun H locs h => ?_)
      subst hR
      exact g_retv S hr hlocks h dX6_rest_445
  replace hok := And.right hok n14
  replace hR := (if_neg n14).symm.trans hR
  refine g_em 15 (fun c => ?_) (fun n15 => ?_)
  · replace hok := And.left hok c
    replace hR := (if_pos c).symm.trans hR
    refine g_sw (tgt := 423) S.1 S.2.1 dX6_rest_1 c rfl (by decide) (by decide) rfl (by decide) ?_
    refine lv_aload_n S.1 S.2.1 dX6_rest_423 rfl (lv_at hl 0 rfl) ?_
    refine lv_aload_n S.1 S.2.1 dX6_rest_424 rfl (lv_at hl 0 rfl) ?_
    refine fg_X6_74 S K h dX6_rest_425 ?_
    refine lv_iload_n S.1 S.2.1 dX6_rest_428 rfl (lv_at hl 2 rfl) ?_
    have k31 := And.left hok
    replace hok := And.right hok
    refine al_M22 S K h k31 dX6_rest_429 ?_
    refine lv_iconst (v := 1) S.1 S.2.1 dX6_rest_430 (by decide) ?_
    refine lv_icmp_ge (tgt := 438) S.1 S.2.1 dX6_rest_431 (by decide) (fun c => ?_) (fun c => ?_)
    · replace hok := And.left hok c
      replace hR := (if_pos c).symm.trans hR
      refine lv_aload_n S.1 S.2.1 dX6_rest_438 rfl (lv_at hl 0 rfl) ?_
      refine fg_X6_88 S K h dX6_rest_439 ?_
      refine fp_X6_88 S K h dX6_rest_442 (fun H locs h => ?_)
      subst hR
      exact g_retv S hr hlocks h dX6_rest_445
    · replace hok := And.right hok c
      replace hR := (if_neg c).symm.trans hR
      refine lv_iload_n S.1 S.2.1 dX6_rest_434 rfl (lv_at hl 3 rfl) ?_
      refine lv_goto (tgt := 442) S.1 S.2.1 dX6_rest_435 (by decide) ?_
      refine fp_X6_88 S K h dX6_rest_442 (fun H locs h => ?_)
      subst hR
      exact g_retv S hr hlocks h dX6_rest_445
  replace hok := And.right hok n15
  replace hR := (if_neg n15).symm.trans hR
  refine g_em 16 (fun c => ?_) (fun n16 => ?_)
  · replace hok := And.left hok c
    replace hR := (if_pos c).symm.trans hR
    refine g_sw (tgt := 243) S.1 S.2.1 dX6_rest_1 c rfl (by decide) (by decide) rfl (by decide) ?_
    refine lv_aload_n S.1 S.2.1 dX6_rest_243 rfl (lv_at hl 0 rfl) ?_
    refine lv_aload_n S.1 S.2.1 dX6_rest_244 rfl (lv_at hl 0 rfl) ?_
    refine fg_X6_74 S K h dX6_rest_245 ?_
    refine lv_iload_n S.1 S.2.1 dX6_rest_248 rfl (lv_at hl 3 rfl) ?_
    have k32 := And.left hok
    replace hok := And.right hok
    refine al_M22 S K h k32 dX6_rest_249 ?_
    have k34 := And.left hok
    replace hok := And.right hok
    refine g_calli (ci := 6) (q0 := 0) S wz_cons K h (c_X6_isSize l D cy q _ A _ _ k34) kc_X6_isSize km_X6_130 ki_X6_isSize ks_X6_isSize kn_X6 yd_X6_isSize ⟨⟨Nat.le_of_ble_eq_true rfl, Nat.le_of_ble_eq_true rfl⟩, rfl, rfl, Nat.zero_le _, Nat.zero_le _⟩ rfl rfl rfl hl.1 (Nat.le_of_ble_eq_true rfl) rfl dX6_rest_250 (fun H locs h => ?_)
    refine lv_if_eq (tgt := 445) S.1 S.2.1 dX6_rest_253 (by decide) (fun c => ?_) (fun c => ?_)
    · replace hok := And.left hok c
      replace hR := (if_pos c).symm.trans hR
      subst hR
      exact g_retv S hr hlocks h dX6_rest_445
    · replace hok := And.right hok c
      replace hR := (if_neg c).symm.trans hR
      refine lv_aload_n S.1 S.2.1 dX6_rest_256 rfl (lv_at hl 0 rfl) ?_
      refine fg_X6_61 S K h dX6_rest_257 ?_
      refine lv_iload_n S.1 S.2.1 dX6_rest_260 rfl (lv_at hl 2 rfl) ?_
      refine lv_aload_n S.1 S.2.1 dX6_rest_261 rfl (lv_at hl 0 rfl) ?_
      refine fg_X6_74 S K h dX6_rest_262 ?_
      refine lv_iload_n S.1 S.2.1 dX6_rest_265 rfl (lv_at hl 3 rfl) ?_
      have k36 := And.left hok
      replace hok := And.right hok
      refine al_M22 S K h k36 dX6_rest_266 ?_
      have k37 := And.left hok
      replace hok := And.right hok
      refine as_M18 S K h k37 dX6_rest_267 (fun H locs h => ?_)
      refine lv_aload_n S.1 S.2.1 dX6_rest_268 rfl (lv_at hl 0 rfl) ?_
      refine fg_X6_64 S K h dX6_rest_269 ?_
      refine lv_iload_n S.1 S.2.1 dX6_rest_272 rfl (lv_at hl 2 rfl) ?_
      refine lv_iload S.1 S.2.1 dX6_rest_273 (lv_at hl 4 rfl) ?_
      have k38 := And.left hok
      replace hok := And.right hok
      refine as_M19 S K h k38 dX6_rest_275 (fun H locs h => ?_)
      refine lv_goto (tgt := 445) S.1 S.2.1 dX6_rest_276 (by decide) ?_
      subst hR
      exact g_retv S hr hlocks h dX6_rest_445
  replace hok := And.right hok n16
  replace hR := (if_neg n16).symm.trans hR
  refine g_em 17 (fun c => ?_) (fun n17 => ?_)
  · replace hok := And.left hok c
    replace hR := (if_pos c).symm.trans hR
    refine g_sw (tgt := 279) S.1 S.2.1 dX6_rest_1 c rfl (by decide) (by decide) rfl (by decide) ?_
    refine lv_aload_n S.1 S.2.1 dX6_rest_279 rfl (lv_at hl 0 rfl) ?_
    refine lv_aload_n S.1 S.2.1 dX6_rest_280 rfl (lv_at hl 0 rfl) ?_
    refine fg_X6_61 S K h dX6_rest_281 ?_
    refine lv_iload_n S.1 S.2.1 dX6_rest_284 rfl (lv_at hl 3 rfl) ?_
    have k39 := And.left hok
    replace hok := And.right hok
    refine al_M18 S K h k39 dX6_rest_285 ?_
    refine lv_iconst (v := -1) S.1 S.2.1 dX6_rest_286 (by decide) ?_
    refine lv_icmp_eq (tgt := 294) S.1 S.2.1 dX6_rest_287 (by decide) (fun c => ?_) (fun c => ?_)
    · replace hok := And.left hok c
      replace hR := (if_pos c).symm.trans hR
      refine lv_iconst (v := 0) S.1 S.2.1 dX6_rest_294 (by decide) ?_
      have k41 := And.left hok
      replace hok := And.right hok
      refine g_calli (ci := 6) (q0 := 0) S wz_cons K h (c_X6_isThere l D cy q _ A _ _ k41) kc_X6_isThere km_X6_133 ki_X6_isThere ks_X6_isThere kn_X6 yd_X6_isThere ⟨⟨Nat.le_of_ble_eq_true rfl, Nat.le_of_ble_eq_true rfl⟩, rfl, rfl, Nat.zero_le _, Nat.zero_le _⟩ rfl rfl rfl hl.1 (Nat.le_of_ble_eq_true rfl) rfl dX6_rest_295 (fun H locs h => ?_)
      refine lv_if_eq (tgt := 445) S.1 S.2.1 dX6_rest_298 (by decide) (fun c => ?_) (fun c => ?_)
      · replace hok := And.left hok c
        replace hR := (if_pos c).symm.trans hR
        subst hR
        exact g_retv S hr hlocks h dX6_rest_445
      · replace hok := And.right hok c
        replace hR := (if_neg c).symm.trans hR
        refine lv_aload_n S.1 S.2.1 dX6_rest_301 rfl (lv_at hl 0 rfl) ?_
        refine fg_X6_74 S K h dX6_rest_302 ?_
        refine lv_iload_n S.1 S.2.1 dX6_rest_305 rfl (lv_at hl 2 rfl) ?_
        refine lv_aload_n S.1 S.2.1 dX6_rest_306 rfl (lv_at hl 0 rfl) ?_
        refine fg_X6_61 S K h dX6_rest_307 ?_
        refine lv_iload_n S.1 S.2.1 dX6_rest_310 rfl (lv_at hl 3 rfl) ?_
        have k43 := And.left hok
        replace hok := And.right hok
        refine al_M18 S K h k43 dX6_rest_311 ?_
        refine lv_aload_n S.1 S.2.1 dX6_rest_312 rfl (lv_at hl 0 rfl) ?_
        refine fg_X6_64 S K h dX6_rest_313 ?_
        refine lv_iload_n S.1 S.2.1 dX6_rest_316 rfl (lv_at hl 3 rfl) ?_
        have k44 := And.left hok
        replace hok := And.right hok
        refine al_M19 S K h k44 dX6_rest_317 ?_
        refine lv_imul S.1 S.2.1 dX6_rest_318 ?_
        have k45 := And.left hok
        replace hok := And.right hok
        refine as_M22 S K h k45 dX6_rest_319 (fun H locs h => ?_)
        refine lv_goto (tgt := 445) S.1 S.2.1 dX6_rest_320 (by decide) ?_
        subst hR
        exact g_retv S hr hlocks h dX6_rest_445
    · replace hok := And.right hok c
      replace hR := (if_neg c).symm.trans hR
      refine lv_iconst (v := 1) S.1 S.2.1 dX6_rest_290 (by decide) ?_
      refine lv_goto (tgt := 295) S.1 S.2.1 dX6_rest_291 (by decide) ?_
      have k47 := And.left hok
      replace hok := And.right hok
      refine g_calli (ci := 6) (q0 := 0) S wz_cons K h (c_X6_isThere l D cy q _ A _ _ k47) kc_X6_isThere km_X6_133 ki_X6_isThere ks_X6_isThere kn_X6 yd_X6_isThere ⟨⟨Nat.le_of_ble_eq_true rfl, Nat.le_of_ble_eq_true rfl⟩, rfl, rfl, Nat.zero_le _, Nat.zero_le _⟩ rfl rfl rfl hl.1 (Nat.le_of_ble_eq_true rfl) rfl dX6_rest_295 (fun H locs h => ?_)
      refine lv_if_eq (tgt := 445) S.1 S.2.1 dX6_rest_298 (by decide) (fun c => ?_) (fun c => ?_)
      · replace hok := And.left hok c
        replace hR := (if_pos c).symm.trans hR
        subst hR
        exact g_retv S hr hlocks h dX6_rest_445
      · replace hok := And.right hok c
        replace hR := (if_neg c).symm.trans hR
        refine lv_aload_n S.1 S.2.1 dX6_rest_301 rfl (lv_at hl 0 rfl) ?_
        refine fg_X6_74 S K h dX6_rest_302 ?_
        refine lv_iload_n S.1 S.2.1 dX6_rest_305 rfl (lv_at hl 2 rfl) ?_
        refine lv_aload_n S.1 S.2.1 dX6_rest_306 rfl (lv_at hl 0 rfl) ?_
        refine fg_X6_61 S K h dX6_rest_307 ?_
        refine lv_iload_n S.1 S.2.1 dX6_rest_310 rfl (lv_at hl 3 rfl) ?_
        have k49 := And.left hok
        replace hok := And.right hok
        refine al_M18 S K h k49 dX6_rest_311 ?_
        refine lv_aload_n S.1 S.2.1 dX6_rest_312 rfl (lv_at hl 0 rfl) ?_
        refine fg_X6_64 S K h dX6_rest_313 ?_
        refine lv_iload_n S.1 S.2.1 dX6_rest_316 rfl (lv_at hl 3 rfl) ?_
        have k50 := And.left hok
        replace hok := And.right hok
        refine al_M19 S K h k50 dX6_rest_317 ?_
        refine lv_imul S.1 S.2.1 dX6_rest_318 ?_
        have k51 := And.left hok
        replace hok := And.right hok
        refine as_M22 S K h k51 dX6_rest_319 (fun H locs h => ?_)
        refine lv_goto (tgt := 445) S.1 S.2.1 dX6_rest_320 (by decide) ?_
        subst hR
        exact g_retv S hr hlocks h dX6_rest_445
  replace hok := And.right hok n17
  replace hR := (if_neg n17).symm.trans hR
  refine g_em 18 (fun c => ?_) (fun n18 => ?_)
  · replace hok := And.left hok c
    replace hR := (if_pos c).symm.trans hR
    refine g_sw (tgt := 323) S.1 S.2.1 dX6_rest_1 c rfl (by decide) (by decide) rfl (by decide) ?_
    refine lv_aload_n S.1 S.2.1 dX6_rest_323 rfl (lv_at hl 0 rfl) ?_
    refine fg_X6_67 S K h dX6_rest_324 ?_
    refine lv_iload_n S.1 S.2.1 dX6_rest_327 rfl (lv_at hl 2 rfl) ?_
    refine lv_iconst (v := 1) S.1 S.2.1 dX6_rest_328 (by decide) ?_
    have k52 := And.left hok
    replace hok := And.right hok
    refine as_M20 S K h k52 dX6_rest_329 (fun H locs h => ?_)
    refine lv_aload_n S.1 S.2.1 dX6_rest_330 rfl (lv_at hl 0 rfl) ?_
    refine fg_X6_71 S K h dX6_rest_331 ?_
    refine lv_iload_n S.1 S.2.1 dX6_rest_334 rfl (lv_at hl 2 rfl) ?_
    refine lv_aload_n S.1 S.2.1 dX6_rest_335 rfl (lv_at hl 0 rfl) ?_
    refine fg_X6_74 S K h dX6_rest_336 ?_
    refine lv_iload_n S.1 S.2.1 dX6_rest_339 rfl (lv_at hl 3 rfl) ?_
    have k53 := And.left hok
    replace hok := And.right hok
    refine al_M22 S K h k53 dX6_rest_340 ?_
    have k54 := And.left hok
    replace hok := And.right hok
    refine as_M21 S K h k54 dX6_rest_341 (fun H locs h => ?_)
    refine lv_goto (tgt := 445) S.1 S.2.1 dX6_rest_342 (by decide) ?_
    subst hR
    exact g_retv S hr hlocks h dX6_rest_445
  replace hok := And.right hok n18
  replace hR := (if_neg n18).symm.trans hR
  refine g_em 19 (fun c => ?_) (fun n19 => ?_)
  · replace hok := And.left hok c
    replace hR := (if_pos c).symm.trans hR
    refine g_sw (tgt := 345) S.1 S.2.1 dX6_rest_1 c rfl (by decide) (by decide) rfl (by decide) ?_
    refine lv_aload_n S.1 S.2.1 dX6_rest_345 rfl (lv_at hl 0 rfl) ?_
    refine fg_X6_67 S K h dX6_rest_346 ?_
    refine lv_iload_n S.1 S.2.1 dX6_rest_349 rfl (lv_at hl 2 rfl) ?_
    refine lv_iconst (v := 0) S.1 S.2.1 dX6_rest_350 (by decide) ?_
    have k55 := And.left hok
    replace hok := And.right hok
    refine as_M20 S K h k55 dX6_rest_351 (fun H locs h => ?_)
    refine lv_goto (tgt := 445) S.1 S.2.1 dX6_rest_352 (by decide) ?_
    subst hR
    exact g_retv S hr hlocks h dX6_rest_445
  replace hok := And.right hok n19
  replace hR := (if_neg n19).symm.trans hR
  refine g_em 20 (fun c => ?_) (fun n20 => ?_)
  · replace hok := And.left hok c
    replace hR := (if_pos c).symm.trans hR
    refine g_sw (tgt := 355) S.1 S.2.1 dX6_rest_1 c rfl (by decide) (by decide) rfl (by decide) ?_
    refine lv_aload_n S.1 S.2.1 dX6_rest_355 rfl (lv_at hl 0 rfl) ?_
    refine lv_aload_n S.1 S.2.1 dX6_rest_356 rfl (lv_at hl 0 rfl) ?_
    refine fg_X6_67 S K h dX6_rest_357 ?_
    refine lv_iload_n S.1 S.2.1 dX6_rest_360 rfl (lv_at hl 2 rfl) ?_
    have k56 := And.left hok
    replace hok := And.right hok
    refine al_M20 S K h k56 dX6_rest_361 ?_
    have k58 := And.left hok
    replace hok := And.right hok
    refine g_calli (ci := 6) (q0 := 0) S wz_cons K h (c_X6_isThere l D cy q _ A _ _ k58) kc_X6_isThere km_X6_133 ki_X6_isThere ks_X6_isThere kn_X6 yd_X6_isThere ⟨⟨Nat.le_of_ble_eq_true rfl, Nat.le_of_ble_eq_true rfl⟩, rfl, rfl, Nat.zero_le _, Nat.zero_le _⟩ rfl rfl rfl hl.1 (Nat.le_of_ble_eq_true rfl) rfl dX6_rest_362 (fun H locs h => ?_)
    refine lv_if_eq (tgt := 445) S.1 S.2.1 dX6_rest_365 (by decide) (fun c => ?_) (fun c => ?_)
    · replace hok := And.left hok c
      replace hR := (if_pos c).symm.trans hR
      subst hR
      exact g_retv S hr hlocks h dX6_rest_445
    · replace hok := And.right hok c
      replace hR := (if_neg c).symm.trans hR
      refine lv_aload_n S.1 S.2.1 dX6_rest_368 rfl (lv_at hl 0 rfl) ?_
      refine lv_bipush (v := 7) S.1 S.2.1 dX6_rest_369 (by decide) ?_
      refine fp_X6_127 S K h dX6_rest_371 (fun H locs h => ?_)
      refine lv_aload_n S.1 S.2.1 dX6_rest_374 rfl (lv_at hl 0 rfl) ?_
      refine lv_aload_n S.1 S.2.1 dX6_rest_375 rfl (lv_at hl 0 rfl) ?_
      refine fg_X6_71 S K h dX6_rest_376 ?_
      refine lv_iload_n S.1 S.2.1 dX6_rest_379 rfl (lv_at hl 2 rfl) ?_
      have k60 := And.left hok
      replace hok := And.right hok
      refine al_M21 S K h k60 dX6_rest_380 ?_
      refine fp_X6_100 S K h dX6_rest_381 (fun H locs h => ?_)
      refine lv_goto (tgt := 445) S.1 S.2.1 dX6_rest_384 (by decide) ?_
      subst hR
      exact g_retv S hr hlocks h dX6_rest_445
  replace hok := And.right hok n20
  replace hR := (if_neg n20).symm.trans hR
  refine g_em 21 (fun c => ?_) (fun n21 => ?_)
  · replace hok := And.left hok c
    replace hR := (if_pos c).symm.trans hR
    refine g_sw (tgt := 387) S.1 S.2.1 dX6_rest_1 c rfl (by decide) (by decide) rfl (by decide) ?_
    refine lv_aload_n S.1 S.2.1 dX6_rest_387 rfl (lv_at hl 0 rfl) ?_
    refine fg_X6_74 S K h dX6_rest_388 ?_
    refine lv_iload_n S.1 S.2.1 dX6_rest_391 rfl (lv_at hl 2 rfl) ?_
    refine lv_iload_n S.1 S.2.1 dX6_rest_392 rfl (lv_at hl 3 rfl) ?_
    have k61 := And.left hok
    replace hok := And.right hok
    refine as_M22 S K h k61 dX6_rest_393 (fun H locs h => ?_)
    refine lv_goto (tgt := 445) S.1 S.2.1 dX6_rest_394 (by decide) ?_
    subst hR
    exact g_retv S hr hlocks h dX6_rest_445
  replace hok := And.right hok n21
  replace hR := (if_neg n21).symm.trans hR
  refine g_em 22 (fun c => ?_) (fun n22 => ?_)
  · replace hok := And.left hok c
    replace hR := (if_pos c).symm.trans hR
    refine g_sw (tgt := 397) S.1 S.2.1 dX6_rest_1 c rfl (by decide) (by decide) rfl (by decide) ?_
    refine lv_aload_n S.1 S.2.1 dX6_rest_397 rfl (lv_at hl 0 rfl) ?_
    refine fg_X6_74 S K h dX6_rest_398 ?_
    refine lv_iload_n S.1 S.2.1 dX6_rest_401 rfl (lv_at hl 2 rfl) ?_
    refine lv_dup2_11 S.1 S.2.1 dX6_rest_402 rfl rfl ?_
    have k62 := And.left hok
    replace hok := And.right hok
    refine al_M22 S K h k62 dX6_rest_403 ?_
    refine lv_aload_n S.1 S.2.1 dX6_rest_404 rfl (lv_at hl 0 rfl) ?_
    refine fg_X6_74 S K h dX6_rest_405 ?_
    refine lv_iload_n S.1 S.2.1 dX6_rest_408 rfl (lv_at hl 3 rfl) ?_
    have k63 := And.left hok
    replace hok := And.right hok
    refine al_M22 S K h k63 dX6_rest_409 ?_
    refine lv_iadd S.1 S.2.1 dX6_rest_410 ?_
    have k64 := And.left hok
    replace hok := And.right hok
    refine as_M22 S K h k64 dX6_rest_411 (fun H locs h => ?_)
    refine lv_goto (tgt := 445) S.1 S.2.1 dX6_rest_412 (by decide) ?_
    subst hR
    exact g_retv S hr hlocks h dX6_rest_445
  replace hok := And.right hok n22
  replace hR := (if_neg n22).symm.trans hR
  refine g_em 23 (fun c => ?_) (fun n23 => ?_)
  · replace hok := And.left hok c
    replace hR := (if_pos c).symm.trans hR
    refine g_sw (tgt := 415) S.1 S.2.1 dX6_rest_1 c rfl (by decide) (by decide) rfl (by decide) ?_
    refine lv_aload_n S.1 S.2.1 dX6_rest_415 rfl (lv_at hl 0 rfl) ?_
    refine lv_iload_n S.1 S.2.1 dX6_rest_416 rfl (lv_at hl 2 rfl) ?_
    refine fp_X6_88 S K h dX6_rest_417 (fun H locs h => ?_)
    refine lv_goto (tgt := 445) S.1 S.2.1 dX6_rest_420 (by decide) ?_
    subst hR
    exact g_retv S hr hlocks h dX6_rest_445
  replace hok := And.right hok n23
  replace hR := (if_neg n23).symm.trans hR
  have m0 := lv_neT (a := 0) n0 rfl
  have m1 := lv_neT (a := 1) n1 rfl
  have m2 := lv_neT (a := 2) n2 rfl
  have m3 := lv_neT (a := 3) n3 rfl
  have m4 := lv_neT (a := 4) n4 rfl
  have m5 := lv_neT (a := 5) n5 rfl
  have m6 := lv_neT (a := 6) n6 rfl
  have m7 := lv_neT (a := 7) n7 rfl
  have m8 := lv_neT (a := 8) n8 rfl
  have m9 := lv_neT (a := 9) n9 rfl
  have m10 := lv_neT (a := 10) n10 rfl
  have m11 := lv_neT (a := 11) n11 rfl
  have m12 := lv_neT (a := 12) n12 rfl
  have m13 := lv_neT (a := 13) n13 rfl
  have m14 := lv_neT (a := 14) n14 rfl
  have m15 := lv_neT (a := 15) n15 rfl
  have m16 := lv_neT (a := 16) n16 rfl
  have m17 := lv_neT (a := 17) n17 rfl
  have m18 := lv_neT (a := 18) n18 rfl
  have m19 := lv_neT (a := 19) n19 rfl
  have m20 := lv_neT (a := 20) n20 rfl
  have m21 := lv_neT (a := 21) n21 rfl
  have m22 := lv_neT (a := 22) n22 rfl
  have m23 := lv_neT (a := 23) n23 rfl
  refine lv_tableOut (tgt := 423) S.1 S.2.1 dX6_rest_1 (by omega) (by decide) ?_
  refine lv_aload_n S.1 S.2.1 dX6_rest_423 rfl (lv_at hl 0 rfl) ?_
  refine lv_aload_n S.1 S.2.1 dX6_rest_424 rfl (lv_at hl 0 rfl) ?_
  refine fg_X6_74 S K h dX6_rest_425 ?_
  refine lv_iload_n S.1 S.2.1 dX6_rest_428 rfl (lv_at hl 2 rfl) ?_
  have k65 := And.left hok
  replace hok := And.right hok
  refine al_M22 S K h k65 dX6_rest_429 ?_
  refine lv_iconst (v := 1) S.1 S.2.1 dX6_rest_430 (by decide) ?_
  refine lv_icmp_ge (tgt := 438) S.1 S.2.1 dX6_rest_431 (by decide) (fun c => ?_) (fun c => ?_)
  · replace hok := And.left hok c
    replace hR := (if_pos c).symm.trans hR
    refine lv_aload_n S.1 S.2.1 dX6_rest_438 rfl (lv_at hl 0 rfl) ?_
    refine fg_X6_88 S K h dX6_rest_439 ?_
    refine fp_X6_88 S K h dX6_rest_442 (fun H locs h => ?_)
    subst hR
    exact g_retv S hr hlocks h dX6_rest_445
  · replace hok := And.right hok c
    replace hR := (if_neg c).symm.trans hR
    refine lv_iload_n S.1 S.2.1 dX6_rest_434 rfl (lv_at hl 3 rfl) ?_
    refine lv_goto (tgt := 442) S.1 S.2.1 dX6_rest_435 (by decide) ?_
    refine fp_X6_88 S K h dX6_rest_442 (fun H locs h => ?_)
    subst hR
    exact g_retv S hr hlocks h dX6_rest_445
def xr_X6_goOn (σ : GS) : Int32 × GS := if (xr_X6_in (σ 1 (σ 0 25).toNatClampNeg) 3 5) = 0 then if (xr_X6_in (σ 1 (σ 0 25).toNatClampNeg) 8 12) = 0 then if (xr_X6_in (σ 1 (σ 0 25).toNatClampNeg) 13 15) = 0 then bd (xr_X6_rest (st (st (st σ 0 25 ((σ 0 25) + 1)) 0 26 (((st σ 0 25 ((σ 0 25) + 1)) 0 26) + 1)) 0 27 0) (σ 1 (σ 0 25).toNatClampNeg) (σ 2 (σ 0 25).toNatClampNeg) (σ 3 (σ 0 25).toNatClampNeg) (σ 4 (σ 0 25).toNatClampNeg)) (fun v14 σ16 => if (σ16 0 27) = 0 then (0, σ16) else bd (xr_X6_fails σ16 (σ 0 25)) (fun v17 σ19 => (0, σ19))) else bd (xr_X6_counts (st (st (st σ 0 25 ((σ 0 25) + 1)) 0 26 (((st σ 0 25 ((σ 0 25) + 1)) 0 26) + 1)) 0 27 0) (σ 1 (σ 0 25).toNatClampNeg) (σ 2 (σ 0 25).toNatClampNeg) (σ 3 (σ 0 25).toNatClampNeg) (σ 4 (σ 0 25).toNatClampNeg)) (fun v20 σ22 => if (σ22 0 27) = 0 then (0, σ22) else bd (xr_X6_fails σ22 (σ 0 25)) (fun v23 σ25 => (0, σ25))) else bd (xr_X6_one (st (st (st σ 0 25 ((σ 0 25) + 1)) 0 26 (((st σ 0 25 ((σ 0 25) + 1)) 0 26) + 1)) 0 27 0) (σ 1 (σ 0 25).toNatClampNeg) (σ 2 (σ 0 25).toNatClampNeg) (σ 3 (σ 0 25).toNatClampNeg)) (fun v26 σ28 => if (σ28 0 27) = 0 then (0, σ28) else bd (xr_X6_fails σ28 (σ 0 25)) (fun v29 σ31 => (0, σ31))) else bd (xr_X6_belts (st (st (st σ 0 25 ((σ 0 25) + 1)) 0 26 (((st σ 0 25 ((σ 0 25) + 1)) 0 26) + 1)) 0 27 0) (σ 1 (σ 0 25).toNatClampNeg) (σ 2 (σ 0 25).toNatClampNeg) (σ 3 (σ 0 25).toNatClampNeg) (σ 4 (σ 0 25).toNatClampNeg)) (fun v32 σ34 => if (σ34 0 27) = 0 then (0, σ34) else bd (xr_X6_fails σ34 (σ 0 25)) (fun v35 σ37 => (0, σ37)))
def xo_X6_goOn (σ : GS) : Prop := vp_in (σ 0 25) 40 ∧ (vp_in (σ 0 25) 40 ∧ (vp_in (σ 0 25) 40 ∧ (vp_in (σ 0 25) 40 ∧ ((xo_X6_in (σ 1 (σ 0 25).toNatClampNeg) 3 5) ∧ (((xr_X6_in (σ 1 (σ 0 25).toNatClampNeg) 3 5) = 0 → (xo_X6_in (σ 1 (σ 0 25).toNatClampNeg) 8 12) ∧ (((xr_X6_in (σ 1 (σ 0 25).toNatClampNeg) 8 12) = 0 → (xo_X6_in (σ 1 (σ 0 25).toNatClampNeg) 13 15) ∧ (((xr_X6_in (σ 1 (σ 0 25).toNatClampNeg) 13 15) = 0 → (xo_X6_rest (st (st (st σ 0 25 ((σ 0 25) + 1)) 0 26 (((st σ 0 25 ((σ 0 25) + 1)) 0 26) + 1)) 0 27 0) (σ 1 (σ 0 25).toNatClampNeg) (σ 2 (σ 0 25).toNatClampNeg) (σ 3 (σ 0 25).toNatClampNeg) (σ 4 (σ 0 25).toNatClampNeg)) ∧ bd (xr_X6_rest (st (st (st σ 0 25 ((σ 0 25) + 1)) 0 26 (((st σ 0 25 ((σ 0 25) + 1)) 0 26) + 1)) 0 27 0) (σ 1 (σ 0 25).toNatClampNeg) (σ 2 (σ 0 25).toNatClampNeg) (σ 3 (σ 0 25).toNatClampNeg) (σ 4 (σ 0 25).toNatClampNeg)) (fun v14 σ16 => ((σ16 0 27) = 0 → True) ∧ (¬ ((σ16 0 27) = 0) → (xo_X6_fails σ16 (σ 0 25)) ∧ bd (xr_X6_fails σ16 (σ 0 25)) (fun v17 σ19 => True)))) ∧ (¬ ((xr_X6_in (σ 1 (σ 0 25).toNatClampNeg) 13 15) = 0) → (xo_X6_counts (st (st (st σ 0 25 ((σ 0 25) + 1)) 0 26 (((st σ 0 25 ((σ 0 25) + 1)) 0 26) + 1)) 0 27 0) (σ 1 (σ 0 25).toNatClampNeg) (σ 2 (σ 0 25).toNatClampNeg) (σ 3 (σ 0 25).toNatClampNeg) (σ 4 (σ 0 25).toNatClampNeg)) ∧ bd (xr_X6_counts (st (st (st σ 0 25 ((σ 0 25) + 1)) 0 26 (((st σ 0 25 ((σ 0 25) + 1)) 0 26) + 1)) 0 27 0) (σ 1 (σ 0 25).toNatClampNeg) (σ 2 (σ 0 25).toNatClampNeg) (σ 3 (σ 0 25).toNatClampNeg) (σ 4 (σ 0 25).toNatClampNeg)) (fun v20 σ22 => ((σ22 0 27) = 0 → True) ∧ (¬ ((σ22 0 27) = 0) → (xo_X6_fails σ22 (σ 0 25)) ∧ bd (xr_X6_fails σ22 (σ 0 25)) (fun v23 σ25 => True)))))) ∧ (¬ ((xr_X6_in (σ 1 (σ 0 25).toNatClampNeg) 8 12) = 0) → (xo_X6_one (st (st (st σ 0 25 ((σ 0 25) + 1)) 0 26 (((st σ 0 25 ((σ 0 25) + 1)) 0 26) + 1)) 0 27 0) (σ 1 (σ 0 25).toNatClampNeg) (σ 2 (σ 0 25).toNatClampNeg) (σ 3 (σ 0 25).toNatClampNeg)) ∧ bd (xr_X6_one (st (st (st σ 0 25 ((σ 0 25) + 1)) 0 26 (((st σ 0 25 ((σ 0 25) + 1)) 0 26) + 1)) 0 27 0) (σ 1 (σ 0 25).toNatClampNeg) (σ 2 (σ 0 25).toNatClampNeg) (σ 3 (σ 0 25).toNatClampNeg)) (fun v26 σ28 => ((σ28 0 27) = 0 → True) ∧ (¬ ((σ28 0 27) = 0) → (xo_X6_fails σ28 (σ 0 25)) ∧ bd (xr_X6_fails σ28 (σ 0 25)) (fun v29 σ31 => True)))))) ∧ (¬ ((xr_X6_in (σ 1 (σ 0 25).toNatClampNeg) 3 5) = 0) → (xo_X6_belts (st (st (st σ 0 25 ((σ 0 25) + 1)) 0 26 (((st σ 0 25 ((σ 0 25) + 1)) 0 26) + 1)) 0 27 0) (σ 1 (σ 0 25).toNatClampNeg) (σ 2 (σ 0 25).toNatClampNeg) (σ 3 (σ 0 25).toNatClampNeg) (σ 4 (σ 0 25).toNatClampNeg)) ∧ bd (xr_X6_belts (st (st (st σ 0 25 ((σ 0 25) + 1)) 0 26 (((st σ 0 25 ((σ 0 25) + 1)) 0 26) + 1)) 0 27 0) (σ 1 (σ 0 25).toNatClampNeg) (σ 2 (σ 0 25).toNatClampNeg) (σ 3 (σ 0 25).toNatClampNeg) (σ 4 (σ 0 25).toNatClampNeg)) (fun v32 σ34 => ((σ34 0 27) = 0 → True) ∧ (¬ ((σ34 0 27) = 0) → (xo_X6_fails σ34 (σ 0 25)) ∧ bd (xr_X6_fails σ34 (σ 0 25)) (fun v35 σ37 => True)))))))))
set_option maxRecDepth 100000 in
set_option maxHeartbeats 4000000 in
theorem c_X6_goOn (l : Launch) (D : va_G) (cy : CY) (q : Nat → Nat) (ex : va_W) (A : Nat → Prop) (σ : GS) (hok : xo_X6_goOn σ) : Met l yX6_goOn (wm yX6_goOn cX6_goOn 6 none) ({ frames := 3, cells := 0, slots := 0, locals := 71 } : Room) (PC D cy (wM cy q σ ++ ex) A [.ref (q 0)]) (QV D (wM cy q (xr_X6_goOn σ).2 ++ ex) A) 0 0 A := by
  generalize hR : xr_X6_goOn σ = R
  refine g_met (lv := [(0, .ref (q 0))]) (by decide) rfl (Nat.le_of_ble_eq_true rfl) rfl ?_
  intro p e s m below meth c ls S K h hr hlocks hl
  refine lv_aload_n S.1 S.2.1 dX6_goOn_0 rfl (lv_at hl 0 rfl) ?_
  refine fg_X6_88 S K h dX6_goOn_1 ?_
  refine lv_istore_n (lv' := [(1, .int _), (0, .ref _)]) S.1 S.2.1 dX6_goOn_4 rfl hl (by decide) rfl (fun ls hl => ?_)
  refine lv_aload_n S.1 S.2.1 dX6_goOn_5 rfl (lv_at hl 1 rfl) ?_
  refine fg_X6_7 S K h dX6_goOn_6 ?_
  refine lv_iload_n S.1 S.2.1 dX6_goOn_9 rfl (lv_at hl 0 rfl) ?_
  have k1 := And.left hok
  replace hok := And.right hok
  refine al_M1 S K h k1 dX6_goOn_10 ?_
  refine lv_istore_n (lv' := [(2, .int _), (1, .int _), (0, .ref _)]) S.1 S.2.1 dX6_goOn_11 rfl hl (by decide) rfl (fun ls hl => ?_)
  refine lv_aload_n S.1 S.2.1 dX6_goOn_12 rfl (lv_at hl 2 rfl) ?_
  refine fg_X6_13 S K h dX6_goOn_13 ?_
  refine lv_iload_n S.1 S.2.1 dX6_goOn_16 rfl (lv_at hl 1 rfl) ?_
  have k2 := And.left hok
  replace hok := And.right hok
  refine al_M2 S K h k2 dX6_goOn_17 ?_
  refine lv_istore_n (lv' := [(3, .int _), (2, .int _), (1, .int _), (0, .ref _)]) S.1 S.2.1 dX6_goOn_18 rfl hl (by decide) rfl (fun ls hl => ?_)
  refine lv_aload_n S.1 S.2.1 dX6_goOn_19 rfl (lv_at hl 3 rfl) ?_
  refine fg_X6_16 S K h dX6_goOn_20 ?_
  refine lv_iload_n S.1 S.2.1 dX6_goOn_23 rfl (lv_at hl 2 rfl) ?_
  have k3 := And.left hok
  replace hok := And.right hok
  refine al_M3 S K h k3 dX6_goOn_24 ?_
  refine lv_istore (lv' := [(4, .int _), (3, .int _), (2, .int _), (1, .int _), (0, .ref _)]) S.1 S.2.1 dX6_goOn_25 hl (by decide) rfl (fun ls hl => ?_)
  refine lv_aload_n S.1 S.2.1 dX6_goOn_27 rfl (lv_at hl 4 rfl) ?_
  refine fg_X6_19 S K h dX6_goOn_28 ?_
  refine lv_iload_n S.1 S.2.1 dX6_goOn_31 rfl (lv_at hl 3 rfl) ?_
  have k4 := And.left hok
  replace hok := And.right hok
  refine al_M4 S K h k4 dX6_goOn_32 ?_
  refine lv_istore (lv' := [(5, .int _), (4, .int _), (3, .int _), (2, .int _), (1, .int _), (0, .ref _)]) S.1 S.2.1 dX6_goOn_33 hl (by decide) rfl (fun ls hl => ?_)
  refine lv_aload_n S.1 S.2.1 dX6_goOn_35 rfl (lv_at hl 5 rfl) ?_
  refine lv_iload_n S.1 S.2.1 dX6_goOn_36 rfl (lv_at hl 4 rfl) ?_
  refine lv_iconst (v := 1) S.1 S.2.1 dX6_goOn_37 (by decide) ?_
  refine lv_iadd S.1 S.2.1 dX6_goOn_38 ?_
  refine fp_X6_88 S K h dX6_goOn_39 (fun H locs h => ?_)
  refine lv_aload_n S.1 S.2.1 dX6_goOn_42 rfl (lv_at hl 5 rfl) ?_
  refine lv_dup S.1 S.2.1 dX6_goOn_43 rfl ?_
  refine fg_X6_91 S K h dX6_goOn_44 ?_
  refine lv_iconst (v := 1) S.1 S.2.1 dX6_goOn_47 (by decide) ?_
  refine lv_iadd S.1 S.2.1 dX6_goOn_48 ?_
  refine fp_X6_91 S K h dX6_goOn_49 (fun H locs h => ?_)
  refine lv_aload_n S.1 S.2.1 dX6_goOn_52 rfl (lv_at hl 5 rfl) ?_
  refine lv_iconst (v := 0) S.1 S.2.1 dX6_goOn_53 (by decide) ?_
  refine fp_X6_127 S K h dX6_goOn_54 (fun H locs h => ?_)
  refine lv_iload_n S.1 S.2.1 dX6_goOn_57 rfl (lv_at hl 3 rfl) ?_
  refine lv_iconst (v := 3) S.1 S.2.1 dX6_goOn_58 (by decide) ?_
  refine lv_iconst (v := 5) S.1 S.2.1 dX6_goOn_59 (by decide) ?_
  have k6 := And.left hok
  replace hok := And.right hok
  refine g_calls S wz_cons K.2 (c_X6_in l _ _ _ k6) kc_X6_in km_X6_106 kt_X6_in kn_X6 yd_X6_in.2 ⟨⟨Nat.le_of_ble_eq_true rfl, Nat.le_of_ble_eq_true rfl⟩, rfl, rfl, Nat.zero_le _, Nat.zero_le _⟩ rfl hl.1 (Nat.le_of_ble_eq_true rfl) rfl dX6_goOn_60 ?_
  refine lv_if_eq (tgt := 79) S.1 S.2.1 dX6_goOn_63 (by decide) (fun c => ?_) (fun c => ?_)
  · replace hok := And.left hok c
    replace hR := (if_pos c).symm.trans hR
    refine lv_iload_n S.1 S.2.1 dX6_goOn_79 rfl (lv_at hl 3 rfl) ?_
    refine lv_bipush (v := 8) S.1 S.2.1 dX6_goOn_80 (by decide) ?_
    refine lv_bipush (v := 12) S.1 S.2.1 dX6_goOn_82 (by decide) ?_
    have k9 := And.left hok
    replace hok := And.right hok
    refine g_calls S wz_cons K.2 (c_X6_in l _ _ _ k9) kc_X6_in km_X6_106 kt_X6_in kn_X6 yd_X6_in.2 ⟨⟨Nat.le_of_ble_eq_true rfl, Nat.le_of_ble_eq_true rfl⟩, rfl, rfl, Nat.zero_le _, Nat.zero_le _⟩ rfl hl.1 (Nat.le_of_ble_eq_true rfl) rfl dX6_goOn_84 ?_
    refine lv_if_eq (tgt := 101) S.1 S.2.1 dX6_goOn_87 (by decide) (fun c => ?_) (fun c => ?_)
    · replace hok := And.left hok c
      replace hR := (if_pos c).symm.trans hR
      refine lv_iload_n S.1 S.2.1 dX6_goOn_101 rfl (lv_at hl 3 rfl) ?_
      refine lv_bipush (v := 13) S.1 S.2.1 dX6_goOn_102 (by decide) ?_
      refine lv_bipush (v := 15) S.1 S.2.1 dX6_goOn_104 (by decide) ?_
      have k12 := And.left hok
      replace hok := And.right hok
      refine g_calls S wz_cons K.2 (c_X6_in l _ _ _ k12) kc_X6_in km_X6_106 kt_X6_in kn_X6 yd_X6_in.2 ⟨⟨Nat.le_of_ble_eq_true rfl, Nat.le_of_ble_eq_true rfl⟩, rfl, rfl, Nat.zero_le _, Nat.zero_le _⟩ rfl hl.1 (Nat.le_of_ble_eq_true rfl) rfl dX6_goOn_106 ?_
      refine lv_if_eq (tgt := 125) S.1 S.2.1 dX6_goOn_109 (by decide) (fun c => ?_) (fun c => ?_)
      · replace hok := And.left hok c
        replace hR := (if_pos c).symm.trans hR
        refine lv_aload_n S.1 S.2.1 dX6_goOn_125 rfl (lv_at hl 5 rfl) ?_
        refine lv_iload_n S.1 S.2.1 dX6_goOn_126 rfl (lv_at hl 3 rfl) ?_
        refine lv_iload_n S.1 S.2.1 dX6_goOn_127 rfl (lv_at hl 2 rfl) ?_
        refine lv_iload S.1 S.2.1 dX6_goOn_128 (lv_at hl 1 rfl) ?_
        refine lv_iload S.1 S.2.1 dX6_goOn_130 (lv_at hl 0 rfl) ?_
        have k15 := And.left hok
        replace hok := And.right hok
        refine g_callv (ci := 6) (q0 := 0) S wz_cons K h (c_X6_rest l D cy q _ A _ _ _ _ _ k15) kc_X6_rest km_X6_163 ki_X6_rest ks_X6_rest kn_X6 yd_X6_rest ⟨⟨Nat.le_of_ble_eq_true rfl, Nat.le_of_ble_eq_true rfl⟩, rfl, rfl, Nat.zero_le _, Nat.zero_le _⟩ rfl rfl rfl hl.1 (Nat.le_of_ble_eq_true rfl) rfl dX6_goOn_132 (fun H locs h => ?_)
        refine lv_aload_n S.1 S.2.1 dX6_goOn_135 rfl (lv_at hl 5 rfl) ?_
        refine fg_X6_127 S K h dX6_goOn_136 ?_
        refine lv_if_eq (tgt := 147) S.1 S.2.1 dX6_goOn_139 (by decide) (fun c => ?_) (fun c => ?_)
        · replace hok := And.left hok c
          replace hR := (if_pos c).symm.trans hR
          subst hR
          exact g_retv S hr hlocks h dX6_goOn_147
        · replace hok := And.right hok c
          replace hR := (if_neg c).symm.trans hR
          refine lv_aload_n S.1 S.2.1 dX6_goOn_142 rfl (lv_at hl 5 rfl) ?_
          refine lv_iload_n S.1 S.2.1 dX6_goOn_143 rfl (lv_at hl 4 rfl) ?_
          have k18 := And.left hok
          replace hok := And.right hok
          refine g_callv (ci := 6) (q0 := 0) S wz_cons K h (c_X6_fails l D cy q _ A _ _ k18) kc_X6_fails km_X6_166 ki_X6_fails ks_X6_fails kn_X6 yd_X6_fails ⟨⟨Nat.le_of_ble_eq_true rfl, Nat.le_of_ble_eq_true rfl⟩, rfl, rfl, Nat.zero_le _, Nat.zero_le _⟩ rfl rfl rfl hl.1 (Nat.le_of_ble_eq_true rfl) rfl dX6_goOn_144 (fun H locs h => ?_)
          subst hR
          exact g_retv S hr hlocks h dX6_goOn_147
      · replace hok := And.right hok c
        replace hR := (if_neg c).symm.trans hR
        refine lv_aload_n S.1 S.2.1 dX6_goOn_112 rfl (lv_at hl 5 rfl) ?_
        refine lv_iload_n S.1 S.2.1 dX6_goOn_113 rfl (lv_at hl 3 rfl) ?_
        refine lv_iload_n S.1 S.2.1 dX6_goOn_114 rfl (lv_at hl 2 rfl) ?_
        refine lv_iload S.1 S.2.1 dX6_goOn_115 (lv_at hl 1 rfl) ?_
        refine lv_iload S.1 S.2.1 dX6_goOn_117 (lv_at hl 0 rfl) ?_
        have k21 := And.left hok
        replace hok := And.right hok
        refine g_callv (ci := 6) (q0 := 0) S wz_cons K h (c_X6_counts l D cy q _ A _ _ _ _ _ k21) kc_X6_counts km_X6_160 ki_X6_counts ks_X6_counts kn_X6 yd_X6_counts ⟨⟨Nat.le_of_ble_eq_true rfl, Nat.le_of_ble_eq_true rfl⟩, rfl, rfl, Nat.zero_le _, Nat.zero_le _⟩ rfl rfl rfl hl.1 (Nat.le_of_ble_eq_true rfl) rfl dX6_goOn_119 (fun H locs h => ?_)
        refine lv_goto (tgt := 135) S.1 S.2.1 dX6_goOn_122 (by decide) ?_
        refine lv_aload_n S.1 S.2.1 dX6_goOn_135 rfl (lv_at hl 5 rfl) ?_
        refine fg_X6_127 S K h dX6_goOn_136 ?_
        refine lv_if_eq (tgt := 147) S.1 S.2.1 dX6_goOn_139 (by decide) (fun c => ?_) (fun c => ?_)
        · replace hok := And.left hok c
          replace hR := (if_pos c).symm.trans hR
          subst hR
          exact g_retv S hr hlocks h dX6_goOn_147
        · replace hok := And.right hok c
          replace hR := (if_neg c).symm.trans hR
          refine lv_aload_n S.1 S.2.1 dX6_goOn_142 rfl (lv_at hl 5 rfl) ?_
          refine lv_iload_n S.1 S.2.1 dX6_goOn_143 rfl (lv_at hl 4 rfl) ?_
          have k24 := And.left hok
          replace hok := And.right hok
          refine g_callv (ci := 6) (q0 := 0) S wz_cons K h (c_X6_fails l D cy q _ A _ _ k24) kc_X6_fails km_X6_166 ki_X6_fails ks_X6_fails kn_X6 yd_X6_fails ⟨⟨Nat.le_of_ble_eq_true rfl, Nat.le_of_ble_eq_true rfl⟩, rfl, rfl, Nat.zero_le _, Nat.zero_le _⟩ rfl rfl rfl hl.1 (Nat.le_of_ble_eq_true rfl) rfl dX6_goOn_144 (fun H locs h => ?_)
          subst hR
          exact g_retv S hr hlocks h dX6_goOn_147
    · replace hok := And.right hok c
      replace hR := (if_neg c).symm.trans hR
      refine lv_aload_n S.1 S.2.1 dX6_goOn_90 rfl (lv_at hl 5 rfl) ?_
      refine lv_iload_n S.1 S.2.1 dX6_goOn_91 rfl (lv_at hl 3 rfl) ?_
      refine lv_iload_n S.1 S.2.1 dX6_goOn_92 rfl (lv_at hl 2 rfl) ?_
      refine lv_iload S.1 S.2.1 dX6_goOn_93 (lv_at hl 1 rfl) ?_
      have k27 := And.left hok
      replace hok := And.right hok
      refine g_callv (ci := 6) (q0 := 0) S wz_cons K h (c_X6_one l D cy q _ A _ _ _ _ k27) kc_X6_one km_X6_156 ki_X6_one ks_X6_one kn_X6 yd_X6_one ⟨⟨Nat.le_of_ble_eq_true rfl, Nat.le_of_ble_eq_true rfl⟩, rfl, rfl, Nat.zero_le _, Nat.zero_le _⟩ rfl rfl rfl hl.1 (Nat.le_of_ble_eq_true rfl) rfl dX6_goOn_95 (fun H locs h => ?_)
      refine lv_goto (tgt := 135) S.1 S.2.1 dX6_goOn_98 (by decide) ?_
      refine lv_aload_n S.1 S.2.1 dX6_goOn_135 rfl (lv_at hl 5 rfl) ?_
      refine fg_X6_127 S K h dX6_goOn_136 ?_
      refine lv_if_eq (tgt := 147) S.1 S.2.1 dX6_goOn_139 (by decide) (fun c => ?_) (fun c => ?_)
      · replace hok := And.left hok c
        replace hR := (if_pos c).symm.trans hR
        subst hR
        exact g_retv S hr hlocks h dX6_goOn_147
      · replace hok := And.right hok c
        replace hR := (if_neg c).symm.trans hR
        refine lv_aload_n S.1 S.2.1 dX6_goOn_142 rfl (lv_at hl 5 rfl) ?_
        refine lv_iload_n S.1 S.2.1 dX6_goOn_143 rfl (lv_at hl 4 rfl) ?_
        have k30 := And.left hok
        replace hok := And.right hok
        refine g_callv (ci := 6) (q0 := 0) S wz_cons K h (c_X6_fails l D cy q _ A _ _ k30) kc_X6_fails km_X6_166 ki_X6_fails ks_X6_fails kn_X6 yd_X6_fails ⟨⟨Nat.le_of_ble_eq_true rfl, Nat.le_of_ble_eq_true rfl⟩, rfl, rfl, Nat.zero_le _, Nat.zero_le _⟩ rfl rfl rfl hl.1 (Nat.le_of_ble_eq_true rfl) rfl dX6_goOn_144 (fun H locs h => ?_)
        subst hR
        exact g_retv S hr hlocks h dX6_goOn_147
  · replace hok := And.right hok c
    replace hR := (if_neg c).symm.trans hR
    refine lv_aload_n S.1 S.2.1 dX6_goOn_66 rfl (lv_at hl 5 rfl) ?_
    refine lv_iload_n S.1 S.2.1 dX6_goOn_67 rfl (lv_at hl 3 rfl) ?_
    refine lv_iload_n S.1 S.2.1 dX6_goOn_68 rfl (lv_at hl 2 rfl) ?_
    refine lv_iload S.1 S.2.1 dX6_goOn_69 (lv_at hl 1 rfl) ?_
    refine lv_iload S.1 S.2.1 dX6_goOn_71 (lv_at hl 0 rfl) ?_
    have k33 := And.left hok
    replace hok := And.right hok
    refine g_callv (ci := 6) (q0 := 0) S wz_cons K h (c_X6_belts l D cy q _ A _ _ _ _ _ k33) kc_X6_belts km_X6_152 ki_X6_belts ks_X6_belts kn_X6 yd_X6_belts ⟨⟨Nat.le_of_ble_eq_true rfl, Nat.le_of_ble_eq_true rfl⟩, rfl, rfl, Nat.zero_le _, Nat.zero_le _⟩ rfl rfl rfl hl.1 (Nat.le_of_ble_eq_true rfl) rfl dX6_goOn_73 (fun H locs h => ?_)
    refine lv_goto (tgt := 135) S.1 S.2.1 dX6_goOn_76 (by decide) ?_
    refine lv_aload_n S.1 S.2.1 dX6_goOn_135 rfl (lv_at hl 5 rfl) ?_
    refine fg_X6_127 S K h dX6_goOn_136 ?_
    refine lv_if_eq (tgt := 147) S.1 S.2.1 dX6_goOn_139 (by decide) (fun c => ?_) (fun c => ?_)
    · replace hok := And.left hok c
      replace hR := (if_pos c).symm.trans hR
      subst hR
      exact g_retv S hr hlocks h dX6_goOn_147
    · replace hok := And.right hok c
      replace hR := (if_neg c).symm.trans hR
      refine lv_aload_n S.1 S.2.1 dX6_goOn_142 rfl (lv_at hl 5 rfl) ?_
      refine lv_iload_n S.1 S.2.1 dX6_goOn_143 rfl (lv_at hl 4 rfl) ?_
      have k36 := And.left hok
      replace hok := And.right hok
      refine g_callv (ci := 6) (q0 := 0) S wz_cons K h (c_X6_fails l D cy q _ A _ _ k36) kc_X6_fails km_X6_166 ki_X6_fails ks_X6_fails kn_X6 yd_X6_fails ⟨⟨Nat.le_of_ble_eq_true rfl, Nat.le_of_ble_eq_true rfl⟩, rfl, rfl, Nat.zero_le _, Nat.zero_le _⟩ rfl rfl rfl hl.1 (Nat.le_of_ble_eq_true rfl) rfl dX6_goOn_144 (fun H locs h => ?_)
      subst hR
      exact g_retv S hr hlocks h dX6_goOn_147
def xl_X6_run_18 : Nat → GS → Int32 → Int32 → Int32 × GS
  | 0, σ, _, _ => (0, σ)
  | n + 1, σ, x1, x2 => if (σ 0 0) ≤ (σ 0 25) then if (σ 0 28) = 0 then if (σ 0 0) ≤ (σ 0 25) then (0, σ) else (2, σ) else (1, σ) else if x2 ≤ (σ 0 26) then if (σ 0 28) = 0 then if (σ 0 0) ≤ (σ 0 25) then (0, σ) else (2, σ) else (1, σ) else if (σ 0 28) = 0 then bd (xr_X6_goOn σ) (fun v7 σ9 => xl_X6_run_18 n σ9 x1 x2) else if (σ 0 28) = 0 then if (σ 0 0) ≤ (σ 0 25) then (0, σ) else (2, σ) else (1, σ)
def xlo_X6_run_18 : Nat → GS → Int32 → Int32 → Prop
  | 0, _, _, _ => False
  | n + 1, σ, x1, x2 => ((σ 0 0) ≤ (σ 0 25) → ((σ 0 28) = 0 → ((σ 0 0) ≤ (σ 0 25) → True) ∧ (¬ ((σ 0 0) ≤ (σ 0 25)) → True)) ∧ (¬ ((σ 0 28) = 0) → True)) ∧ (¬ ((σ 0 0) ≤ (σ 0 25)) → (x2 ≤ (σ 0 26) → ((σ 0 28) = 0 → ((σ 0 0) ≤ (σ 0 25) → True) ∧ (¬ ((σ 0 0) ≤ (σ 0 25)) → True)) ∧ (¬ ((σ 0 28) = 0) → True)) ∧ (¬ (x2 ≤ (σ 0 26)) → ((σ 0 28) = 0 → (xo_X6_goOn σ) ∧ bd (xr_X6_goOn σ) (fun v7 σ9 => xlo_X6_run_18 n σ9 x1 x2)) ∧ (¬ ((σ 0 28) = 0) → ((σ 0 28) = 0 → ((σ 0 0) ≤ (σ 0 25) → True) ∧ (¬ ((σ 0 0) ≤ (σ 0 25)) → True)) ∧ (¬ ((σ 0 28) = 0) → True))))
set_option maxRecDepth 100000 in
set_option maxHeartbeats 4000000 in
theorem w_X6_run_18 {p : Program} {l : Launch} {e : Env} {s : State} {m : MethodId} {args : Array Value} {below : List Frame} {meth : Method} {c : Code} {D : va_G} {cy : CY} {q : Nat → Nat} {ex : va_W} {A : Nat → Prop} (S : CallFix p m c cX6_run 3 s args (wm yX6_run cX6_run 3 (some .int)) RX6) (K : KK D cy s) (hr : meth.sig.returnType = (some .int)) (hlocks : meth.locks = false) :
    ∀ (n : Nat) (σ : GS) (x1 : Int32) (x2 : Int32) (H : Heap) (locs : List Loc) (ls : Array Slot) (R : Int32 × GS), xlo_X6_run_18 n σ x1 x2 → xl_X6_run_18 n σ x1 x2 = R → WH D A s.heap H locs (wM cy q σ ++ ex) → lv_has ls 3 [(0, .ref (q 0)), (1, .int x1), (2, .int x2)] → W p l e ({ frames := 4, cells := 0, slots := 0, locals := 96 } : Room) s m args below meth c H locs 0 0 (MQ below (QI D (wM cy q R.2 ++ ex) A R.1) args s 0 0 A) (F0 m 18 ls []) := by
  intro n
  induction n with
  | zero =>
    intro σ x1 x2 H locs ls R hok
    exact False.elim hok
  | succ n ih =>
    intro σ x1 x2 H locs ls R hok hR h hl
    refine lv_aload_n S.1 S.2.1 dX6_run_18 rfl (lv_at hl 0 rfl) ?_
    refine fg_X6_88 S K h dX6_run_19 ?_
    refine lv_aload_n S.1 S.2.1 dX6_run_22 rfl (lv_at hl 0 rfl) ?_
    refine fg_X6_121 S K h dX6_run_23 ?_
    refine lv_icmp_ge (tgt := 51) S.1 S.2.1 dX6_run_26 (by decide) (fun c => ?_) (fun c => ?_)
    · replace hok := And.left hok c
      replace hR := (if_pos c).symm.trans hR
      refine lv_aload_n S.1 S.2.1 dX6_run_51 rfl (lv_at hl 0 rfl) ?_
      refine fg_X6_94 S K h dX6_run_52 ?_
      refine lv_if_eq (tgt := 62) S.1 S.2.1 dX6_run_55 (by decide) (fun c => ?_) (fun c => ?_)
      · replace hok := And.left hok c
        replace hR := (if_pos c).symm.trans hR
        refine lv_aload_n S.1 S.2.1 dX6_run_62 rfl (lv_at hl 0 rfl) ?_
        refine fg_X6_88 S K h dX6_run_63 ?_
        refine lv_aload_n S.1 S.2.1 dX6_run_66 rfl (lv_at hl 0 rfl) ?_
        refine fg_X6_121 S K h dX6_run_67 ?_
        refine lv_icmp_ge (tgt := 77) S.1 S.2.1 dX6_run_70 (by decide) (fun c => ?_) (fun c => ?_)
        · replace hok := And.left hok c
          replace hR := (if_pos c).symm.trans hR
          refine lv_iconst (v := 0) S.1 S.2.1 dX6_run_77 (by decide) ?_
          subst hR
          exact g_reti S hr hlocks h dX6_run_78
        · replace hok := And.right hok c
          replace hR := (if_neg c).symm.trans hR
          refine lv_iconst (v := 2) S.1 S.2.1 dX6_run_73 (by decide) ?_
          refine lv_goto (tgt := 78) S.1 S.2.1 dX6_run_74 (by decide) ?_
          subst hR
          exact g_reti S hr hlocks h dX6_run_78
      · replace hok := And.right hok c
        replace hR := (if_neg c).symm.trans hR
        refine lv_iconst (v := 1) S.1 S.2.1 dX6_run_58 (by decide) ?_
        refine lv_goto (tgt := 78) S.1 S.2.1 dX6_run_59 (by decide) ?_
        subst hR
        exact g_reti S hr hlocks h dX6_run_78
    · replace hok := And.right hok c
      replace hR := (if_neg c).symm.trans hR
      refine lv_aload_n S.1 S.2.1 dX6_run_29 rfl (lv_at hl 0 rfl) ?_
      refine fg_X6_91 S K h dX6_run_30 ?_
      refine lv_iload_n S.1 S.2.1 dX6_run_33 rfl (lv_at hl 2 rfl) ?_
      refine lv_icmp_ge (tgt := 51) S.1 S.2.1 dX6_run_34 (by decide) (fun c => ?_) (fun c => ?_)
      · replace hok := And.left hok c
        replace hR := (if_pos c).symm.trans hR
        refine lv_aload_n S.1 S.2.1 dX6_run_51 rfl (lv_at hl 0 rfl) ?_
        refine fg_X6_94 S K h dX6_run_52 ?_
        refine lv_if_eq (tgt := 62) S.1 S.2.1 dX6_run_55 (by decide) (fun c => ?_) (fun c => ?_)
        · replace hok := And.left hok c
          replace hR := (if_pos c).symm.trans hR
          refine lv_aload_n S.1 S.2.1 dX6_run_62 rfl (lv_at hl 0 rfl) ?_
          refine fg_X6_88 S K h dX6_run_63 ?_
          refine lv_aload_n S.1 S.2.1 dX6_run_66 rfl (lv_at hl 0 rfl) ?_
          refine fg_X6_121 S K h dX6_run_67 ?_
          refine lv_icmp_ge (tgt := 77) S.1 S.2.1 dX6_run_70 (by decide) (fun c => ?_) (fun c => ?_)
          · replace hok := And.left hok c
            replace hR := (if_pos c).symm.trans hR
            refine lv_iconst (v := 0) S.1 S.2.1 dX6_run_77 (by decide) ?_
            subst hR
            exact g_reti S hr hlocks h dX6_run_78
          · replace hok := And.right hok c
            replace hR := (if_neg c).symm.trans hR
            refine lv_iconst (v := 2) S.1 S.2.1 dX6_run_73 (by decide) ?_
            refine lv_goto (tgt := 78) S.1 S.2.1 dX6_run_74 (by decide) ?_
            subst hR
            exact g_reti S hr hlocks h dX6_run_78
        · replace hok := And.right hok c
          replace hR := (if_neg c).symm.trans hR
          refine lv_iconst (v := 1) S.1 S.2.1 dX6_run_58 (by decide) ?_
          refine lv_goto (tgt := 78) S.1 S.2.1 dX6_run_59 (by decide) ?_
          subst hR
          exact g_reti S hr hlocks h dX6_run_78
      · replace hok := And.right hok c
        replace hR := (if_neg c).symm.trans hR
        refine lv_aload_n S.1 S.2.1 dX6_run_37 rfl (lv_at hl 0 rfl) ?_
        refine fg_X6_94 S K h dX6_run_38 ?_
        refine lv_if_ne (tgt := 51) S.1 S.2.1 dX6_run_41 (by decide) (fun c => ?_) (fun c => ?_)
        · replace hok := And.right hok c
          replace hR := (if_neg c).symm.trans hR
          refine lv_aload_n S.1 S.2.1 dX6_run_51 rfl (lv_at hl 0 rfl) ?_
          refine fg_X6_94 S K h dX6_run_52 ?_
          refine lv_if_eq (tgt := 62) S.1 S.2.1 dX6_run_55 (by decide) (fun c => ?_) (fun c => ?_)
          · replace hok := And.left hok c
            replace hR := (if_pos c).symm.trans hR
            refine lv_aload_n S.1 S.2.1 dX6_run_62 rfl (lv_at hl 0 rfl) ?_
            refine fg_X6_88 S K h dX6_run_63 ?_
            refine lv_aload_n S.1 S.2.1 dX6_run_66 rfl (lv_at hl 0 rfl) ?_
            refine fg_X6_121 S K h dX6_run_67 ?_
            refine lv_icmp_ge (tgt := 77) S.1 S.2.1 dX6_run_70 (by decide) (fun c => ?_) (fun c => ?_)
            · replace hok := And.left hok c
              replace hR := (if_pos c).symm.trans hR
              refine lv_iconst (v := 0) S.1 S.2.1 dX6_run_77 (by decide) ?_
              subst hR
              exact g_reti S hr hlocks h dX6_run_78
            · replace hok := And.right hok c
              replace hR := (if_neg c).symm.trans hR
              refine lv_iconst (v := 2) S.1 S.2.1 dX6_run_73 (by decide) ?_
              refine lv_goto (tgt := 78) S.1 S.2.1 dX6_run_74 (by decide) ?_
              subst hR
              exact g_reti S hr hlocks h dX6_run_78
          · replace hok := And.right hok c
            replace hR := (if_neg c).symm.trans hR
            refine lv_iconst (v := 1) S.1 S.2.1 dX6_run_58 (by decide) ?_
            refine lv_goto (tgt := 78) S.1 S.2.1 dX6_run_59 (by decide) ?_
            subst hR
            exact g_reti S hr hlocks h dX6_run_78
        · replace hok := And.left hok c
          replace hR := (if_pos c).symm.trans hR
          refine lv_aload_n S.1 S.2.1 dX6_run_44 rfl (lv_at hl 0 rfl) ?_
          have k8 := And.left hok
          replace hok := And.right hok
          refine g_callv (ci := 6) (q0 := 0) S wz_cons K h (c_X6_goOn l D cy q _ A _ k8) kc_X6_goOn km_X6_169 ki_X6_goOn ks_X6_goOn kn_X6 yd_X6_goOn ⟨⟨Nat.le_of_ble_eq_true rfl, Nat.le_of_ble_eq_true rfl⟩, rfl, rfl, Nat.zero_le _, Nat.zero_le _⟩ rfl rfl rfl hl.1 (Nat.le_of_ble_eq_true rfl) rfl dX6_run_45 (fun H locs h => ?_)
          refine lv_goto (tgt := 18) S.1 S.2.1 dX6_run_48 (by decide) ?_
          exact ih _ _ _ _ _ _ R hok hR h (lv_sub hl [0, 1, 2] rfl)
def xr_X6_run (σ : GS) (a1 : Int32) (a2 : Int32) : Int32 × GS := if (xr_X6_in a2 0 64) = 0 then (-101, σ) else bd (xr_X6_begin σ a1) (fun v4 σ6 => xl_X6_run_18 100 σ6 a1 a2)
def xo_X6_run (σ : GS) (a1 : Int32) (a2 : Int32) : Prop := (xo_X6_in a2 0 64) ∧ (((xr_X6_in a2 0 64) = 0 → True) ∧ (¬ ((xr_X6_in a2 0 64) = 0) → (xo_X6_begin σ a1) ∧ bd (xr_X6_begin σ a1) (fun v4 σ6 => xlo_X6_run_18 100 σ6 a1 a2)))
set_option maxRecDepth 100000 in
set_option maxHeartbeats 4000000 in
theorem c_X6_run (l : Launch) (D : va_G) (cy : CY) (q : Nat → Nat) (ex : va_W) (A : Nat → Prop) (σ : GS) (a1 : Int32) (a2 : Int32) (hok : xo_X6_run σ a1 a2) : Met l yX6_run (wm yX6_run cX6_run 3 (some .int)) ({ frames := 4, cells := 0, slots := 0, locals := 96 } : Room) (PC D cy (wM cy q σ ++ ex) A [.ref (q 0), .int a1, .int a2]) (QI D (wM cy q (xr_X6_run σ a1 a2).2 ++ ex) A (xr_X6_run σ a1 a2).1) 0 0 A := by
  generalize hR : xr_X6_run σ a1 a2 = R
  refine g_met (lv := [(0, .ref (q 0)), (1, .int a1), (2, .int a2)]) (by decide) rfl (Nat.le_of_ble_eq_true rfl) rfl ?_
  intro p e s m below meth c ls S K h hr hlocks hl
  refine lv_iload_n S.1 S.2.1 dX6_run_0 rfl (lv_at hl 2 rfl) ?_
  refine lv_iconst (v := 0) S.1 S.2.1 dX6_run_1 (by decide) ?_
  refine lv_bipush (v := 64) S.1 S.2.1 dX6_run_2 (by decide) ?_
  have k2 := And.left hok
  replace hok := And.right hok
  refine g_calls S wz_cons K.2 (c_X6_in l _ _ _ k2) kc_X6_in km_X6_106 kt_X6_in kn_X6 yd_X6_in.2 ⟨⟨Nat.le_of_ble_eq_true rfl, Nat.le_of_ble_eq_true rfl⟩, rfl, rfl, Nat.zero_le _, Nat.zero_le _⟩ rfl hl.1 (Nat.le_of_ble_eq_true rfl) rfl dX6_run_4 ?_
  refine lv_if_ne (tgt := 13) S.1 S.2.1 dX6_run_7 (by decide) (fun c => ?_) (fun c => ?_)
  · replace hok := And.right hok c
    replace hR := (if_neg c).symm.trans hR
    refine lv_aload_n S.1 S.2.1 dX6_run_13 rfl (lv_at hl 0 rfl) ?_
    refine lv_iload_n S.1 S.2.1 dX6_run_14 rfl (lv_at hl 1 rfl) ?_
    have k5 := And.left hok
    replace hok := And.right hok
    refine g_callv (ci := 6) (q0 := 0) S wz_cons K h (c_X6_begin l D cy q _ A _ _ k5) kc_X6_begin km_X6_80 ki_X6_begin ks_X6_begin kn_X6 yd_X6_begin ⟨⟨Nat.le_of_ble_eq_true rfl, Nat.le_of_ble_eq_true rfl⟩, rfl, rfl, Nat.zero_le _, Nat.zero_le _⟩ rfl rfl rfl hl.1 (Nat.le_of_ble_eq_true rfl) rfl dX6_run_15 (fun H locs h => ?_)
    exact w_X6_run_18  S K hr hlocks 100 _ _ _ _ _ _ R hok hR h (lv_sub hl [0, 1, 2] rfl)
  · replace hok := And.left hok c
    replace hR := (if_pos c).symm.trans hR
    refine lv_bipush (v := -101) S.1 S.2.1 dX6_run_10 (by decide) ?_
    subst hR
    exact g_reti S hr hlocks h dX6_run_12
