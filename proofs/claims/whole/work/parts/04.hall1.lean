def xr_X5_isBelow (a1 : Int32) (a2 : Int32) : Int32 := if a1 < (0 : Int32) then 0 else if a2 ≤ a1 then 0 else 1
def xo_X5_isBelow (a1 : Int32) (a2 : Int32) : Prop := (a1 < (0 : Int32) → True) ∧ (¬ (a1 < (0 : Int32)) → (a2 ≤ a1 → True) ∧ (¬ (a2 ≤ a1) → True))
set_option maxRecDepth 100000 in
set_option maxHeartbeats 4000000 in
theorem c_X5_isBelow (l : Launch) (a1 : Int32) (a2 : Int32) (hok : xo_X5_isBelow a1 a2) : Met l yX5_isBelow (wm yX5_isBelow cX5_isBelow 2 (some .boolean)) ({ frames := 0, cells := 0, slots := 0, locals := 0 } : Room) (PS [.int a1, .int a2]) (QS (xr_X5_isBelow a1 a2)) 0 0 (fun _ => False) := by
  generalize hR : xr_X5_isBelow a1 a2 = R
  refine g_mets (lv := [(0, .int a1), (1, .int a2)]) (by decide) rfl (Nat.le_of_ble_eq_true rfl) rfl ?_
  intro p e s m below meth c ls S N hr hlocks hl
  refine lv_iconst (v := 0) S.1 S.2.1 dX5_isBelow_0 (by decide) ?_
  refine lv_iload_n S.1 S.2.1 dX5_isBelow_1 rfl (lv_at hl 0 rfl) ?_
  refine lv_icmp_gt (tgt := 14) S.1 S.2.1 dX5_isBelow_2 (by decide) (fun c => ?_) (fun c => ?_)
  · replace hok := And.left hok c
    replace hR := (if_pos c).symm.trans hR
    refine lv_iconst (v := 0) S.1 S.2.1 dX5_isBelow_14 (by decide) ?_
    subst hR
    exact g_sretz S hr hlocks nar0 dX5_isBelow_15
  · replace hok := And.right hok c
    replace hR := (if_neg c).symm.trans hR
    refine lv_iload_n S.1 S.2.1 dX5_isBelow_5 rfl (lv_at hl 0 rfl) ?_
    refine lv_iload_n S.1 S.2.1 dX5_isBelow_6 rfl (lv_at hl 1 rfl) ?_
    refine lv_icmp_ge (tgt := 14) S.1 S.2.1 dX5_isBelow_7 (by decide) (fun c => ?_) (fun c => ?_)
    · replace hok := And.left hok c
      replace hR := (if_pos c).symm.trans hR
      refine lv_iconst (v := 0) S.1 S.2.1 dX5_isBelow_14 (by decide) ?_
      subst hR
      exact g_sretz S hr hlocks nar0 dX5_isBelow_15
    · replace hok := And.right hok c
      replace hR := (if_neg c).symm.trans hR
      refine lv_iconst (v := 1) S.1 S.2.1 dX5_isBelow_10 (by decide) ?_
      refine lv_goto (tgt := 15) S.1 S.2.1 dX5_isBelow_11 (by decide) ?_
      subst hR
      exact g_sretz S hr hlocks nar1 dX5_isBelow_15
def xr_X5_isOf (a1 : Int32) (a2 : Int32) : Int32 := if a2 = 0 then 1 else if a1 = a2 then 1 else if (3 : Int32) < a1 then 0 else if a1 ≤ a2 then 0 else 1
def xo_X5_isOf (a1 : Int32) (a2 : Int32) : Prop := (a2 = 0 → True) ∧ (¬ (a2 = 0) → (a1 = a2 → True) ∧ (¬ (a1 = a2) → ((3 : Int32) < a1 → True) ∧ (¬ ((3 : Int32) < a1) → (a1 ≤ a2 → True) ∧ (¬ (a1 ≤ a2) → True))))
set_option maxRecDepth 100000 in
set_option maxHeartbeats 4000000 in
theorem c_X5_isOf (l : Launch) (a1 : Int32) (a2 : Int32) (hok : xo_X5_isOf a1 a2) : Met l yX5_isOf (wm yX5_isOf cX5_isOf 2 (some .boolean)) ({ frames := 0, cells := 0, slots := 0, locals := 0 } : Room) (PS [.int a1, .int a2]) (QS (xr_X5_isOf a1 a2)) 0 0 (fun _ => False) := by
  generalize hR : xr_X5_isOf a1 a2 = R
  refine g_mets (lv := [(0, .int a1), (1, .int a2)]) (by decide) rfl (Nat.le_of_ble_eq_true rfl) rfl ?_
  intro p e s m below meth c ls S N hr hlocks hl
  refine lv_iload_n S.1 S.2.1 dX5_isOf_0 rfl (lv_at hl 1 rfl) ?_
  refine lv_if_eq (tgt := 19) S.1 S.2.1 dX5_isOf_1 (by decide) (fun c => ?_) (fun c => ?_)
  · replace hok := And.left hok c
    replace hR := (if_pos c).symm.trans hR
    refine lv_iconst (v := 1) S.1 S.2.1 dX5_isOf_19 (by decide) ?_
    refine lv_goto (tgt := 24) S.1 S.2.1 dX5_isOf_20 (by decide) ?_
    subst hR
    exact g_sretz S hr hlocks nar1 dX5_isOf_24
  · replace hok := And.right hok c
    replace hR := (if_neg c).symm.trans hR
    refine lv_iload_n S.1 S.2.1 dX5_isOf_4 rfl (lv_at hl 0 rfl) ?_
    refine lv_iload_n S.1 S.2.1 dX5_isOf_5 rfl (lv_at hl 1 rfl) ?_
    refine lv_icmp_eq (tgt := 19) S.1 S.2.1 dX5_isOf_6 (by decide) (fun c => ?_) (fun c => ?_)
    · replace hok := And.left hok c
      replace hR := (if_pos c).symm.trans hR
      refine lv_iconst (v := 1) S.1 S.2.1 dX5_isOf_19 (by decide) ?_
      refine lv_goto (tgt := 24) S.1 S.2.1 dX5_isOf_20 (by decide) ?_
      subst hR
      exact g_sretz S hr hlocks nar1 dX5_isOf_24
    · replace hok := And.right hok c
      replace hR := (if_neg c).symm.trans hR
      refine lv_iload_n S.1 S.2.1 dX5_isOf_9 rfl (lv_at hl 0 rfl) ?_
      refine lv_iconst (v := 3) S.1 S.2.1 dX5_isOf_10 (by decide) ?_
      refine lv_icmp_gt (tgt := 23) S.1 S.2.1 dX5_isOf_11 (by decide) (fun c => ?_) (fun c => ?_)
      · replace hok := And.left hok c
        replace hR := (if_pos c).symm.trans hR
        refine lv_iconst (v := 0) S.1 S.2.1 dX5_isOf_23 (by decide) ?_
        subst hR
        exact g_sretz S hr hlocks nar0 dX5_isOf_24
      · replace hok := And.right hok c
        replace hR := (if_neg c).symm.trans hR
        refine lv_iload_n S.1 S.2.1 dX5_isOf_14 rfl (lv_at hl 1 rfl) ?_
        refine lv_iload_n S.1 S.2.1 dX5_isOf_15 rfl (lv_at hl 0 rfl) ?_
        refine lv_icmp_ge (tgt := 23) S.1 S.2.1 dX5_isOf_16 (by decide) (fun c => ?_) (fun c => ?_)
        · replace hok := And.left hok c
          replace hR := (if_pos c).symm.trans hR
          refine lv_iconst (v := 0) S.1 S.2.1 dX5_isOf_23 (by decide) ?_
          subst hR
          exact g_sretz S hr hlocks nar0 dX5_isOf_24
        · replace hok := And.right hok c
          replace hR := (if_neg c).symm.trans hR
          refine lv_iconst (v := 1) S.1 S.2.1 dX5_isOf_19 (by decide) ?_
          refine lv_goto (tgt := 24) S.1 S.2.1 dX5_isOf_20 (by decide) ?_
          subst hR
          exact g_sretz S hr hlocks nar1 dX5_isOf_24
def xr_X5_sizeFailure (a1 : Int32) : Int32 := if (0 : Int32) ≤ a1 then if a1 ≤ 8 then 0 else 6 else 2
def xo_X5_sizeFailure (a1 : Int32) : Prop := ((0 : Int32) ≤ a1 → (a1 ≤ 8 → True) ∧ (¬ (a1 ≤ 8) → True)) ∧ (¬ ((0 : Int32) ≤ a1) → True)
set_option maxRecDepth 100000 in
set_option maxHeartbeats 4000000 in
theorem c_X5_sizeFailure (l : Launch) (a1 : Int32) (hok : xo_X5_sizeFailure a1) : Met l yX5_sizeFailure (wm yX5_sizeFailure cX5_sizeFailure 1 (some .int)) ({ frames := 0, cells := 0, slots := 0, locals := 0 } : Room) (PS [.int a1]) (QS (xr_X5_sizeFailure a1)) 0 0 (fun _ => False) := by
  generalize hR : xr_X5_sizeFailure a1 = R
  refine g_mets (lv := [(0, .int a1)]) (by decide) rfl (Nat.le_of_ble_eq_true rfl) rfl ?_
  intro p e s m below meth c ls S N hr hlocks hl
  refine lv_iload_n S.1 S.2.1 dX5_sizeFailure_0 rfl (lv_at hl 0 rfl) ?_
  refine lv_if_ge (tgt := 6) S.1 S.2.1 dX5_sizeFailure_1 (by decide) (fun c => ?_) (fun c => ?_)
  · replace hok := And.left hok c
    replace hR := (if_pos c).symm.trans hR
    refine lv_iload_n S.1 S.2.1 dX5_sizeFailure_6 rfl (lv_at hl 0 rfl) ?_
    refine lv_bipush (v := 8) S.1 S.2.1 dX5_sizeFailure_7 (by decide) ?_
    refine lv_icmp_le (tgt := 17) S.1 S.2.1 dX5_sizeFailure_9 (by decide) (fun c => ?_) (fun c => ?_)
    · replace hok := And.left hok c
      replace hR := (if_pos c).symm.trans hR
      refine lv_iconst (v := 0) S.1 S.2.1 dX5_sizeFailure_17 (by decide) ?_
      subst hR
      exact g_sreti S hr hlocks dX5_sizeFailure_18
    · replace hok := And.right hok c
      replace hR := (if_neg c).symm.trans hR
      refine lv_bipush (v := 6) S.1 S.2.1 dX5_sizeFailure_12 (by decide) ?_
      refine lv_goto (tgt := 18) S.1 S.2.1 dX5_sizeFailure_14 (by decide) ?_
      subst hR
      exact g_sreti S hr hlocks dX5_sizeFailure_18
  · replace hok := And.right hok c
    replace hR := (if_neg c).symm.trans hR
    refine lv_iconst (v := 2) S.1 S.2.1 dX5_sizeFailure_4 (by decide) ?_
    subst hR
    exact g_sreti S hr hlocks dX5_sizeFailure_5
def xr_X1_has (σ : GS) (a1 : Int32) : Int32 × GS := (xr_X5_isBelow a1 (σ 9 0), σ)
def xo_X1_has (σ : GS) (a1 : Int32) : Prop := (xo_X5_isBelow a1 (σ 9 0)) ∧ (narrow .boolean (.int (xr_X5_isBelow a1 (σ 9 0))) = .int (xr_X5_isBelow a1 (σ 9 0)))
set_option maxRecDepth 100000 in
set_option maxHeartbeats 4000000 in
theorem c_X1_has (l : Launch) (D : va_G) (cy : CY) (q : Nat → Nat) (ex : va_W) (A : Nat → Prop) (σ : GS) (a1 : Int32) (hok : xo_X1_has σ a1) : Met l yX1_has (wm yX1_has cX1_has 2 (some .boolean)) ({ frames := 1, cells := 0, slots := 0, locals := 21 } : Room) (PC D cy (wH cy q σ ++ ex) A [.ref (q 9), .int a1]) (QI D (wH cy q (xr_X1_has σ a1).2 ++ ex) A (xr_X1_has σ a1).1) 0 0 A := by
  generalize hR : xr_X1_has σ a1 = R
  refine g_met (lv := [(0, .ref (q 9)), (1, .int a1)]) (by decide) rfl (Nat.le_of_ble_eq_true rfl) rfl ?_
  intro p e s m below meth c ls S K h hr hlocks hl
  refine lv_iload_n S.1 S.2.1 dX1_has_0 rfl (lv_at hl 1 rfl) ?_
  refine lv_aload_n S.1 S.2.1 dX1_has_1 rfl (lv_at hl 0 rfl) ?_
  refine fg_X1_21 S K h dX1_has_2 ?_
  have k2 := And.left hok
  replace hok := And.right hok
  refine g_callsN S wz_cons K.2 (c_X5_isBelow l _ _ k2) kc_X5_isBelow nn_X1_25 kt_X5_isBelow kn_X5 yd_X5_isBelow.2 ⟨⟨Nat.le_of_ble_eq_true rfl, Nat.le_of_ble_eq_true rfl⟩, rfl, rfl, Nat.zero_le _, Nat.zero_le _⟩ rfl hl.1 (Nat.le_of_ble_eq_true rfl) rfl dX1_has_5 ?_
  subst hR
  exact g_retz S hr hlocks h hok dX1_has_8
def xr_X1_add (σ : GS) (a1 : Int32) (a2 : Int32) : Int32 × GS := if (σ 9 0) < 64 then ((st (st (st σ 10 (σ 9 0).toNatClampNeg a1) 11 ((st σ 10 (σ 9 0).toNatClampNeg a1) 9 0).toNatClampNeg a2) 12 ((st (st σ 10 (σ 9 0).toNatClampNeg a1) 11 ((st σ 10 (σ 9 0).toNatClampNeg a1) 9 0).toNatClampNeg a2) 9 0).toNatClampNeg 0) 9 0, st (st (st (st σ 10 (σ 9 0).toNatClampNeg a1) 11 ((st σ 10 (σ 9 0).toNatClampNeg a1) 9 0).toNatClampNeg a2) 12 ((st (st σ 10 (σ 9 0).toNatClampNeg a1) 11 ((st σ 10 (σ 9 0).toNatClampNeg a1) 9 0).toNatClampNeg a2) 9 0).toNatClampNeg 0) 9 0 (((st (st (st σ 10 (σ 9 0).toNatClampNeg a1) 11 ((st σ 10 (σ 9 0).toNatClampNeg a1) 9 0).toNatClampNeg a2) 12 ((st (st σ 10 (σ 9 0).toNatClampNeg a1) 11 ((st σ 10 (σ 9 0).toNatClampNeg a1) 9 0).toNatClampNeg a2) 9 0).toNatClampNeg 0) 9 0) + 1)) else (-1, σ)
def xo_X1_add (σ : GS) (a1 : Int32) (a2 : Int32) : Prop := ((σ 9 0) < 64 → vp_in (σ 9 0) 64 ∧ (vp_in ((st σ 10 (σ 9 0).toNatClampNeg a1) 9 0) 64 ∧ (vp_in ((st (st σ 10 (σ 9 0).toNatClampNeg a1) 11 ((st σ 10 (σ 9 0).toNatClampNeg a1) 9 0).toNatClampNeg a2) 9 0) 64 ∧ (True)))) ∧ (¬ ((σ 9 0) < 64) → True)
set_option maxRecDepth 100000 in
set_option maxHeartbeats 4000000 in
theorem c_X1_add (l : Launch) (D : va_G) (cy : CY) (q : Nat → Nat) (ex : va_W) (A : Nat → Prop) (σ : GS) (a1 : Int32) (a2 : Int32) (hok : xo_X1_add σ a1 a2) : Met l yX1_add (wm yX1_add cX1_add 3 (some .int)) ({ frames := 0, cells := 0, slots := 0, locals := 0 } : Room) (PC D cy (wH cy q σ ++ ex) A [.ref (q 9), .int a1, .int a2]) (QI D (wH cy q (xr_X1_add σ a1 a2).2 ++ ex) A (xr_X1_add σ a1 a2).1) 0 0 A := by
  generalize hR : xr_X1_add σ a1 a2 = R
  refine g_met (lv := [(0, .ref (q 9)), (1, .int a1), (2, .int a2)]) (by decide) rfl (Nat.le_of_ble_eq_true rfl) rfl ?_
  intro p e s m below meth c ls S K h hr hlocks hl
  refine lv_aload_n S.1 S.2.1 dX1_add_0 rfl (lv_at hl 0 rfl) ?_
  refine fg_X1_21 S K h dX1_add_1 ?_
  refine lv_bipush (v := 64) S.1 S.2.1 dX1_add_4 (by decide) ?_
  refine lv_icmp_lt (tgt := 11) S.1 S.2.1 dX1_add_6 (by decide) (fun c => ?_) (fun c => ?_)
  · replace hok := And.left hok c
    replace hR := (if_pos c).symm.trans hR
    refine lv_aload_n S.1 S.2.1 dX1_add_11 rfl (lv_at hl 0 rfl) ?_
    refine fg_X1_9 S K h dX1_add_12 ?_
    refine lv_aload_n S.1 S.2.1 dX1_add_15 rfl (lv_at hl 0 rfl) ?_
    refine fg_X1_21 S K h dX1_add_16 ?_
    refine lv_iload_n S.1 S.2.1 dX1_add_19 rfl (lv_at hl 1 rfl) ?_
    have k1 := And.left hok
    replace hok := And.right hok
    refine as_H10 S K h k1 dX1_add_20 (fun H locs h => ?_)
    refine lv_aload_n S.1 S.2.1 dX1_add_21 rfl (lv_at hl 0 rfl) ?_
    refine fg_X1_15 S K h dX1_add_22 ?_
    refine lv_aload_n S.1 S.2.1 dX1_add_25 rfl (lv_at hl 0 rfl) ?_
    refine fg_X1_21 S K h dX1_add_26 ?_
    refine lv_iload_n S.1 S.2.1 dX1_add_29 rfl (lv_at hl 2 rfl) ?_
    have k2 := And.left hok
    replace hok := And.right hok
    refine as_H11 S K h k2 dX1_add_30 (fun H locs h => ?_)
    refine lv_aload_n S.1 S.2.1 dX1_add_31 rfl (lv_at hl 0 rfl) ?_
    refine fg_X1_18 S K h dX1_add_32 ?_
    refine lv_aload_n S.1 S.2.1 dX1_add_35 rfl (lv_at hl 0 rfl) ?_
    refine fg_X1_21 S K h dX1_add_36 ?_
    refine lv_iconst (v := 0) S.1 S.2.1 dX1_add_39 (by decide) ?_
    have k3 := And.left hok
    replace hok := And.right hok
    refine as_H12 S K h k3 dX1_add_40 (fun H locs h => ?_)
    refine lv_aload_n S.1 S.2.1 dX1_add_41 rfl (lv_at hl 0 rfl) ?_
    refine lv_dup S.1 S.2.1 dX1_add_42 rfl ?_
    refine fg_X1_21 S K h dX1_add_43 ?_
    refine lv_dup_x1 S.1 S.2.1 dX1_add_46 rfl rfl ?_
    refine lv_iconst (v := 1) S.1 S.2.1 dX1_add_47 (by decide) ?_
    refine lv_iadd S.1 S.2.1 dX1_add_48 ?_
    refine fp_X1_21 S K h dX1_add_49 (fun H locs h => ?_)
    subst hR
    exact g_reti S hr hlocks h dX1_add_52
  · replace hok := And.right hok c
    replace hR := (if_neg c).symm.trans hR
    refine lv_iconst (v := -1) S.1 S.2.1 dX1_add_9 (by decide) ?_
    subst hR
    exact g_reti S hr hlocks h dX1_add_10
def xr_X1_isAlive (σ : GS) (a1 : Int32) : Int32 × GS := if (σ 10 a1.toNatClampNeg) = 3 then (1, σ) else if (σ 10 a1.toNatClampNeg) = 4 then (1, σ) else (0, σ)
def xo_X1_isAlive (σ : GS) (a1 : Int32) : Prop := vp_in a1 64 ∧ (((σ 10 a1.toNatClampNeg) = 3 → True) ∧ (¬ ((σ 10 a1.toNatClampNeg) = 3) → vp_in a1 64 ∧ (((σ 10 a1.toNatClampNeg) = 4 → True) ∧ (¬ ((σ 10 a1.toNatClampNeg) = 4) → True))))
set_option maxRecDepth 100000 in
set_option maxHeartbeats 4000000 in
theorem c_X1_isAlive (l : Launch) (D : va_G) (cy : CY) (q : Nat → Nat) (ex : va_W) (A : Nat → Prop) (σ : GS) (a1 : Int32) (hok : xo_X1_isAlive σ a1) : Met l yX1_isAlive (wm yX1_isAlive cX1_isAlive 2 (some .boolean)) ({ frames := 0, cells := 0, slots := 0, locals := 0 } : Room) (PC D cy (wH cy q σ ++ ex) A [.ref (q 9), .int a1]) (QI D (wH cy q (xr_X1_isAlive σ a1).2 ++ ex) A (xr_X1_isAlive σ a1).1) 0 0 A := by
  generalize hR : xr_X1_isAlive σ a1 = R
  refine g_met (lv := [(0, .ref (q 9)), (1, .int a1)]) (by decide) rfl (Nat.le_of_ble_eq_true rfl) rfl ?_
  intro p e s m below meth c ls S K h hr hlocks hl
  refine lv_aload_n S.1 S.2.1 dX1_isAlive_0 rfl (lv_at hl 0 rfl) ?_
  refine fg_X1_9 S K h dX1_isAlive_1 ?_
  refine lv_iload_n S.1 S.2.1 dX1_isAlive_4 rfl (lv_at hl 1 rfl) ?_
  have k1 := And.left hok
  replace hok := And.right hok
  refine al_H10 S K h k1 dX1_isAlive_5 ?_
  refine lv_iconst (v := 3) S.1 S.2.1 dX1_isAlive_6 (by decide) ?_
  refine lv_icmp_eq (tgt := 20) S.1 S.2.1 dX1_isAlive_7 (by decide) (fun c => ?_) (fun c => ?_)
  · replace hok := And.left hok c
    replace hR := (if_pos c).symm.trans hR
    refine lv_iconst (v := 1) S.1 S.2.1 dX1_isAlive_20 (by decide) ?_
    refine lv_goto (tgt := 25) S.1 S.2.1 dX1_isAlive_21 (by decide) ?_
    subst hR
    exact g_retz S hr hlocks h nar1 dX1_isAlive_25
  · replace hok := And.right hok c
    replace hR := (if_neg c).symm.trans hR
    refine lv_aload_n S.1 S.2.1 dX1_isAlive_10 rfl (lv_at hl 0 rfl) ?_
    refine fg_X1_9 S K h dX1_isAlive_11 ?_
    refine lv_iload_n S.1 S.2.1 dX1_isAlive_14 rfl (lv_at hl 1 rfl) ?_
    have k2 := And.left hok
    replace hok := And.right hok
    refine al_H10 S K h k2 dX1_isAlive_15 ?_
    refine lv_iconst (v := 4) S.1 S.2.1 dX1_isAlive_16 (by decide) ?_
    refine lv_icmp_ne (tgt := 24) S.1 S.2.1 dX1_isAlive_17 (by decide) (fun c => ?_) (fun c => ?_)
    · replace hok := And.right hok c
      replace hR := (if_neg c).symm.trans hR
      refine lv_iconst (v := 0) S.1 S.2.1 dX1_isAlive_24 (by decide) ?_
      subst hR
      exact g_retz S hr hlocks h nar0 dX1_isAlive_25
    · replace hok := And.left hok c
      replace hR := (if_pos c).symm.trans hR
      refine lv_iconst (v := 1) S.1 S.2.1 dX1_isAlive_20 (by decide) ?_
      refine lv_goto (tgt := 25) S.1 S.2.1 dX1_isAlive_21 (by decide) ?_
      subst hR
      exact g_retz S hr hlocks h nar1 dX1_isAlive_25
def xr_X1_stamp (σ : GS) (a1 : Int32) : Int32 × GS := if ((st σ 12 a1.toNatClampNeg ((σ 12 a1.toNatClampNeg) + 1)) 10 a1.toNatClampNeg) = 1 then (2 * (((st σ 12 a1.toNatClampNeg ((σ 12 a1.toNatClampNeg) + 1)) 11 a1.toNatClampNeg) + ((st σ 12 a1.toNatClampNeg ((σ 12 a1.toNatClampNeg) + 1)) 12 a1.toNatClampNeg)), st σ 12 a1.toNatClampNeg ((σ 12 a1.toNatClampNeg) + 1)) else if ((st σ 12 a1.toNatClampNeg ((σ 12 a1.toNatClampNeg) + 1)) 10 a1.toNatClampNeg) = 2 then (2 * (((st σ 12 a1.toNatClampNeg ((σ 12 a1.toNatClampNeg) + 1)) 11 a1.toNatClampNeg) + ((st σ 12 a1.toNatClampNeg ((σ 12 a1.toNatClampNeg) + 1)) 12 a1.toNatClampNeg)), st σ 12 a1.toNatClampNeg ((σ 12 a1.toNatClampNeg) + 1)) else if ((st σ 12 a1.toNatClampNeg ((σ 12 a1.toNatClampNeg) + 1)) 10 a1.toNatClampNeg) = 3 then ((2 * (((st σ 12 a1.toNatClampNeg ((σ 12 a1.toNatClampNeg) + 1)) 11 a1.toNatClampNeg) + ((st σ 12 a1.toNatClampNeg ((σ 12 a1.toNatClampNeg) + 1)) 12 a1.toNatClampNeg))) - 1, st σ 12 a1.toNatClampNeg ((σ 12 a1.toNatClampNeg) + 1)) else if ((st σ 12 a1.toNatClampNeg ((σ 12 a1.toNatClampNeg) + 1)) 10 a1.toNatClampNeg) = 4 then (3 * (((st σ 12 a1.toNatClampNeg ((σ 12 a1.toNatClampNeg) + 1)) 11 a1.toNatClampNeg) + ((st σ 12 a1.toNatClampNeg ((σ 12 a1.toNatClampNeg) + 1)) 12 a1.toNatClampNeg)), st σ 12 a1.toNatClampNeg ((σ 12 a1.toNatClampNeg) + 1)) else (((st σ 12 a1.toNatClampNeg ((σ 12 a1.toNatClampNeg) + 1)) 11 a1.toNatClampNeg) + ((st σ 12 a1.toNatClampNeg ((σ 12 a1.toNatClampNeg) + 1)) 12 a1.toNatClampNeg), st σ 12 a1.toNatClampNeg ((σ 12 a1.toNatClampNeg) + 1))
def xo_X1_stamp (σ : GS) (a1 : Int32) : Prop := vp_in a1 64 ∧ (vp_in a1 64 ∧ (vp_in a1 64 ∧ (vp_in a1 64 ∧ (vp_in a1 64 ∧ ((((st σ 12 a1.toNatClampNeg ((σ 12 a1.toNatClampNeg) + 1)) 10 a1.toNatClampNeg) = 1 → True) ∧ (¬ (((st σ 12 a1.toNatClampNeg ((σ 12 a1.toNatClampNeg) + 1)) 10 a1.toNatClampNeg) = 1) → (((st σ 12 a1.toNatClampNeg ((σ 12 a1.toNatClampNeg) + 1)) 10 a1.toNatClampNeg) = 2 → True) ∧ (¬ (((st σ 12 a1.toNatClampNeg ((σ 12 a1.toNatClampNeg) + 1)) 10 a1.toNatClampNeg) = 2) → (((st σ 12 a1.toNatClampNeg ((σ 12 a1.toNatClampNeg) + 1)) 10 a1.toNatClampNeg) = 3 → True) ∧ (¬ (((st σ 12 a1.toNatClampNeg ((σ 12 a1.toNatClampNeg) + 1)) 10 a1.toNatClampNeg) = 3) → (((st σ 12 a1.toNatClampNeg ((σ 12 a1.toNatClampNeg) + 1)) 10 a1.toNatClampNeg) = 4 → True) ∧ (¬ (((st σ 12 a1.toNatClampNeg ((σ 12 a1.toNatClampNeg) + 1)) 10 a1.toNatClampNeg) = 4) → True)))))))))
set_option maxRecDepth 100000 in
set_option maxHeartbeats 4000000 in
theorem c_X1_stamp (l : Launch) (D : va_G) (cy : CY) (q : Nat → Nat) (ex : va_W) (A : Nat → Prop) (σ : GS) (a1 : Int32) (hok : xo_X1_stamp σ a1) : Met l yX1_stamp (wm yX1_stamp cX1_stamp 3 (some .int)) ({ frames := 0, cells := 0, slots := 0, locals := 0 } : Room) (PC D cy (wH cy q σ ++ ex) A [.ref (q 9), .int a1]) (QI D (wH cy q (xr_X1_stamp σ a1).2 ++ ex) A (xr_X1_stamp σ a1).1) 0 0 A := by
  generalize hR : xr_X1_stamp σ a1 = R
  refine g_met (lv := [(0, .ref (q 9)), (1, .int a1)]) (by decide) rfl (Nat.le_of_ble_eq_true rfl) rfl ?_
  intro p e s m below meth c ls S K h hr hlocks hl
  refine lv_aload_n S.1 S.2.1 dX1_stamp_0 rfl (lv_at hl 0 rfl) ?_
  refine fg_X1_18 S K h dX1_stamp_1 ?_
  refine lv_iload_n S.1 S.2.1 dX1_stamp_4 rfl (lv_at hl 1 rfl) ?_
  refine lv_dup2_11 S.1 S.2.1 dX1_stamp_5 rfl rfl ?_
  have k1 := And.left hok
  replace hok := And.right hok
  refine al_H12 S K h k1 dX1_stamp_6 ?_
  refine lv_iconst (v := 1) S.1 S.2.1 dX1_stamp_7 (by decide) ?_
  refine lv_iadd S.1 S.2.1 dX1_stamp_8 ?_
  have k2 := And.left hok
  replace hok := And.right hok
  refine as_H12 S K h k2 dX1_stamp_9 (fun H locs h => ?_)
  refine lv_aload_n S.1 S.2.1 dX1_stamp_10 rfl (lv_at hl 0 rfl) ?_
  refine fg_X1_15 S K h dX1_stamp_11 ?_
  refine lv_iload_n S.1 S.2.1 dX1_stamp_14 rfl (lv_at hl 1 rfl) ?_
  have k3 := And.left hok
  replace hok := And.right hok
  refine al_H11 S K h k3 dX1_stamp_15 ?_
  refine lv_aload_n S.1 S.2.1 dX1_stamp_16 rfl (lv_at hl 0 rfl) ?_
  refine fg_X1_18 S K h dX1_stamp_17 ?_
  refine lv_iload_n S.1 S.2.1 dX1_stamp_20 rfl (lv_at hl 1 rfl) ?_
  have k4 := And.left hok
  replace hok := And.right hok
  refine al_H12 S K h k4 dX1_stamp_21 ?_
  refine lv_iadd S.1 S.2.1 dX1_stamp_22 ?_
  refine lv_istore_n (lv' := [(2, .int _), (0, .ref _), (1, .int _)]) S.1 S.2.1 dX1_stamp_23 rfl hl (by decide) rfl (fun ls hl => ?_)
  refine lv_aload_n S.1 S.2.1 dX1_stamp_24 rfl (lv_at hl 1 rfl) ?_
  refine fg_X1_9 S K h dX1_stamp_25 ?_
  refine lv_iload_n S.1 S.2.1 dX1_stamp_28 rfl (lv_at hl 2 rfl) ?_
  have k5 := And.left hok
  replace hok := And.right hok
  refine al_H10 S K h k5 dX1_stamp_29 ?_
  refine g_em 1 (fun c => ?_) (fun n1 => ?_)
  · replace hok := And.left hok c
    replace hR := (if_pos c).symm.trans hR
    refine g_sw (tgt := 60) S.1 S.2.1 dX1_stamp_30 c rfl (by decide) (by decide) rfl (by decide) ?_
    refine lv_iconst (v := 2) S.1 S.2.1 dX1_stamp_60 (by decide) ?_
    refine lv_iload_n S.1 S.2.1 dX1_stamp_61 rfl (lv_at hl 0 rfl) ?_
    refine lv_imul S.1 S.2.1 dX1_stamp_62 ?_
    subst hR
    exact g_reti S hr hlocks h dX1_stamp_63
  replace hok := And.right hok n1
  replace hR := (if_neg n1).symm.trans hR
  refine g_em 2 (fun c => ?_) (fun n2 => ?_)
  · replace hok := And.left hok c
    replace hR := (if_pos c).symm.trans hR
    refine g_sw (tgt := 60) S.1 S.2.1 dX1_stamp_30 c rfl (by decide) (by decide) rfl (by decide) ?_
    refine lv_iconst (v := 2) S.1 S.2.1 dX1_stamp_60 (by decide) ?_
    refine lv_iload_n S.1 S.2.1 dX1_stamp_61 rfl (lv_at hl 0 rfl) ?_
    refine lv_imul S.1 S.2.1 dX1_stamp_62 ?_
    subst hR
    exact g_reti S hr hlocks h dX1_stamp_63
  replace hok := And.right hok n2
  replace hR := (if_neg n2).symm.trans hR
  refine g_em 3 (fun c => ?_) (fun n3 => ?_)
  · replace hok := And.left hok c
    replace hR := (if_pos c).symm.trans hR
    refine g_sw (tgt := 64) S.1 S.2.1 dX1_stamp_30 c rfl (by decide) (by decide) rfl (by decide) ?_
    refine lv_iconst (v := 2) S.1 S.2.1 dX1_stamp_64 (by decide) ?_
    refine lv_iload_n S.1 S.2.1 dX1_stamp_65 rfl (lv_at hl 0 rfl) ?_
    refine lv_imul S.1 S.2.1 dX1_stamp_66 ?_
    refine lv_iconst (v := 1) S.1 S.2.1 dX1_stamp_67 (by decide) ?_
    refine lv_isub S.1 S.2.1 dX1_stamp_68 ?_
    subst hR
    exact g_reti S hr hlocks h dX1_stamp_69
  replace hok := And.right hok n3
  replace hR := (if_neg n3).symm.trans hR
  refine g_em 4 (fun c => ?_) (fun n4 => ?_)
  · replace hok := And.left hok c
    replace hR := (if_pos c).symm.trans hR
    refine g_sw (tgt := 70) S.1 S.2.1 dX1_stamp_30 c rfl (by decide) (by decide) rfl (by decide) ?_
    refine lv_iconst (v := 3) S.1 S.2.1 dX1_stamp_70 (by decide) ?_
    refine lv_iload_n S.1 S.2.1 dX1_stamp_71 rfl (lv_at hl 0 rfl) ?_
    refine lv_imul S.1 S.2.1 dX1_stamp_72 ?_
    subst hR
    exact g_reti S hr hlocks h dX1_stamp_73
  replace hok := And.right hok n4
  replace hR := (if_neg n4).symm.trans hR
  have m1 := lv_neT (a := 1) n1 rfl
  have m2 := lv_neT (a := 2) n2 rfl
  have m3 := lv_neT (a := 3) n3 rfl
  have m4 := lv_neT (a := 4) n4 rfl
  refine lv_tableOut (tgt := 74) S.1 S.2.1 dX1_stamp_30 (by omega) (by decide) ?_
  refine lv_iload_n S.1 S.2.1 dX1_stamp_74 rfl (lv_at hl 0 rfl) ?_
  subst hR
  exact g_reti S hr hlocks h dX1_stamp_75
def xr_X1_feed (σ : GS) (a1 : Int32) : Int32 × GS := if (σ 10 a1.toNatClampNeg) = 3 then ((st σ 11 a1.toNatClampNeg ((σ 11 a1.toNatClampNeg) + 5)) 11 a1.toNatClampNeg, st σ 11 a1.toNatClampNeg ((σ 11 a1.toNatClampNeg) + 5)) else (((st σ 11 a1.toNatClampNeg ((σ 11 a1.toNatClampNeg) * 2)) 11 a1.toNatClampNeg) - ((st σ 11 a1.toNatClampNeg ((σ 11 a1.toNatClampNeg) * 2)) 12 a1.toNatClampNeg), st σ 11 a1.toNatClampNeg ((σ 11 a1.toNatClampNeg) * 2))
def xo_X1_feed (σ : GS) (a1 : Int32) : Prop := vp_in a1 64 ∧ (((σ 10 a1.toNatClampNeg) = 3 → vp_in a1 64 ∧ (vp_in a1 64 ∧ (vp_in a1 64 ∧ (True)))) ∧ (¬ ((σ 10 a1.toNatClampNeg) = 3) → vp_in a1 64 ∧ (vp_in a1 64 ∧ (vp_in a1 64 ∧ (vp_in a1 64 ∧ (True))))))
set_option maxRecDepth 100000 in
set_option maxHeartbeats 4000000 in
theorem c_X1_feed (l : Launch) (D : va_G) (cy : CY) (q : Nat → Nat) (ex : va_W) (A : Nat → Prop) (σ : GS) (a1 : Int32) (hok : xo_X1_feed σ a1) : Met l yX1_feed (wm yX1_feed cX1_feed 2 (some .int)) ({ frames := 0, cells := 0, slots := 0, locals := 0 } : Room) (PC D cy (wH cy q σ ++ ex) A [.ref (q 9), .int a1]) (QI D (wH cy q (xr_X1_feed σ a1).2 ++ ex) A (xr_X1_feed σ a1).1) 0 0 A := by
  generalize hR : xr_X1_feed σ a1 = R
  refine g_met (lv := [(0, .ref (q 9)), (1, .int a1)]) (by decide) rfl (Nat.le_of_ble_eq_true rfl) rfl ?_
  intro p e s m below meth c ls S K h hr hlocks hl
  refine lv_aload_n S.1 S.2.1 dX1_feed_0 rfl (lv_at hl 0 rfl) ?_
  refine fg_X1_9 S K h dX1_feed_1 ?_
  refine lv_iload_n S.1 S.2.1 dX1_feed_4 rfl (lv_at hl 1 rfl) ?_
  have k1 := And.left hok
  replace hok := And.right hok
  refine al_H10 S K h k1 dX1_feed_5 ?_
  refine lv_iconst (v := 3) S.1 S.2.1 dX1_feed_6 (by decide) ?_
  refine lv_icmp_ne (tgt := 27) S.1 S.2.1 dX1_feed_7 (by decide) (fun c => ?_) (fun c => ?_)
  · replace hok := And.right hok c
    replace hR := (if_neg c).symm.trans hR
    refine lv_aload_n S.1 S.2.1 dX1_feed_27 rfl (lv_at hl 0 rfl) ?_
    refine fg_X1_15 S K h dX1_feed_28 ?_
    refine lv_iload_n S.1 S.2.1 dX1_feed_31 rfl (lv_at hl 1 rfl) ?_
    refine lv_dup2_11 S.1 S.2.1 dX1_feed_32 rfl rfl ?_
    have k2 := And.left hok
    replace hok := And.right hok
    refine al_H11 S K h k2 dX1_feed_33 ?_
    refine lv_iconst (v := 2) S.1 S.2.1 dX1_feed_34 (by decide) ?_
    refine lv_imul S.1 S.2.1 dX1_feed_35 ?_
    have k3 := And.left hok
    replace hok := And.right hok
    refine as_H11 S K h k3 dX1_feed_36 (fun H locs h => ?_)
    refine lv_aload_n S.1 S.2.1 dX1_feed_37 rfl (lv_at hl 0 rfl) ?_
    refine fg_X1_15 S K h dX1_feed_38 ?_
    refine lv_iload_n S.1 S.2.1 dX1_feed_41 rfl (lv_at hl 1 rfl) ?_
    have k4 := And.left hok
    replace hok := And.right hok
    refine al_H11 S K h k4 dX1_feed_42 ?_
    refine lv_aload_n S.1 S.2.1 dX1_feed_43 rfl (lv_at hl 0 rfl) ?_
    refine fg_X1_18 S K h dX1_feed_44 ?_
    refine lv_iload_n S.1 S.2.1 dX1_feed_47 rfl (lv_at hl 1 rfl) ?_
    have k5 := And.left hok
    replace hok := And.right hok
    refine al_H12 S K h k5 dX1_feed_48 ?_
    refine lv_isub S.1 S.2.1 dX1_feed_49 ?_
    subst hR
    exact g_reti S hr hlocks h dX1_feed_50
  · replace hok := And.left hok c
    replace hR := (if_pos c).symm.trans hR
    refine lv_aload_n S.1 S.2.1 dX1_feed_10 rfl (lv_at hl 0 rfl) ?_
    refine fg_X1_15 S K h dX1_feed_11 ?_
    refine lv_iload_n S.1 S.2.1 dX1_feed_14 rfl (lv_at hl 1 rfl) ?_
    refine lv_dup2_11 S.1 S.2.1 dX1_feed_15 rfl rfl ?_
    have k6 := And.left hok
    replace hok := And.right hok
    refine al_H11 S K h k6 dX1_feed_16 ?_
    refine lv_iconst (v := 5) S.1 S.2.1 dX1_feed_17 (by decide) ?_
    refine lv_iadd S.1 S.2.1 dX1_feed_18 ?_
    have k7 := And.left hok
    replace hok := And.right hok
    refine as_H11 S K h k7 dX1_feed_19 (fun H locs h => ?_)
    refine lv_aload_n S.1 S.2.1 dX1_feed_20 rfl (lv_at hl 0 rfl) ?_
    refine fg_X1_15 S K h dX1_feed_21 ?_
    refine lv_iload_n S.1 S.2.1 dX1_feed_24 rfl (lv_at hl 1 rfl) ?_
    have k8 := And.left hok
    replace hok := And.right hok
    refine al_H11 S K h k8 dX1_feed_25 ?_
    subst hR
    exact g_reti S hr hlocks h dX1_feed_26
def xr_X4_isThere (σ : GS) (r : Nat) : Int32 × GS := if (σ 14 r) = (-1) then (0, σ) else (1, σ)
def xo_X4_isThere (σ : GS) (r : Nat) : Prop := r < 7 ∧ (r < 7 ∧ (((σ 14 r) = (-1) → True) ∧ (¬ ((σ 14 r) = (-1)) → True)))
set_option maxRecDepth 100000 in
set_option maxHeartbeats 4000000 in
theorem c_X4_isThere (l : Launch) (D : va_G) (cy : CY) (q : Nat → Nat) (ex : va_W) (A : Nat → Prop) (σ : GS) (r : Nat) (hok : xo_X4_isThere σ r) : Met l yX4_isThere (wm yX4_isThere cX4_isThere 1 (some .boolean)) ({ frames := 0, cells := 0, slots := 0, locals := 0 } : Room) (PC D cy (wH cy q σ ++ ex) A [.ref (q (13 + r))]) (QI D (wH cy q (xr_X4_isThere σ r).2 ++ ex) A (xr_X4_isThere σ r).1) 0 0 A := by
  generalize hR : xr_X4_isThere σ r = R
  refine g_met (lv := [(0, .ref (q (13 + r)))]) (by decide) rfl (Nat.le_of_ble_eq_true rfl) rfl ?_
  intro p e s m below meth c ls S K h hr hlocks hl
  obtain ⟨hr_r, hok⟩ := hok
  refine lv_aload_n S.1 S.2.1 dX4_isThere_0 rfl (lv_at hl 0 rfl) ?_
  have k1 := And.left hok
  replace hok := And.right hok
  refine fg_X4_15 S K k1 h dX4_isThere_1 ?_
  refine lv_iconst (v := -1) S.1 S.2.1 dX4_isThere_4 (by decide) ?_
  refine lv_icmp_eq (tgt := 12) S.1 S.2.1 dX4_isThere_5 (by decide) (fun c => ?_) (fun c => ?_)
  · replace hok := And.left hok c
    replace hR := (if_pos c).symm.trans hR
    refine lv_iconst (v := 0) S.1 S.2.1 dX4_isThere_12 (by decide) ?_
    subst hR
    exact g_retz S hr hlocks h nar0 dX4_isThere_13
  · replace hok := And.right hok c
    replace hR := (if_neg c).symm.trans hR
    refine lv_iconst (v := 1) S.1 S.2.1 dX4_isThere_8 (by decide) ?_
    refine lv_goto (tgt := 13) S.1 S.2.1 dX4_isThere_9 (by decide) ?_
    subst hR
    exact g_retz S hr hlocks h nar1 dX4_isThere_13
def xr_X4_hasPlace (σ : GS) (r : Nat) (a1 : Int32) : Int32 × GS := if a1 < (0 : Int32) then (0, σ) else if (σ 14 r) ≤ a1 then (0, σ) else (1, σ)
def xo_X4_hasPlace (σ : GS) (r : Nat) (a1 : Int32) : Prop := r < 7 ∧ ((a1 < (0 : Int32) → True) ∧ (¬ (a1 < (0 : Int32)) → r < 7 ∧ (((σ 14 r) ≤ a1 → True) ∧ (¬ ((σ 14 r) ≤ a1) → True))))
set_option maxRecDepth 100000 in
set_option maxHeartbeats 4000000 in
theorem c_X4_hasPlace (l : Launch) (D : va_G) (cy : CY) (q : Nat → Nat) (ex : va_W) (A : Nat → Prop) (σ : GS) (r : Nat) (a1 : Int32) (hok : xo_X4_hasPlace σ r a1) : Met l yX4_hasPlace (wm yX4_hasPlace cX4_hasPlace 2 (some .boolean)) ({ frames := 0, cells := 0, slots := 0, locals := 0 } : Room) (PC D cy (wH cy q σ ++ ex) A [.ref (q (13 + r)), .int a1]) (QI D (wH cy q (xr_X4_hasPlace σ r a1).2 ++ ex) A (xr_X4_hasPlace σ r a1).1) 0 0 A := by
  generalize hR : xr_X4_hasPlace σ r a1 = R
  refine g_met (lv := [(0, .ref (q (13 + r))), (1, .int a1)]) (by decide) rfl (Nat.le_of_ble_eq_true rfl) rfl ?_
  intro p e s m below meth c ls S K h hr hlocks hl
  obtain ⟨hr_r, hok⟩ := hok
  refine lv_iconst (v := 0) S.1 S.2.1 dX4_hasPlace_0 (by decide) ?_
  refine lv_iload_n S.1 S.2.1 dX4_hasPlace_1 rfl (lv_at hl 1 rfl) ?_
  refine lv_icmp_gt (tgt := 17) S.1 S.2.1 dX4_hasPlace_2 (by decide) (fun c => ?_) (fun c => ?_)
  · replace hok := And.left hok c
    replace hR := (if_pos c).symm.trans hR
    refine lv_iconst (v := 0) S.1 S.2.1 dX4_hasPlace_17 (by decide) ?_
    subst hR
    exact g_retz S hr hlocks h nar0 dX4_hasPlace_18
  · replace hok := And.right hok c
    replace hR := (if_neg c).symm.trans hR
    refine lv_iload_n S.1 S.2.1 dX4_hasPlace_5 rfl (lv_at hl 1 rfl) ?_
    refine lv_aload_n S.1 S.2.1 dX4_hasPlace_6 rfl (lv_at hl 0 rfl) ?_
    have k1 := And.left hok
    replace hok := And.right hok
    refine fg_X4_15 S K k1 h dX4_hasPlace_7 ?_
    refine lv_icmp_ge (tgt := 17) S.1 S.2.1 dX4_hasPlace_10 (by decide) (fun c => ?_) (fun c => ?_)
    · replace hok := And.left hok c
      replace hR := (if_pos c).symm.trans hR
      refine lv_iconst (v := 0) S.1 S.2.1 dX4_hasPlace_17 (by decide) ?_
      subst hR
      exact g_retz S hr hlocks h nar0 dX4_hasPlace_18
    · replace hok := And.right hok c
      replace hR := (if_neg c).symm.trans hR
      refine lv_iconst (v := 1) S.1 S.2.1 dX4_hasPlace_13 (by decide) ?_
      refine lv_goto (tgt := 18) S.1 S.2.1 dX4_hasPlace_14 (by decide) ?_
      subst hR
      exact g_retz S hr hlocks h nar1 dX4_hasPlace_18
def xr_X4_remove (σ : GS) (r : Nat) : Int32 × GS := (0, st (st σ 13 r (-1)) 14 r (-1))
def xo_X4_remove (σ : GS) (r : Nat) : Prop := r < 7 ∧ (r < 7 ∧ (r < 7 ∧ (True)))
set_option maxRecDepth 100000 in
set_option maxHeartbeats 4000000 in
theorem c_X4_remove (l : Launch) (D : va_G) (cy : CY) (q : Nat → Nat) (ex : va_W) (A : Nat → Prop) (σ : GS) (r : Nat) (hok : xo_X4_remove σ r) : Met l yX4_remove (wm yX4_remove cX4_remove 1 none) ({ frames := 0, cells := 0, slots := 0, locals := 0 } : Room) (PC D cy (wH cy q σ ++ ex) A [.ref (q (13 + r))]) (QV D (wH cy q (xr_X4_remove σ r).2 ++ ex) A) 0 0 A := by
  generalize hR : xr_X4_remove σ r = R
  refine g_met (lv := [(0, .ref (q (13 + r)))]) (by decide) rfl (Nat.le_of_ble_eq_true rfl) rfl ?_
  intro p e s m below meth c ls S K h hr hlocks hl
  obtain ⟨hr_r, hok⟩ := hok
  refine lv_aload_n S.1 S.2.1 dX4_remove_0 rfl (lv_at hl 0 rfl) ?_
  refine lv_iconst (v := -1) S.1 S.2.1 dX4_remove_1 (by decide) ?_
  have k1 := And.left hok
  replace hok := And.right hok
  refine fp_X4_9 S K k1 h dX4_remove_2 (fun H locs h => ?_)
  refine lv_aload_n S.1 S.2.1 dX4_remove_5 rfl (lv_at hl 0 rfl) ?_
  refine lv_iconst (v := -1) S.1 S.2.1 dX4_remove_6 (by decide) ?_
  have k2 := And.left hok
  replace hok := And.right hok
  refine fp_X4_15 S K k2 h dX4_remove_7 (fun H locs h => ?_)
  subst hR
  exact g_retv S hr hlocks h dX4_remove_10
def xr_X4_placeFailure (σ : GS) (r : Nat) (a1 : Int32) : Int32 × GS := bd (xr_X4_isThere σ r) (fun v1 σ3 => if v1 = 0 then (1, σ3) else bd (xr_X4_hasPlace σ3 r a1) (fun v4 σ6 => if v4 = 0 then (3, σ6) else (0, σ6)))
def xo_X4_placeFailure (σ : GS) (r : Nat) (a1 : Int32) : Prop := r < 7 ∧ ((xo_X4_isThere σ r) ∧ bd (xr_X4_isThere σ r) (fun v1 σ3 => (v1 = 0 → True) ∧ (¬ (v1 = 0) → (xo_X4_hasPlace σ3 r a1) ∧ bd (xr_X4_hasPlace σ3 r a1) (fun v4 σ6 => (v4 = 0 → True) ∧ (¬ (v4 = 0) → True)))))
set_option maxRecDepth 100000 in
set_option maxHeartbeats 4000000 in
theorem c_X4_placeFailure (l : Launch) (D : va_G) (cy : CY) (q : Nat → Nat) (ex : va_W) (A : Nat → Prop) (σ : GS) (r : Nat) (a1 : Int32) (hok : xo_X4_placeFailure σ r a1) : Met l yX4_placeFailure (wm yX4_placeFailure cX4_placeFailure 2 (some .int)) ({ frames := 1, cells := 0, slots := 0, locals := 21 } : Room) (PC D cy (wH cy q σ ++ ex) A [.ref (q (13 + r)), .int a1]) (QI D (wH cy q (xr_X4_placeFailure σ r a1).2 ++ ex) A (xr_X4_placeFailure σ r a1).1) 0 0 A := by
  generalize hR : xr_X4_placeFailure σ r a1 = R
  refine g_met (lv := [(0, .ref (q (13 + r))), (1, .int a1)]) (by decide) rfl (Nat.le_of_ble_eq_true rfl) rfl ?_
  intro p e s m below meth c ls S K h hr hlocks hl
  obtain ⟨hr_r, hok⟩ := hok
  refine lv_aload_n S.1 S.2.1 dX4_placeFailure_0 rfl (lv_at hl 0 rfl) ?_
  have k2 := And.left hok
  replace hok := And.right hok
  refine g_calli (ci := 4) S wz_cons K h (c_X4_isThere l D cy q _ A _ _ k2) kc_X4_isThere km_X4_26 ki_X4_isThere ks_X4_isThere kn_X4 yd_X4_isThere ⟨⟨Nat.le_of_ble_eq_true rfl, Nat.le_of_ble_eq_true rfl⟩, rfl, rfl, Nat.zero_le _, Nat.zero_le _⟩ rfl (row_at cy q _ _ (And.left k2)) rfl hl.1 (Nat.le_of_ble_eq_true rfl) rfl dX4_placeFailure_1 (fun H locs h => ?_)
  refine lv_if_ne (tgt := 9) S.1 S.2.1 dX4_placeFailure_4 (by decide) (fun c => ?_) (fun c => ?_)
  · replace hok := And.right hok c
    replace hR := (if_neg c).symm.trans hR
    refine lv_aload_n S.1 S.2.1 dX4_placeFailure_9 rfl (lv_at hl 0 rfl) ?_
    refine lv_iload_n S.1 S.2.1 dX4_placeFailure_10 rfl (lv_at hl 1 rfl) ?_
    have k5 := And.left hok
    replace hok := And.right hok
    refine g_calli (ci := 4) S wz_cons K h (c_X4_hasPlace l D cy q _ A _ _ _ k5) kc_X4_hasPlace km_X4_30 ki_X4_hasPlace ks_X4_hasPlace kn_X4 yd_X4_hasPlace ⟨⟨Nat.le_of_ble_eq_true rfl, Nat.le_of_ble_eq_true rfl⟩, rfl, rfl, Nat.zero_le _, Nat.zero_le _⟩ rfl (row_at cy q _ _ (And.left k5)) rfl hl.1 (Nat.le_of_ble_eq_true rfl) rfl dX4_placeFailure_11 (fun H locs h => ?_)
    refine lv_if_eq (tgt := 21) S.1 S.2.1 dX4_placeFailure_14 (by decide) (fun c => ?_) (fun c => ?_)
    · replace hok := And.left hok c
      replace hR := (if_pos c).symm.trans hR
      refine lv_iconst (v := 3) S.1 S.2.1 dX4_placeFailure_21 (by decide) ?_
      subst hR
      exact g_reti S hr hlocks h dX4_placeFailure_22
    · replace hok := And.right hok c
      replace hR := (if_neg c).symm.trans hR
      refine lv_iconst (v := 0) S.1 S.2.1 dX4_placeFailure_17 (by decide) ?_
      refine lv_goto (tgt := 22) S.1 S.2.1 dX4_placeFailure_18 (by decide) ?_
      subst hR
      exact g_reti S hr hlocks h dX4_placeFailure_22
  · replace hok := And.left hok c
    replace hR := (if_pos c).symm.trans hR
    refine lv_iconst (v := 1) S.1 S.2.1 dX4_placeFailure_7 (by decide) ?_
    subst hR
    exact g_reti S hr hlocks h dX4_placeFailure_8
def xl_X4_renew_24 (r : Nat) : Nat → GS → Int32 → Int32 → Int32 → Int32 → Int32 → Int32 × GS
  | 0, σ, _, _, _, _, _ => (0, σ)
  | n + 1, σ, x1, x2, x3, x4, x5 => if (8 : Int32) ≤ x5 then (x4, σ) else xl_X4_renew_24 r n (st σ (20 + r) x5.toNatClampNeg x3) x1 x2 x3 x4 (x5 + 1)
def xlo_X4_renew_24 (r : Nat) : Nat → GS → Int32 → Int32 → Int32 → Int32 → Int32 → Prop
  | 0, _, _, _, _, _, _ => False
  | n + 1, σ, x1, x2, x3, x4, x5 => ((8 : Int32) ≤ x5 → True) ∧ (¬ ((8 : Int32) ≤ x5) → r < 7 ∧ (r < 7 ∧ (vp_in x5 8 ∧ (xlo_X4_renew_24 r n (st σ (20 + r) x5.toNatClampNeg x3) x1 x2 x3 x4 (x5 + 1)))))
set_option maxRecDepth 100000 in
set_option maxHeartbeats 4000000 in
theorem w_X4_renew_24 {p : Program} {l : Launch} {e : Env} {s : State} {m : MethodId} {args : Array Value} {below : List Frame} {meth : Method} {c : Code} {D : va_G} {cy : CY} {q : Nat → Nat} {ex : va_W} {A : Nat → Prop} (r : Nat) (S : CallFix p m c cX4_renew 6 s args (wm yX4_renew cX4_renew 6 (some .int)) RX4) (K : KK D cy s) (hr : meth.sig.returnType = (some .int)) (hlocks : meth.locks = false) :
    ∀ (n : Nat) (σ : GS) (x1 : Int32) (x2 : Int32) (x3 : Int32) (x4 : Int32) (x5 : Int32) (H : Heap) (locs : List Loc) (ls : Array Slot) (R : Int32 × GS), xlo_X4_renew_24 r n σ x1 x2 x3 x4 x5 → xl_X4_renew_24 r n σ x1 x2 x3 x4 x5 = R → WH D A s.heap H locs (wH cy q σ ++ ex) → lv_has ls 6 [(0, .ref (q (13 + r))), (1, .int x1), (2, .int x2), (3, .int x3), (4, .int x4), (5, .int x5)] → W p l e ({ frames := 1, cells := 0, slots := 0, locals := 20 } : Room) s m args below meth c H locs 0 0 (MQ below (QI D (wH cy q R.2 ++ ex) A R.1) args s 0 0 A) (F0 m 24 ls []) := by
  intro n
  induction n with
  | zero =>
    intro σ x1 x2 x3 x4 x5 H locs ls R hok
    exact False.elim hok
  | succ n ih =>
    intro σ x1 x2 x3 x4 x5 H locs ls R hok hR h hl
    refine lv_iload S.1 S.2.1 dX4_renew_24 (lv_at hl 5 rfl) ?_
    refine lv_bipush (v := 8) S.1 S.2.1 dX4_renew_26 (by decide) ?_
    refine lv_icmp_ge (tgt := 45) S.1 S.2.1 dX4_renew_28 (by decide) (fun c => ?_) (fun c => ?_)
    · replace hok := And.left hok c
      replace hR := (if_pos c).symm.trans hR
      refine lv_iload S.1 S.2.1 dX4_renew_45 (lv_at hl 4 rfl) ?_
      subst hR
      exact g_reti S hr hlocks h dX4_renew_47
    · replace hok := And.right hok c
      replace hR := (if_neg c).symm.trans hR
      refine lv_aload_n S.1 S.2.1 dX4_renew_31 rfl (lv_at hl 0 rfl) ?_
      have k6 := And.left hok
      replace hok := And.right hok
      refine fg_X4_18 S K k6 h dX4_renew_32 ?_
      refine lv_iload S.1 S.2.1 dX4_renew_35 (lv_at hl 5 rfl) ?_
      refine lv_iload_n S.1 S.2.1 dX4_renew_37 rfl (lv_at hl 3 rfl) ?_
      have k7 := And.left hok
      replace hok := And.right hok
      have k8 := And.left hok
      replace hok := And.right hok
      refine as_cells S K k7 h k8 dX4_renew_38 (fun H locs h => ?_)
      refine lv_iinc (v := _ + 1) (lv' := [(5, .int _), (0, .ref _), (1, .int _), (2, .int _), (3, .int _), (4, .int _)]) S.1 S.2.1 dX4_renew_39 hl (k := 5) rfl rfl (by decide) rfl (fun ls hl => ?_)
      refine lv_goto (tgt := 24) S.1 S.2.1 dX4_renew_42 (by decide) ?_
      exact ih _ _ _ _ _ _ _ _ _ R hok hR h (lv_sub hl [1, 2, 3, 4, 5, 0] rfl)
def xr_X4_renew (σ : GS) (r : Nat) (a1 : Int32) (a2 : Int32) (a3 : Int32) : Int32 × GS := if (xr_X5_sizeFailure a2) = 0 then xl_X4_renew_24 r 100 (st (st σ 13 r a1) 14 r a2) a1 a2 a3 (xr_X5_sizeFailure a2) 0 else (xr_X5_sizeFailure a2, σ)
def xo_X4_renew (σ : GS) (r : Nat) (a1 : Int32) (a2 : Int32) (a3 : Int32) : Prop := r < 7 ∧ ((xo_X5_sizeFailure a2) ∧ (((xr_X5_sizeFailure a2) = 0 → r < 7 ∧ (r < 7 ∧ (xlo_X4_renew_24 r 100 (st (st σ 13 r a1) 14 r a2) a1 a2 a3 (xr_X5_sizeFailure a2) 0))) ∧ (¬ ((xr_X5_sizeFailure a2) = 0) → True)))
set_option maxRecDepth 100000 in
set_option maxHeartbeats 4000000 in
theorem c_X4_renew (l : Launch) (D : va_G) (cy : CY) (q : Nat → Nat) (ex : va_W) (A : Nat → Prop) (σ : GS) (r : Nat) (a1 : Int32) (a2 : Int32) (a3 : Int32) (hok : xo_X4_renew σ r a1 a2 a3) : Met l yX4_renew (wm yX4_renew cX4_renew 6 (some .int)) ({ frames := 1, cells := 0, slots := 0, locals := 20 } : Room) (PC D cy (wH cy q σ ++ ex) A [.ref (q (13 + r)), .int a1, .int a2, .int a3]) (QI D (wH cy q (xr_X4_renew σ r a1 a2 a3).2 ++ ex) A (xr_X4_renew σ r a1 a2 a3).1) 0 0 A := by
  generalize hR : xr_X4_renew σ r a1 a2 a3 = R
  refine g_met (lv := [(0, .ref (q (13 + r))), (1, .int a1), (2, .int a2), (3, .int a3)]) (by decide) rfl (Nat.le_of_ble_eq_true rfl) rfl ?_
  intro p e s m below meth c ls S K h hr hlocks hl
  obtain ⟨hr_r, hok⟩ := hok
  refine lv_iload_n S.1 S.2.1 dX4_renew_0 rfl (lv_at hl 2 rfl) ?_
  have k2 := And.left hok
  replace hok := And.right hok
  refine g_callsN S wz_cons K.2 (c_X5_sizeFailure l _ k2) kc_X5_sizeFailure nn_X4_22 kt_X5_sizeFailure kn_X5 yd_X5_sizeFailure.2 ⟨⟨Nat.le_of_ble_eq_true rfl, Nat.le_of_ble_eq_true rfl⟩, rfl, rfl, Nat.zero_le _, Nat.zero_le _⟩ rfl hl.1 (Nat.le_of_ble_eq_true rfl) rfl dX4_renew_1 ?_
  refine lv_istore (lv' := [(4, .int _), (0, .ref _), (1, .int _), (2, .int _), (3, .int _)]) S.1 S.2.1 dX4_renew_4 hl (by decide) rfl (fun ls hl => ?_)
  refine lv_iload S.1 S.2.1 dX4_renew_6 (lv_at hl 0 rfl) ?_
  refine lv_if_ne (tgt := 45) S.1 S.2.1 dX4_renew_8 (by decide) (fun c => ?_) (fun c => ?_)
  · replace hok := And.right hok c
    replace hR := (if_neg c).symm.trans hR
    refine lv_iload S.1 S.2.1 dX4_renew_45 (lv_at hl 0 rfl) ?_
    subst hR
    exact g_reti S hr hlocks h dX4_renew_47
  · replace hok := And.left hok c
    replace hR := (if_pos c).symm.trans hR
    refine lv_aload_n S.1 S.2.1 dX4_renew_11 rfl (lv_at hl 1 rfl) ?_
    refine lv_iload_n S.1 S.2.1 dX4_renew_12 rfl (lv_at hl 2 rfl) ?_
    have k4 := And.left hok
    replace hok := And.right hok
    refine fp_X4_9 S K k4 h dX4_renew_13 (fun H locs h => ?_)
    refine lv_aload_n S.1 S.2.1 dX4_renew_16 rfl (lv_at hl 1 rfl) ?_
    refine lv_iload_n S.1 S.2.1 dX4_renew_17 rfl (lv_at hl 3 rfl) ?_
    have k5 := And.left hok
    replace hok := And.right hok
    refine fp_X4_15 S K k5 h dX4_renew_18 (fun H locs h => ?_)
    refine lv_iconst (v := 0) S.1 S.2.1 dX4_renew_21 (by decide) ?_
    refine lv_istore (lv' := [(5, .int _), (4, .int _), (0, .ref _), (1, .int _), (2, .int _), (3, .int _)]) S.1 S.2.1 dX4_renew_22 hl (by decide) rfl (fun ls hl => ?_)
    exact w_X4_renew_24 r S K hr hlocks 100 _ _ _ _ _ _ _ _ _ R hok hR h (lv_sub hl [2, 3, 4, 5, 1, 0] rfl)
