def xr_X2_isGood (a1 : Int32) (a2 : Int32) : Int32 := if a2 = 0 then 1 else if (xr_X5_isBelow a1 a2) = 0 then 0 else 1
def xo_X2_isGood (a1 : Int32) (a2 : Int32) : Prop := (a2 = 0 → True) ∧ (¬ (a2 = 0) → (xo_X5_isBelow a1 a2) ∧ (((xr_X5_isBelow a1 a2) = 0 → True) ∧ (¬ ((xr_X5_isBelow a1 a2) = 0) → True)))
set_option maxRecDepth 100000 in
set_option maxHeartbeats 4000000 in
theorem c_X2_isGood (l : Launch) (a1 : Int32) (a2 : Int32) (hok : xo_X2_isGood a1 a2) : Met l yX2_isGood (wm yX2_isGood cX2_isGood 2 (some .boolean)) ({ frames := 1, cells := 0, slots := 0, locals := 21 } : Room) (PS [.int a1, .int a2]) (QS (xr_X2_isGood a1 a2)) 0 0 (fun _ => False) := by
  generalize hR : xr_X2_isGood a1 a2 = R
  refine g_mets (lv := [(0, .int a1), (1, .int a2)]) (by decide) rfl (Nat.le_of_ble_eq_true rfl) rfl ?_
  intro p e s m below meth c ls S N hr hlocks hl
  refine lv_iload_n S.1 S.2.1 dX2_isGood_0 rfl (lv_at hl 1 rfl) ?_
  refine lv_if_eq (tgt := 12) S.1 S.2.1 dX2_isGood_1 (by decide) (fun c => ?_) (fun c => ?_)
  · replace hok := And.left hok c
    replace hR := (if_pos c).symm.trans hR
    refine lv_iconst (v := 1) S.1 S.2.1 dX2_isGood_12 (by decide) ?_
    refine lv_goto (tgt := 17) S.1 S.2.1 dX2_isGood_13 (by decide) ?_
    subst hR
    exact g_sretz S hr hlocks nar1 dX2_isGood_17
  · replace hok := And.right hok c
    replace hR := (if_neg c).symm.trans hR
    refine lv_iload_n S.1 S.2.1 dX2_isGood_4 rfl (lv_at hl 0 rfl) ?_
    refine lv_iload_n S.1 S.2.1 dX2_isGood_5 rfl (lv_at hl 1 rfl) ?_
    have k2 := And.left hok
    replace hok := And.right hok
    refine g_callsN S wz_cons N (c_X5_isBelow l _ _ k2) kc_X5_isBelow nn_X2_43 kt_X5_isBelow kn_X5 yd_X5_isBelow.2 ⟨⟨Nat.le_of_ble_eq_true rfl, Nat.le_of_ble_eq_true rfl⟩, rfl, rfl, Nat.zero_le _, Nat.zero_le _⟩ rfl hl.1 (Nat.le_of_ble_eq_true rfl) rfl dX2_isGood_6 ?_
    refine lv_if_eq (tgt := 16) S.1 S.2.1 dX2_isGood_9 (by decide) (fun c => ?_) (fun c => ?_)
    · replace hok := And.left hok c
      replace hR := (if_pos c).symm.trans hR
      refine lv_iconst (v := 0) S.1 S.2.1 dX2_isGood_16 (by decide) ?_
      subst hR
      exact g_sretz S hr hlocks nar0 dX2_isGood_17
    · replace hok := And.right hok c
      replace hR := (if_neg c).symm.trans hR
      refine lv_iconst (v := 1) S.1 S.2.1 dX2_isGood_12 (by decide) ?_
      refine lv_goto (tgt := 17) S.1 S.2.1 dX2_isGood_13 (by decide) ?_
      subst hR
      exact g_sretz S hr hlocks nar1 dX2_isGood_17
def xr_X2_addAct (σ : GS) (ρ : GS) (a1 : Int32) (a2 : Int32) (a3 : Int32) (a4 : Int32) : Int32 × GS × GS := if (ρ 28 0) < 40 then ((st (st (st (st ρ 29 (ρ 28 0).toNatClampNeg a1) 30 ((st ρ 29 (ρ 28 0).toNatClampNeg a1) 28 0).toNatClampNeg a2) 31 ((st (st ρ 29 (ρ 28 0).toNatClampNeg a1) 30 ((st ρ 29 (ρ 28 0).toNatClampNeg a1) 28 0).toNatClampNeg a2) 28 0).toNatClampNeg a3) 32 ((st (st (st ρ 29 (ρ 28 0).toNatClampNeg a1) 30 ((st ρ 29 (ρ 28 0).toNatClampNeg a1) 28 0).toNatClampNeg a2) 31 ((st (st ρ 29 (ρ 28 0).toNatClampNeg a1) 30 ((st ρ 29 (ρ 28 0).toNatClampNeg a1) 28 0).toNatClampNeg a2) 28 0).toNatClampNeg a3) 28 0).toNatClampNeg a4) 28 0, σ, st (st (st (st (st ρ 29 (ρ 28 0).toNatClampNeg a1) 30 ((st ρ 29 (ρ 28 0).toNatClampNeg a1) 28 0).toNatClampNeg a2) 31 ((st (st ρ 29 (ρ 28 0).toNatClampNeg a1) 30 ((st ρ 29 (ρ 28 0).toNatClampNeg a1) 28 0).toNatClampNeg a2) 28 0).toNatClampNeg a3) 32 ((st (st (st ρ 29 (ρ 28 0).toNatClampNeg a1) 30 ((st ρ 29 (ρ 28 0).toNatClampNeg a1) 28 0).toNatClampNeg a2) 31 ((st (st ρ 29 (ρ 28 0).toNatClampNeg a1) 30 ((st ρ 29 (ρ 28 0).toNatClampNeg a1) 28 0).toNatClampNeg a2) 28 0).toNatClampNeg a3) 28 0).toNatClampNeg a4) 28 0 (((st (st (st (st ρ 29 (ρ 28 0).toNatClampNeg a1) 30 ((st ρ 29 (ρ 28 0).toNatClampNeg a1) 28 0).toNatClampNeg a2) 31 ((st (st ρ 29 (ρ 28 0).toNatClampNeg a1) 30 ((st ρ 29 (ρ 28 0).toNatClampNeg a1) 28 0).toNatClampNeg a2) 28 0).toNatClampNeg a3) 32 ((st (st (st ρ 29 (ρ 28 0).toNatClampNeg a1) 30 ((st ρ 29 (ρ 28 0).toNatClampNeg a1) 28 0).toNatClampNeg a2) 31 ((st (st ρ 29 (ρ 28 0).toNatClampNeg a1) 30 ((st ρ 29 (ρ 28 0).toNatClampNeg a1) 28 0).toNatClampNeg a2) 28 0).toNatClampNeg a3) 28 0).toNatClampNeg a4) 28 0) + 1)) else (-102, σ, ρ)
def xo_X2_addAct (σ : GS) (ρ : GS) (a1 : Int32) (a2 : Int32) (a3 : Int32) (a4 : Int32) : Prop := ((ρ 28 0) < 40 → vp_in (ρ 28 0) 40 ∧ (vp_in ((st ρ 29 (ρ 28 0).toNatClampNeg a1) 28 0) 40 ∧ (vp_in ((st (st ρ 29 (ρ 28 0).toNatClampNeg a1) 30 ((st ρ 29 (ρ 28 0).toNatClampNeg a1) 28 0).toNatClampNeg a2) 28 0) 40 ∧ (vp_in ((st (st (st ρ 29 (ρ 28 0).toNatClampNeg a1) 30 ((st ρ 29 (ρ 28 0).toNatClampNeg a1) 28 0).toNatClampNeg a2) 31 ((st (st ρ 29 (ρ 28 0).toNatClampNeg a1) 30 ((st ρ 29 (ρ 28 0).toNatClampNeg a1) 28 0).toNatClampNeg a2) 28 0).toNatClampNeg a3) 28 0) 40 ∧ (True))))) ∧ (¬ ((ρ 28 0) < 40) → True)
set_option maxRecDepth 100000 in
set_option maxHeartbeats 4000000 in
theorem c_X2_addAct (l : Launch) (D : va_G) (cy : CY) (q : Nat → Nat) (ex : va_W) (A : Nat → Prop) (σ : GS) (ρ : GS) (a1 : Int32) (a2 : Int32) (a3 : Int32) (a4 : Int32) (hok : xo_X2_addAct σ ρ a1 a2 a3 a4) : Met l yX2_addAct (wm yX2_addAct cX2_addAct 5 (some .int)) ({ frames := 0, cells := 0, slots := 0, locals := 0 } : Room) (PC D cy (wH cy q σ ++ (wE cy q ρ ++ ex)) A [.ref (q 28), .int a1, .int a2, .int a3, .int a4]) (QI D (wH cy q (xr_X2_addAct σ ρ a1 a2 a3 a4).2.1 ++ (wE cy q (xr_X2_addAct σ ρ a1 a2 a3 a4).2.2 ++ ex)) A (xr_X2_addAct σ ρ a1 a2 a3 a4).1) 0 0 A := by
  generalize hR : xr_X2_addAct σ ρ a1 a2 a3 a4 = R
  refine g_met (lv := [(0, .ref (q 28)), (1, .int a1), (2, .int a2), (3, .int a3), (4, .int a4)]) (by decide) rfl (Nat.le_of_ble_eq_true rfl) rfl ?_
  intro p e s m below meth c ls S K h hr hlocks hl
  refine lv_aload_n S.1 S.2.1 dX2_addAct_0 rfl (lv_at hl 0 rfl) ?_
  refine fg_X2_24 S K h dX2_addAct_1 ?_
  refine lv_bipush (v := 40) S.1 S.2.1 dX2_addAct_4 (by decide) ?_
  refine lv_icmp_lt (tgt := 12) S.1 S.2.1 dX2_addAct_6 (by decide) (fun c => ?_) (fun c => ?_)
  · replace hok := And.left hok c
    replace hR := (if_pos c).symm.trans hR
    refine lv_aload_n S.1 S.2.1 dX2_addAct_12 rfl (lv_at hl 0 rfl) ?_
    refine fg_X2_9 S K h dX2_addAct_13 ?_
    refine lv_aload_n S.1 S.2.1 dX2_addAct_16 rfl (lv_at hl 0 rfl) ?_
    refine fg_X2_24 S K h dX2_addAct_17 ?_
    refine lv_iload_n S.1 S.2.1 dX2_addAct_20 rfl (lv_at hl 1 rfl) ?_
    have k1 := And.left hok
    replace hok := And.right hok
    refine as_E29 S K h k1 dX2_addAct_21 (fun H locs h => ?_)
    refine lv_aload_n S.1 S.2.1 dX2_addAct_22 rfl (lv_at hl 0 rfl) ?_
    refine fg_X2_15 S K h dX2_addAct_23 ?_
    refine lv_aload_n S.1 S.2.1 dX2_addAct_26 rfl (lv_at hl 0 rfl) ?_
    refine fg_X2_24 S K h dX2_addAct_27 ?_
    refine lv_iload_n S.1 S.2.1 dX2_addAct_30 rfl (lv_at hl 2 rfl) ?_
    have k2 := And.left hok
    replace hok := And.right hok
    refine as_E30 S K h k2 dX2_addAct_31 (fun H locs h => ?_)
    refine lv_aload_n S.1 S.2.1 dX2_addAct_32 rfl (lv_at hl 0 rfl) ?_
    refine fg_X2_18 S K h dX2_addAct_33 ?_
    refine lv_aload_n S.1 S.2.1 dX2_addAct_36 rfl (lv_at hl 0 rfl) ?_
    refine fg_X2_24 S K h dX2_addAct_37 ?_
    refine lv_iload_n S.1 S.2.1 dX2_addAct_40 rfl (lv_at hl 3 rfl) ?_
    have k3 := And.left hok
    replace hok := And.right hok
    refine as_E31 S K h k3 dX2_addAct_41 (fun H locs h => ?_)
    refine lv_aload_n S.1 S.2.1 dX2_addAct_42 rfl (lv_at hl 0 rfl) ?_
    refine fg_X2_21 S K h dX2_addAct_43 ?_
    refine lv_aload_n S.1 S.2.1 dX2_addAct_46 rfl (lv_at hl 0 rfl) ?_
    refine fg_X2_24 S K h dX2_addAct_47 ?_
    refine lv_iload S.1 S.2.1 dX2_addAct_50 (lv_at hl 4 rfl) ?_
    have k4 := And.left hok
    replace hok := And.right hok
    refine as_E32 S K h k4 dX2_addAct_52 (fun H locs h => ?_)
    refine lv_aload_n S.1 S.2.1 dX2_addAct_53 rfl (lv_at hl 0 rfl) ?_
    refine lv_dup S.1 S.2.1 dX2_addAct_54 rfl ?_
    refine fg_X2_24 S K h dX2_addAct_55 ?_
    refine lv_dup_x1 S.1 S.2.1 dX2_addAct_58 rfl rfl ?_
    refine lv_iconst (v := 1) S.1 S.2.1 dX2_addAct_59 (by decide) ?_
    refine lv_iadd S.1 S.2.1 dX2_addAct_60 ?_
    refine fp_X2_24 S K h dX2_addAct_61 (fun H locs h => ?_)
    subst hR
    exact g_reti S hr hlocks h dX2_addAct_64
  · replace hok := And.right hok c
    replace hR := (if_neg c).symm.trans hR
    refine lv_bipush (v := -102) S.1 S.2.1 dX2_addAct_9 (by decide) ?_
    subst hR
    exact g_reti S hr hlocks h dX2_addAct_11
def xr_X2_addGuard (σ : GS) (ρ : GS) (a1 : Int32) (a2 : Int32) (a3 : Int32) (a4 : Int32) : Int32 × GS × GS := if (ρ 28 1) < 5 then ((st (st (st (st ρ 33 (ρ 28 1).toNatClampNeg a1) 34 ((st ρ 33 (ρ 28 1).toNatClampNeg a1) 28 1).toNatClampNeg a2) 35 ((st (st ρ 33 (ρ 28 1).toNatClampNeg a1) 34 ((st ρ 33 (ρ 28 1).toNatClampNeg a1) 28 1).toNatClampNeg a2) 28 1).toNatClampNeg a3) 36 ((st (st (st ρ 33 (ρ 28 1).toNatClampNeg a1) 34 ((st ρ 33 (ρ 28 1).toNatClampNeg a1) 28 1).toNatClampNeg a2) 35 ((st (st ρ 33 (ρ 28 1).toNatClampNeg a1) 34 ((st ρ 33 (ρ 28 1).toNatClampNeg a1) 28 1).toNatClampNeg a2) 28 1).toNatClampNeg a3) 28 1).toNatClampNeg a4) 28 1, σ, st (st (st (st (st ρ 33 (ρ 28 1).toNatClampNeg a1) 34 ((st ρ 33 (ρ 28 1).toNatClampNeg a1) 28 1).toNatClampNeg a2) 35 ((st (st ρ 33 (ρ 28 1).toNatClampNeg a1) 34 ((st ρ 33 (ρ 28 1).toNatClampNeg a1) 28 1).toNatClampNeg a2) 28 1).toNatClampNeg a3) 36 ((st (st (st ρ 33 (ρ 28 1).toNatClampNeg a1) 34 ((st ρ 33 (ρ 28 1).toNatClampNeg a1) 28 1).toNatClampNeg a2) 35 ((st (st ρ 33 (ρ 28 1).toNatClampNeg a1) 34 ((st ρ 33 (ρ 28 1).toNatClampNeg a1) 28 1).toNatClampNeg a2) 28 1).toNatClampNeg a3) 28 1).toNatClampNeg a4) 28 1 (((st (st (st (st ρ 33 (ρ 28 1).toNatClampNeg a1) 34 ((st ρ 33 (ρ 28 1).toNatClampNeg a1) 28 1).toNatClampNeg a2) 35 ((st (st ρ 33 (ρ 28 1).toNatClampNeg a1) 34 ((st ρ 33 (ρ 28 1).toNatClampNeg a1) 28 1).toNatClampNeg a2) 28 1).toNatClampNeg a3) 36 ((st (st (st ρ 33 (ρ 28 1).toNatClampNeg a1) 34 ((st ρ 33 (ρ 28 1).toNatClampNeg a1) 28 1).toNatClampNeg a2) 35 ((st (st ρ 33 (ρ 28 1).toNatClampNeg a1) 34 ((st ρ 33 (ρ 28 1).toNatClampNeg a1) 28 1).toNatClampNeg a2) 28 1).toNatClampNeg a3) 28 1).toNatClampNeg a4) 28 1) + 1)) else (-102, σ, ρ)
def xo_X2_addGuard (σ : GS) (ρ : GS) (a1 : Int32) (a2 : Int32) (a3 : Int32) (a4 : Int32) : Prop := ((ρ 28 1) < 5 → vp_in (ρ 28 1) 5 ∧ (vp_in ((st ρ 33 (ρ 28 1).toNatClampNeg a1) 28 1) 5 ∧ (vp_in ((st (st ρ 33 (ρ 28 1).toNatClampNeg a1) 34 ((st ρ 33 (ρ 28 1).toNatClampNeg a1) 28 1).toNatClampNeg a2) 28 1) 5 ∧ (vp_in ((st (st (st ρ 33 (ρ 28 1).toNatClampNeg a1) 34 ((st ρ 33 (ρ 28 1).toNatClampNeg a1) 28 1).toNatClampNeg a2) 35 ((st (st ρ 33 (ρ 28 1).toNatClampNeg a1) 34 ((st ρ 33 (ρ 28 1).toNatClampNeg a1) 28 1).toNatClampNeg a2) 28 1).toNatClampNeg a3) 28 1) 5 ∧ (True))))) ∧ (¬ ((ρ 28 1) < 5) → True)
set_option maxRecDepth 100000 in
set_option maxHeartbeats 4000000 in
theorem c_X2_addGuard (l : Launch) (D : va_G) (cy : CY) (q : Nat → Nat) (ex : va_W) (A : Nat → Prop) (σ : GS) (ρ : GS) (a1 : Int32) (a2 : Int32) (a3 : Int32) (a4 : Int32) (hok : xo_X2_addGuard σ ρ a1 a2 a3 a4) : Met l yX2_addGuard (wm yX2_addGuard cX2_addGuard 5 (some .int)) ({ frames := 0, cells := 0, slots := 0, locals := 0 } : Room) (PC D cy (wH cy q σ ++ (wE cy q ρ ++ ex)) A [.ref (q 28), .int a1, .int a2, .int a3, .int a4]) (QI D (wH cy q (xr_X2_addGuard σ ρ a1 a2 a3 a4).2.1 ++ (wE cy q (xr_X2_addGuard σ ρ a1 a2 a3 a4).2.2 ++ ex)) A (xr_X2_addGuard σ ρ a1 a2 a3 a4).1) 0 0 A := by
  generalize hR : xr_X2_addGuard σ ρ a1 a2 a3 a4 = R
  refine g_met (lv := [(0, .ref (q 28)), (1, .int a1), (2, .int a2), (3, .int a3), (4, .int a4)]) (by decide) rfl (Nat.le_of_ble_eq_true rfl) rfl ?_
  intro p e s m below meth c ls S K h hr hlocks hl
  refine lv_aload_n S.1 S.2.1 dX2_addGuard_0 rfl (lv_at hl 0 rfl) ?_
  refine fg_X2_40 S K h dX2_addGuard_1 ?_
  refine lv_iconst (v := 5) S.1 S.2.1 dX2_addGuard_4 (by decide) ?_
  refine lv_icmp_lt (tgt := 11) S.1 S.2.1 dX2_addGuard_5 (by decide) (fun c => ?_) (fun c => ?_)
  · replace hok := And.left hok c
    replace hR := (if_pos c).symm.trans hR
    refine lv_aload_n S.1 S.2.1 dX2_addGuard_11 rfl (lv_at hl 0 rfl) ?_
    refine fg_X2_28 S K h dX2_addGuard_12 ?_
    refine lv_aload_n S.1 S.2.1 dX2_addGuard_15 rfl (lv_at hl 0 rfl) ?_
    refine fg_X2_40 S K h dX2_addGuard_16 ?_
    refine lv_iload_n S.1 S.2.1 dX2_addGuard_19 rfl (lv_at hl 1 rfl) ?_
    have k1 := And.left hok
    replace hok := And.right hok
    refine as_E33 S K h k1 dX2_addGuard_20 (fun H locs h => ?_)
    refine lv_aload_n S.1 S.2.1 dX2_addGuard_21 rfl (lv_at hl 0 rfl) ?_
    refine fg_X2_31 S K h dX2_addGuard_22 ?_
    refine lv_aload_n S.1 S.2.1 dX2_addGuard_25 rfl (lv_at hl 0 rfl) ?_
    refine fg_X2_40 S K h dX2_addGuard_26 ?_
    refine lv_iload_n S.1 S.2.1 dX2_addGuard_29 rfl (lv_at hl 2 rfl) ?_
    have k2 := And.left hok
    replace hok := And.right hok
    refine as_E34 S K h k2 dX2_addGuard_30 (fun H locs h => ?_)
    refine lv_aload_n S.1 S.2.1 dX2_addGuard_31 rfl (lv_at hl 0 rfl) ?_
    refine fg_X2_34 S K h dX2_addGuard_32 ?_
    refine lv_aload_n S.1 S.2.1 dX2_addGuard_35 rfl (lv_at hl 0 rfl) ?_
    refine fg_X2_40 S K h dX2_addGuard_36 ?_
    refine lv_iload_n S.1 S.2.1 dX2_addGuard_39 rfl (lv_at hl 3 rfl) ?_
    have k3 := And.left hok
    replace hok := And.right hok
    refine as_E35 S K h k3 dX2_addGuard_40 (fun H locs h => ?_)
    refine lv_aload_n S.1 S.2.1 dX2_addGuard_41 rfl (lv_at hl 0 rfl) ?_
    refine fg_X2_37 S K h dX2_addGuard_42 ?_
    refine lv_aload_n S.1 S.2.1 dX2_addGuard_45 rfl (lv_at hl 0 rfl) ?_
    refine fg_X2_40 S K h dX2_addGuard_46 ?_
    refine lv_iload S.1 S.2.1 dX2_addGuard_49 (lv_at hl 4 rfl) ?_
    have k4 := And.left hok
    replace hok := And.right hok
    refine as_E36 S K h k4 dX2_addGuard_51 (fun H locs h => ?_)
    refine lv_aload_n S.1 S.2.1 dX2_addGuard_52 rfl (lv_at hl 0 rfl) ?_
    refine lv_dup S.1 S.2.1 dX2_addGuard_53 rfl ?_
    refine fg_X2_40 S K h dX2_addGuard_54 ?_
    refine lv_dup_x1 S.1 S.2.1 dX2_addGuard_57 rfl rfl ?_
    refine lv_iconst (v := 1) S.1 S.2.1 dX2_addGuard_58 (by decide) ?_
    refine lv_iadd S.1 S.2.1 dX2_addGuard_59 ?_
    refine fp_X2_40 S K h dX2_addGuard_60 (fun H locs h => ?_)
    subst hR
    exact g_reti S hr hlocks h dX2_addGuard_63
  · replace hok := And.right hok c
    replace hR := (if_neg c).symm.trans hR
    refine lv_bipush (v := -102) S.1 S.2.1 dX2_addGuard_8 (by decide) ?_
    subst hR
    exact g_reti S hr hlocks h dX2_addGuard_10
def xr_X2_hasAct (σ : GS) (ρ : GS) (a1 : Int32) : Int32 × GS × GS := (xr_X5_isBelow a1 (ρ 28 0), σ, ρ)
def xo_X2_hasAct (σ : GS) (ρ : GS) (a1 : Int32) : Prop := (xo_X5_isBelow a1 (ρ 28 0)) ∧ (narrow .boolean (.int (xr_X5_isBelow a1 (ρ 28 0))) = .int (xr_X5_isBelow a1 (ρ 28 0)))
set_option maxRecDepth 100000 in
set_option maxHeartbeats 4000000 in
theorem c_X2_hasAct (l : Launch) (D : va_G) (cy : CY) (q : Nat → Nat) (ex : va_W) (A : Nat → Prop) (σ : GS) (ρ : GS) (a1 : Int32) (hok : xo_X2_hasAct σ ρ a1) : Met l yX2_hasAct (wm yX2_hasAct cX2_hasAct 2 (some .boolean)) ({ frames := 1, cells := 0, slots := 0, locals := 21 } : Room) (PC D cy (wH cy q σ ++ (wE cy q ρ ++ ex)) A [.ref (q 28), .int a1]) (QI D (wH cy q (xr_X2_hasAct σ ρ a1).2.1 ++ (wE cy q (xr_X2_hasAct σ ρ a1).2.2 ++ ex)) A (xr_X2_hasAct σ ρ a1).1) 0 0 A := by
  generalize hR : xr_X2_hasAct σ ρ a1 = R
  refine g_met (lv := [(0, .ref (q 28)), (1, .int a1)]) (by decide) rfl (Nat.le_of_ble_eq_true rfl) rfl ?_
  intro p e s m below meth c ls S K h hr hlocks hl
  refine lv_iload_n S.1 S.2.1 dX2_hasAct_0 rfl (lv_at hl 1 rfl) ?_
  refine lv_aload_n S.1 S.2.1 dX2_hasAct_1 rfl (lv_at hl 0 rfl) ?_
  refine fg_X2_24 S K h dX2_hasAct_2 ?_
  have k2 := And.left hok
  replace hok := And.right hok
  refine g_callsN S wz_cons K.2 (c_X5_isBelow l _ _ k2) kc_X5_isBelow nn_X2_43 kt_X5_isBelow kn_X5 yd_X5_isBelow.2 ⟨⟨Nat.le_of_ble_eq_true rfl, Nat.le_of_ble_eq_true rfl⟩, rfl, rfl, Nat.zero_le _, Nat.zero_le _⟩ rfl hl.1 (Nat.le_of_ble_eq_true rfl) rfl dX2_hasAct_5 ?_
  subst hR
  exact g_retz S hr hlocks h hok dX2_hasAct_8
def xl_X2_guardFor_2 : Nat → GS → GS → Int32 → Int32 → Int32 → Int32 × GS × GS
  | 0, σ, ρ, _, _, _ => (0, σ, ρ)
  | n + 1, σ, ρ, x1, x2, x3 => if (ρ 28 1) ≤ x3 then (-1, σ, ρ) else if x1 < (ρ 33 x3.toNatClampNeg) then if (0 : Int32) = 0 then xl_X2_guardFor_2 n σ ρ x1 x2 (x3 + 1) else if (ρ 35 x3.toNatClampNeg) = 0 then (x3, σ, ρ) else if (ρ 35 x3.toNatClampNeg) = x2 then (x3, σ, ρ) else xl_X2_guardFor_2 n σ ρ x1 x2 (x3 + 1) else if (ρ 34 x3.toNatClampNeg) ≤ x1 then if (0 : Int32) = 0 then xl_X2_guardFor_2 n σ ρ x1 x2 (x3 + 1) else if (ρ 35 x3.toNatClampNeg) = 0 then (x3, σ, ρ) else if (ρ 35 x3.toNatClampNeg) = x2 then (x3, σ, ρ) else xl_X2_guardFor_2 n σ ρ x1 x2 (x3 + 1) else if (1 : Int32) = 0 then xl_X2_guardFor_2 n σ ρ x1 x2 (x3 + 1) else if (ρ 35 x3.toNatClampNeg) = 0 then (x3, σ, ρ) else if (ρ 35 x3.toNatClampNeg) = x2 then (x3, σ, ρ) else xl_X2_guardFor_2 n σ ρ x1 x2 (x3 + 1)
def xlo_X2_guardFor_2 : Nat → GS → GS → Int32 → Int32 → Int32 → Prop
  | 0, _, _, _, _, _ => False
  | n + 1, σ, ρ, x1, x2, x3 => ((ρ 28 1) ≤ x3 → True) ∧ (¬ ((ρ 28 1) ≤ x3) → vp_in x3 5 ∧ ((x1 < (ρ 33 x3.toNatClampNeg) → ((0 : Int32) = 0 → xlo_X2_guardFor_2 n σ ρ x1 x2 (x3 + 1)) ∧ (¬ ((0 : Int32) = 0) → vp_in x3 5 ∧ (((ρ 35 x3.toNatClampNeg) = 0 → True) ∧ (¬ ((ρ 35 x3.toNatClampNeg) = 0) → vp_in x3 5 ∧ (((ρ 35 x3.toNatClampNeg) = x2 → True) ∧ (¬ ((ρ 35 x3.toNatClampNeg) = x2) → xlo_X2_guardFor_2 n σ ρ x1 x2 (x3 + 1))))))) ∧ (¬ (x1 < (ρ 33 x3.toNatClampNeg)) → vp_in x3 5 ∧ (((ρ 34 x3.toNatClampNeg) ≤ x1 → ((0 : Int32) = 0 → xlo_X2_guardFor_2 n σ ρ x1 x2 (x3 + 1)) ∧ (¬ ((0 : Int32) = 0) → vp_in x3 5 ∧ (((ρ 35 x3.toNatClampNeg) = 0 → True) ∧ (¬ ((ρ 35 x3.toNatClampNeg) = 0) → vp_in x3 5 ∧ (((ρ 35 x3.toNatClampNeg) = x2 → True) ∧ (¬ ((ρ 35 x3.toNatClampNeg) = x2) → xlo_X2_guardFor_2 n σ ρ x1 x2 (x3 + 1))))))) ∧ (¬ ((ρ 34 x3.toNatClampNeg) ≤ x1) → ((1 : Int32) = 0 → xlo_X2_guardFor_2 n σ ρ x1 x2 (x3 + 1)) ∧ (¬ ((1 : Int32) = 0) → vp_in x3 5 ∧ (((ρ 35 x3.toNatClampNeg) = 0 → True) ∧ (¬ ((ρ 35 x3.toNatClampNeg) = 0) → vp_in x3 5 ∧ (((ρ 35 x3.toNatClampNeg) = x2 → True) ∧ (¬ ((ρ 35 x3.toNatClampNeg) = x2) → xlo_X2_guardFor_2 n σ ρ x1 x2 (x3 + 1)))))))))))
set_option maxRecDepth 100000 in
set_option maxHeartbeats 4000000 in
theorem w_X2_guardFor_2 {p : Program} {l : Launch} {e : Env} {s : State} {m : MethodId} {args : Array Value} {below : List Frame} {meth : Method} {c : Code} {D : va_G} {cy : CY} {q : Nat → Nat} {ex : va_W} {A : Nat → Prop} (S : CallFix p m c cX2_guardFor 5 s args (wm yX2_guardFor cX2_guardFor 5 (some .int)) RX2) (K : KK D cy s) (hr : meth.sig.returnType = (some .int)) (hlocks : meth.locks = false) :
    ∀ (n : Nat) (σ : GS) (ρ : GS) (x1 : Int32) (x2 : Int32) (x3 : Int32) (H : Heap) (locs : List Loc) (ls : Array Slot) (R : Int32 × GS × GS), xlo_X2_guardFor_2 n σ ρ x1 x2 x3 → xl_X2_guardFor_2 n σ ρ x1 x2 x3 = R → WH D A s.heap H locs (wH cy q σ ++ (wE cy q ρ ++ ex)) → lv_has ls 5 [(0, .ref (q 28)), (1, .int x1), (2, .int x2), (3, .int x3)] → W p l e ({ frames := 0, cells := 0, slots := 0, locals := 0 } : Room) s m args below meth c H locs 0 0 (MQ below (QI D (wH cy q R.2.1 ++ (wE cy q R.2.2 ++ ex)) A R.1) args s 0 0 A) (F0 m 2 ls []) := by
  intro n
  induction n with
  | zero =>
    intro σ ρ x1 x2 x3 H locs ls R hok
    exact False.elim hok
  | succ n ih =>
    intro σ ρ x1 x2 x3 H locs ls R hok hR h hl
    refine lv_iload_n S.1 S.2.1 dX2_guardFor_2 rfl (lv_at hl 3 rfl) ?_
    refine lv_aload_n S.1 S.2.1 dX2_guardFor_3 rfl (lv_at hl 0 rfl) ?_
    refine fg_X2_40 S K h dX2_guardFor_4 ?_
    refine lv_icmp_ge (tgt := 69) S.1 S.2.1 dX2_guardFor_7 (by decide) (fun c => ?_) (fun c => ?_)
    · replace hok := And.left hok c
      replace hR := (if_pos c).symm.trans hR
      refine lv_iconst (v := -1) S.1 S.2.1 dX2_guardFor_69 (by decide) ?_
      subst hR
      exact g_reti S hr hlocks h dX2_guardFor_70
    · replace hok := And.right hok c
      replace hR := (if_neg c).symm.trans hR
      refine lv_aload_n S.1 S.2.1 dX2_guardFor_10 rfl (lv_at hl 0 rfl) ?_
      refine fg_X2_28 S K h dX2_guardFor_11 ?_
      refine lv_iload_n S.1 S.2.1 dX2_guardFor_14 rfl (lv_at hl 3 rfl) ?_
      have k1 := And.left hok
      replace hok := And.right hok
      refine al_E33 S K h k1 dX2_guardFor_15 ?_
      refine lv_iload_n S.1 S.2.1 dX2_guardFor_16 rfl (lv_at hl 1 rfl) ?_
      refine lv_icmp_gt (tgt := 34) S.1 S.2.1 dX2_guardFor_17 (by decide) (fun c => ?_) (fun c => ?_)
      · replace hok := And.left hok c
        replace hR := (if_pos c).symm.trans hR
        refine lv_iconst (v := 0) S.1 S.2.1 dX2_guardFor_34 (by decide) ?_
        refine lv_istore (lv' := [(4, .int _), (0, .ref _), (1, .int _), (2, .int _), (3, .int _)]) S.1 S.2.1 dX2_guardFor_35 hl (by decide) rfl (fun ls hl => ?_)
        refine lv_iload S.1 S.2.1 dX2_guardFor_37 (lv_at hl 0 rfl) ?_
        refine lv_if_eq (tgt := 63) S.1 S.2.1 dX2_guardFor_39 (by decide) (fun c => ?_) (fun c => ?_)
        · replace hok := And.left hok c
          replace hR := (if_pos c).symm.trans hR
          refine lv_iinc (v := _ + 1) (lv' := [(3, .int _), (4, .int _), (0, .ref _), (1, .int _), (2, .int _)]) S.1 S.2.1 dX2_guardFor_63 hl (k := 4) rfl rfl (by decide) rfl (fun ls hl => ?_)
          refine lv_goto (tgt := 2) S.1 S.2.1 dX2_guardFor_66 (by decide) ?_
          exact ih _ _ _ _ _ _ _ _ R hok hR h (lv_sub hl [2, 3, 4, 0] rfl)
        · replace hok := And.right hok c
          replace hR := (if_neg c).symm.trans hR
          refine lv_aload_n S.1 S.2.1 dX2_guardFor_42 rfl (lv_at hl 1 rfl) ?_
          refine fg_X2_34 S K h dX2_guardFor_43 ?_
          refine lv_iload_n S.1 S.2.1 dX2_guardFor_46 rfl (lv_at hl 4 rfl) ?_
          have k2 := And.left hok
          replace hok := And.right hok
          refine al_E35 S K h k2 dX2_guardFor_47 ?_
          refine lv_if_eq (tgt := 61) S.1 S.2.1 dX2_guardFor_48 (by decide) (fun c => ?_) (fun c => ?_)
          · replace hok := And.left hok c
            replace hR := (if_pos c).symm.trans hR
            refine lv_iload_n S.1 S.2.1 dX2_guardFor_61 rfl (lv_at hl 4 rfl) ?_
            subst hR
            exact g_reti S hr hlocks h dX2_guardFor_62
          · replace hok := And.right hok c
            replace hR := (if_neg c).symm.trans hR
            refine lv_aload_n S.1 S.2.1 dX2_guardFor_51 rfl (lv_at hl 1 rfl) ?_
            refine fg_X2_34 S K h dX2_guardFor_52 ?_
            refine lv_iload_n S.1 S.2.1 dX2_guardFor_55 rfl (lv_at hl 4 rfl) ?_
            have k3 := And.left hok
            replace hok := And.right hok
            refine al_E35 S K h k3 dX2_guardFor_56 ?_
            refine lv_iload_n S.1 S.2.1 dX2_guardFor_57 rfl (lv_at hl 3 rfl) ?_
            refine lv_icmp_ne (tgt := 63) S.1 S.2.1 dX2_guardFor_58 (by decide) (fun c => ?_) (fun c => ?_)
            · replace hok := And.right hok c
              replace hR := (if_neg c).symm.trans hR
              refine lv_iinc (v := _ + 1) (lv' := [(3, .int _), (4, .int _), (0, .ref _), (1, .int _), (2, .int _)]) S.1 S.2.1 dX2_guardFor_63 hl (k := 4) rfl rfl (by decide) rfl (fun ls hl => ?_)
              refine lv_goto (tgt := 2) S.1 S.2.1 dX2_guardFor_66 (by decide) ?_
              exact ih _ _ _ _ _ _ _ _ R hok hR h (lv_sub hl [2, 3, 4, 0] rfl)
            · replace hok := And.left hok c
              replace hR := (if_pos c).symm.trans hR
              refine lv_iload_n S.1 S.2.1 dX2_guardFor_61 rfl (lv_at hl 4 rfl) ?_
              subst hR
              exact g_reti S hr hlocks h dX2_guardFor_62
      · replace hok := And.right hok c
        replace hR := (if_neg c).symm.trans hR
        refine lv_iload_n S.1 S.2.1 dX2_guardFor_20 rfl (lv_at hl 1 rfl) ?_
        refine lv_aload_n S.1 S.2.1 dX2_guardFor_21 rfl (lv_at hl 0 rfl) ?_
        refine fg_X2_31 S K h dX2_guardFor_22 ?_
        refine lv_iload_n S.1 S.2.1 dX2_guardFor_25 rfl (lv_at hl 3 rfl) ?_
        have k4 := And.left hok
        replace hok := And.right hok
        refine al_E34 S K h k4 dX2_guardFor_26 ?_
        refine lv_icmp_ge (tgt := 34) S.1 S.2.1 dX2_guardFor_27 (by decide) (fun c => ?_) (fun c => ?_)
        · replace hok := And.left hok c
          replace hR := (if_pos c).symm.trans hR
          refine lv_iconst (v := 0) S.1 S.2.1 dX2_guardFor_34 (by decide) ?_
          refine lv_istore (lv' := [(4, .int _), (0, .ref _), (1, .int _), (2, .int _), (3, .int _)]) S.1 S.2.1 dX2_guardFor_35 hl (by decide) rfl (fun ls hl => ?_)
          refine lv_iload S.1 S.2.1 dX2_guardFor_37 (lv_at hl 0 rfl) ?_
          refine lv_if_eq (tgt := 63) S.1 S.2.1 dX2_guardFor_39 (by decide) (fun c => ?_) (fun c => ?_)
          · replace hok := And.left hok c
            replace hR := (if_pos c).symm.trans hR
            refine lv_iinc (v := _ + 1) (lv' := [(3, .int _), (4, .int _), (0, .ref _), (1, .int _), (2, .int _)]) S.1 S.2.1 dX2_guardFor_63 hl (k := 4) rfl rfl (by decide) rfl (fun ls hl => ?_)
            refine lv_goto (tgt := 2) S.1 S.2.1 dX2_guardFor_66 (by decide) ?_
            exact ih _ _ _ _ _ _ _ _ R hok hR h (lv_sub hl [2, 3, 4, 0] rfl)
          · replace hok := And.right hok c
            replace hR := (if_neg c).symm.trans hR
            refine lv_aload_n S.1 S.2.1 dX2_guardFor_42 rfl (lv_at hl 1 rfl) ?_
            refine fg_X2_34 S K h dX2_guardFor_43 ?_
            refine lv_iload_n S.1 S.2.1 dX2_guardFor_46 rfl (lv_at hl 4 rfl) ?_
            have k5 := And.left hok
            replace hok := And.right hok
            refine al_E35 S K h k5 dX2_guardFor_47 ?_
            refine lv_if_eq (tgt := 61) S.1 S.2.1 dX2_guardFor_48 (by decide) (fun c => ?_) (fun c => ?_)
            · replace hok := And.left hok c
              replace hR := (if_pos c).symm.trans hR
              refine lv_iload_n S.1 S.2.1 dX2_guardFor_61 rfl (lv_at hl 4 rfl) ?_
              subst hR
              exact g_reti S hr hlocks h dX2_guardFor_62
            · replace hok := And.right hok c
              replace hR := (if_neg c).symm.trans hR
              refine lv_aload_n S.1 S.2.1 dX2_guardFor_51 rfl (lv_at hl 1 rfl) ?_
              refine fg_X2_34 S K h dX2_guardFor_52 ?_
              refine lv_iload_n S.1 S.2.1 dX2_guardFor_55 rfl (lv_at hl 4 rfl) ?_
              have k6 := And.left hok
              replace hok := And.right hok
              refine al_E35 S K h k6 dX2_guardFor_56 ?_
              refine lv_iload_n S.1 S.2.1 dX2_guardFor_57 rfl (lv_at hl 3 rfl) ?_
              refine lv_icmp_ne (tgt := 63) S.1 S.2.1 dX2_guardFor_58 (by decide) (fun c => ?_) (fun c => ?_)
              · replace hok := And.right hok c
                replace hR := (if_neg c).symm.trans hR
                refine lv_iinc (v := _ + 1) (lv' := [(3, .int _), (4, .int _), (0, .ref _), (1, .int _), (2, .int _)]) S.1 S.2.1 dX2_guardFor_63 hl (k := 4) rfl rfl (by decide) rfl (fun ls hl => ?_)
                refine lv_goto (tgt := 2) S.1 S.2.1 dX2_guardFor_66 (by decide) ?_
                exact ih _ _ _ _ _ _ _ _ R hok hR h (lv_sub hl [2, 3, 4, 0] rfl)
              · replace hok := And.left hok c
                replace hR := (if_pos c).symm.trans hR
                refine lv_iload_n S.1 S.2.1 dX2_guardFor_61 rfl (lv_at hl 4 rfl) ?_
                subst hR
                exact g_reti S hr hlocks h dX2_guardFor_62
        · replace hok := And.right hok c
          replace hR := (if_neg c).symm.trans hR
          refine lv_iconst (v := 1) S.1 S.2.1 dX2_guardFor_30 (by decide) ?_
          refine lv_goto (tgt := 35) S.1 S.2.1 dX2_guardFor_31 (by decide) ?_
          refine lv_istore (lv' := [(4, .int _), (0, .ref _), (1, .int _), (2, .int _), (3, .int _)]) S.1 S.2.1 dX2_guardFor_35 hl (by decide) rfl (fun ls hl => ?_)
          refine lv_iload S.1 S.2.1 dX2_guardFor_37 (lv_at hl 0 rfl) ?_
          refine lv_if_eq (tgt := 63) S.1 S.2.1 dX2_guardFor_39 (by decide) (fun c => ?_) (fun c => ?_)
          · replace hok := And.left hok c
            replace hR := (if_pos c).symm.trans hR
            refine lv_iinc (v := _ + 1) (lv' := [(3, .int _), (4, .int _), (0, .ref _), (1, .int _), (2, .int _)]) S.1 S.2.1 dX2_guardFor_63 hl (k := 4) rfl rfl (by decide) rfl (fun ls hl => ?_)
            refine lv_goto (tgt := 2) S.1 S.2.1 dX2_guardFor_66 (by decide) ?_
            exact ih _ _ _ _ _ _ _ _ R hok hR h (lv_sub hl [2, 3, 4, 0] rfl)
          · replace hok := And.right hok c
            replace hR := (if_neg c).symm.trans hR
            refine lv_aload_n S.1 S.2.1 dX2_guardFor_42 rfl (lv_at hl 1 rfl) ?_
            refine fg_X2_34 S K h dX2_guardFor_43 ?_
            refine lv_iload_n S.1 S.2.1 dX2_guardFor_46 rfl (lv_at hl 4 rfl) ?_
            have k7 := And.left hok
            replace hok := And.right hok
            refine al_E35 S K h k7 dX2_guardFor_47 ?_
            refine lv_if_eq (tgt := 61) S.1 S.2.1 dX2_guardFor_48 (by decide) (fun c => ?_) (fun c => ?_)
            · replace hok := And.left hok c
              replace hR := (if_pos c).symm.trans hR
              refine lv_iload_n S.1 S.2.1 dX2_guardFor_61 rfl (lv_at hl 4 rfl) ?_
              subst hR
              exact g_reti S hr hlocks h dX2_guardFor_62
            · replace hok := And.right hok c
              replace hR := (if_neg c).symm.trans hR
              refine lv_aload_n S.1 S.2.1 dX2_guardFor_51 rfl (lv_at hl 1 rfl) ?_
              refine fg_X2_34 S K h dX2_guardFor_52 ?_
              refine lv_iload_n S.1 S.2.1 dX2_guardFor_55 rfl (lv_at hl 4 rfl) ?_
              have k8 := And.left hok
              replace hok := And.right hok
              refine al_E35 S K h k8 dX2_guardFor_56 ?_
              refine lv_iload_n S.1 S.2.1 dX2_guardFor_57 rfl (lv_at hl 3 rfl) ?_
              refine lv_icmp_ne (tgt := 63) S.1 S.2.1 dX2_guardFor_58 (by decide) (fun c => ?_) (fun c => ?_)
              · replace hok := And.right hok c
                replace hR := (if_neg c).symm.trans hR
                refine lv_iinc (v := _ + 1) (lv' := [(3, .int _), (4, .int _), (0, .ref _), (1, .int _), (2, .int _)]) S.1 S.2.1 dX2_guardFor_63 hl (k := 4) rfl rfl (by decide) rfl (fun ls hl => ?_)
                refine lv_goto (tgt := 2) S.1 S.2.1 dX2_guardFor_66 (by decide) ?_
                exact ih _ _ _ _ _ _ _ _ R hok hR h (lv_sub hl [2, 3, 4, 0] rfl)
              · replace hok := And.left hok c
                replace hR := (if_pos c).symm.trans hR
                refine lv_iload_n S.1 S.2.1 dX2_guardFor_61 rfl (lv_at hl 4 rfl) ?_
                subst hR
                exact g_reti S hr hlocks h dX2_guardFor_62
def xr_X2_guardFor (σ : GS) (ρ : GS) (a1 : Int32) (a2 : Int32) : Int32 × GS × GS := xl_X2_guardFor_2 100 σ ρ a1 a2 0
def xo_X2_guardFor (σ : GS) (ρ : GS) (a1 : Int32) (a2 : Int32) : Prop := xlo_X2_guardFor_2 100 σ ρ a1 a2 0
set_option maxRecDepth 100000 in
set_option maxHeartbeats 4000000 in
theorem c_X2_guardFor (l : Launch) (D : va_G) (cy : CY) (q : Nat → Nat) (ex : va_W) (A : Nat → Prop) (σ : GS) (ρ : GS) (a1 : Int32) (a2 : Int32) (hok : xo_X2_guardFor σ ρ a1 a2) : Met l yX2_guardFor (wm yX2_guardFor cX2_guardFor 5 (some .int)) ({ frames := 0, cells := 0, slots := 0, locals := 0 } : Room) (PC D cy (wH cy q σ ++ (wE cy q ρ ++ ex)) A [.ref (q 28), .int a1, .int a2]) (QI D (wH cy q (xr_X2_guardFor σ ρ a1 a2).2.1 ++ (wE cy q (xr_X2_guardFor σ ρ a1 a2).2.2 ++ ex)) A (xr_X2_guardFor σ ρ a1 a2).1) 0 0 A := by
  generalize hR : xr_X2_guardFor σ ρ a1 a2 = R
  refine g_met (lv := [(0, .ref (q 28)), (1, .int a1), (2, .int a2)]) (by decide) rfl (Nat.le_of_ble_eq_true rfl) rfl ?_
  intro p e s m below meth c ls S K h hr hlocks hl
  refine lv_iconst (v := 0) S.1 S.2.1 dX2_guardFor_0 (by decide) ?_
  refine lv_istore_n (lv' := [(3, .int _), (0, .ref _), (1, .int _), (2, .int _)]) S.1 S.2.1 dX2_guardFor_1 rfl hl (by decide) rfl (fun ls hl => ?_)
  exact w_X2_guardFor_2  S K hr hlocks 100 _ _ _ _ _ _ _ _ R hok hR h (lv_sub hl [1, 2, 3, 0] rfl)
def xl_X3_begin_27 : Nat → GS → GS → Int32 → Int32 × GS × GS
  | 0, σ, ρ, _ => (0, σ, ρ)
  | n + 1, σ, ρ, x1 => if (8 : Int32) ≤ x1 then (0, σ, ρ) else xl_X3_begin_27 n σ (st ρ 38 x1.toNatClampNeg 0) (x1 + 1)
def xlo_X3_begin_27 : Nat → GS → GS → Int32 → Prop
  | 0, _, _, _ => False
  | n + 1, σ, ρ, x1 => ((8 : Int32) ≤ x1 → True) ∧ (¬ ((8 : Int32) ≤ x1) → vp_in x1 8 ∧ (xlo_X3_begin_27 n σ (st ρ 38 x1.toNatClampNeg 0) (x1 + 1)))
set_option maxRecDepth 100000 in
set_option maxHeartbeats 4000000 in
theorem w_X3_begin_27 {p : Program} {l : Launch} {e : Env} {s : State} {m : MethodId} {args : Array Value} {below : List Frame} {meth : Method} {c : Code} {D : va_G} {cy : CY} {q : Nat → Nat} {ex : va_W} {A : Nat → Prop} (S : CallFix p m c cX3_begin 2 s args (wm yX3_begin cX3_begin 2 none) RX3) (K : KK D cy s) (hr : meth.sig.returnType = none) (hlocks : meth.locks = false) :
    ∀ (n : Nat) (σ : GS) (ρ : GS) (x1 : Int32) (H : Heap) (locs : List Loc) (ls : Array Slot) (R : Int32 × GS × GS), xlo_X3_begin_27 n σ ρ x1 → xl_X3_begin_27 n σ ρ x1 = R → WH D A s.heap H locs (wH cy q σ ++ (wE cy q ρ ++ ex)) → lv_has ls 2 [(0, .ref (q 37)), (1, .int x1)] → W p l e ({ frames := 0, cells := 0, slots := 0, locals := 0 } : Room) s m args below meth c H locs 0 0 (MQ below (QV D (wH cy q R.2.1 ++ (wE cy q R.2.2 ++ ex)) A) args s 0 0 A) (F0 m 27 ls []) := by
  intro n
  induction n with
  | zero =>
    intro σ ρ x1 H locs ls R hok
    exact False.elim hok
  | succ n ih =>
    intro σ ρ x1 H locs ls R hok hR h hl
    refine lv_iload_n S.1 S.2.1 dX3_begin_27 rfl (lv_at hl 1 rfl) ?_
    refine lv_bipush (v := 8) S.1 S.2.1 dX3_begin_28 (by decide) ?_
    refine lv_icmp_ge (tgt := 46) S.1 S.2.1 dX3_begin_30 (by decide) (fun c => ?_) (fun c => ?_)
    · replace hok := And.left hok c
      replace hR := (if_pos c).symm.trans hR
      subst hR
      exact g_retv S hr hlocks h dX3_begin_46
    · replace hok := And.right hok c
      replace hR := (if_neg c).symm.trans hR
      refine lv_aload_n S.1 S.2.1 dX3_begin_33 rfl (lv_at hl 0 rfl) ?_
      refine fg_X3_27 S K h dX3_begin_34 ?_
      refine lv_iload_n S.1 S.2.1 dX3_begin_37 rfl (lv_at hl 1 rfl) ?_
      refine lv_iconst (v := 0) S.1 S.2.1 dX3_begin_38 (by decide) ?_
      have k1 := And.left hok
      replace hok := And.right hok
      refine as_E38 S K h k1 dX3_begin_39 (fun H locs h => ?_)
      refine lv_iinc (v := _ + 1) (lv' := [(1, .int _), (0, .ref _)]) S.1 S.2.1 dX3_begin_40 hl (k := 1) rfl rfl (by decide) rfl (fun ls hl => ?_)
      refine lv_goto (tgt := 27) S.1 S.2.1 dX3_begin_43 (by decide) ?_
      exact ih _ _ _ _ _ _ R hok hR h (lv_sub hl [1, 0] rfl)
def xr_X3_begin (σ : GS) (ρ : GS) : Int32 × GS × GS := xl_X3_begin_27 100 σ (st (st (st (st (st ρ 37 0 0) 37 1 (-1)) 37 2 0) 37 3 0) 37 4 0) 0
def xo_X3_begin (σ : GS) (ρ : GS) : Prop := xlo_X3_begin_27 100 σ (st (st (st (st (st ρ 37 0 0) 37 1 (-1)) 37 2 0) 37 3 0) 37 4 0) 0
set_option maxRecDepth 100000 in
set_option maxHeartbeats 4000000 in
theorem c_X3_begin (l : Launch) (D : va_G) (cy : CY) (q : Nat → Nat) (ex : va_W) (A : Nat → Prop) (σ : GS) (ρ : GS) (hok : xo_X3_begin σ ρ) : Met l yX3_begin (wm yX3_begin cX3_begin 2 none) ({ frames := 0, cells := 0, slots := 0, locals := 0 } : Room) (PC D cy (wH cy q σ ++ (wE cy q ρ ++ ex)) A [.ref (q 37)]) (QV D (wH cy q (xr_X3_begin σ ρ).2.1 ++ (wE cy q (xr_X3_begin σ ρ).2.2 ++ ex)) A) 0 0 A := by
  generalize hR : xr_X3_begin σ ρ = R
  refine g_met (lv := [(0, .ref (q 37))]) (by decide) rfl (Nat.le_of_ble_eq_true rfl) rfl ?_
  intro p e s m below meth c ls S K h hr hlocks hl
  refine lv_aload_n S.1 S.2.1 dX3_begin_0 rfl (lv_at hl 0 rfl) ?_
  refine lv_iconst (v := 0) S.1 S.2.1 dX3_begin_1 (by decide) ?_
  refine fp_X3_9 S K h dX3_begin_2 (fun H locs h => ?_)
  refine lv_aload_n S.1 S.2.1 dX3_begin_5 rfl (lv_at hl 0 rfl) ?_
  refine lv_iconst (v := -1) S.1 S.2.1 dX3_begin_6 (by decide) ?_
  refine fp_X3_15 S K h dX3_begin_7 (fun H locs h => ?_)
  refine lv_aload_n S.1 S.2.1 dX3_begin_10 rfl (lv_at hl 0 rfl) ?_
  refine lv_iconst (v := 0) S.1 S.2.1 dX3_begin_11 (by decide) ?_
  refine fp_X3_18 S K h dX3_begin_12 (fun H locs h => ?_)
  refine lv_aload_n S.1 S.2.1 dX3_begin_15 rfl (lv_at hl 0 rfl) ?_
  refine lv_iconst (v := 0) S.1 S.2.1 dX3_begin_16 (by decide) ?_
  refine fp_X3_21 S K h dX3_begin_17 (fun H locs h => ?_)
  refine lv_aload_n S.1 S.2.1 dX3_begin_20 rfl (lv_at hl 0 rfl) ?_
  refine lv_iconst (v := 0) S.1 S.2.1 dX3_begin_21 (by decide) ?_
  refine fp_X3_24 S K h dX3_begin_22 (fun H locs h => ?_)
  refine lv_iconst (v := 0) S.1 S.2.1 dX3_begin_25 (by decide) ?_
  refine lv_istore_n (lv' := [(1, .int _), (0, .ref _)]) S.1 S.2.1 dX3_begin_26 rfl hl (by decide) rfl (fun ls hl => ?_)
  exact w_X3_begin_27  S K hr hlocks 100 _ _ _ _ _ _ R hok hR h (lv_sub hl [1, 0] rfl)
def xr_X5_guard (σ : GS) (ρ : GS) (a1 : Int32) (a2 : Int32) (a3 : Int32) (a4 : Int32) : Int32 × GS × GS := if a1 < (0 : Int32) then if (0 : Int32) = 0 then (-101, σ, ρ) else if (xr_X5_isBelow a3 8) = 0 then (-101, σ, ρ) else if (xr_X5_isBelow a4 41) = 0 then (-101, σ, ρ) else bd2 (xr_X2_addGuard σ ρ a1 a2 a3 a4) (fun v7 σ9 ρ10 => (v7, σ9, ρ10)) else if a2 ≤ a1 then if (0 : Int32) = 0 then (-101, σ, ρ) else if (xr_X5_isBelow a3 8) = 0 then (-101, σ, ρ) else if (xr_X5_isBelow a4 41) = 0 then (-101, σ, ρ) else bd2 (xr_X2_addGuard σ ρ a1 a2 a3 a4) (fun v17 σ19 ρ20 => (v17, σ19, ρ20)) else if (40 : Int32) < a2 then if (0 : Int32) = 0 then (-101, σ, ρ) else if (xr_X5_isBelow a3 8) = 0 then (-101, σ, ρ) else if (xr_X5_isBelow a4 41) = 0 then (-101, σ, ρ) else bd2 (xr_X2_addGuard σ ρ a1 a2 a3 a4) (fun v27 σ29 ρ30 => (v27, σ29, ρ30)) else if (1 : Int32) = 0 then (-101, σ, ρ) else if (xr_X5_isBelow a3 8) = 0 then (-101, σ, ρ) else if (xr_X5_isBelow a4 41) = 0 then (-101, σ, ρ) else bd2 (xr_X2_addGuard σ ρ a1 a2 a3 a4) (fun v37 σ39 ρ40 => (v37, σ39, ρ40))
def xo_X5_guard (σ : GS) (ρ : GS) (a1 : Int32) (a2 : Int32) (a3 : Int32) (a4 : Int32) : Prop := (a1 < (0 : Int32) → ((0 : Int32) = 0 → True) ∧ (¬ ((0 : Int32) = 0) → (xo_X5_isBelow a3 8) ∧ (((xr_X5_isBelow a3 8) = 0 → True) ∧ (¬ ((xr_X5_isBelow a3 8) = 0) → (xo_X5_isBelow a4 41) ∧ (((xr_X5_isBelow a4 41) = 0 → True) ∧ (¬ ((xr_X5_isBelow a4 41) = 0) → (xo_X2_addGuard σ ρ a1 a2 a3 a4) ∧ bd2 (xr_X2_addGuard σ ρ a1 a2 a3 a4) (fun v7 σ9 ρ10 => True))))))) ∧ (¬ (a1 < (0 : Int32)) → (a2 ≤ a1 → ((0 : Int32) = 0 → True) ∧ (¬ ((0 : Int32) = 0) → (xo_X5_isBelow a3 8) ∧ (((xr_X5_isBelow a3 8) = 0 → True) ∧ (¬ ((xr_X5_isBelow a3 8) = 0) → (xo_X5_isBelow a4 41) ∧ (((xr_X5_isBelow a4 41) = 0 → True) ∧ (¬ ((xr_X5_isBelow a4 41) = 0) → (xo_X2_addGuard σ ρ a1 a2 a3 a4) ∧ bd2 (xr_X2_addGuard σ ρ a1 a2 a3 a4) (fun v17 σ19 ρ20 => True))))))) ∧ (¬ (a2 ≤ a1) → ((40 : Int32) < a2 → ((0 : Int32) = 0 → True) ∧ (¬ ((0 : Int32) = 0) → (xo_X5_isBelow a3 8) ∧ (((xr_X5_isBelow a3 8) = 0 → True) ∧ (¬ ((xr_X5_isBelow a3 8) = 0) → (xo_X5_isBelow a4 41) ∧ (((xr_X5_isBelow a4 41) = 0 → True) ∧ (¬ ((xr_X5_isBelow a4 41) = 0) → (xo_X2_addGuard σ ρ a1 a2 a3 a4) ∧ bd2 (xr_X2_addGuard σ ρ a1 a2 a3 a4) (fun v27 σ29 ρ30 => True))))))) ∧ (¬ ((40 : Int32) < a2) → ((1 : Int32) = 0 → True) ∧ (¬ ((1 : Int32) = 0) → (xo_X5_isBelow a3 8) ∧ (((xr_X5_isBelow a3 8) = 0 → True) ∧ (¬ ((xr_X5_isBelow a3 8) = 0) → (xo_X5_isBelow a4 41) ∧ (((xr_X5_isBelow a4 41) = 0 → True) ∧ (¬ ((xr_X5_isBelow a4 41) = 0) → (xo_X2_addGuard σ ρ a1 a2 a3 a4) ∧ bd2 (xr_X2_addGuard σ ρ a1 a2 a3 a4) (fun v37 σ39 ρ40 => True)))))))))
set_option maxRecDepth 100000 in
set_option maxHeartbeats 4000000 in
theorem c_X5_guard (l : Launch) (D : va_G) (cy : CY) (q : Nat → Nat) (ex : va_W) (A : Nat → Prop) (σ : GS) (ρ : GS) (a1 : Int32) (a2 : Int32) (a3 : Int32) (a4 : Int32) (hok : xo_X5_guard σ ρ a1 a2 a3 a4) : Met l yX5_guard (wm yX5_guard cX5_guard 6 (some .int)) ({ frames := 1, cells := 0, slots := 0, locals := 24 } : Room) (PC D cy (wH cy q σ ++ (wE cy q ρ ++ ex)) A [.ref (q 27), .int a1, .int a2, .int a3, .int a4]) (QI D (wH cy q (xr_X5_guard σ ρ a1 a2 a3 a4).2.1 ++ (wE cy q (xr_X5_guard σ ρ a1 a2 a3 a4).2.2 ++ ex)) A (xr_X5_guard σ ρ a1 a2 a3 a4).1) 0 0 A := by
  generalize hR : xr_X5_guard σ ρ a1 a2 a3 a4 = R
  refine g_met (lv := [(0, .ref (q 27)), (1, .int a1), (2, .int a2), (3, .int a3), (4, .int a4)]) (by decide) rfl (Nat.le_of_ble_eq_true rfl) rfl ?_
  intro p e s m below meth c ls S K h hr hlocks hl
  refine lv_iconst (v := 0) S.1 S.2.1 dX5_guard_0 (by decide) ?_
  refine lv_iload_n S.1 S.2.1 dX5_guard_1 rfl (lv_at hl 1 rfl) ?_
  refine lv_icmp_gt (tgt := 20) S.1 S.2.1 dX5_guard_2 (by decide) (fun c => ?_) (fun c => ?_)
  · replace hok := And.left hok c
    replace hR := (if_pos c).symm.trans hR
    refine lv_iconst (v := 0) S.1 S.2.1 dX5_guard_20 (by decide) ?_
    refine lv_istore (lv' := [(5, .int _), (0, .ref _), (1, .int _), (2, .int _), (3, .int _), (4, .int _)]) S.1 S.2.1 dX5_guard_21 hl (by decide) rfl (fun ls hl => ?_)
    refine lv_iload S.1 S.2.1 dX5_guard_23 (lv_at hl 0 rfl) ?_
    refine lv_if_eq (tgt := 47) S.1 S.2.1 dX5_guard_25 (by decide) (fun c => ?_) (fun c => ?_)
    · replace hok := And.left hok c
      replace hR := (if_pos c).symm.trans hR
      refine lv_bipush (v := -101) S.1 S.2.1 dX5_guard_47 (by decide) ?_
      subst hR
      exact g_reti S hr hlocks h dX5_guard_49
    · replace hok := And.right hok c
      replace hR := (if_neg c).symm.trans hR
      refine lv_iload_n S.1 S.2.1 dX5_guard_28 rfl (lv_at hl 4 rfl) ?_
      refine lv_bipush (v := 8) S.1 S.2.1 dX5_guard_29 (by decide) ?_
      have k2 := And.left hok
      replace hok := And.right hok
      refine g_calls S wz_cons K.2 (c_X5_isBelow l _ _ k2) kc_X5_isBelow km_X5_38 kt_X5_isBelow kn_X5 yd_X5_isBelow.2 ⟨⟨Nat.le_of_ble_eq_true rfl, Nat.le_of_ble_eq_true rfl⟩, rfl, rfl, Nat.zero_le _, Nat.zero_le _⟩ rfl hl.1 (Nat.le_of_ble_eq_true rfl) rfl dX5_guard_31 ?_
      refine lv_if_eq (tgt := 47) S.1 S.2.1 dX5_guard_34 (by decide) (fun c => ?_) (fun c => ?_)
      · replace hok := And.left hok c
        replace hR := (if_pos c).symm.trans hR
        refine lv_bipush (v := -101) S.1 S.2.1 dX5_guard_47 (by decide) ?_
        subst hR
        exact g_reti S hr hlocks h dX5_guard_49
      · replace hok := And.right hok c
        replace hR := (if_neg c).symm.trans hR
        refine lv_iload S.1 S.2.1 dX5_guard_37 (lv_at hl 5 rfl) ?_
        refine lv_bipush (v := 41) S.1 S.2.1 dX5_guard_39 (by decide) ?_
        have k5 := And.left hok
        replace hok := And.right hok
        refine g_calls S wz_cons K.2 (c_X5_isBelow l _ _ k5) kc_X5_isBelow km_X5_38 kt_X5_isBelow kn_X5 yd_X5_isBelow.2 ⟨⟨Nat.le_of_ble_eq_true rfl, Nat.le_of_ble_eq_true rfl⟩, rfl, rfl, Nat.zero_le _, Nat.zero_le _⟩ rfl hl.1 (Nat.le_of_ble_eq_true rfl) rfl dX5_guard_41 ?_
        refine lv_if_ne (tgt := 50) S.1 S.2.1 dX5_guard_44 (by decide) (fun c => ?_) (fun c => ?_)
        · replace hok := And.right hok c
          replace hR := (if_neg c).symm.trans hR
          refine lv_aload_n S.1 S.2.1 dX5_guard_50 rfl (lv_at hl 1 rfl) ?_
          refine fg_X5_10 S K h dX5_guard_51 ?_
          refine lv_iload_n S.1 S.2.1 dX5_guard_54 rfl (lv_at hl 2 rfl) ?_
          refine lv_iload_n S.1 S.2.1 dX5_guard_55 rfl (lv_at hl 3 rfl) ?_
          refine lv_iload_n S.1 S.2.1 dX5_guard_56 rfl (lv_at hl 4 rfl) ?_
          refine lv_iload S.1 S.2.1 dX5_guard_57 (lv_at hl 5 rfl) ?_
          have k8 := And.left hok
          replace hok := And.right hok
          refine g_calli (ci := 2) (q0 := 28) S wz_cons K h (c_X2_addGuard l D cy q _ A _ _ _ _ _ _ k8) kc_X2_addGuard km_X5_42 ki_X2_addGuard ks_X2_addGuard kn_X2 yd_X2_addGuard ⟨⟨Nat.le_of_ble_eq_true rfl, Nat.le_of_ble_eq_true rfl⟩, rfl, rfl, Nat.zero_le _, Nat.zero_le _⟩ rfl rfl rfl hl.1 (Nat.le_of_ble_eq_true rfl) rfl dX5_guard_59 (fun H locs h => ?_)
          subst hR
          exact g_reti S hr hlocks h dX5_guard_62
        · replace hok := And.left hok c
          replace hR := (if_pos c).symm.trans hR
          refine lv_bipush (v := -101) S.1 S.2.1 dX5_guard_47 (by decide) ?_
          subst hR
          exact g_reti S hr hlocks h dX5_guard_49
  · replace hok := And.right hok c
    replace hR := (if_neg c).symm.trans hR
    refine lv_iload_n S.1 S.2.1 dX5_guard_5 rfl (lv_at hl 1 rfl) ?_
    refine lv_iload_n S.1 S.2.1 dX5_guard_6 rfl (lv_at hl 2 rfl) ?_
    refine lv_icmp_ge (tgt := 20) S.1 S.2.1 dX5_guard_7 (by decide) (fun c => ?_) (fun c => ?_)
    · replace hok := And.left hok c
      replace hR := (if_pos c).symm.trans hR
      refine lv_iconst (v := 0) S.1 S.2.1 dX5_guard_20 (by decide) ?_
      refine lv_istore (lv' := [(5, .int _), (0, .ref _), (1, .int _), (2, .int _), (3, .int _), (4, .int _)]) S.1 S.2.1 dX5_guard_21 hl (by decide) rfl (fun ls hl => ?_)
      refine lv_iload S.1 S.2.1 dX5_guard_23 (lv_at hl 0 rfl) ?_
      refine lv_if_eq (tgt := 47) S.1 S.2.1 dX5_guard_25 (by decide) (fun c => ?_) (fun c => ?_)
      · replace hok := And.left hok c
        replace hR := (if_pos c).symm.trans hR
        refine lv_bipush (v := -101) S.1 S.2.1 dX5_guard_47 (by decide) ?_
        subst hR
        exact g_reti S hr hlocks h dX5_guard_49
      · replace hok := And.right hok c
        replace hR := (if_neg c).symm.trans hR
        refine lv_iload_n S.1 S.2.1 dX5_guard_28 rfl (lv_at hl 4 rfl) ?_
        refine lv_bipush (v := 8) S.1 S.2.1 dX5_guard_29 (by decide) ?_
        have k12 := And.left hok
        replace hok := And.right hok
        refine g_calls S wz_cons K.2 (c_X5_isBelow l _ _ k12) kc_X5_isBelow km_X5_38 kt_X5_isBelow kn_X5 yd_X5_isBelow.2 ⟨⟨Nat.le_of_ble_eq_true rfl, Nat.le_of_ble_eq_true rfl⟩, rfl, rfl, Nat.zero_le _, Nat.zero_le _⟩ rfl hl.1 (Nat.le_of_ble_eq_true rfl) rfl dX5_guard_31 ?_
        refine lv_if_eq (tgt := 47) S.1 S.2.1 dX5_guard_34 (by decide) (fun c => ?_) (fun c => ?_)
        · replace hok := And.left hok c
          replace hR := (if_pos c).symm.trans hR
          refine lv_bipush (v := -101) S.1 S.2.1 dX5_guard_47 (by decide) ?_
          subst hR
          exact g_reti S hr hlocks h dX5_guard_49
        · replace hok := And.right hok c
          replace hR := (if_neg c).symm.trans hR
          refine lv_iload S.1 S.2.1 dX5_guard_37 (lv_at hl 5 rfl) ?_
          refine lv_bipush (v := 41) S.1 S.2.1 dX5_guard_39 (by decide) ?_
          have k15 := And.left hok
          replace hok := And.right hok
          refine g_calls S wz_cons K.2 (c_X5_isBelow l _ _ k15) kc_X5_isBelow km_X5_38 kt_X5_isBelow kn_X5 yd_X5_isBelow.2 ⟨⟨Nat.le_of_ble_eq_true rfl, Nat.le_of_ble_eq_true rfl⟩, rfl, rfl, Nat.zero_le _, Nat.zero_le _⟩ rfl hl.1 (Nat.le_of_ble_eq_true rfl) rfl dX5_guard_41 ?_
          refine lv_if_ne (tgt := 50) S.1 S.2.1 dX5_guard_44 (by decide) (fun c => ?_) (fun c => ?_)
          · replace hok := And.right hok c
            replace hR := (if_neg c).symm.trans hR
            refine lv_aload_n S.1 S.2.1 dX5_guard_50 rfl (lv_at hl 1 rfl) ?_
            refine fg_X5_10 S K h dX5_guard_51 ?_
            refine lv_iload_n S.1 S.2.1 dX5_guard_54 rfl (lv_at hl 2 rfl) ?_
            refine lv_iload_n S.1 S.2.1 dX5_guard_55 rfl (lv_at hl 3 rfl) ?_
            refine lv_iload_n S.1 S.2.1 dX5_guard_56 rfl (lv_at hl 4 rfl) ?_
            refine lv_iload S.1 S.2.1 dX5_guard_57 (lv_at hl 5 rfl) ?_
            have k18 := And.left hok
            replace hok := And.right hok
            refine g_calli (ci := 2) (q0 := 28) S wz_cons K h (c_X2_addGuard l D cy q _ A _ _ _ _ _ _ k18) kc_X2_addGuard km_X5_42 ki_X2_addGuard ks_X2_addGuard kn_X2 yd_X2_addGuard ⟨⟨Nat.le_of_ble_eq_true rfl, Nat.le_of_ble_eq_true rfl⟩, rfl, rfl, Nat.zero_le _, Nat.zero_le _⟩ rfl rfl rfl hl.1 (Nat.le_of_ble_eq_true rfl) rfl dX5_guard_59 (fun H locs h => ?_)
            subst hR
            exact g_reti S hr hlocks h dX5_guard_62
          · replace hok := And.left hok c
            replace hR := (if_pos c).symm.trans hR
            refine lv_bipush (v := -101) S.1 S.2.1 dX5_guard_47 (by decide) ?_
            subst hR
            exact g_reti S hr hlocks h dX5_guard_49
    · replace hok := And.right hok c
      replace hR := (if_neg c).symm.trans hR
      refine lv_iload_n S.1 S.2.1 dX5_guard_10 rfl (lv_at hl 2 rfl) ?_
      refine lv_bipush (v := 40) S.1 S.2.1 dX5_guard_11 (by decide) ?_
      refine lv_icmp_gt (tgt := 20) S.1 S.2.1 dX5_guard_13 (by decide) (fun c => ?_) (fun c => ?_)
      · replace hok := And.left hok c
        replace hR := (if_pos c).symm.trans hR
        refine lv_iconst (v := 0) S.1 S.2.1 dX5_guard_20 (by decide) ?_
        refine lv_istore (lv' := [(5, .int _), (0, .ref _), (1, .int _), (2, .int _), (3, .int _), (4, .int _)]) S.1 S.2.1 dX5_guard_21 hl (by decide) rfl (fun ls hl => ?_)
        refine lv_iload S.1 S.2.1 dX5_guard_23 (lv_at hl 0 rfl) ?_
        refine lv_if_eq (tgt := 47) S.1 S.2.1 dX5_guard_25 (by decide) (fun c => ?_) (fun c => ?_)
        · replace hok := And.left hok c
          replace hR := (if_pos c).symm.trans hR
          refine lv_bipush (v := -101) S.1 S.2.1 dX5_guard_47 (by decide) ?_
          subst hR
          exact g_reti S hr hlocks h dX5_guard_49
        · replace hok := And.right hok c
          replace hR := (if_neg c).symm.trans hR
          refine lv_iload_n S.1 S.2.1 dX5_guard_28 rfl (lv_at hl 4 rfl) ?_
          refine lv_bipush (v := 8) S.1 S.2.1 dX5_guard_29 (by decide) ?_
          have k22 := And.left hok
          replace hok := And.right hok
          refine g_calls S wz_cons K.2 (c_X5_isBelow l _ _ k22) kc_X5_isBelow km_X5_38 kt_X5_isBelow kn_X5 yd_X5_isBelow.2 ⟨⟨Nat.le_of_ble_eq_true rfl, Nat.le_of_ble_eq_true rfl⟩, rfl, rfl, Nat.zero_le _, Nat.zero_le _⟩ rfl hl.1 (Nat.le_of_ble_eq_true rfl) rfl dX5_guard_31 ?_
          refine lv_if_eq (tgt := 47) S.1 S.2.1 dX5_guard_34 (by decide) (fun c => ?_) (fun c => ?_)
          · replace hok := And.left hok c
            replace hR := (if_pos c).symm.trans hR
            refine lv_bipush (v := -101) S.1 S.2.1 dX5_guard_47 (by decide) ?_
            subst hR
            exact g_reti S hr hlocks h dX5_guard_49
          · replace hok := And.right hok c
            replace hR := (if_neg c).symm.trans hR
            refine lv_iload S.1 S.2.1 dX5_guard_37 (lv_at hl 5 rfl) ?_
            refine lv_bipush (v := 41) S.1 S.2.1 dX5_guard_39 (by decide) ?_
            have k25 := And.left hok
            replace hok := And.right hok
            refine g_calls S wz_cons K.2 (c_X5_isBelow l _ _ k25) kc_X5_isBelow km_X5_38 kt_X5_isBelow kn_X5 yd_X5_isBelow.2 ⟨⟨Nat.le_of_ble_eq_true rfl, Nat.le_of_ble_eq_true rfl⟩, rfl, rfl, Nat.zero_le _, Nat.zero_le _⟩ rfl hl.1 (Nat.le_of_ble_eq_true rfl) rfl dX5_guard_41 ?_
            refine lv_if_ne (tgt := 50) S.1 S.2.1 dX5_guard_44 (by decide) (fun c => ?_) (fun c => ?_)
            · replace hok := And.right hok c
              replace hR := (if_neg c).symm.trans hR
              refine lv_aload_n S.1 S.2.1 dX5_guard_50 rfl (lv_at hl 1 rfl) ?_
              refine fg_X5_10 S K h dX5_guard_51 ?_
              refine lv_iload_n S.1 S.2.1 dX5_guard_54 rfl (lv_at hl 2 rfl) ?_
              refine lv_iload_n S.1 S.2.1 dX5_guard_55 rfl (lv_at hl 3 rfl) ?_
              refine lv_iload_n S.1 S.2.1 dX5_guard_56 rfl (lv_at hl 4 rfl) ?_
              refine lv_iload S.1 S.2.1 dX5_guard_57 (lv_at hl 5 rfl) ?_
              have k28 := And.left hok
              replace hok := And.right hok
              refine g_calli (ci := 2) (q0 := 28) S wz_cons K h (c_X2_addGuard l D cy q _ A _ _ _ _ _ _ k28) kc_X2_addGuard km_X5_42 ki_X2_addGuard ks_X2_addGuard kn_X2 yd_X2_addGuard ⟨⟨Nat.le_of_ble_eq_true rfl, Nat.le_of_ble_eq_true rfl⟩, rfl, rfl, Nat.zero_le _, Nat.zero_le _⟩ rfl rfl rfl hl.1 (Nat.le_of_ble_eq_true rfl) rfl dX5_guard_59 (fun H locs h => ?_)
              subst hR
              exact g_reti S hr hlocks h dX5_guard_62
            · replace hok := And.left hok c
              replace hR := (if_pos c).symm.trans hR
              refine lv_bipush (v := -101) S.1 S.2.1 dX5_guard_47 (by decide) ?_
              subst hR
              exact g_reti S hr hlocks h dX5_guard_49
      · replace hok := And.right hok c
        replace hR := (if_neg c).symm.trans hR
        refine lv_iconst (v := 1) S.1 S.2.1 dX5_guard_16 (by decide) ?_
        refine lv_goto (tgt := 21) S.1 S.2.1 dX5_guard_17 (by decide) ?_
        refine lv_istore (lv' := [(5, .int _), (0, .ref _), (1, .int _), (2, .int _), (3, .int _), (4, .int _)]) S.1 S.2.1 dX5_guard_21 hl (by decide) rfl (fun ls hl => ?_)
        refine lv_iload S.1 S.2.1 dX5_guard_23 (lv_at hl 0 rfl) ?_
        refine lv_if_eq (tgt := 47) S.1 S.2.1 dX5_guard_25 (by decide) (fun c => ?_) (fun c => ?_)
        · replace hok := And.left hok c
          replace hR := (if_pos c).symm.trans hR
          refine lv_bipush (v := -101) S.1 S.2.1 dX5_guard_47 (by decide) ?_
          subst hR
          exact g_reti S hr hlocks h dX5_guard_49
        · replace hok := And.right hok c
          replace hR := (if_neg c).symm.trans hR
          refine lv_iload_n S.1 S.2.1 dX5_guard_28 rfl (lv_at hl 4 rfl) ?_
          refine lv_bipush (v := 8) S.1 S.2.1 dX5_guard_29 (by decide) ?_
          have k32 := And.left hok
          replace hok := And.right hok
          refine g_calls S wz_cons K.2 (c_X5_isBelow l _ _ k32) kc_X5_isBelow km_X5_38 kt_X5_isBelow kn_X5 yd_X5_isBelow.2 ⟨⟨Nat.le_of_ble_eq_true rfl, Nat.le_of_ble_eq_true rfl⟩, rfl, rfl, Nat.zero_le _, Nat.zero_le _⟩ rfl hl.1 (Nat.le_of_ble_eq_true rfl) rfl dX5_guard_31 ?_
          refine lv_if_eq (tgt := 47) S.1 S.2.1 dX5_guard_34 (by decide) (fun c => ?_) (fun c => ?_)
          · replace hok := And.left hok c
            replace hR := (if_pos c).symm.trans hR
            refine lv_bipush (v := -101) S.1 S.2.1 dX5_guard_47 (by decide) ?_
            subst hR
            exact g_reti S hr hlocks h dX5_guard_49
          · replace hok := And.right hok c
            replace hR := (if_neg c).symm.trans hR
            refine lv_iload S.1 S.2.1 dX5_guard_37 (lv_at hl 5 rfl) ?_
            refine lv_bipush (v := 41) S.1 S.2.1 dX5_guard_39 (by decide) ?_
            have k35 := And.left hok
            replace hok := And.right hok
            refine g_calls S wz_cons K.2 (c_X5_isBelow l _ _ k35) kc_X5_isBelow km_X5_38 kt_X5_isBelow kn_X5 yd_X5_isBelow.2 ⟨⟨Nat.le_of_ble_eq_true rfl, Nat.le_of_ble_eq_true rfl⟩, rfl, rfl, Nat.zero_le _, Nat.zero_le _⟩ rfl hl.1 (Nat.le_of_ble_eq_true rfl) rfl dX5_guard_41 ?_
            refine lv_if_ne (tgt := 50) S.1 S.2.1 dX5_guard_44 (by decide) (fun c => ?_) (fun c => ?_)
            · replace hok := And.right hok c
              replace hR := (if_neg c).symm.trans hR
              refine lv_aload_n S.1 S.2.1 dX5_guard_50 rfl (lv_at hl 1 rfl) ?_
              refine fg_X5_10 S K h dX5_guard_51 ?_
              refine lv_iload_n S.1 S.2.1 dX5_guard_54 rfl (lv_at hl 2 rfl) ?_
              refine lv_iload_n S.1 S.2.1 dX5_guard_55 rfl (lv_at hl 3 rfl) ?_
              refine lv_iload_n S.1 S.2.1 dX5_guard_56 rfl (lv_at hl 4 rfl) ?_
              refine lv_iload S.1 S.2.1 dX5_guard_57 (lv_at hl 5 rfl) ?_
              have k38 := And.left hok
              replace hok := And.right hok
              refine g_calli (ci := 2) (q0 := 28) S wz_cons K h (c_X2_addGuard l D cy q _ A _ _ _ _ _ _ k38) kc_X2_addGuard km_X5_42 ki_X2_addGuard ks_X2_addGuard kn_X2 yd_X2_addGuard ⟨⟨Nat.le_of_ble_eq_true rfl, Nat.le_of_ble_eq_true rfl⟩, rfl, rfl, Nat.zero_le _, Nat.zero_le _⟩ rfl rfl rfl hl.1 (Nat.le_of_ble_eq_true rfl) rfl dX5_guard_59 (fun H locs h => ?_)
              subst hR
              exact g_reti S hr hlocks h dX5_guard_62
            · replace hok := And.left hok c
              replace hR := (if_pos c).symm.trans hR
              refine lv_bipush (v := -101) S.1 S.2.1 dX5_guard_47 (by decide) ?_
              subst hR
              exact g_reti S hr hlocks h dX5_guard_49
def xr_X5_clear (σ : GS) (ρ : GS) : Int32 × GS × GS := (ρ 28 0, σ, st (st ρ 28 0 0) 28 1 0)
def xo_X5_clear (σ : GS) (ρ : GS) : Prop := True
set_option maxRecDepth 100000 in
set_option maxHeartbeats 4000000 in
theorem c_X5_clear (l : Launch) (D : va_G) (cy : CY) (q : Nat → Nat) (ex : va_W) (A : Nat → Prop) (σ : GS) (ρ : GS) (hok : xo_X5_clear σ ρ) : Met l yX5_clear (wm yX5_clear cX5_clear 2 (some .int)) ({ frames := 0, cells := 0, slots := 0, locals := 0 } : Room) (PC D cy (wH cy q σ ++ (wE cy q ρ ++ ex)) A [.ref (q 27)]) (QI D (wH cy q (xr_X5_clear σ ρ).2.1 ++ (wE cy q (xr_X5_clear σ ρ).2.2 ++ ex)) A (xr_X5_clear σ ρ).1) 0 0 A := by
  generalize hR : xr_X5_clear σ ρ = R
  refine g_met (lv := [(0, .ref (q 27))]) (by decide) rfl (Nat.le_of_ble_eq_true rfl) rfl ?_
  intro p e s m below meth c ls S K h hr hlocks hl
  refine lv_aload_n S.1 S.2.1 dX5_clear_0 rfl (lv_at hl 0 rfl) ?_
  refine fg_X5_10 S K h dX5_clear_1 ?_
  refine fg_X5_45 S K h dX5_clear_4 ?_
  refine lv_istore_n (lv' := [(1, .int _), (0, .ref _)]) S.1 S.2.1 dX5_clear_7 rfl hl (by decide) rfl (fun ls hl => ?_)
  refine lv_aload_n S.1 S.2.1 dX5_clear_8 rfl (lv_at hl 1 rfl) ?_
  refine fg_X5_10 S K h dX5_clear_9 ?_
  refine lv_iconst (v := 0) S.1 S.2.1 dX5_clear_12 (by decide) ?_
  refine fp_X5_45 S K h dX5_clear_13 (fun H locs h => ?_)
  refine lv_aload_n S.1 S.2.1 dX5_clear_16 rfl (lv_at hl 1 rfl) ?_
  refine fg_X5_10 S K h dX5_clear_17 ?_
  refine lv_iconst (v := 0) S.1 S.2.1 dX5_clear_20 (by decide) ?_
  refine fp_X5_49 S K h dX5_clear_21 (fun H locs h => ?_)
  refine lv_iload_n S.1 S.2.1 dX5_clear_24 rfl (lv_at hl 0 rfl) ?_
  subst hR
  exact g_reti S hr hlocks h dX5_clear_25
def xr_X5_told (σ : GS) (ρ : GS) (a1 : Int32) : Int32 × GS × GS := if a1 = 0 then (ρ 37 0, σ, ρ) else if a1 = 1 then (ρ 37 1, σ, ρ) else if a1 = 2 then (ρ 37 2, σ, ρ) else if a1 = 3 then (ρ 37 3, σ, ρ) else if a1 = 4 then (ρ 37 4, σ, ρ) else (-101, σ, ρ)
def xo_X5_told (σ : GS) (ρ : GS) (a1 : Int32) : Prop := (a1 = 0 → True) ∧ (¬ (a1 = 0) → (a1 = 1 → True) ∧ (¬ (a1 = 1) → (a1 = 2 → True) ∧ (¬ (a1 = 2) → (a1 = 3 → True) ∧ (¬ (a1 = 3) → (a1 = 4 → True) ∧ (¬ (a1 = 4) → True)))))
set_option maxRecDepth 100000 in
set_option maxHeartbeats 4000000 in
theorem c_X5_told (l : Launch) (D : va_G) (cy : CY) (q : Nat → Nat) (ex : va_W) (A : Nat → Prop) (σ : GS) (ρ : GS) (a1 : Int32) (hok : xo_X5_told σ ρ a1) : Met l yX5_told (wm yX5_told cX5_told 2 (some .int)) ({ frames := 0, cells := 0, slots := 0, locals := 0 } : Room) (PC D cy (wH cy q σ ++ (wE cy q ρ ++ ex)) A [.ref (q 27), .int a1]) (QI D (wH cy q (xr_X5_told σ ρ a1).2.1 ++ (wE cy q (xr_X5_told σ ρ a1).2.2 ++ ex)) A (xr_X5_told σ ρ a1).1) 0 0 A := by
  generalize hR : xr_X5_told σ ρ a1 = R
  refine g_met (lv := [(0, .ref (q 27)), (1, .int a1)]) (by decide) rfl (Nat.le_of_ble_eq_true rfl) rfl ?_
  intro p e s m below meth c ls S K h hr hlocks hl
  refine lv_iload_n S.1 S.2.1 dX5_told_0 rfl (lv_at hl 1 rfl) ?_
  refine g_em 0 (fun c => ?_) (fun n0 => ?_)
  · replace hok := And.left hok c
    replace hR := (if_pos c).symm.trans hR
    refine g_sw (tgt := 36) S.1 S.2.1 dX5_told_1 c rfl (by decide) (by decide) rfl (by decide) ?_
    refine lv_aload_n S.1 S.2.1 dX5_told_36 rfl (lv_at hl 0 rfl) ?_
    refine fg_X5_26 S K h dX5_told_37 ?_
    refine fg_X5_66 S K h dX5_told_40 ?_
    subst hR
    exact g_reti S hr hlocks h dX5_told_43
  replace hok := And.right hok n0
  replace hR := (if_neg n0).symm.trans hR
  refine g_em 1 (fun c => ?_) (fun n1 => ?_)
  · replace hok := And.left hok c
    replace hR := (if_pos c).symm.trans hR
    refine g_sw (tgt := 44) S.1 S.2.1 dX5_told_1 c rfl (by decide) (by decide) rfl (by decide) ?_
    refine lv_aload_n S.1 S.2.1 dX5_told_44 rfl (lv_at hl 0 rfl) ?_
    refine fg_X5_26 S K h dX5_told_45 ?_
    refine fg_X5_69 S K h dX5_told_48 ?_
    subst hR
    exact g_reti S hr hlocks h dX5_told_51
  replace hok := And.right hok n1
  replace hR := (if_neg n1).symm.trans hR
  refine g_em 2 (fun c => ?_) (fun n2 => ?_)
  · replace hok := And.left hok c
    replace hR := (if_pos c).symm.trans hR
    refine g_sw (tgt := 52) S.1 S.2.1 dX5_told_1 c rfl (by decide) (by decide) rfl (by decide) ?_
    refine lv_aload_n S.1 S.2.1 dX5_told_52 rfl (lv_at hl 0 rfl) ?_
    refine fg_X5_26 S K h dX5_told_53 ?_
    refine fg_X5_72 S K h dX5_told_56 ?_
    subst hR
    exact g_reti S hr hlocks h dX5_told_59
  replace hok := And.right hok n2
  replace hR := (if_neg n2).symm.trans hR
  refine g_em 3 (fun c => ?_) (fun n3 => ?_)
  · replace hok := And.left hok c
    replace hR := (if_pos c).symm.trans hR
    refine g_sw (tgt := 60) S.1 S.2.1 dX5_told_1 c rfl (by decide) (by decide) rfl (by decide) ?_
    refine lv_aload_n S.1 S.2.1 dX5_told_60 rfl (lv_at hl 0 rfl) ?_
    refine fg_X5_26 S K h dX5_told_61 ?_
    refine fg_X5_75 S K h dX5_told_64 ?_
    subst hR
    exact g_reti S hr hlocks h dX5_told_67
  replace hok := And.right hok n3
  replace hR := (if_neg n3).symm.trans hR
  refine g_em 4 (fun c => ?_) (fun n4 => ?_)
  · replace hok := And.left hok c
    replace hR := (if_pos c).symm.trans hR
    refine g_sw (tgt := 68) S.1 S.2.1 dX5_told_1 c rfl (by decide) (by decide) rfl (by decide) ?_
    refine lv_aload_n S.1 S.2.1 dX5_told_68 rfl (lv_at hl 0 rfl) ?_
    refine fg_X5_26 S K h dX5_told_69 ?_
    refine fg_X5_78 S K h dX5_told_72 ?_
    subst hR
    exact g_reti S hr hlocks h dX5_told_75
  replace hok := And.right hok n4
  replace hR := (if_neg n4).symm.trans hR
  have m0 := lv_neT (a := 0) n0 rfl
  have m1 := lv_neT (a := 1) n1 rfl
  have m2 := lv_neT (a := 2) n2 rfl
  have m3 := lv_neT (a := 3) n3 rfl
  have m4 := lv_neT (a := 4) n4 rfl
  refine lv_tableOut (tgt := 76) S.1 S.2.1 dX5_told_1 (by omega) (by decide) ?_
  refine lv_bipush (v := -101) S.1 S.2.1 dX5_told_76 (by decide) ?_
  subst hR
  exact g_reti S hr hlocks h dX5_told_78
def xr_X5_caught (σ : GS) (ρ : GS) (a1 : Int32) : Int32 × GS × GS := if a1 = 0 then (-101, σ, ρ) else if (xr_X5_isBelow a1 8) = 0 then (-101, σ, ρ) else (ρ 38 a1.toNatClampNeg, σ, ρ)
def xo_X5_caught (σ : GS) (ρ : GS) (a1 : Int32) : Prop := (a1 = 0 → True) ∧ (¬ (a1 = 0) → (xo_X5_isBelow a1 8) ∧ (((xr_X5_isBelow a1 8) = 0 → True) ∧ (¬ ((xr_X5_isBelow a1 8) = 0) → vp_in a1 8 ∧ (True))))
set_option maxRecDepth 100000 in
set_option maxHeartbeats 4000000 in
theorem c_X5_caught (l : Launch) (D : va_G) (cy : CY) (q : Nat → Nat) (ex : va_W) (A : Nat → Prop) (σ : GS) (ρ : GS) (a1 : Int32) (hok : xo_X5_caught σ ρ a1) : Met l yX5_caught (wm yX5_caught cX5_caught 2 (some .int)) ({ frames := 1, cells := 0, slots := 0, locals := 21 } : Room) (PC D cy (wH cy q σ ++ (wE cy q ρ ++ ex)) A [.ref (q 27), .int a1]) (QI D (wH cy q (xr_X5_caught σ ρ a1).2.1 ++ (wE cy q (xr_X5_caught σ ρ a1).2.2 ++ ex)) A (xr_X5_caught σ ρ a1).1) 0 0 A := by
  generalize hR : xr_X5_caught σ ρ a1 = R
  refine g_met (lv := [(0, .ref (q 27)), (1, .int a1)]) (by decide) rfl (Nat.le_of_ble_eq_true rfl) rfl ?_
  intro p e s m below meth c ls S K h hr hlocks hl
  refine lv_iload_n S.1 S.2.1 dX5_caught_0 rfl (lv_at hl 1 rfl) ?_
  refine lv_if_eq (tgt := 13) S.1 S.2.1 dX5_caught_1 (by decide) (fun c => ?_) (fun c => ?_)
  · replace hok := And.left hok c
    replace hR := (if_pos c).symm.trans hR
    refine lv_bipush (v := -101) S.1 S.2.1 dX5_caught_13 (by decide) ?_
    subst hR
    exact g_reti S hr hlocks h dX5_caught_15
  · replace hok := And.right hok c
    replace hR := (if_neg c).symm.trans hR
    refine lv_iload_n S.1 S.2.1 dX5_caught_4 rfl (lv_at hl 1 rfl) ?_
    refine lv_bipush (v := 8) S.1 S.2.1 dX5_caught_5 (by decide) ?_
    have k2 := And.left hok
    replace hok := And.right hok
    refine g_calls S wz_cons K.2 (c_X5_isBelow l _ _ k2) kc_X5_isBelow km_X5_38 kt_X5_isBelow kn_X5 yd_X5_isBelow.2 ⟨⟨Nat.le_of_ble_eq_true rfl, Nat.le_of_ble_eq_true rfl⟩, rfl, rfl, Nat.zero_le _, Nat.zero_le _⟩ rfl hl.1 (Nat.le_of_ble_eq_true rfl) rfl dX5_caught_7 ?_
    refine lv_if_ne (tgt := 16) S.1 S.2.1 dX5_caught_10 (by decide) (fun c => ?_) (fun c => ?_)
    · replace hok := And.right hok c
      replace hR := (if_neg c).symm.trans hR
      refine lv_aload_n S.1 S.2.1 dX5_caught_16 rfl (lv_at hl 0 rfl) ?_
      refine fg_X5_26 S K h dX5_caught_17 ?_
      refine fg_X5_81 S K h dX5_caught_20 ?_
      refine lv_iload_n S.1 S.2.1 dX5_caught_23 rfl (lv_at hl 1 rfl) ?_
      have k4 := And.left hok
      replace hok := And.right hok
      refine al_E38 S K h k4 dX5_caught_24 ?_
      subst hR
      exact g_reti S hr hlocks h dX5_caught_25
    · replace hok := And.left hok c
      replace hR := (if_pos c).symm.trans hR
      refine lv_bipush (v := -101) S.1 S.2.1 dX5_caught_13 (by decide) ?_
      subst hR
      exact g_reti S hr hlocks h dX5_caught_15
def xr_X5_register (σ : GS) (ρ : GS) (a1 : Int32) : Int32 × GS × GS := if (xr_X5_isBelow a1 6) = 0 then (0, σ, ρ) else (σ 1 a1.toNatClampNeg, σ, ρ)
def xo_X5_register (σ : GS) (ρ : GS) (a1 : Int32) : Prop := (xo_X5_isBelow a1 6) ∧ (((xr_X5_isBelow a1 6) = 0 → True) ∧ (¬ ((xr_X5_isBelow a1 6) = 0) → vp_in a1 6 ∧ (True)))
set_option maxRecDepth 100000 in
set_option maxHeartbeats 4000000 in
theorem c_X5_register (l : Launch) (D : va_G) (cy : CY) (q : Nat → Nat) (ex : va_W) (A : Nat → Prop) (σ : GS) (ρ : GS) (a1 : Int32) (hok : xo_X5_register σ ρ a1) : Met l yX5_register (wm yX5_register cX5_register 2 (some .int)) ({ frames := 1, cells := 0, slots := 0, locals := 21 } : Room) (PC D cy (wH cy q σ ++ (wE cy q ρ ++ ex)) A [.ref (q 27), .int a1]) (QI D (wH cy q (xr_X5_register σ ρ a1).2.1 ++ (wE cy q (xr_X5_register σ ρ a1).2.2 ++ ex)) A (xr_X5_register σ ρ a1).1) 0 0 A := by
  generalize hR : xr_X5_register σ ρ a1 = R
  refine g_met (lv := [(0, .ref (q 27)), (1, .int a1)]) (by decide) rfl (Nat.le_of_ble_eq_true rfl) rfl ?_
  intro p e s m below meth c ls S K h hr hlocks hl
  refine lv_iload_n S.1 S.2.1 dX5_register_0 rfl (lv_at hl 1 rfl) ?_
  refine lv_bipush (v := 6) S.1 S.2.1 dX5_register_1 (by decide) ?_
  have k2 := And.left hok
  replace hok := And.right hok
  refine g_calls S wz_cons K.2 (c_X5_isBelow l _ _ k2) kc_X5_isBelow km_X5_38 kt_X5_isBelow kn_X5 yd_X5_isBelow.2 ⟨⟨Nat.le_of_ble_eq_true rfl, Nat.le_of_ble_eq_true rfl⟩, rfl, rfl, Nat.zero_le _, Nat.zero_le _⟩ rfl hl.1 (Nat.le_of_ble_eq_true rfl) rfl dX5_register_3 ?_
  refine lv_if_eq (tgt := 21) S.1 S.2.1 dX5_register_6 (by decide) (fun c => ?_) (fun c => ?_)
  · replace hok := And.left hok c
    replace hR := (if_pos c).symm.trans hR
    refine lv_iconst (v := 0) S.1 S.2.1 dX5_register_21 (by decide) ?_
    subst hR
    exact g_reti S hr hlocks h dX5_register_22
  · replace hok := And.right hok c
    replace hR := (if_neg c).symm.trans hR
    refine lv_aload_n S.1 S.2.1 dX5_register_9 rfl (lv_at hl 0 rfl) ?_
    refine fg_X5_19 S K h dX5_register_10 ?_
    refine fg_X5_85 S K h dX5_register_13 ?_
    refine lv_iload_n S.1 S.2.1 dX5_register_16 rfl (lv_at hl 1 rfl) ?_
    have k4 := And.left hok
    replace hok := And.right hok
    refine al_H1 S K h k4 dX5_register_17 ?_
    refine lv_goto (tgt := 22) S.1 S.2.1 dX5_register_18 (by decide) ?_
    subst hR
    exact g_reti S hr hlocks h dX5_register_22
def xr_X5_item (σ : GS) (ρ : GS) (a1 : Int32) (a2 : Int32) : Int32 × GS × GS := if (xr_X5_isBelow a1 8) = 0 then (-101, σ, ρ) else if (xr_X5_isBelow a2 4) = 0 then (-101, σ, ρ) else bd (xr_X1_has σ (σ 2 a1.toNatClampNeg)) (fun v8 σ10 => if v8 = 0 then (-1, σ10, ρ) else if a2 = 0 then (σ10 10 (σ 2 a1.toNatClampNeg).toNatClampNeg, σ10, ρ) else if a2 = 1 then (σ10 11 (σ 2 a1.toNatClampNeg).toNatClampNeg, σ10, ρ) else if a2 = 2 then (σ10 12 (σ 2 a1.toNatClampNeg).toNatClampNeg, σ10, ρ) else bd (xr_X0_firstPlaceOf σ10 (σ 2 a1.toNatClampNeg)) (fun v14 σ16 => (v14, σ16, ρ)))
def xo_X5_item (σ : GS) (ρ : GS) (a1 : Int32) (a2 : Int32) : Prop := (xo_X5_isBelow a1 8) ∧ (((xr_X5_isBelow a1 8) = 0 → True) ∧ (¬ ((xr_X5_isBelow a1 8) = 0) → (xo_X5_isBelow a2 4) ∧ (((xr_X5_isBelow a2 4) = 0 → True) ∧ (¬ ((xr_X5_isBelow a2 4) = 0) → vp_in a1 8 ∧ ((xo_X1_has σ (σ 2 a1.toNatClampNeg)) ∧ bd (xr_X1_has σ (σ 2 a1.toNatClampNeg)) (fun v8 σ10 => (v8 = 0 → True) ∧ (¬ (v8 = 0) → (a2 = 0 → vp_in (σ 2 a1.toNatClampNeg) 64 ∧ (True)) ∧ (¬ (a2 = 0) → (a2 = 1 → vp_in (σ 2 a1.toNatClampNeg) 64 ∧ (True)) ∧ (¬ (a2 = 1) → (a2 = 2 → vp_in (σ 2 a1.toNatClampNeg) 64 ∧ (True)) ∧ (¬ (a2 = 2) → (xo_X0_firstPlaceOf σ10 (σ 2 a1.toNatClampNeg)) ∧ bd (xr_X0_firstPlaceOf σ10 (σ 2 a1.toNatClampNeg)) (fun v14 σ16 => True)))))))))))
set_option maxRecDepth 100000 in
set_option maxHeartbeats 4000000 in
theorem c_X5_item (l : Launch) (D : va_G) (cy : CY) (q : Nat → Nat) (ex : va_W) (A : Nat → Prop) (σ : GS) (ρ : GS) (a1 : Int32) (a2 : Int32) (hok : xo_X5_item σ ρ a1 a2) : Met l yX5_item (wm yX5_item cX5_item 4 (some .int)) ({ frames := 2, cells := 0, slots := 0, locals := 42 } : Room) (PC D cy (wH cy q σ ++ (wE cy q ρ ++ ex)) A [.ref (q 27), .int a1, .int a2]) (QI D (wH cy q (xr_X5_item σ ρ a1 a2).2.1 ++ (wE cy q (xr_X5_item σ ρ a1 a2).2.2 ++ ex)) A (xr_X5_item σ ρ a1 a2).1) 0 0 A := by
  generalize hR : xr_X5_item σ ρ a1 a2 = R
  refine g_met (lv := [(0, .ref (q 27)), (1, .int a1), (2, .int a2)]) (by decide) rfl (Nat.le_of_ble_eq_true rfl) rfl ?_
  intro p e s m below meth c ls S K h hr hlocks hl
  refine lv_iload_n S.1 S.2.1 dX5_item_0 rfl (lv_at hl 1 rfl) ?_
  refine lv_bipush (v := 8) S.1 S.2.1 dX5_item_1 (by decide) ?_
  have k2 := And.left hok
  replace hok := And.right hok
  refine g_calls S wz_cons K.2 (c_X5_isBelow l _ _ k2) kc_X5_isBelow km_X5_38 kt_X5_isBelow kn_X5 yd_X5_isBelow.2 ⟨⟨Nat.le_of_ble_eq_true rfl, Nat.le_of_ble_eq_true rfl⟩, rfl, rfl, Nat.zero_le _, Nat.zero_le _⟩ rfl hl.1 (Nat.le_of_ble_eq_true rfl) rfl dX5_item_3 ?_
  refine lv_if_eq (tgt := 17) S.1 S.2.1 dX5_item_6 (by decide) (fun c => ?_) (fun c => ?_)
  · replace hok := And.left hok c
    replace hR := (if_pos c).symm.trans hR
    refine lv_bipush (v := -101) S.1 S.2.1 dX5_item_17 (by decide) ?_
    subst hR
    exact g_reti S hr hlocks h dX5_item_19
  · replace hok := And.right hok c
    replace hR := (if_neg c).symm.trans hR
    refine lv_iload_n S.1 S.2.1 dX5_item_9 rfl (lv_at hl 2 rfl) ?_
    refine lv_iconst (v := 4) S.1 S.2.1 dX5_item_10 (by decide) ?_
    have k5 := And.left hok
    replace hok := And.right hok
    refine g_calls S wz_cons K.2 (c_X5_isBelow l _ _ k5) kc_X5_isBelow km_X5_38 kt_X5_isBelow kn_X5 yd_X5_isBelow.2 ⟨⟨Nat.le_of_ble_eq_true rfl, Nat.le_of_ble_eq_true rfl⟩, rfl, rfl, Nat.zero_le _, Nat.zero_le _⟩ rfl hl.1 (Nat.le_of_ble_eq_true rfl) rfl dX5_item_11 ?_
    refine lv_if_ne (tgt := 20) S.1 S.2.1 dX5_item_14 (by decide) (fun c => ?_) (fun c => ?_)
    · replace hok := And.right hok c
      replace hR := (if_neg c).symm.trans hR
      refine lv_aload_n S.1 S.2.1 dX5_item_20 rfl (lv_at hl 0 rfl) ?_
      refine fg_X5_19 S K h dX5_item_21 ?_
      refine fg_X5_88 S K h dX5_item_24 ?_
      refine lv_iload_n S.1 S.2.1 dX5_item_27 rfl (lv_at hl 1 rfl) ?_
      have k7 := And.left hok
      replace hok := And.right hok
      refine al_H2 S K h k7 dX5_item_28 ?_
      refine lv_istore_n (lv' := [(3, .int _), (0, .ref _), (1, .int _), (2, .int _)]) S.1 S.2.1 dX5_item_29 rfl hl (by decide) rfl (fun ls hl => ?_)
      refine lv_aload_n S.1 S.2.1 dX5_item_30 rfl (lv_at hl 1 rfl) ?_
      refine fg_X5_19 S K h dX5_item_31 ?_
      refine fg_X5_91 S K h dX5_item_34 ?_
      refine lv_iload_n S.1 S.2.1 dX5_item_37 rfl (lv_at hl 0 rfl) ?_
      have k9 := And.left hok
      replace hok := And.right hok
      refine g_calli (ci := 1) (q0 := 9) S wz_cons K h (c_X1_has l D cy q _ A _ _ k9) kc_X1_has km_X5_95 ki_X1_has ks_X1_has kn_X1 yd_X1_has ⟨⟨Nat.le_of_ble_eq_true rfl, Nat.le_of_ble_eq_true rfl⟩, rfl, rfl, Nat.zero_le _, Nat.zero_le _⟩ rfl rfl rfl hl.1 (Nat.le_of_ble_eq_true rfl) rfl dX5_item_38 (fun H locs h => ?_)
      refine lv_if_ne (tgt := 46) S.1 S.2.1 dX5_item_41 (by decide) (fun c => ?_) (fun c => ?_)
      · replace hok := And.right hok c
        replace hR := (if_neg c).symm.trans hR
        refine lv_iload_n S.1 S.2.1 dX5_item_46 rfl (lv_at hl 3 rfl) ?_
        refine g_em 0 (fun c => ?_) (fun n0 => ?_)
        · replace hok := And.left hok c
          replace hR := (if_pos c).symm.trans hR
          refine g_sw (tgt := 72) S.1 S.2.1 dX5_item_47 c rfl (by decide) (by decide) rfl (by decide) ?_
          refine lv_aload_n S.1 S.2.1 dX5_item_72 rfl (lv_at hl 1 rfl) ?_
          refine fg_X5_19 S K h dX5_item_73 ?_
          refine fg_X5_91 S K h dX5_item_76 ?_
          refine fg_X5_100 S K h dX5_item_79 ?_
          refine lv_iload_n S.1 S.2.1 dX5_item_82 rfl (lv_at hl 0 rfl) ?_
          have k11 := And.left hok
          replace hok := And.right hok
          refine al_H10 S K h k11 dX5_item_83 ?_
          subst hR
          exact g_reti S hr hlocks h dX5_item_84
        replace hok := And.right hok n0
        replace hR := (if_neg n0).symm.trans hR
        refine g_em 1 (fun c => ?_) (fun n1 => ?_)
        · replace hok := And.left hok c
          replace hR := (if_pos c).symm.trans hR
          refine g_sw (tgt := 85) S.1 S.2.1 dX5_item_47 c rfl (by decide) (by decide) rfl (by decide) ?_
          refine lv_aload_n S.1 S.2.1 dX5_item_85 rfl (lv_at hl 1 rfl) ?_
          refine fg_X5_19 S K h dX5_item_86 ?_
          refine fg_X5_91 S K h dX5_item_89 ?_
          refine fg_X5_103 S K h dX5_item_92 ?_
          refine lv_iload_n S.1 S.2.1 dX5_item_95 rfl (lv_at hl 0 rfl) ?_
          have k12 := And.left hok
          replace hok := And.right hok
          refine al_H11 S K h k12 dX5_item_96 ?_
          subst hR
          exact g_reti S hr hlocks h dX5_item_97
        replace hok := And.right hok n1
        replace hR := (if_neg n1).symm.trans hR
        refine g_em 2 (fun c => ?_) (fun n2 => ?_)
        · replace hok := And.left hok c
          replace hR := (if_pos c).symm.trans hR
          refine g_sw (tgt := 98) S.1 S.2.1 dX5_item_47 c rfl (by decide) (by decide) rfl (by decide) ?_
          refine lv_aload_n S.1 S.2.1 dX5_item_98 rfl (lv_at hl 1 rfl) ?_
          refine fg_X5_19 S K h dX5_item_99 ?_
          refine fg_X5_91 S K h dX5_item_102 ?_
          refine fg_X5_106 S K h dX5_item_105 ?_
          refine lv_iload_n S.1 S.2.1 dX5_item_108 rfl (lv_at hl 0 rfl) ?_
          have k13 := And.left hok
          replace hok := And.right hok
          refine al_H12 S K h k13 dX5_item_109 ?_
          subst hR
          exact g_reti S hr hlocks h dX5_item_110
        replace hok := And.right hok n2
        replace hR := (if_neg n2).symm.trans hR
        have m0 := lv_neT (a := 0) n0 rfl
        have m1 := lv_neT (a := 1) n1 rfl
        have m2 := lv_neT (a := 2) n2 rfl
        refine lv_tableOut (tgt := 111) S.1 S.2.1 dX5_item_47 (by omega) (by decide) ?_
        refine lv_aload_n S.1 S.2.1 dX5_item_111 rfl (lv_at hl 1 rfl) ?_
        refine fg_X5_19 S K h dX5_item_112 ?_
        refine lv_iload_n S.1 S.2.1 dX5_item_115 rfl (lv_at hl 0 rfl) ?_
        have k15 := And.left hok
        replace hok := And.right hok
        refine g_calli (ci := 0) (q0 := 0) S wz_cons K h (c_X0_firstPlaceOf l D cy q _ A _ _ k15) kc_X0_firstPlaceOf km_X5_109 ki_X0_firstPlaceOf ks_X0_firstPlaceOf kn_X0 yd_X0_firstPlaceOf ⟨⟨Nat.le_of_ble_eq_true rfl, Nat.le_of_ble_eq_true rfl⟩, rfl, rfl, Nat.zero_le _, Nat.zero_le _⟩ rfl rfl rfl hl.1 (Nat.le_of_ble_eq_true rfl) rfl dX5_item_116 (fun H locs h => ?_)
        subst hR
        exact g_reti S hr hlocks h dX5_item_119
      · replace hok := And.left hok c
        replace hR := (if_pos c).symm.trans hR
        refine lv_iconst (v := -1) S.1 S.2.1 dX5_item_44 (by decide) ?_
        subst hR
        exact g_reti S hr hlocks h dX5_item_45
    · replace hok := And.left hok c
      replace hR := (if_pos c).symm.trans hR
      refine lv_bipush (v := -101) S.1 S.2.1 dX5_item_17 (by decide) ?_
      subst hR
      exact g_reti S hr hlocks h dX5_item_19
def xr_X5_row (σ : GS) (ρ : GS) (a1 : Int32) (a2 : Int32) : Int32 × GS × GS := if a2 = 0 then if (xr_X5_isBelow a1 4) = 0 then (-101, σ, ρ) else (σ 14 a1.toNatClampNeg, σ, ρ) else if a2 = 1 then if (xr_X5_isBelow a1 3) = 0 then (-101, σ, ρ) else (σ 14 (4 + a1.toNatClampNeg), σ, ρ) else if a2 = 2 then if (xr_X5_isBelow a1 2) = 0 then (-101, σ, ρ) else (σ 3 a1.toNatClampNeg, σ, ρ) else if a2 = 3 then if (xr_X5_isBelow a1 4) = 0 then (-101, σ, ρ) else (σ 13 a1.toNatClampNeg, σ, ρ) else (-101, σ, ρ)
def xo_X5_row (σ : GS) (ρ : GS) (a1 : Int32) (a2 : Int32) : Prop := (a2 = 0 → (xo_X5_isBelow a1 4) ∧ (((xr_X5_isBelow a1 4) = 0 → True) ∧ (¬ ((xr_X5_isBelow a1 4) = 0) → vp_in a1 4 ∧ (a1.toNatClampNeg < 7 ∧ (True))))) ∧ (¬ (a2 = 0) → (a2 = 1 → (xo_X5_isBelow a1 3) ∧ (((xr_X5_isBelow a1 3) = 0 → True) ∧ (¬ ((xr_X5_isBelow a1 3) = 0) → vp_in a1 3 ∧ ((4 + a1.toNatClampNeg) < 7 ∧ (True))))) ∧ (¬ (a2 = 1) → (a2 = 2 → (xo_X5_isBelow a1 2) ∧ (((xr_X5_isBelow a1 2) = 0 → True) ∧ (¬ ((xr_X5_isBelow a1 2) = 0) → vp_in a1 2 ∧ (True)))) ∧ (¬ (a2 = 2) → (a2 = 3 → (xo_X5_isBelow a1 4) ∧ (((xr_X5_isBelow a1 4) = 0 → True) ∧ (¬ ((xr_X5_isBelow a1 4) = 0) → vp_in a1 4 ∧ (a1.toNatClampNeg < 7 ∧ (True))))) ∧ (¬ (a2 = 3) → True))))
set_option maxRecDepth 100000 in
set_option maxHeartbeats 4000000 in
theorem c_X5_row (l : Launch) (D : va_G) (cy : CY) (q : Nat → Nat) (ex : va_W) (A : Nat → Prop) (σ : GS) (ρ : GS) (a1 : Int32) (a2 : Int32) (hok : xo_X5_row σ ρ a1 a2) : Met l yX5_row (wm yX5_row cX5_row 3 (some .int)) ({ frames := 1, cells := 0, slots := 0, locals := 21 } : Room) (PC D cy (wH cy q σ ++ (wE cy q ρ ++ ex)) A [.ref (q 27), .int a1, .int a2]) (QI D (wH cy q (xr_X5_row σ ρ a1 a2).2.1 ++ (wE cy q (xr_X5_row σ ρ a1 a2).2.2 ++ ex)) A (xr_X5_row σ ρ a1 a2).1) 0 0 A := by
  generalize hR : xr_X5_row σ ρ a1 a2 = R
  refine g_met (lv := [(0, .ref (q 27)), (1, .int a1), (2, .int a2)]) (by decide) rfl (Nat.le_of_ble_eq_true rfl) rfl ?_
  intro p e s m below meth c ls S K h hr hlocks hl
  refine lv_iload_n S.1 S.2.1 dX5_row_0 rfl (lv_at hl 2 rfl) ?_
  refine g_em 0 (fun c => ?_) (fun n0 => ?_)
  · replace hok := And.left hok c
    replace hR := (if_pos c).symm.trans hR
    refine g_sw (tgt := 32) S.1 S.2.1 dX5_row_1 c rfl (by decide) (by decide) rfl (by decide) ?_
    refine lv_iload_n S.1 S.2.1 dX5_row_32 rfl (lv_at hl 1 rfl) ?_
    refine lv_iconst (v := 4) S.1 S.2.1 dX5_row_33 (by decide) ?_
    have k2 := And.left hok
    replace hok := And.right hok
    refine g_calls S wz_cons K.2 (c_X5_isBelow l _ _ k2) kc_X5_isBelow km_X5_38 kt_X5_isBelow kn_X5 yd_X5_isBelow.2 ⟨⟨Nat.le_of_ble_eq_true rfl, Nat.le_of_ble_eq_true rfl⟩, rfl, rfl, Nat.zero_le _, Nat.zero_le _⟩ rfl hl.1 (Nat.le_of_ble_eq_true rfl) rfl dX5_row_34 ?_
    refine lv_if_eq (tgt := 55) S.1 S.2.1 dX5_row_37 (by decide) (fun c => ?_) (fun c => ?_)
    · replace hok := And.left hok c
      replace hR := (if_pos c).symm.trans hR
      refine lv_bipush (v := -101) S.1 S.2.1 dX5_row_55 (by decide) ?_
      subst hR
      exact g_reti S hr hlocks h dX5_row_57
    · replace hok := And.right hok c
      replace hR := (if_neg c).symm.trans hR
      refine lv_aload_n S.1 S.2.1 dX5_row_40 rfl (lv_at hl 0 rfl) ?_
      refine fg_X5_19 S K h dX5_row_41 ?_
      refine fg_X5_112 S K h dX5_row_44 ?_
      refine lv_iload_n S.1 S.2.1 dX5_row_47 rfl (lv_at hl 1 rfl) ?_
      have k4 := And.left hok
      replace hok := And.right hok
      refine al_belts S K h k4 dX5_row_48 ?_
      have k5 := And.left hok
      replace hok := And.right hok
      refine fg_X5_116 S K k5 h dX5_row_49 ?_
      refine lv_goto (tgt := 57) S.1 S.2.1 dX5_row_52 (by decide) ?_
      subst hR
      exact g_reti S hr hlocks h dX5_row_57
  replace hok := And.right hok n0
  replace hR := (if_neg n0).symm.trans hR
  refine g_em 1 (fun c => ?_) (fun n1 => ?_)
  · replace hok := And.left hok c
    replace hR := (if_pos c).symm.trans hR
    refine g_sw (tgt := 58) S.1 S.2.1 dX5_row_1 c rfl (by decide) (by decide) rfl (by decide) ?_
    refine lv_iload_n S.1 S.2.1 dX5_row_58 rfl (lv_at hl 1 rfl) ?_
    refine lv_iconst (v := 3) S.1 S.2.1 dX5_row_59 (by decide) ?_
    have k7 := And.left hok
    replace hok := And.right hok
    refine g_calls S wz_cons K.2 (c_X5_isBelow l _ _ k7) kc_X5_isBelow km_X5_38 kt_X5_isBelow kn_X5 yd_X5_isBelow.2 ⟨⟨Nat.le_of_ble_eq_true rfl, Nat.le_of_ble_eq_true rfl⟩, rfl, rfl, Nat.zero_le _, Nat.zero_le _⟩ rfl hl.1 (Nat.le_of_ble_eq_true rfl) rfl dX5_row_60 ?_
    refine lv_if_eq (tgt := 81) S.1 S.2.1 dX5_row_63 (by decide) (fun c => ?_) (fun c => ?_)
    · replace hok := And.left hok c
      replace hR := (if_pos c).symm.trans hR
      refine lv_bipush (v := -101) S.1 S.2.1 dX5_row_81 (by decide) ?_
      subst hR
      exact g_reti S hr hlocks h dX5_row_83
    · replace hok := And.right hok c
      replace hR := (if_neg c).symm.trans hR
      refine lv_aload_n S.1 S.2.1 dX5_row_66 rfl (lv_at hl 0 rfl) ?_
      refine fg_X5_19 S K h dX5_row_67 ?_
      refine fg_X5_121 S K h dX5_row_70 ?_
      refine lv_iload_n S.1 S.2.1 dX5_row_73 rfl (lv_at hl 1 rfl) ?_
      have k9 := And.left hok
      replace hok := And.right hok
      refine al_counters S K h k9 dX5_row_74 ?_
      have k10 := And.left hok
      replace hok := And.right hok
      refine fg_X5_116 S K k10 h dX5_row_75 ?_
      refine lv_goto (tgt := 83) S.1 S.2.1 dX5_row_78 (by decide) ?_
      subst hR
      exact g_reti S hr hlocks h dX5_row_83
  replace hok := And.right hok n1
  replace hR := (if_neg n1).symm.trans hR
  refine g_em 2 (fun c => ?_) (fun n2 => ?_)
  · replace hok := And.left hok c
    replace hR := (if_pos c).symm.trans hR
    refine g_sw (tgt := 84) S.1 S.2.1 dX5_row_1 c rfl (by decide) (by decide) rfl (by decide) ?_
    refine lv_iload_n S.1 S.2.1 dX5_row_84 rfl (lv_at hl 1 rfl) ?_
    refine lv_iconst (v := 2) S.1 S.2.1 dX5_row_85 (by decide) ?_
    have k12 := And.left hok
    replace hok := And.right hok
    refine g_calls S wz_cons K.2 (c_X5_isBelow l _ _ k12) kc_X5_isBelow km_X5_38 kt_X5_isBelow kn_X5 yd_X5_isBelow.2 ⟨⟨Nat.le_of_ble_eq_true rfl, Nat.le_of_ble_eq_true rfl⟩, rfl, rfl, Nat.zero_le _, Nat.zero_le _⟩ rfl hl.1 (Nat.le_of_ble_eq_true rfl) rfl dX5_row_86 ?_
    refine lv_if_eq (tgt := 104) S.1 S.2.1 dX5_row_89 (by decide) (fun c => ?_) (fun c => ?_)
    · replace hok := And.left hok c
      replace hR := (if_pos c).symm.trans hR
      refine lv_bipush (v := -101) S.1 S.2.1 dX5_row_104 (by decide) ?_
      subst hR
      exact g_reti S hr hlocks h dX5_row_106
    · replace hok := And.right hok c
      replace hR := (if_neg c).symm.trans hR
      refine lv_aload_n S.1 S.2.1 dX5_row_92 rfl (lv_at hl 0 rfl) ?_
      refine fg_X5_19 S K h dX5_row_93 ?_
      refine fg_X5_124 S K h dX5_row_96 ?_
      refine lv_iload_n S.1 S.2.1 dX5_row_99 rfl (lv_at hl 1 rfl) ?_
      have k14 := And.left hok
      replace hok := And.right hok
      refine al_H3 S K h k14 dX5_row_100 ?_
      refine lv_goto (tgt := 106) S.1 S.2.1 dX5_row_101 (by decide) ?_
      subst hR
      exact g_reti S hr hlocks h dX5_row_106
  replace hok := And.right hok n2
  replace hR := (if_neg n2).symm.trans hR
  refine g_em 3 (fun c => ?_) (fun n3 => ?_)
  · replace hok := And.left hok c
    replace hR := (if_pos c).symm.trans hR
    refine g_sw (tgt := 107) S.1 S.2.1 dX5_row_1 c rfl (by decide) (by decide) rfl (by decide) ?_
    refine lv_iload_n S.1 S.2.1 dX5_row_107 rfl (lv_at hl 1 rfl) ?_
    refine lv_iconst (v := 4) S.1 S.2.1 dX5_row_108 (by decide) ?_
    have k16 := And.left hok
    replace hok := And.right hok
    refine g_calls S wz_cons K.2 (c_X5_isBelow l _ _ k16) kc_X5_isBelow km_X5_38 kt_X5_isBelow kn_X5 yd_X5_isBelow.2 ⟨⟨Nat.le_of_ble_eq_true rfl, Nat.le_of_ble_eq_true rfl⟩, rfl, rfl, Nat.zero_le _, Nat.zero_le _⟩ rfl hl.1 (Nat.le_of_ble_eq_true rfl) rfl dX5_row_109 ?_
    refine lv_if_eq (tgt := 130) S.1 S.2.1 dX5_row_112 (by decide) (fun c => ?_) (fun c => ?_)
    · replace hok := And.left hok c
      replace hR := (if_pos c).symm.trans hR
      refine lv_bipush (v := -101) S.1 S.2.1 dX5_row_130 (by decide) ?_
      subst hR
      exact g_reti S hr hlocks h dX5_row_132
    · replace hok := And.right hok c
      replace hR := (if_neg c).symm.trans hR
      refine lv_aload_n S.1 S.2.1 dX5_row_115 rfl (lv_at hl 0 rfl) ?_
      refine fg_X5_19 S K h dX5_row_116 ?_
      refine fg_X5_112 S K h dX5_row_119 ?_
      refine lv_iload_n S.1 S.2.1 dX5_row_122 rfl (lv_at hl 1 rfl) ?_
      have k18 := And.left hok
      replace hok := And.right hok
      refine al_belts S K h k18 dX5_row_123 ?_
      have k19 := And.left hok
      replace hok := And.right hok
      refine fg_X5_127 S K k19 h dX5_row_124 ?_
      refine lv_goto (tgt := 132) S.1 S.2.1 dX5_row_127 (by decide) ?_
      subst hR
      exact g_reti S hr hlocks h dX5_row_132
  replace hok := And.right hok n3
  replace hR := (if_neg n3).symm.trans hR
  have m0 := lv_neT (a := 0) n0 rfl
  have m1 := lv_neT (a := 1) n1 rfl
  have m2 := lv_neT (a := 2) n2 rfl
  have m3 := lv_neT (a := 3) n3 rfl
  refine lv_tableOut (tgt := 133) S.1 S.2.1 dX5_row_1 (by omega) (by decide) ?_
  refine lv_bipush (v := -101) S.1 S.2.1 dX5_row_133 (by decide) ?_
  subst hR
  exact g_reti S hr hlocks h dX5_row_135
def xr_X5_onBelt (σ : GS) (ρ : GS) (a1 : Int32) (a2 : Int32) : Int32 × GS × GS := if (xr_X5_isBelow a1 4) = 0 then (-101, σ, ρ) else bd (xr_X4_hasPlace σ a1.toNatClampNeg a2) (fun v5 σ7 => if v5 = 0 then (-1, σ7, ρ) else bd (xr_X1_has σ7 (σ7 (20 + a1.toNatClampNeg) a2.toNatClampNeg)) (fun v11 σ13 => if v11 = 0 then (-1, σ13, ρ) else (σ13 10 (σ7 (20 + a1.toNatClampNeg) a2.toNatClampNeg).toNatClampNeg, σ13, ρ)))
def xo_X5_onBelt (σ : GS) (ρ : GS) (a1 : Int32) (a2 : Int32) : Prop := (xo_X5_isBelow a1 4) ∧ (((xr_X5_isBelow a1 4) = 0 → True) ∧ (¬ ((xr_X5_isBelow a1 4) = 0) → vp_in a1 4 ∧ ((xo_X4_hasPlace σ a1.toNatClampNeg a2) ∧ bd (xr_X4_hasPlace σ a1.toNatClampNeg a2) (fun v5 σ7 => (v5 = 0 → True) ∧ (¬ (v5 = 0) → a1.toNatClampNeg < 7 ∧ (a1.toNatClampNeg < 7 ∧ (vp_in a2 8 ∧ ((xo_X1_has σ7 (σ7 (20 + a1.toNatClampNeg) a2.toNatClampNeg)) ∧ bd (xr_X1_has σ7 (σ7 (20 + a1.toNatClampNeg) a2.toNatClampNeg)) (fun v11 σ13 => (v11 = 0 → True) ∧ (¬ (v11 = 0) → vp_in (σ7 (20 + a1.toNatClampNeg) a2.toNatClampNeg) 64 ∧ (True)))))))))))
set_option maxRecDepth 100000 in
set_option maxHeartbeats 4000000 in
theorem c_X5_onBelt (l : Launch) (D : va_G) (cy : CY) (q : Nat → Nat) (ex : va_W) (A : Nat → Prop) (σ : GS) (ρ : GS) (a1 : Int32) (a2 : Int32) (hok : xo_X5_onBelt σ ρ a1 a2) : Met l yX5_onBelt (wm yX5_onBelt cX5_onBelt 5 (some .int)) ({ frames := 2, cells := 0, slots := 0, locals := 42 } : Room) (PC D cy (wH cy q σ ++ (wE cy q ρ ++ ex)) A [.ref (q 27), .int a1, .int a2]) (QI D (wH cy q (xr_X5_onBelt σ ρ a1 a2).2.1 ++ (wE cy q (xr_X5_onBelt σ ρ a1 a2).2.2 ++ ex)) A (xr_X5_onBelt σ ρ a1 a2).1) 0 0 A := by
  generalize hR : xr_X5_onBelt σ ρ a1 a2 = R
  refine g_met (lv := [(0, .ref (q 27)), (1, .int a1), (2, .int a2)]) (by decide) rfl (Nat.le_of_ble_eq_true rfl) rfl ?_
  intro p e s m below meth c ls S K h hr hlocks hl
  refine lv_iload_n S.1 S.2.1 dX5_onBelt_0 rfl (lv_at hl 1 rfl) ?_
  refine lv_iconst (v := 4) S.1 S.2.1 dX5_onBelt_1 (by decide) ?_
  have k2 := And.left hok
  replace hok := And.right hok
  refine g_calls S wz_cons K.2 (c_X5_isBelow l _ _ k2) kc_X5_isBelow km_X5_38 kt_X5_isBelow kn_X5 yd_X5_isBelow.2 ⟨⟨Nat.le_of_ble_eq_true rfl, Nat.le_of_ble_eq_true rfl⟩, rfl, rfl, Nat.zero_le _, Nat.zero_le _⟩ rfl hl.1 (Nat.le_of_ble_eq_true rfl) rfl dX5_onBelt_2 ?_
  refine lv_if_ne (tgt := 11) S.1 S.2.1 dX5_onBelt_5 (by decide) (fun c => ?_) (fun c => ?_)
  · replace hok := And.right hok c
    replace hR := (if_neg c).symm.trans hR
    refine lv_aload_n S.1 S.2.1 dX5_onBelt_11 rfl (lv_at hl 0 rfl) ?_
    refine fg_X5_19 S K h dX5_onBelt_12 ?_
    refine fg_X5_112 S K h dX5_onBelt_15 ?_
    refine lv_iload_n S.1 S.2.1 dX5_onBelt_18 rfl (lv_at hl 1 rfl) ?_
    have k4 := And.left hok
    replace hok := And.right hok
    refine al_belts S K h k4 dX5_onBelt_19 ?_
    refine lv_astore_n (lv' := [(3, .ref _), (0, .ref _), (1, .int _), (2, .int _)]) S.1 S.2.1 dX5_onBelt_20 rfl hl (by decide) rfl (fun ls hl => ?_)
    refine lv_aload_n S.1 S.2.1 dX5_onBelt_21 rfl (lv_at hl 0 rfl) ?_
    refine lv_iload_n S.1 S.2.1 dX5_onBelt_22 rfl (lv_at hl 3 rfl) ?_
    have k6 := And.left hok
    replace hok := And.right hok
    refine g_calli (ci := 4) S wz_cons K h (c_X4_hasPlace l D cy q _ A _ _ _ k6) kc_X4_hasPlace km_X5_130 ki_X4_hasPlace ks_X4_hasPlace kn_X4 yd_X4_hasPlace ⟨⟨Nat.le_of_ble_eq_true rfl, Nat.le_of_ble_eq_true rfl⟩, rfl, rfl, Nat.zero_le _, Nat.zero_le _⟩ rfl (row_at cy q _ _ (And.left k6)) rfl hl.1 (Nat.le_of_ble_eq_true rfl) rfl dX5_onBelt_23 (fun H locs h => ?_)
    refine lv_if_ne (tgt := 31) S.1 S.2.1 dX5_onBelt_26 (by decide) (fun c => ?_) (fun c => ?_)
    · replace hok := And.right hok c
      replace hR := (if_neg c).symm.trans hR
      refine lv_aload_n S.1 S.2.1 dX5_onBelt_31 rfl (lv_at hl 0 rfl) ?_
      have k8 := And.left hok
      replace hok := And.right hok
      refine fg_X5_133 S K k8 h dX5_onBelt_32 ?_
      refine lv_iload_n S.1 S.2.1 dX5_onBelt_35 rfl (lv_at hl 3 rfl) ?_
      have k9 := And.left hok
      replace hok := And.right hok
      have k10 := And.left hok
      replace hok := And.right hok
      refine al_cells S K k9 h k10 dX5_onBelt_36 ?_
      refine lv_istore (lv' := [(4, .int _), (3, .ref _), (0, .ref _), (1, .int _), (2, .int _)]) S.1 S.2.1 dX5_onBelt_37 hl (by decide) rfl (fun ls hl => ?_)
      refine lv_aload_n S.1 S.2.1 dX5_onBelt_39 rfl (lv_at hl 2 rfl) ?_
      refine fg_X5_19 S K h dX5_onBelt_40 ?_
      refine fg_X5_91 S K h dX5_onBelt_43 ?_
      refine lv_iload S.1 S.2.1 dX5_onBelt_46 (lv_at hl 0 rfl) ?_
      have k12 := And.left hok
      replace hok := And.right hok
      refine g_calli (ci := 1) (q0 := 9) S wz_cons K h (c_X1_has l D cy q _ A _ _ k12) kc_X1_has km_X5_95 ki_X1_has ks_X1_has kn_X1 yd_X1_has ⟨⟨Nat.le_of_ble_eq_true rfl, Nat.le_of_ble_eq_true rfl⟩, rfl, rfl, Nat.zero_le _, Nat.zero_le _⟩ rfl rfl rfl hl.1 (Nat.le_of_ble_eq_true rfl) rfl dX5_onBelt_48 (fun H locs h => ?_)
      refine lv_if_eq (tgt := 70) S.1 S.2.1 dX5_onBelt_51 (by decide) (fun c => ?_) (fun c => ?_)
      · replace hok := And.left hok c
        replace hR := (if_pos c).symm.trans hR
        refine lv_iconst (v := -1) S.1 S.2.1 dX5_onBelt_70 (by decide) ?_
        subst hR
        exact g_reti S hr hlocks h dX5_onBelt_71
      · replace hok := And.right hok c
        replace hR := (if_neg c).symm.trans hR
        refine lv_aload_n S.1 S.2.1 dX5_onBelt_54 rfl (lv_at hl 2 rfl) ?_
        refine fg_X5_19 S K h dX5_onBelt_55 ?_
        refine fg_X5_91 S K h dX5_onBelt_58 ?_
        refine fg_X5_100 S K h dX5_onBelt_61 ?_
        refine lv_iload S.1 S.2.1 dX5_onBelt_64 (lv_at hl 0 rfl) ?_
        have k14 := And.left hok
        replace hok := And.right hok
        refine al_H10 S K h k14 dX5_onBelt_66 ?_
        refine lv_goto (tgt := 71) S.1 S.2.1 dX5_onBelt_67 (by decide) ?_
        subst hR
        exact g_reti S hr hlocks h dX5_onBelt_71
    · replace hok := And.left hok c
      replace hR := (if_pos c).symm.trans hR
      refine lv_iconst (v := -1) S.1 S.2.1 dX5_onBelt_29 (by decide) ?_
      subst hR
      exact g_reti S hr hlocks h dX5_onBelt_30
  · replace hok := And.left hok c
    replace hR := (if_pos c).symm.trans hR
    refine lv_bipush (v := -101) S.1 S.2.1 dX5_onBelt_8 (by decide) ?_
    subst hR
    exact g_reti S hr hlocks h dX5_onBelt_10
def xr_X5_counted (σ : GS) (ρ : GS) (a1 : Int32) (a2 : Int32) : Int32 × GS × GS := if (xr_X5_isBelow a1 3) = 0 then (-101, σ, ρ) else bd (xr_X4_hasPlace σ (4 + a1.toNatClampNeg) a2) (fun v5 σ7 => if v5 = 0 then (0, σ7, ρ) else (σ7 (20 + (4 + a1.toNatClampNeg)) a2.toNatClampNeg, σ7, ρ))
def xo_X5_counted (σ : GS) (ρ : GS) (a1 : Int32) (a2 : Int32) : Prop := (xo_X5_isBelow a1 3) ∧ (((xr_X5_isBelow a1 3) = 0 → True) ∧ (¬ ((xr_X5_isBelow a1 3) = 0) → vp_in a1 3 ∧ ((xo_X4_hasPlace σ (4 + a1.toNatClampNeg) a2) ∧ bd (xr_X4_hasPlace σ (4 + a1.toNatClampNeg) a2) (fun v5 σ7 => (v5 = 0 → True) ∧ (¬ (v5 = 0) → (4 + a1.toNatClampNeg) < 7 ∧ ((4 + a1.toNatClampNeg) < 7 ∧ (vp_in a2 8 ∧ (True))))))))
set_option maxRecDepth 100000 in
set_option maxHeartbeats 4000000 in
theorem c_X5_counted (l : Launch) (D : va_G) (cy : CY) (q : Nat → Nat) (ex : va_W) (A : Nat → Prop) (σ : GS) (ρ : GS) (a1 : Int32) (a2 : Int32) (hok : xo_X5_counted σ ρ a1 a2) : Met l yX5_counted (wm yX5_counted cX5_counted 4 (some .int)) ({ frames := 1, cells := 0, slots := 0, locals := 21 } : Room) (PC D cy (wH cy q σ ++ (wE cy q ρ ++ ex)) A [.ref (q 27), .int a1, .int a2]) (QI D (wH cy q (xr_X5_counted σ ρ a1 a2).2.1 ++ (wE cy q (xr_X5_counted σ ρ a1 a2).2.2 ++ ex)) A (xr_X5_counted σ ρ a1 a2).1) 0 0 A := by
  generalize hR : xr_X5_counted σ ρ a1 a2 = R
  refine g_met (lv := [(0, .ref (q 27)), (1, .int a1), (2, .int a2)]) (by decide) rfl (Nat.le_of_ble_eq_true rfl) rfl ?_
  intro p e s m below meth c ls S K h hr hlocks hl
  refine lv_iload_n S.1 S.2.1 dX5_counted_0 rfl (lv_at hl 1 rfl) ?_
  refine lv_iconst (v := 3) S.1 S.2.1 dX5_counted_1 (by decide) ?_
  have k2 := And.left hok
  replace hok := And.right hok
  refine g_calls S wz_cons K.2 (c_X5_isBelow l _ _ k2) kc_X5_isBelow km_X5_38 kt_X5_isBelow kn_X5 yd_X5_isBelow.2 ⟨⟨Nat.le_of_ble_eq_true rfl, Nat.le_of_ble_eq_true rfl⟩, rfl, rfl, Nat.zero_le _, Nat.zero_le _⟩ rfl hl.1 (Nat.le_of_ble_eq_true rfl) rfl dX5_counted_2 ?_
  refine lv_if_ne (tgt := 11) S.1 S.2.1 dX5_counted_5 (by decide) (fun c => ?_) (fun c => ?_)
  · replace hok := And.right hok c
    replace hR := (if_neg c).symm.trans hR
    refine lv_aload_n S.1 S.2.1 dX5_counted_11 rfl (lv_at hl 0 rfl) ?_
    refine fg_X5_19 S K h dX5_counted_12 ?_
    refine fg_X5_121 S K h dX5_counted_15 ?_
    refine lv_iload_n S.1 S.2.1 dX5_counted_18 rfl (lv_at hl 1 rfl) ?_
    have k4 := And.left hok
    replace hok := And.right hok
    refine al_counters S K h k4 dX5_counted_19 ?_
    refine lv_astore_n (lv' := [(3, .ref _), (0, .ref _), (1, .int _), (2, .int _)]) S.1 S.2.1 dX5_counted_20 rfl hl (by decide) rfl (fun ls hl => ?_)
    refine lv_aload_n S.1 S.2.1 dX5_counted_21 rfl (lv_at hl 0 rfl) ?_
    refine lv_iload_n S.1 S.2.1 dX5_counted_22 rfl (lv_at hl 3 rfl) ?_
    have k6 := And.left hok
    replace hok := And.right hok
    refine g_calli (ci := 4) S wz_cons K h (c_X4_hasPlace l D cy q _ A _ _ _ k6) kc_X4_hasPlace km_X5_130 ki_X4_hasPlace ks_X4_hasPlace kn_X4 yd_X4_hasPlace ⟨⟨Nat.le_of_ble_eq_true rfl, Nat.le_of_ble_eq_true rfl⟩, rfl, rfl, Nat.zero_le _, Nat.zero_le _⟩ rfl (row_at cy q _ _ (And.left k6)) rfl hl.1 (Nat.le_of_ble_eq_true rfl) rfl dX5_counted_23 (fun H locs h => ?_)
    refine lv_if_eq (tgt := 38) S.1 S.2.1 dX5_counted_26 (by decide) (fun c => ?_) (fun c => ?_)
    · replace hok := And.left hok c
      replace hR := (if_pos c).symm.trans hR
      refine lv_iconst (v := 0) S.1 S.2.1 dX5_counted_38 (by decide) ?_
      subst hR
      exact g_reti S hr hlocks h dX5_counted_39
    · replace hok := And.right hok c
      replace hR := (if_neg c).symm.trans hR
      refine lv_aload_n S.1 S.2.1 dX5_counted_29 rfl (lv_at hl 0 rfl) ?_
      have k8 := And.left hok
      replace hok := And.right hok
      refine fg_X5_133 S K k8 h dX5_counted_30 ?_
      refine lv_iload_n S.1 S.2.1 dX5_counted_33 rfl (lv_at hl 3 rfl) ?_
      have k9 := And.left hok
      replace hok := And.right hok
      have k10 := And.left hok
      replace hok := And.right hok
      refine al_cells S K k9 h k10 dX5_counted_34 ?_
      refine lv_goto (tgt := 39) S.1 S.2.1 dX5_counted_35 (by decide) ?_
      subst hR
      exact g_reti S hr hlocks h dX5_counted_39
  · replace hok := And.left hok c
    replace hR := (if_pos c).symm.trans hR
    refine lv_bipush (v := -101) S.1 S.2.1 dX5_counted_8 (by decide) ?_
    subst hR
    exact g_reti S hr hlocks h dX5_counted_10
def xr_X5_nextLine (σ : GS) (ρ : GS) (a1 : Int32) : Int32 × GS × GS := bd (xr_X0_perform σ (ρ 29 a1.toNatClampNeg) (ρ 30 a1.toNatClampNeg) (ρ 31 a1.toNatClampNeg) (ρ 32 a1.toNatClampNeg)) (fun v5 σ7 => if v5 = 0 then bd (xr_X0_lineBehind σ7 a1 (ρ 29 a1.toNatClampNeg) (ρ 30 a1.toNatClampNeg) (ρ 31 a1.toNatClampNeg)) (fun v23 σ25 => (v23, σ25, st ρ 37 3 ((ρ 37 3) + 1))) else if v5 = 7 then bd2 (xr_X2_guardFor σ7 (st (st ρ 37 3 ((ρ 37 3) + 1)) 37 2 (σ7 6 (ρ 30 a1.toNatClampNeg).toNatClampNeg)) a1 v5) (fun v16 σ18 ρ19 => if v16 = (-1) then (-1, σ18, st (st ρ19 37 0 v5) 37 1 a1) else ((st (st ρ19 38 v5.toNatClampNeg ((ρ19 38 v5.toNatClampNeg) + 1)) 37 4 (((st ρ19 38 v5.toNatClampNeg ((ρ19 38 v5.toNatClampNeg) + 1)) 37 4) + 1)) 36 v16.toNatClampNeg, σ18, st (st ρ19 38 v5.toNatClampNeg ((ρ19 38 v5.toNatClampNeg) + 1)) 37 4 (((st ρ19 38 v5.toNatClampNeg ((ρ19 38 v5.toNatClampNeg) + 1)) 37 4) + 1))) else bd2 (xr_X2_guardFor σ7 (st ρ 37 3 ((ρ 37 3) + 1)) a1 v5) (fun v8 σ10 ρ11 => if v8 = (-1) then (-1, σ10, st (st ρ11 37 0 v5) 37 1 a1) else ((st (st ρ11 38 v5.toNatClampNeg ((ρ11 38 v5.toNatClampNeg) + 1)) 37 4 (((st ρ11 38 v5.toNatClampNeg ((ρ11 38 v5.toNatClampNeg) + 1)) 37 4) + 1)) 36 v8.toNatClampNeg, σ10, st (st ρ11 38 v5.toNatClampNeg ((ρ11 38 v5.toNatClampNeg) + 1)) 37 4 (((st ρ11 38 v5.toNatClampNeg ((ρ11 38 v5.toNatClampNeg) + 1)) 37 4) + 1))))
def xo_X5_nextLine (σ : GS) (ρ : GS) (a1 : Int32) : Prop := vp_in a1 40 ∧ (vp_in a1 40 ∧ (vp_in a1 40 ∧ (vp_in a1 40 ∧ ((xo_X0_perform σ (ρ 29 a1.toNatClampNeg) (ρ 30 a1.toNatClampNeg) (ρ 31 a1.toNatClampNeg) (ρ 32 a1.toNatClampNeg)) ∧ bd (xr_X0_perform σ (ρ 29 a1.toNatClampNeg) (ρ 30 a1.toNatClampNeg) (ρ 31 a1.toNatClampNeg) (ρ 32 a1.toNatClampNeg)) (fun v5 σ7 => (v5 = 0 → (xo_X0_lineBehind σ7 a1 (ρ 29 a1.toNatClampNeg) (ρ 30 a1.toNatClampNeg) (ρ 31 a1.toNatClampNeg)) ∧ bd (xr_X0_lineBehind σ7 a1 (ρ 29 a1.toNatClampNeg) (ρ 30 a1.toNatClampNeg) (ρ 31 a1.toNatClampNeg)) (fun v23 σ25 => True)) ∧ (¬ (v5 = 0) → (v5 = 7 → vp_in (ρ 30 a1.toNatClampNeg) 3 ∧ ((xo_X2_guardFor σ7 (st (st ρ 37 3 ((ρ 37 3) + 1)) 37 2 (σ7 6 (ρ 30 a1.toNatClampNeg).toNatClampNeg)) a1 v5) ∧ bd2 (xr_X2_guardFor σ7 (st (st ρ 37 3 ((ρ 37 3) + 1)) 37 2 (σ7 6 (ρ 30 a1.toNatClampNeg).toNatClampNeg)) a1 v5) (fun v16 σ18 ρ19 => (v16 = (-1) → True) ∧ (¬ (v16 = (-1)) → vp_in v5 8 ∧ (vp_in v5 8 ∧ (vp_in v16 5 ∧ (True))))))) ∧ (¬ (v5 = 7) → (xo_X2_guardFor σ7 (st ρ 37 3 ((ρ 37 3) + 1)) a1 v5) ∧ bd2 (xr_X2_guardFor σ7 (st ρ 37 3 ((ρ 37 3) + 1)) a1 v5) (fun v8 σ10 ρ11 => (v8 = (-1) → True) ∧ (¬ (v8 = (-1)) → vp_in v5 8 ∧ (vp_in v5 8 ∧ (vp_in v8 5 ∧ (True))))))))))))
set_option maxRecDepth 100000 in
set_option maxHeartbeats 4000000 in
theorem c_X5_nextLine (l : Launch) (D : va_G) (cy : CY) (q : Nat → Nat) (ex : va_W) (A : Nat → Prop) (σ : GS) (ρ : GS) (a1 : Int32) (hok : xo_X5_nextLine σ ρ a1) : Met l yX5_nextLine (wm yX5_nextLine cX5_nextLine 7 (some .int)) ({ frames := 5, cells := 0, slots := 0, locals := 114 } : Room) (PC D cy (wH cy q σ ++ (wE cy q ρ ++ ex)) A [.ref (q 27), .int a1]) (QI D (wH cy q (xr_X5_nextLine σ ρ a1).2.1 ++ (wE cy q (xr_X5_nextLine σ ρ a1).2.2 ++ ex)) A (xr_X5_nextLine σ ρ a1).1) 0 0 A := by
  generalize hR : xr_X5_nextLine σ ρ a1 = R
  refine g_met (lv := [(0, .ref (q 27)), (1, .int a1)]) (by decide) rfl (Nat.le_of_ble_eq_true rfl) rfl ?_
  intro p e s m below meth c ls S K h hr hlocks hl
  refine lv_aload_n S.1 S.2.1 dX5_nextLine_0 rfl (lv_at hl 0 rfl) ?_
  refine fg_X5_10 S K h dX5_nextLine_1 ?_
  refine fg_X5_136 S K h dX5_nextLine_4 ?_
  refine lv_iload_n S.1 S.2.1 dX5_nextLine_7 rfl (lv_at hl 1 rfl) ?_
  have k1 := And.left hok
  replace hok := And.right hok
  refine al_E29 S K h k1 dX5_nextLine_8 ?_
  refine lv_istore_n (lv' := [(2, .int _), (0, .ref _), (1, .int _)]) S.1 S.2.1 dX5_nextLine_9 rfl hl (by decide) rfl (fun ls hl => ?_)
  refine lv_aload_n S.1 S.2.1 dX5_nextLine_10 rfl (lv_at hl 1 rfl) ?_
  refine fg_X5_10 S K h dX5_nextLine_11 ?_
  refine fg_X5_139 S K h dX5_nextLine_14 ?_
  refine lv_iload_n S.1 S.2.1 dX5_nextLine_17 rfl (lv_at hl 2 rfl) ?_
  have k2 := And.left hok
  replace hok := And.right hok
  refine al_E30 S K h k2 dX5_nextLine_18 ?_
  refine lv_istore_n (lv' := [(3, .int _), (2, .int _), (0, .ref _), (1, .int _)]) S.1 S.2.1 dX5_nextLine_19 rfl hl (by decide) rfl (fun ls hl => ?_)
  refine lv_aload_n S.1 S.2.1 dX5_nextLine_20 rfl (lv_at hl 2 rfl) ?_
  refine fg_X5_10 S K h dX5_nextLine_21 ?_
  refine fg_X5_142 S K h dX5_nextLine_24 ?_
  refine lv_iload_n S.1 S.2.1 dX5_nextLine_27 rfl (lv_at hl 3 rfl) ?_
  have k3 := And.left hok
  replace hok := And.right hok
  refine al_E31 S K h k3 dX5_nextLine_28 ?_
  refine lv_istore (lv' := [(4, .int _), (3, .int _), (2, .int _), (0, .ref _), (1, .int _)]) S.1 S.2.1 dX5_nextLine_29 hl (by decide) rfl (fun ls hl => ?_)
  refine lv_aload_n S.1 S.2.1 dX5_nextLine_31 rfl (lv_at hl 3 rfl) ?_
  refine fg_X5_19 S K h dX5_nextLine_32 ?_
  refine lv_iload_n S.1 S.2.1 dX5_nextLine_35 rfl (lv_at hl 2 rfl) ?_
  refine lv_iload_n S.1 S.2.1 dX5_nextLine_36 rfl (lv_at hl 1 rfl) ?_
  refine lv_iload S.1 S.2.1 dX5_nextLine_37 (lv_at hl 0 rfl) ?_
  refine lv_aload_n S.1 S.2.1 dX5_nextLine_39 rfl (lv_at hl 3 rfl) ?_
  refine fg_X5_10 S K h dX5_nextLine_40 ?_
  refine fg_X5_145 S K h dX5_nextLine_43 ?_
  refine lv_iload_n S.1 S.2.1 dX5_nextLine_46 rfl (lv_at hl 4 rfl) ?_
  have k4 := And.left hok
  replace hok := And.right hok
  refine al_E32 S K h k4 dX5_nextLine_47 ?_
  have k6 := And.left hok
  replace hok := And.right hok
  refine g_calli (ci := 0) (q0 := 0) S wz_cons K h (c_X0_perform l D cy q _ A _ _ _ _ _ k6) kc_X0_perform km_X5_148 ki_X0_perform ks_X0_perform kn_X0 yd_X0_perform ⟨⟨Nat.le_of_ble_eq_true rfl, Nat.le_of_ble_eq_true rfl⟩, rfl, rfl, Nat.zero_le _, Nat.zero_le _⟩ rfl rfl rfl hl.1 (Nat.le_of_ble_eq_true rfl) rfl dX5_nextLine_48 (fun H locs h => ?_)
  refine lv_istore (lv' := [(5, .int _), (4, .int _), (3, .int _), (2, .int _), (0, .ref _), (1, .int _)]) S.1 S.2.1 dX5_nextLine_51 hl (by decide) rfl (fun ls hl => ?_)
  refine lv_aload_n S.1 S.2.1 dX5_nextLine_53 rfl (lv_at hl 4 rfl) ?_
  refine fg_X5_26 S K h dX5_nextLine_54 ?_
  refine lv_dup S.1 S.2.1 dX5_nextLine_57 rfl ?_
  refine fg_X5_75 S K h dX5_nextLine_58 ?_
  refine lv_iconst (v := 1) S.1 S.2.1 dX5_nextLine_61 (by decide) ?_
  refine lv_iadd S.1 S.2.1 dX5_nextLine_62 ?_
  refine fp_X5_75 S K h dX5_nextLine_63 (fun H locs h => ?_)
  refine lv_iload S.1 S.2.1 dX5_nextLine_66 (lv_at hl 0 rfl) ?_
  refine lv_if_ne (tgt := 84) S.1 S.2.1 dX5_nextLine_68 (by decide) (fun c => ?_) (fun c => ?_)
  · replace hok := And.right hok c
    replace hR := (if_neg c).symm.trans hR
    refine lv_iload S.1 S.2.1 dX5_nextLine_84 (lv_at hl 0 rfl) ?_
    refine lv_bipush (v := 7) S.1 S.2.1 dX5_nextLine_86 (by decide) ?_
    refine lv_icmp_ne (tgt := 107) S.1 S.2.1 dX5_nextLine_88 (by decide) (fun c => ?_) (fun c => ?_)
    · replace hok := And.right hok c
      replace hR := (if_neg c).symm.trans hR
      refine lv_aload_n S.1 S.2.1 dX5_nextLine_107 rfl (lv_at hl 4 rfl) ?_
      refine fg_X5_10 S K h dX5_nextLine_108 ?_
      refine lv_iload_n S.1 S.2.1 dX5_nextLine_111 rfl (lv_at hl 5 rfl) ?_
      refine lv_iload S.1 S.2.1 dX5_nextLine_112 (lv_at hl 0 rfl) ?_
      have k9 := And.left hok
      replace hok := And.right hok
      refine g_calli (ci := 2) (q0 := 28) S wz_cons K h (c_X2_guardFor l D cy q _ A _ _ _ _ k9) kc_X2_guardFor km_X5_157 ki_X2_guardFor ks_X2_guardFor kn_X2 yd_X2_guardFor ⟨⟨Nat.le_of_ble_eq_true rfl, Nat.le_of_ble_eq_true rfl⟩, rfl, rfl, Nat.zero_le _, Nat.zero_le _⟩ rfl rfl rfl hl.1 (Nat.le_of_ble_eq_true rfl) rfl dX5_nextLine_114 (fun H locs h => ?_)
      refine lv_istore (lv' := [(6, .int _), (5, .int _), (4, .int _), (3, .int _), (2, .int _), (0, .ref _), (1, .int _)]) S.1 S.2.1 dX5_nextLine_117 hl (by decide) rfl (fun ls hl => ?_)
      refine lv_iload S.1 S.2.1 dX5_nextLine_119 (lv_at hl 0 rfl) ?_
      refine lv_iconst (v := -1) S.1 S.2.1 dX5_nextLine_121 (by decide) ?_
      refine lv_icmp_ne (tgt := 144) S.1 S.2.1 dX5_nextLine_122 (by decide) (fun c => ?_) (fun c => ?_)
      · replace hok := And.right hok c
        replace hR := (if_neg c).symm.trans hR
        refine lv_aload_n S.1 S.2.1 dX5_nextLine_144 rfl (lv_at hl 5 rfl) ?_
        refine fg_X5_26 S K h dX5_nextLine_145 ?_
        refine fg_X5_81 S K h dX5_nextLine_148 ?_
        refine lv_iload S.1 S.2.1 dX5_nextLine_151 (lv_at hl 1 rfl) ?_
        refine lv_dup2_11 S.1 S.2.1 dX5_nextLine_153 rfl rfl ?_
        have k12 := And.left hok
        replace hok := And.right hok
        refine al_E38 S K h k12 dX5_nextLine_154 ?_
        refine lv_iconst (v := 1) S.1 S.2.1 dX5_nextLine_155 (by decide) ?_
        refine lv_iadd S.1 S.2.1 dX5_nextLine_156 ?_
        have k13 := And.left hok
        replace hok := And.right hok
        refine as_E38 S K h k13 dX5_nextLine_157 (fun H locs h => ?_)
        refine lv_aload_n S.1 S.2.1 dX5_nextLine_158 rfl (lv_at hl 5 rfl) ?_
        refine fg_X5_26 S K h dX5_nextLine_159 ?_
        refine lv_dup S.1 S.2.1 dX5_nextLine_162 rfl ?_
        refine fg_X5_78 S K h dX5_nextLine_163 ?_
        refine lv_iconst (v := 1) S.1 S.2.1 dX5_nextLine_166 (by decide) ?_
        refine lv_iadd S.1 S.2.1 dX5_nextLine_167 ?_
        refine fp_X5_78 S K h dX5_nextLine_168 (fun H locs h => ?_)
        refine lv_aload_n S.1 S.2.1 dX5_nextLine_171 rfl (lv_at hl 5 rfl) ?_
        refine fg_X5_10 S K h dX5_nextLine_172 ?_
        refine fg_X5_161 S K h dX5_nextLine_175 ?_
        refine lv_iload S.1 S.2.1 dX5_nextLine_178 (lv_at hl 0 rfl) ?_
        have k14 := And.left hok
        replace hok := And.right hok
        refine al_E36 S K h k14 dX5_nextLine_180 ?_
        subst hR
        exact g_reti S hr hlocks h dX5_nextLine_181
      · replace hok := And.left hok c
        replace hR := (if_pos c).symm.trans hR
        refine lv_aload_n S.1 S.2.1 dX5_nextLine_125 rfl (lv_at hl 5 rfl) ?_
        refine fg_X5_26 S K h dX5_nextLine_126 ?_
        refine lv_iload S.1 S.2.1 dX5_nextLine_129 (lv_at hl 1 rfl) ?_
        refine fp_X5_66 S K h dX5_nextLine_131 (fun H locs h => ?_)
        refine lv_aload_n S.1 S.2.1 dX5_nextLine_134 rfl (lv_at hl 5 rfl) ?_
        refine fg_X5_26 S K h dX5_nextLine_135 ?_
        refine lv_iload_n S.1 S.2.1 dX5_nextLine_138 rfl (lv_at hl 6 rfl) ?_
        refine fp_X5_69 S K h dX5_nextLine_139 (fun H locs h => ?_)
        refine lv_iconst (v := -1) S.1 S.2.1 dX5_nextLine_142 (by decide) ?_
        subst hR
        exact g_reti S hr hlocks h dX5_nextLine_143
    · replace hok := And.left hok c
      replace hR := (if_pos c).symm.trans hR
      refine lv_aload_n S.1 S.2.1 dX5_nextLine_91 rfl (lv_at hl 4 rfl) ?_
      refine fg_X5_26 S K h dX5_nextLine_92 ?_
      refine lv_aload_n S.1 S.2.1 dX5_nextLine_95 rfl (lv_at hl 4 rfl) ?_
      refine fg_X5_19 S K h dX5_nextLine_96 ?_
      refine fg_X5_154 S K h dX5_nextLine_99 ?_
      refine lv_iload_n S.1 S.2.1 dX5_nextLine_102 rfl (lv_at hl 2 rfl) ?_
      have k15 := And.left hok
      replace hok := And.right hok
      refine al_H6 S K h k15 dX5_nextLine_103 ?_
      refine fp_X5_72 S K h dX5_nextLine_104 (fun H locs h => ?_)
      refine lv_aload_n S.1 S.2.1 dX5_nextLine_107 rfl (lv_at hl 4 rfl) ?_
      refine fg_X5_10 S K h dX5_nextLine_108 ?_
      refine lv_iload_n S.1 S.2.1 dX5_nextLine_111 rfl (lv_at hl 5 rfl) ?_
      refine lv_iload S.1 S.2.1 dX5_nextLine_112 (lv_at hl 0 rfl) ?_
      have k17 := And.left hok
      replace hok := And.right hok
      refine g_calli (ci := 2) (q0 := 28) S wz_cons K h (c_X2_guardFor l D cy q _ A _ _ _ _ k17) kc_X2_guardFor km_X5_157 ki_X2_guardFor ks_X2_guardFor kn_X2 yd_X2_guardFor ⟨⟨Nat.le_of_ble_eq_true rfl, Nat.le_of_ble_eq_true rfl⟩, rfl, rfl, Nat.zero_le _, Nat.zero_le _⟩ rfl rfl rfl hl.1 (Nat.le_of_ble_eq_true rfl) rfl dX5_nextLine_114 (fun H locs h => ?_)
      refine lv_istore (lv' := [(6, .int _), (5, .int _), (4, .int _), (3, .int _), (2, .int _), (0, .ref _), (1, .int _)]) S.1 S.2.1 dX5_nextLine_117 hl (by decide) rfl (fun ls hl => ?_)
      refine lv_iload S.1 S.2.1 dX5_nextLine_119 (lv_at hl 0 rfl) ?_
      refine lv_iconst (v := -1) S.1 S.2.1 dX5_nextLine_121 (by decide) ?_
      refine lv_icmp_ne (tgt := 144) S.1 S.2.1 dX5_nextLine_122 (by decide) (fun c => ?_) (fun c => ?_)
      · replace hok := And.right hok c
        replace hR := (if_neg c).symm.trans hR
        refine lv_aload_n S.1 S.2.1 dX5_nextLine_144 rfl (lv_at hl 5 rfl) ?_
        refine fg_X5_26 S K h dX5_nextLine_145 ?_
        refine fg_X5_81 S K h dX5_nextLine_148 ?_
        refine lv_iload S.1 S.2.1 dX5_nextLine_151 (lv_at hl 1 rfl) ?_
        refine lv_dup2_11 S.1 S.2.1 dX5_nextLine_153 rfl rfl ?_
        have k20 := And.left hok
        replace hok := And.right hok
        refine al_E38 S K h k20 dX5_nextLine_154 ?_
        refine lv_iconst (v := 1) S.1 S.2.1 dX5_nextLine_155 (by decide) ?_
        refine lv_iadd S.1 S.2.1 dX5_nextLine_156 ?_
        have k21 := And.left hok
        replace hok := And.right hok
        refine as_E38 S K h k21 dX5_nextLine_157 (fun H locs h => ?_)
        refine lv_aload_n S.1 S.2.1 dX5_nextLine_158 rfl (lv_at hl 5 rfl) ?_
        refine fg_X5_26 S K h dX5_nextLine_159 ?_
        refine lv_dup S.1 S.2.1 dX5_nextLine_162 rfl ?_
        refine fg_X5_78 S K h dX5_nextLine_163 ?_
        refine lv_iconst (v := 1) S.1 S.2.1 dX5_nextLine_166 (by decide) ?_
        refine lv_iadd S.1 S.2.1 dX5_nextLine_167 ?_
        refine fp_X5_78 S K h dX5_nextLine_168 (fun H locs h => ?_)
        refine lv_aload_n S.1 S.2.1 dX5_nextLine_171 rfl (lv_at hl 5 rfl) ?_
        refine fg_X5_10 S K h dX5_nextLine_172 ?_
        refine fg_X5_161 S K h dX5_nextLine_175 ?_
        refine lv_iload S.1 S.2.1 dX5_nextLine_178 (lv_at hl 0 rfl) ?_
        have k22 := And.left hok
        replace hok := And.right hok
        refine al_E36 S K h k22 dX5_nextLine_180 ?_
        subst hR
        exact g_reti S hr hlocks h dX5_nextLine_181
      · replace hok := And.left hok c
        replace hR := (if_pos c).symm.trans hR
        refine lv_aload_n S.1 S.2.1 dX5_nextLine_125 rfl (lv_at hl 5 rfl) ?_
        refine fg_X5_26 S K h dX5_nextLine_126 ?_
        refine lv_iload S.1 S.2.1 dX5_nextLine_129 (lv_at hl 1 rfl) ?_
        refine fp_X5_66 S K h dX5_nextLine_131 (fun H locs h => ?_)
        refine lv_aload_n S.1 S.2.1 dX5_nextLine_134 rfl (lv_at hl 5 rfl) ?_
        refine fg_X5_26 S K h dX5_nextLine_135 ?_
        refine lv_iload_n S.1 S.2.1 dX5_nextLine_138 rfl (lv_at hl 6 rfl) ?_
        refine fp_X5_69 S K h dX5_nextLine_139 (fun H locs h => ?_)
        refine lv_iconst (v := -1) S.1 S.2.1 dX5_nextLine_142 (by decide) ?_
        subst hR
        exact g_reti S hr hlocks h dX5_nextLine_143
  · replace hok := And.left hok c
    replace hR := (if_pos c).symm.trans hR
    refine lv_aload_n S.1 S.2.1 dX5_nextLine_71 rfl (lv_at hl 4 rfl) ?_
    refine fg_X5_19 S K h dX5_nextLine_72 ?_
    refine lv_iload_n S.1 S.2.1 dX5_nextLine_75 rfl (lv_at hl 5 rfl) ?_
    refine lv_iload_n S.1 S.2.1 dX5_nextLine_76 rfl (lv_at hl 3 rfl) ?_
    refine lv_iload_n S.1 S.2.1 dX5_nextLine_77 rfl (lv_at hl 2 rfl) ?_
    refine lv_iload S.1 S.2.1 dX5_nextLine_78 (lv_at hl 1 rfl) ?_
    have k24 := And.left hok
    replace hok := And.right hok
    refine g_calli (ci := 0) (q0 := 0) S wz_cons K h (c_X0_lineBehind l D cy q _ A _ _ _ _ _ k24) kc_X0_lineBehind km_X5_151 ki_X0_lineBehind ks_X0_lineBehind kn_X0 yd_X0_lineBehind ⟨⟨Nat.le_of_ble_eq_true rfl, Nat.le_of_ble_eq_true rfl⟩, rfl, rfl, Nat.zero_le _, Nat.zero_le _⟩ rfl rfl rfl hl.1 (Nat.le_of_ble_eq_true rfl) rfl dX5_nextLine_80 (fun H locs h => ?_)
    subst hR
    exact g_reti S hr hlocks h dX5_nextLine_83
def xl_X5_run_32 : Nat → GS → GS → Int32 → Int32 → Int32 → Int32 → Int32 × GS × GS
  | 0, σ, ρ, _, _, _, _ => (0, σ, ρ)
  | n + 1, σ, ρ, x1, x2, x3, x4 => if x2 ≤ x4 then if (ρ 37 0) = 0 then bd2 (xr_X2_hasAct σ ρ x3) (fun v11 σ13 ρ14 => if v11 = 0 then (0, σ13, ρ14) else (2, σ13, ρ14)) else (1, σ, ρ) else bd2 (xr_X2_hasAct σ ρ x3) (fun v15 σ17 ρ18 => if v15 = 0 then if (ρ18 37 0) = 0 then bd2 (xr_X2_hasAct σ17 ρ18 x3) (fun v19 σ21 ρ22 => if v19 = 0 then (0, σ21, ρ22) else (2, σ21, ρ22)) else (1, σ17, ρ18) else bd2 (xr_X5_nextLine σ17 ρ18 x3) (fun v23 σ25 ρ26 => xl_X5_run_32 n σ25 ρ26 x1 x2 v23 (x4 + 1)))
def xlo_X5_run_32 : Nat → GS → GS → Int32 → Int32 → Int32 → Int32 → Prop
  | 0, _, _, _, _, _, _ => False
  | n + 1, σ, ρ, x1, x2, x3, x4 => (x2 ≤ x4 → ((ρ 37 0) = 0 → (xo_X2_hasAct σ ρ x3) ∧ bd2 (xr_X2_hasAct σ ρ x3) (fun v11 σ13 ρ14 => (v11 = 0 → True) ∧ (¬ (v11 = 0) → True))) ∧ (¬ ((ρ 37 0) = 0) → True)) ∧ (¬ (x2 ≤ x4) → (xo_X2_hasAct σ ρ x3) ∧ bd2 (xr_X2_hasAct σ ρ x3) (fun v15 σ17 ρ18 => (v15 = 0 → ((ρ18 37 0) = 0 → (xo_X2_hasAct σ17 ρ18 x3) ∧ bd2 (xr_X2_hasAct σ17 ρ18 x3) (fun v19 σ21 ρ22 => (v19 = 0 → True) ∧ (¬ (v19 = 0) → True))) ∧ (¬ ((ρ18 37 0) = 0) → True)) ∧ (¬ (v15 = 0) → (xo_X5_nextLine σ17 ρ18 x3) ∧ bd2 (xr_X5_nextLine σ17 ρ18 x3) (fun v23 σ25 ρ26 => xlo_X5_run_32 n σ25 ρ26 x1 x2 v23 (x4 + 1)))))
set_option maxRecDepth 100000 in
set_option maxHeartbeats 4000000 in
theorem w_X5_run_32 {p : Program} {l : Launch} {e : Env} {s : State} {m : MethodId} {args : Array Value} {below : List Frame} {meth : Method} {c : Code} {D : va_G} {cy : CY} {q : Nat → Nat} {ex : va_W} {A : Nat → Prop} (S : CallFix p m c cX5_run 5 s args (wm yX5_run cX5_run 5 (some .int)) RX5) (K : KK D cy s) (hr : meth.sig.returnType = (some .int)) (hlocks : meth.locks = false) :
    ∀ (n : Nat) (σ : GS) (ρ : GS) (x1 : Int32) (x2 : Int32) (x3 : Int32) (x4 : Int32) (H : Heap) (locs : List Loc) (ls : Array Slot) (R : Int32 × GS × GS), xlo_X5_run_32 n σ ρ x1 x2 x3 x4 → xl_X5_run_32 n σ ρ x1 x2 x3 x4 = R → WH D A s.heap H locs (wH cy q σ ++ (wE cy q ρ ++ ex)) → lv_has ls 5 [(0, .ref (q 27)), (1, .int x1), (2, .int x2), (3, .int x3), (4, .int x4)] → W p l e ({ frames := 6, cells := 0, slots := 0, locals := 140 } : Room) s m args below meth c H locs 0 0 (MQ below (QI D (wH cy q R.2.1 ++ (wE cy q R.2.2 ++ ex)) A R.1) args s 0 0 A) (F0 m 32 ls []) := by
  intro n
  induction n with
  | zero =>
    intro σ ρ x1 x2 x3 x4 H locs ls R hok
    exact False.elim hok
  | succ n ih =>
    intro σ ρ x1 x2 x3 x4 H locs ls R hok hR h hl
    refine lv_iload S.1 S.2.1 dX5_run_32 (lv_at hl 4 rfl) ?_
    refine lv_iload_n S.1 S.2.1 dX5_run_34 rfl (lv_at hl 2 rfl) ?_
    refine lv_icmp_ge (tgt := 61) S.1 S.2.1 dX5_run_35 (by decide) (fun c => ?_) (fun c => ?_)
    · replace hok := And.left hok c
      replace hR := (if_pos c).symm.trans hR
      refine lv_aload_n S.1 S.2.1 dX5_run_61 rfl (lv_at hl 0 rfl) ?_
      refine fg_X5_26 S K h dX5_run_62 ?_
      refine fg_X5_66 S K h dX5_run_65 ?_
      refine lv_if_eq (tgt := 73) S.1 S.2.1 dX5_run_68 (by decide) (fun c => ?_) (fun c => ?_)
      · replace hok := And.left hok c
        replace hR := (if_pos c).symm.trans hR
        refine lv_aload_n S.1 S.2.1 dX5_run_73 rfl (lv_at hl 0 rfl) ?_
        refine fg_X5_10 S K h dX5_run_74 ?_
        refine lv_iload_n S.1 S.2.1 dX5_run_77 rfl (lv_at hl 3 rfl) ?_
        have k12 := And.left hok
        replace hok := And.right hok
        refine g_calli (ci := 2) (q0 := 28) S wz_cons K h (c_X2_hasAct l D cy q _ A _ _ _ k12) kc_X2_hasAct km_X5_58 ki_X2_hasAct ks_X2_hasAct kn_X2 yd_X2_hasAct ⟨⟨Nat.le_of_ble_eq_true rfl, Nat.le_of_ble_eq_true rfl⟩, rfl, rfl, Nat.zero_le _, Nat.zero_le _⟩ rfl rfl rfl hl.1 (Nat.le_of_ble_eq_true rfl) rfl dX5_run_78 (fun H locs h => ?_)
        refine lv_if_eq (tgt := 88) S.1 S.2.1 dX5_run_81 (by decide) (fun c => ?_) (fun c => ?_)
        · replace hok := And.left hok c
          replace hR := (if_pos c).symm.trans hR
          refine lv_iconst (v := 0) S.1 S.2.1 dX5_run_88 (by decide) ?_
          subst hR
          exact g_reti S hr hlocks h dX5_run_89
        · replace hok := And.right hok c
          replace hR := (if_neg c).symm.trans hR
          refine lv_iconst (v := 2) S.1 S.2.1 dX5_run_84 (by decide) ?_
          refine lv_goto (tgt := 89) S.1 S.2.1 dX5_run_85 (by decide) ?_
          subst hR
          exact g_reti S hr hlocks h dX5_run_89
      · replace hok := And.right hok c
        replace hR := (if_neg c).symm.trans hR
        refine lv_iconst (v := 1) S.1 S.2.1 dX5_run_71 (by decide) ?_
        subst hR
        exact g_reti S hr hlocks h dX5_run_72
    · replace hok := And.right hok c
      replace hR := (if_neg c).symm.trans hR
      refine lv_aload_n S.1 S.2.1 dX5_run_38 rfl (lv_at hl 0 rfl) ?_
      refine fg_X5_10 S K h dX5_run_39 ?_
      refine lv_iload_n S.1 S.2.1 dX5_run_42 rfl (lv_at hl 3 rfl) ?_
      have k16 := And.left hok
      replace hok := And.right hok
      refine g_calli (ci := 2) (q0 := 28) S wz_cons K h (c_X2_hasAct l D cy q _ A _ _ _ k16) kc_X2_hasAct km_X5_58 ki_X2_hasAct ks_X2_hasAct kn_X2 yd_X2_hasAct ⟨⟨Nat.le_of_ble_eq_true rfl, Nat.le_of_ble_eq_true rfl⟩, rfl, rfl, Nat.zero_le _, Nat.zero_le _⟩ rfl rfl rfl hl.1 (Nat.le_of_ble_eq_true rfl) rfl dX5_run_43 (fun H locs h => ?_)
      refine lv_if_eq (tgt := 61) S.1 S.2.1 dX5_run_46 (by decide) (fun c => ?_) (fun c => ?_)
      · replace hok := And.left hok c
        replace hR := (if_pos c).symm.trans hR
        refine lv_aload_n S.1 S.2.1 dX5_run_61 rfl (lv_at hl 0 rfl) ?_
        refine fg_X5_26 S K h dX5_run_62 ?_
        refine fg_X5_66 S K h dX5_run_65 ?_
        refine lv_if_eq (tgt := 73) S.1 S.2.1 dX5_run_68 (by decide) (fun c => ?_) (fun c => ?_)
        · replace hok := And.left hok c
          replace hR := (if_pos c).symm.trans hR
          refine lv_aload_n S.1 S.2.1 dX5_run_73 rfl (lv_at hl 0 rfl) ?_
          refine fg_X5_10 S K h dX5_run_74 ?_
          refine lv_iload_n S.1 S.2.1 dX5_run_77 rfl (lv_at hl 3 rfl) ?_
          have k20 := And.left hok
          replace hok := And.right hok
          refine g_calli (ci := 2) (q0 := 28) S wz_cons K h (c_X2_hasAct l D cy q _ A _ _ _ k20) kc_X2_hasAct km_X5_58 ki_X2_hasAct ks_X2_hasAct kn_X2 yd_X2_hasAct ⟨⟨Nat.le_of_ble_eq_true rfl, Nat.le_of_ble_eq_true rfl⟩, rfl, rfl, Nat.zero_le _, Nat.zero_le _⟩ rfl rfl rfl hl.1 (Nat.le_of_ble_eq_true rfl) rfl dX5_run_78 (fun H locs h => ?_)
          refine lv_if_eq (tgt := 88) S.1 S.2.1 dX5_run_81 (by decide) (fun c => ?_) (fun c => ?_)
          · replace hok := And.left hok c
            replace hR := (if_pos c).symm.trans hR
            refine lv_iconst (v := 0) S.1 S.2.1 dX5_run_88 (by decide) ?_
            subst hR
            exact g_reti S hr hlocks h dX5_run_89
          · replace hok := And.right hok c
            replace hR := (if_neg c).symm.trans hR
            refine lv_iconst (v := 2) S.1 S.2.1 dX5_run_84 (by decide) ?_
            refine lv_goto (tgt := 89) S.1 S.2.1 dX5_run_85 (by decide) ?_
            subst hR
            exact g_reti S hr hlocks h dX5_run_89
        · replace hok := And.right hok c
          replace hR := (if_neg c).symm.trans hR
          refine lv_iconst (v := 1) S.1 S.2.1 dX5_run_71 (by decide) ?_
          subst hR
          exact g_reti S hr hlocks h dX5_run_72
      · replace hok := And.right hok c
        replace hR := (if_neg c).symm.trans hR
        refine lv_aload_n S.1 S.2.1 dX5_run_49 rfl (lv_at hl 0 rfl) ?_
        refine lv_iload_n S.1 S.2.1 dX5_run_50 rfl (lv_at hl 3 rfl) ?_
        have k24 := And.left hok
        replace hok := And.right hok
        refine g_calli (ci := 5) (q0 := 27) S wz_cons K h (c_X5_nextLine l D cy q _ A _ _ _ k24) kc_X5_nextLine km_X5_62 ki_X5_nextLine ks_X5_nextLine kn_X5 yd_X5_nextLine ⟨⟨Nat.le_of_ble_eq_true rfl, Nat.le_of_ble_eq_true rfl⟩, rfl, rfl, Nat.zero_le _, Nat.zero_le _⟩ rfl rfl rfl hl.1 (Nat.le_of_ble_eq_true rfl) rfl dX5_run_51 (fun H locs h => ?_)
        refine lv_istore_n (lv' := [(3, .int _), (0, .ref _), (1, .int _), (2, .int _), (4, .int _)]) S.1 S.2.1 dX5_run_54 rfl hl (by decide) rfl (fun ls hl => ?_)
        refine lv_iinc (v := _ + 1) (lv' := [(4, .int _), (3, .int _), (0, .ref _), (1, .int _), (2, .int _)]) S.1 S.2.1 dX5_run_55 hl (k := 4) rfl rfl (by decide) rfl (fun ls hl => ?_)
        refine lv_goto (tgt := 32) S.1 S.2.1 dX5_run_58 (by decide) ?_
        exact ih _ _ _ _ _ _ _ _ _ R hok hR h (lv_sub hl [2, 3, 4, 1, 0] rfl)
def xr_X5_run (σ : GS) (ρ : GS) (a1 : Int32) (a2 : Int32) : Int32 × GS × GS := if (xr_X5_isBelow a2 65) = 0 then (-101, σ, ρ) else bd (xr_X0_begin σ a1) (fun v4 σ6 => bd2 (xr_X3_begin σ6 ρ) (fun v7 σ9 ρ10 => xl_X5_run_32 100 σ9 ρ10 a1 a2 0 0))
def xo_X5_run (σ : GS) (ρ : GS) (a1 : Int32) (a2 : Int32) : Prop := (xo_X5_isBelow a2 65) ∧ (((xr_X5_isBelow a2 65) = 0 → True) ∧ (¬ ((xr_X5_isBelow a2 65) = 0) → (xo_X0_begin σ a1) ∧ bd (xr_X0_begin σ a1) (fun v4 σ6 => (xo_X3_begin σ6 ρ) ∧ bd2 (xr_X3_begin σ6 ρ) (fun v7 σ9 ρ10 => xlo_X5_run_32 100 σ9 ρ10 a1 a2 0 0))))
set_option maxRecDepth 100000 in
set_option maxHeartbeats 4000000 in
theorem c_X5_run (l : Launch) (D : va_G) (cy : CY) (q : Nat → Nat) (ex : va_W) (A : Nat → Prop) (σ : GS) (ρ : GS) (a1 : Int32) (a2 : Int32) (hok : xo_X5_run σ ρ a1 a2) : Met l yX5_run (wm yX5_run cX5_run 5 (some .int)) ({ frames := 6, cells := 0, slots := 0, locals := 140 } : Room) (PC D cy (wH cy q σ ++ (wE cy q ρ ++ ex)) A [.ref (q 27), .int a1, .int a2]) (QI D (wH cy q (xr_X5_run σ ρ a1 a2).2.1 ++ (wE cy q (xr_X5_run σ ρ a1 a2).2.2 ++ ex)) A (xr_X5_run σ ρ a1 a2).1) 0 0 A := by
  generalize hR : xr_X5_run σ ρ a1 a2 = R
  refine g_met (lv := [(0, .ref (q 27)), (1, .int a1), (2, .int a2)]) (by decide) rfl (Nat.le_of_ble_eq_true rfl) rfl ?_
  intro p e s m below meth c ls S K h hr hlocks hl
  refine lv_iload_n S.1 S.2.1 dX5_run_0 rfl (lv_at hl 2 rfl) ?_
  refine lv_bipush (v := 65) S.1 S.2.1 dX5_run_1 (by decide) ?_
  have k2 := And.left hok
  replace hok := And.right hok
  refine g_calls S wz_cons K.2 (c_X5_isBelow l _ _ k2) kc_X5_isBelow km_X5_38 kt_X5_isBelow kn_X5 yd_X5_isBelow.2 ⟨⟨Nat.le_of_ble_eq_true rfl, Nat.le_of_ble_eq_true rfl⟩, rfl, rfl, Nat.zero_le _, Nat.zero_le _⟩ rfl hl.1 (Nat.le_of_ble_eq_true rfl) rfl dX5_run_3 ?_
  refine lv_if_ne (tgt := 12) S.1 S.2.1 dX5_run_6 (by decide) (fun c => ?_) (fun c => ?_)
  · replace hok := And.right hok c
    replace hR := (if_neg c).symm.trans hR
    refine lv_aload_n S.1 S.2.1 dX5_run_12 rfl (lv_at hl 0 rfl) ?_
    refine fg_X5_19 S K h dX5_run_13 ?_
    refine lv_iload_n S.1 S.2.1 dX5_run_16 rfl (lv_at hl 1 rfl) ?_
    have k5 := And.left hok
    replace hok := And.right hok
    refine g_callv (ci := 0) (q0 := 0) S wz_cons K h (c_X0_begin l D cy q _ A _ _ k5) kc_X0_begin km_X5_52 ki_X0_begin ks_X0_begin kn_X0 yd_X0_begin ⟨⟨Nat.le_of_ble_eq_true rfl, Nat.le_of_ble_eq_true rfl⟩, rfl, rfl, Nat.zero_le _, Nat.zero_le _⟩ rfl rfl rfl hl.1 (Nat.le_of_ble_eq_true rfl) rfl dX5_run_17 (fun H locs h => ?_)
    refine lv_aload_n S.1 S.2.1 dX5_run_20 rfl (lv_at hl 0 rfl) ?_
    refine fg_X5_26 S K h dX5_run_21 ?_
    have k8 := And.left hok
    replace hok := And.right hok
    refine g_callv (ci := 3) (q0 := 37) S wz_cons K h (c_X3_begin l D cy q _ A _ _ k8) kc_X3_begin km_X5_56 ki_X3_begin ks_X3_begin kn_X3 yd_X3_begin ⟨⟨Nat.le_of_ble_eq_true rfl, Nat.le_of_ble_eq_true rfl⟩, rfl, rfl, Nat.zero_le _, Nat.zero_le _⟩ rfl rfl rfl hl.1 (Nat.le_of_ble_eq_true rfl) rfl dX5_run_24 (fun H locs h => ?_)
    refine lv_iconst (v := 0) S.1 S.2.1 dX5_run_27 (by decide) ?_
    refine lv_istore_n (lv' := [(3, .int _), (0, .ref _), (1, .int _), (2, .int _)]) S.1 S.2.1 dX5_run_28 rfl hl (by decide) rfl (fun ls hl => ?_)
    refine lv_iconst (v := 0) S.1 S.2.1 dX5_run_29 (by decide) ?_
    refine lv_istore (lv' := [(4, .int _), (3, .int _), (0, .ref _), (1, .int _), (2, .int _)]) S.1 S.2.1 dX5_run_30 hl (by decide) rfl (fun ls hl => ?_)
    exact w_X5_run_32  S K hr hlocks 100 _ _ _ _ _ _ _ _ _ R hok hR h (lv_sub hl [2, 3, 4, 1, 0] rfl)
  · replace hok := And.left hok c
    replace hR := (if_pos c).symm.trans hR
    refine lv_bipush (v := -101) S.1 S.2.1 dX5_run_9 (by decide) ?_
    subst hR
    exact g_reti S hr hlocks h dX5_run_11
