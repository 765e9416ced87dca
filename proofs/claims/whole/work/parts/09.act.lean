def xr_X2_isAct (a1 : Int32) (a2 : Int32) (a3 : Int32) (a4 : Int32) : Int32 := if (xr_X5_isBelow a1 25) = 0 then 0 else if (xr_X2_isGood a2 (bnd1 a1.toNatClampNeg)) = 0 then 0 else if (xr_X2_isGood a3 (bnd2 a1.toNatClampNeg)) = 0 then 0 else if (xr_X2_isGood a4 (bnd3 a1.toNatClampNeg)) = 0 then 0 else 1
def xo_X2_isAct (a1 : Int32) (a2 : Int32) (a3 : Int32) (a4 : Int32) : Prop := (xo_X5_isBelow a1 25) ∧ (((xr_X5_isBelow a1 25) = 0 → True) ∧ (¬ ((xr_X5_isBelow a1 25) = 0) → vp_in a1 25 ∧ ((xo_X2_isGood a2 (bnd1 a1.toNatClampNeg)) ∧ (((xr_X2_isGood a2 (bnd1 a1.toNatClampNeg)) = 0 → True) ∧ (¬ ((xr_X2_isGood a2 (bnd1 a1.toNatClampNeg)) = 0) → vp_in a1 25 ∧ ((xo_X2_isGood a3 (bnd2 a1.toNatClampNeg)) ∧ (((xr_X2_isGood a3 (bnd2 a1.toNatClampNeg)) = 0 → True) ∧ (¬ ((xr_X2_isGood a3 (bnd2 a1.toNatClampNeg)) = 0) → vp_in a1 25 ∧ ((xo_X2_isGood a4 (bnd3 a1.toNatClampNeg)) ∧ (((xr_X2_isGood a4 (bnd3 a1.toNatClampNeg)) = 0 → True) ∧ (¬ ((xr_X2_isGood a4 (bnd3 a1.toNatClampNeg)) = 0) → True)))))))))))
set_option maxRecDepth 100000 in
set_option maxHeartbeats 4000000 in
theorem c_X2_isAct (l : Launch) (a1 : Int32) (a2 : Int32) (a3 : Int32) (a4 : Int32) (hok : xo_X2_isAct a1 a2 a3 a4) : Met l yX2_isAct (wm yX2_isAct cX2_isAct 4 (some .boolean)) ({ frames := 2, cells := 0, slots := 0, locals := 42 } : Room) (PSB [.int a1, .int a2, .int a3, .int a4]) (QS (xr_X2_isAct a1 a2 a3 a4)) 0 0 (fun _ => False) := by
  generalize hR : xr_X2_isAct a1 a2 a3 a4 = R
  refine g_metsB (lv := [(0, .int a1), (1, .int a2), (2, .int a3), (3, .int a4)]) (by decide) rfl (Nat.le_of_ble_eq_true rfl) rfl ?_
  intro p e s m below meth c ls S N hB hr hlocks hl
  obtain ⟨t1, t2, t3, hZ1, hT1, hZ2, hT2, hZ3, hT3⟩ := hB
  refine lv_iload_n S.1 S.2.1 dX2_isAct_0 rfl (lv_at hl 0 rfl) ?_
  refine lv_bipush (v := 25) S.1 S.2.1 dX2_isAct_1 (by decide) ?_
  have k2 := And.left hok
  replace hok := And.right hok
  refine g_callsN S wz_cons N (c_X5_isBelow l _ _ k2) kc_X5_isBelow nn_X2_43 kt_X5_isBelow kn_X5 yd_X5_isBelow.2 ⟨⟨Nat.le_of_ble_eq_true rfl, Nat.le_of_ble_eq_true rfl⟩, rfl, rfl, Nat.zero_le _, Nat.zero_le _⟩ rfl hl.1 (Nat.le_of_ble_eq_true rfl) rfl dX2_isAct_3 ?_
  refine lv_if_eq (tgt := 49) S.1 S.2.1 dX2_isAct_6 (by decide) (fun c => ?_) (fun c => ?_)
  · replace hok := And.left hok c
    replace hR := (if_pos c).symm.trans hR
    refine lv_iconst (v := 0) S.1 S.2.1 dX2_isAct_49 (by decide) ?_
    subst hR
    exact g_sretz S hr hlocks nar0 dX2_isAct_50
  · replace hok := And.right hok c
    replace hR := (if_neg c).symm.trans hR
    refine lv_iload_n S.1 S.2.1 dX2_isAct_9 rfl (lv_at hl 1 rfl) ?_
    refine va_gets S.1 S.2.1 hZ1 va_S.rf S.2.2.2.1 (g_ts S kf_X2_47) (fun _ h9 => h9) dX2_isAct_10 ?_
    refine lv_iload_n S.1 S.2.1 dX2_isAct_13 rfl (lv_at hl 0 rfl) ?_
    have k4 := And.left hok
    replace hok := And.right hok
    refine va_ti S.1 S.2.1 hT1 va_S.rf k4 rfl dX2_isAct_14 ?_
    have k6 := And.left hok
    replace hok := And.right hok
    refine g_calls S wz_cons N (c_X2_isGood l _ _ k6) kc_X2_isGood km_X2_50 kt_X2_isGood kn_X2 yd_X2_isGood.2 ⟨⟨Nat.le_of_ble_eq_true rfl, Nat.le_of_ble_eq_true rfl⟩, rfl, rfl, Nat.zero_le _, Nat.zero_le _⟩ rfl hl.1 (Nat.le_of_ble_eq_true rfl) rfl dX2_isAct_15 ?_
    refine lv_if_eq (tgt := 49) S.1 S.2.1 dX2_isAct_18 (by decide) (fun c => ?_) (fun c => ?_)
    · replace hok := And.left hok c
      replace hR := (if_pos c).symm.trans hR
      refine lv_iconst (v := 0) S.1 S.2.1 dX2_isAct_49 (by decide) ?_
      subst hR
      exact g_sretz S hr hlocks nar0 dX2_isAct_50
    · replace hok := And.right hok c
      replace hR := (if_neg c).symm.trans hR
      refine lv_iload_n S.1 S.2.1 dX2_isAct_21 rfl (lv_at hl 2 rfl) ?_
      refine va_gets S.1 S.2.1 hZ2 va_S.rf S.2.2.2.1 (g_ts S kf_X2_53) (fun _ h9 => h9) dX2_isAct_22 ?_
      refine lv_iload_n S.1 S.2.1 dX2_isAct_25 rfl (lv_at hl 0 rfl) ?_
      have k8 := And.left hok
      replace hok := And.right hok
      refine va_ti S.1 S.2.1 hT2 va_S.rf k8 rfl dX2_isAct_26 ?_
      have k10 := And.left hok
      replace hok := And.right hok
      refine g_calls S wz_cons N (c_X2_isGood l _ _ k10) kc_X2_isGood km_X2_50 kt_X2_isGood kn_X2 yd_X2_isGood.2 ⟨⟨Nat.le_of_ble_eq_true rfl, Nat.le_of_ble_eq_true rfl⟩, rfl, rfl, Nat.zero_le _, Nat.zero_le _⟩ rfl hl.1 (Nat.le_of_ble_eq_true rfl) rfl dX2_isAct_27 ?_
      refine lv_if_eq (tgt := 49) S.1 S.2.1 dX2_isAct_30 (by decide) (fun c => ?_) (fun c => ?_)
      · replace hok := And.left hok c
        replace hR := (if_pos c).symm.trans hR
        refine lv_iconst (v := 0) S.1 S.2.1 dX2_isAct_49 (by decide) ?_
        subst hR
        exact g_sretz S hr hlocks nar0 dX2_isAct_50
      · replace hok := And.right hok c
        replace hR := (if_neg c).symm.trans hR
        refine lv_iload_n S.1 S.2.1 dX2_isAct_33 rfl (lv_at hl 3 rfl) ?_
        refine va_gets S.1 S.2.1 hZ3 va_S.rf S.2.2.2.1 (g_ts S kf_X2_56) (fun _ h9 => h9) dX2_isAct_34 ?_
        refine lv_iload_n S.1 S.2.1 dX2_isAct_37 rfl (lv_at hl 0 rfl) ?_
        have k12 := And.left hok
        replace hok := And.right hok
        refine va_ti S.1 S.2.1 hT3 va_S.rf k12 rfl dX2_isAct_38 ?_
        have k14 := And.left hok
        replace hok := And.right hok
        refine g_calls S wz_cons N (c_X2_isGood l _ _ k14) kc_X2_isGood km_X2_50 kt_X2_isGood kn_X2 yd_X2_isGood.2 ⟨⟨Nat.le_of_ble_eq_true rfl, Nat.le_of_ble_eq_true rfl⟩, rfl, rfl, Nat.zero_le _, Nat.zero_le _⟩ rfl hl.1 (Nat.le_of_ble_eq_true rfl) rfl dX2_isAct_39 ?_
        refine lv_if_eq (tgt := 49) S.1 S.2.1 dX2_isAct_42 (by decide) (fun c => ?_) (fun c => ?_)
        · replace hok := And.left hok c
          replace hR := (if_pos c).symm.trans hR
          refine lv_iconst (v := 0) S.1 S.2.1 dX2_isAct_49 (by decide) ?_
          subst hR
          exact g_sretz S hr hlocks nar0 dX2_isAct_50
        · replace hok := And.right hok c
          replace hR := (if_neg c).symm.trans hR
          refine lv_iconst (v := 1) S.1 S.2.1 dX2_isAct_45 (by decide) ?_
          refine lv_goto (tgt := 50) S.1 S.2.1 dX2_isAct_46 (by decide) ?_
          subst hR
          exact g_sretz S hr hlocks nar1 dX2_isAct_50
def xr_X5_act (σ : GS) (ρ : GS) (a1 : Int32) (a2 : Int32) (a3 : Int32) (a4 : Int32) : Int32 × GS × GS := if (xr_X2_isAct a1 a2 a3 a4) = 0 then (-101, σ, ρ) else bd2 (xr_X2_addAct σ ρ a1 a2 a3 a4) (fun v4 σ6 ρ7 => (v4, σ6, ρ7))
def xo_X5_act (σ : GS) (ρ : GS) (a1 : Int32) (a2 : Int32) (a3 : Int32) (a4 : Int32) : Prop := (xo_X2_isAct a1 a2 a3 a4) ∧ (((xr_X2_isAct a1 a2 a3 a4) = 0 → True) ∧ (¬ ((xr_X2_isAct a1 a2 a3 a4) = 0) → (xo_X2_addAct σ ρ a1 a2 a3 a4) ∧ bd2 (xr_X2_addAct σ ρ a1 a2 a3 a4) (fun v4 σ6 ρ7 => True)))
set_option maxRecDepth 100000 in
set_option maxHeartbeats 4000000 in
theorem c_X5_act (l : Launch) (D : va_G) (cy : CY) (q : Nat → Nat) (ex : va_W) (A : Nat → Prop) (σ : GS) (ρ : GS) (a1 : Int32) (a2 : Int32) (a3 : Int32) (a4 : Int32) (hok : xo_X5_act σ ρ a1 a2 a3 a4) : Met l yX5_act (wm yX5_act cX5_act 5 (some .int)) ({ frames := 3, cells := 0, slots := 0, locals := 65 } : Room) (PCB D cy (wH cy q σ ++ (wE cy q ρ ++ ex)) A [.ref (q 27), .int a1, .int a2, .int a3, .int a4]) (QI D (wH cy q (xr_X5_act σ ρ a1 a2 a3 a4).2.1 ++ (wE cy q (xr_X5_act σ ρ a1 a2 a3 a4).2.2 ++ ex)) A (xr_X5_act σ ρ a1 a2 a3 a4).1) 0 0 A := by
  generalize hR : xr_X5_act σ ρ a1 a2 a3 a4 = R
  refine g_metB (lv := [(0, .ref (q 27)), (1, .int a1), (2, .int a2), (3, .int a3), (4, .int a4)]) (by decide) rfl (Nat.le_of_ble_eq_true rfl) rfl ?_
  intro p e s m below meth c ls S K h hB hr hlocks hl
  refine lv_iload_n S.1 S.2.1 dX5_act_0 rfl (lv_at hl 1 rfl) ?_
  refine lv_iload_n S.1 S.2.1 dX5_act_1 rfl (lv_at hl 2 rfl) ?_
  refine lv_iload_n S.1 S.2.1 dX5_act_2 rfl (lv_at hl 3 rfl) ?_
  refine lv_iload S.1 S.2.1 dX5_act_3 (lv_at hl 4 rfl) ?_
  have k2 := And.left hok
  replace hok := And.right hok
  refine g_callsB hB S wz_cons K.2 (c_X2_isAct l _ _ _ _ k2) kc_X2_isAct km_X5_30 kt_X2_isAct kn_X2 yd_X2_isAct.2 ⟨⟨Nat.le_of_ble_eq_true rfl, Nat.le_of_ble_eq_true rfl⟩, rfl, rfl, Nat.zero_le _, Nat.zero_le _⟩ rfl hl.1 (Nat.le_of_ble_eq_true rfl) rfl dX5_act_5 ?_
  refine lv_if_ne (tgt := 14) S.1 S.2.1 dX5_act_8 (by decide) (fun c => ?_) (fun c => ?_)
  · replace hok := And.right hok c
    replace hR := (if_neg c).symm.trans hR
    refine lv_aload_n S.1 S.2.1 dX5_act_14 rfl (lv_at hl 0 rfl) ?_
    refine fg_X5_10 S K h dX5_act_15 ?_
    refine lv_iload_n S.1 S.2.1 dX5_act_18 rfl (lv_at hl 1 rfl) ?_
    refine lv_iload_n S.1 S.2.1 dX5_act_19 rfl (lv_at hl 2 rfl) ?_
    refine lv_iload_n S.1 S.2.1 dX5_act_20 rfl (lv_at hl 3 rfl) ?_
    refine lv_iload S.1 S.2.1 dX5_act_21 (lv_at hl 4 rfl) ?_
    have k5 := And.left hok
    replace hok := And.right hok
    refine g_calli (ci := 2) (q0 := 28) S wz_cons K h (c_X2_addAct l D cy q _ A _ _ _ _ _ _ k5) kc_X2_addAct km_X5_34 ki_X2_addAct ks_X2_addAct kn_X2 yd_X2_addAct ⟨⟨Nat.le_of_ble_eq_true rfl, Nat.le_of_ble_eq_true rfl⟩, rfl, rfl, Nat.zero_le _, Nat.zero_le _⟩ rfl rfl rfl hl.1 (Nat.le_of_ble_eq_true rfl) rfl dX5_act_23 (fun H locs h => ?_)
    subst hR
    exact g_reti S hr hlocks h dX5_act_26
  · replace hok := And.left hok c
    replace hR := (if_pos c).symm.trans hR
    refine lv_bipush (v := -101) S.1 S.2.1 dX5_act_11 (by decide) ?_
    subst hR
    exact g_reti S hr hlocks h dX5_act_13
