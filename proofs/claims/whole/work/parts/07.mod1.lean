def xr_X6_in (a1 : Int32) (a2 : Int32) (a3 : Int32) : Int32 := if a1 < a2 then 0 else if a3 < a1 then 0 else 1
def xo_X6_in (a1 : Int32) (a2 : Int32) (a3 : Int32) : Prop := (a1 < a2 → True) ∧ (¬ (a1 < a2) → (a3 < a1 → True) ∧ (¬ (a3 < a1) → True))
set_option maxRecDepth 100000 in
set_option maxHeartbeats 4000000 in
theorem c_X6_in (l : Launch) (a1 : Int32) (a2 : Int32) (a3 : Int32) (hok : xo_X6_in a1 a2 a3) : Met l yX6_in (wm yX6_in cX6_in 3 (some .boolean)) ({ frames := 0, cells := 0, slots := 0, locals := 0 } : Room) (PS [.int a1, .int a2, .int a3]) (QS (xr_X6_in a1 a2 a3)) 0 0 (fun _ => False) := by
  generalize hR : xr_X6_in a1 a2 a3 = R
  refine g_mets (lv := [(0, .int a1), (1, .int a2), (2, .int a3)]) (by decide) rfl (Nat.le_of_ble_eq_true rfl) rfl ?_
  intro p e s m below meth c ls S N hr hlocks hl
  refine lv_iload_n S.1 S.2.1 dX6_in_0 rfl (lv_at hl 0 rfl) ?_
  refine lv_iload_n S.1 S.2.1 dX6_in_1 rfl (lv_at hl 1 rfl) ?_
  refine lv_icmp_lt (tgt := 14) S.1 S.2.1 dX6_in_2 (by decide) (fun c => ?_) (fun c => ?_)
  · replace hok := And.left hok c
    replace hR := (if_pos c).symm.trans hR
    refine lv_iconst (v := 0) S.1 S.2.1 dX6_in_14 (by decide) ?_
    subst hR
    exact g_sretz S hr hlocks nar0 dX6_in_15
  · replace hok := And.right hok c
    replace hR := (if_neg c).symm.trans hR
    refine lv_iload_n S.1 S.2.1 dX6_in_5 rfl (lv_at hl 0 rfl) ?_
    refine lv_iload_n S.1 S.2.1 dX6_in_6 rfl (lv_at hl 2 rfl) ?_
    refine lv_icmp_gt (tgt := 14) S.1 S.2.1 dX6_in_7 (by decide) (fun c => ?_) (fun c => ?_)
    · replace hok := And.left hok c
      replace hR := (if_pos c).symm.trans hR
      refine lv_iconst (v := 0) S.1 S.2.1 dX6_in_14 (by decide) ?_
      subst hR
      exact g_sretz S hr hlocks nar0 dX6_in_15
    · replace hok := And.right hok c
      replace hR := (if_neg c).symm.trans hR
      refine lv_iconst (v := 1) S.1 S.2.1 dX6_in_10 (by decide) ?_
      refine lv_goto (tgt := 15) S.1 S.2.1 dX6_in_11 (by decide) ?_
      subst hR
      exact g_sretz S hr hlocks nar1 dX6_in_15
def xr_X6_isPlace (a1 : Int32) : Int32 := (xr_X6_in a1 0 7)
def xo_X6_isPlace (a1 : Int32) : Prop := (xo_X6_in a1 0 7) ∧ (narrow .boolean (.int (xr_X6_in a1 0 7)) = .int (xr_X6_in a1 0 7))
set_option maxRecDepth 100000 in
set_option maxHeartbeats 4000000 in
theorem c_X6_isPlace (l : Launch) (a1 : Int32) (hok : xo_X6_isPlace a1) : Met l yX6_isPlace (wm yX6_isPlace cX6_isPlace 1 (some .boolean)) ({ frames := 1, cells := 0, slots := 0, locals := 22 } : Room) (PS [.int a1]) (QS (xr_X6_isPlace a1)) 0 0 (fun _ => False) := by
  generalize hR : xr_X6_isPlace a1 = R
  refine g_mets (lv := [(0, .int a1)]) (by decide) rfl (Nat.le_of_ble_eq_true rfl) rfl ?_
  intro p e s m below meth c ls S N hr hlocks hl
  refine lv_iload_n S.1 S.2.1 dX6_isPlace_0 rfl (lv_at hl 0 rfl) ?_
  refine lv_iconst (v := 0) S.1 S.2.1 dX6_isPlace_1 (by decide) ?_
  refine lv_bipush (v := 7) S.1 S.2.1 dX6_isPlace_2 (by decide) ?_
  have k2 := And.left hok
  replace hok := And.right hok
  refine g_calls S wz_cons N (c_X6_in l _ _ _ k2) kc_X6_in km_X6_106 kt_X6_in kn_X6 yd_X6_in.2 ⟨⟨Nat.le_of_ble_eq_true rfl, Nat.le_of_ble_eq_true rfl⟩, rfl, rfl, Nat.zero_le _, Nat.zero_le _⟩ rfl hl.1 (Nat.le_of_ble_eq_true rfl) rfl dX6_isPlace_4 ?_
  subst hR
  exact g_sretz S hr hlocks hok dX6_isPlace_7
def xr_X6_isRegister (a1 : Int32) : Int32 := (xr_X6_in a1 0 5)
def xo_X6_isRegister (a1 : Int32) : Prop := (xo_X6_in a1 0 5) ∧ (narrow .boolean (.int (xr_X6_in a1 0 5)) = .int (xr_X6_in a1 0 5))
set_option maxRecDepth 100000 in
set_option maxHeartbeats 4000000 in
theorem c_X6_isRegister (l : Launch) (a1 : Int32) (hok : xo_X6_isRegister a1) : Met l yX6_isRegister (wm yX6_isRegister cX6_isRegister 1 (some .boolean)) ({ frames := 1, cells := 0, slots := 0, locals := 22 } : Room) (PS [.int a1]) (QS (xr_X6_isRegister a1)) 0 0 (fun _ => False) := by
  generalize hR : xr_X6_isRegister a1 = R
  refine g_mets (lv := [(0, .int a1)]) (by decide) rfl (Nat.le_of_ble_eq_true rfl) rfl ?_
  intro p e s m below meth c ls S N hr hlocks hl
  refine lv_iload_n S.1 S.2.1 dX6_isRegister_0 rfl (lv_at hl 0 rfl) ?_
  refine lv_iconst (v := 0) S.1 S.2.1 dX6_isRegister_1 (by decide) ?_
  refine lv_iconst (v := 5) S.1 S.2.1 dX6_isRegister_2 (by decide) ?_
  have k2 := And.left hok
  replace hok := And.right hok
  refine g_calls S wz_cons N (c_X6_in l _ _ _ k2) kc_X6_in km_X6_106 kt_X6_in kn_X6 yd_X6_in.2 ⟨⟨Nat.le_of_ble_eq_true rfl, Nat.le_of_ble_eq_true rfl⟩, rfl, rfl, Nat.zero_le _, Nat.zero_le _⟩ rfl hl.1 (Nat.le_of_ble_eq_true rfl) rfl dX6_isRegister_3 ?_
  subst hR
  exact g_sretz S hr hlocks hok dX6_isRegister_6
def xr_X6_isRight (a1 : Int32) (a2 : Int32) (a3 : Int32) (a4 : Int32) : Int32 := if a1 = 0 then if (xr_X6_isPlace a2) = 0 then 0 else if (xr_X6_in a3 0 4) = 0 then 0 else if (xr_X6_isRegister a4) = 0 then 0 else 1 else if a1 = 1 then (xr_X6_isPlace a2) else if a1 = 2 then if (xr_X6_isPlace a2) = 0 then 0 else if (xr_X6_isPlace a3) = 0 then 0 else 1 else if a1 = 3 then if (xr_X6_in a2 0 3) = 0 then 0 else if (xr_X6_in a3 0 4) = 0 then 0 else if (xr_X6_isRegister a4) = 0 then 0 else 1 else if a1 = 4 then if (xr_X6_in a2 0 3) = 0 then 0 else if (xr_X6_isRegister a3) = 0 then 0 else if (xr_X6_isPlace a4) = 0 then 0 else 1 else if a1 = 5 then if (xr_X6_isPlace a2) = 0 then 0 else if (xr_X6_in a3 0 3) = 0 then 0 else if (xr_X6_isRegister a4) = 0 then 0 else 1 else if a1 = 6 then if (xr_X6_isRegister a2) = 0 then 0 else if (xr_X6_in a3 0 3) = 0 then 0 else 1 else if a1 = 7 then (xr_X6_in a2 0 3) else if a1 = 8 then if (xr_X6_isRegister a2) = 0 then 0 else if (xr_X6_isPlace a3) = 0 then 0 else 1 else if a1 = 9 then if (xr_X6_isPlace a2) = 0 then 0 else if (xr_X6_isRegister a3) = 0 then 0 else 1 else if a1 = 10 then if (xr_X6_isRegister a2) = 0 then 0 else if (xr_X6_isPlace a3) = 0 then 0 else 1 else if a1 = 11 then if (xr_X6_isRegister a2) = 0 then 0 else if (xr_X6_isPlace a3) = 0 then 0 else 1 else if a1 = 12 then if (xr_X6_isPlace a2) = 0 then 0 else if (xr_X6_in a3 0 4) = 0 then 0 else 1 else if a1 = 13 then if (xr_X6_in a2 0 2) = 0 then 0 else if (xr_X6_isRegister a3) = 0 then 0 else 1 else if a1 = 14 then if (xr_X6_in a2 0 2) = 0 then 0 else if (xr_X6_isRegister a3) = 0 then 0 else 1 else if a1 = 15 then if (xr_X6_isRegister a2) = 0 then 0 else if (xr_X6_in a3 0 2) = 0 then 0 else if (xr_X6_isRegister a4) = 0 then 0 else 1 else if a1 = 16 then if (xr_X6_in a2 0 1) = 0 then 0 else if (xr_X6_isRegister a3) = 0 then 0 else if (xr_X6_in a4 0 5) = 0 then 0 else 1 else if a1 = 17 then if (xr_X6_isRegister a2) = 0 then 0 else if (xr_X6_in a3 0 1) = 0 then 0 else 1 else if a1 = 18 then if (xr_X6_in a2 0 2) = 0 then 0 else if (xr_X6_isRegister a3) = 0 then 0 else 1 else if a1 = 19 then (xr_X6_in a2 0 2) else if a1 = 20 then (xr_X6_in a2 0 2) else if a1 = 21 then (xr_X6_isRegister a2) else if a1 = 22 then if (xr_X6_isRegister a2) = 0 then 0 else if (xr_X6_isRegister a3) = 0 then 0 else 1 else if a1 = 23 then (xr_X6_in a2 0 40) else if a1 = 24 then if (xr_X6_isRegister a2) = 0 then 0 else if (xr_X6_in a3 0 40) = 0 then 0 else 1 else 0
def xo_X6_isRight (a1 : Int32) (a2 : Int32) (a3 : Int32) (a4 : Int32) : Prop := (a1 = 0 → (xo_X6_isPlace a2) ∧ (((xr_X6_isPlace a2) = 0 → True) ∧ (¬ ((xr_X6_isPlace a2) = 0) → (xo_X6_in a3 0 4) ∧ (((xr_X6_in a3 0 4) = 0 → True) ∧ (¬ ((xr_X6_in a3 0 4) = 0) → (xo_X6_isRegister a4) ∧ (((xr_X6_isRegister a4) = 0 → True) ∧ (¬ ((xr_X6_isRegister a4) = 0) → True))))))) ∧ (¬ (a1 = 0) → (a1 = 1 → (xo_X6_isPlace a2) ∧ (narrow .boolean (.int (xr_X6_isPlace a2)) = .int (xr_X6_isPlace a2))) ∧ (¬ (a1 = 1) → (a1 = 2 → (xo_X6_isPlace a2) ∧ (((xr_X6_isPlace a2) = 0 → True) ∧ (¬ ((xr_X6_isPlace a2) = 0) → (xo_X6_isPlace a3) ∧ (((xr_X6_isPlace a3) = 0 → True) ∧ (¬ ((xr_X6_isPlace a3) = 0) → True))))) ∧ (¬ (a1 = 2) → (a1 = 3 → (xo_X6_in a2 0 3) ∧ (((xr_X6_in a2 0 3) = 0 → True) ∧ (¬ ((xr_X6_in a2 0 3) = 0) → (xo_X6_in a3 0 4) ∧ (((xr_X6_in a3 0 4) = 0 → True) ∧ (¬ ((xr_X6_in a3 0 4) = 0) → (xo_X6_isRegister a4) ∧ (((xr_X6_isRegister a4) = 0 → True) ∧ (¬ ((xr_X6_isRegister a4) = 0) → True))))))) ∧ (¬ (a1 = 3) → (a1 = 4 → (xo_X6_in a2 0 3) ∧ (((xr_X6_in a2 0 3) = 0 → True) ∧ (¬ ((xr_X6_in a2 0 3) = 0) → (xo_X6_isRegister a3) ∧ (((xr_X6_isRegister a3) = 0 → True) ∧ (¬ ((xr_X6_isRegister a3) = 0) → (xo_X6_isPlace a4) ∧ (((xr_X6_isPlace a4) = 0 → True) ∧ (¬ ((xr_X6_isPlace a4) = 0) → True))))))) ∧ (¬ (a1 = 4) → (a1 = 5 → (xo_X6_isPlace a2) ∧ (((xr_X6_isPlace a2) = 0 → True) ∧ (¬ ((xr_X6_isPlace a2) = 0) → (xo_X6_in a3 0 3) ∧ (((xr_X6_in a3 0 3) = 0 → True) ∧ (¬ ((xr_X6_in a3 0 3) = 0) → (xo_X6_isRegister a4) ∧ (((xr_X6_isRegister a4) = 0 → True) ∧ (¬ ((xr_X6_isRegister a4) = 0) → True))))))) ∧ (¬ (a1 = 5) → (a1 = 6 → (xo_X6_isRegister a2) ∧ (((xr_X6_isRegister a2) = 0 → True) ∧ (¬ ((xr_X6_isRegister a2) = 0) → (xo_X6_in a3 0 3) ∧ (((xr_X6_in a3 0 3) = 0 → True) ∧ (¬ ((xr_X6_in a3 0 3) = 0) → True))))) ∧ (¬ (a1 = 6) → (a1 = 7 → (xo_X6_in a2 0 3) ∧ (narrow .boolean (.int (xr_X6_in a2 0 3)) = .int (xr_X6_in a2 0 3))) ∧ (¬ (a1 = 7) → (a1 = 8 → (xo_X6_isRegister a2) ∧ (((xr_X6_isRegister a2) = 0 → True) ∧ (¬ ((xr_X6_isRegister a2) = 0) → (xo_X6_isPlace a3) ∧ (((xr_X6_isPlace a3) = 0 → True) ∧ (¬ ((xr_X6_isPlace a3) = 0) → True))))) ∧ (¬ (a1 = 8) → (a1 = 9 → (xo_X6_isPlace a2) ∧ (((xr_X6_isPlace a2) = 0 → True) ∧ (¬ ((xr_X6_isPlace a2) = 0) → (xo_X6_isRegister a3) ∧ (((xr_X6_isRegister a3) = 0 → True) ∧ (¬ ((xr_X6_isRegister a3) = 0) → True))))) ∧ (¬ (a1 = 9) → (a1 = 10 → (xo_X6_isRegister a2) ∧ (((xr_X6_isRegister a2) = 0 → True) ∧ (¬ ((xr_X6_isRegister a2) = 0) → (xo_X6_isPlace a3) ∧ (((xr_X6_isPlace a3) = 0 → True) ∧ (¬ ((xr_X6_isPlace a3) = 0) → True))))) ∧ (¬ (a1 = 10) → (a1 = 11 → (xo_X6_isRegister a2) ∧ (((xr_X6_isRegister a2) = 0 → True) ∧ (¬ ((xr_X6_isRegister a2) = 0) → (xo_X6_isPlace a3) ∧ (((xr_X6_isPlace a3) = 0 → True) ∧ (¬ ((xr_X6_isPlace a3) = 0) → True))))) ∧ (¬ (a1 = 11) → (a1 = 12 → (xo_X6_isPlace a2) ∧ (((xr_X6_isPlace a2) = 0 → True) ∧ (¬ ((xr_X6_isPlace a2) = 0) → (xo_X6_in a3 0 4) ∧ (((xr_X6_in a3 0 4) = 0 → True) ∧ (¬ ((xr_X6_in a3 0 4) = 0) → True))))) ∧ (¬ (a1 = 12) → (a1 = 13 → (xo_X6_in a2 0 2) ∧ (((xr_X6_in a2 0 2) = 0 → True) ∧ (¬ ((xr_X6_in a2 0 2) = 0) → (xo_X6_isRegister a3) ∧ (((xr_X6_isRegister a3) = 0 → True) ∧ (¬ ((xr_X6_isRegister a3) = 0) → True))))) ∧ (¬ (a1 = 13) → (a1 = 14 → (xo_X6_in a2 0 2) ∧ (((xr_X6_in a2 0 2) = 0 → True) ∧ (¬ ((xr_X6_in a2 0 2) = 0) → (xo_X6_isRegister a3) ∧ (((xr_X6_isRegister a3) = 0 → True) ∧ (¬ ((xr_X6_isRegister a3) = 0) → True))))) ∧ (¬ (a1 = 14) → (a1 = 15 → (xo_X6_isRegister a2) ∧ (((xr_X6_isRegister a2) = 0 → True) ∧ (¬ ((xr_X6_isRegister a2) = 0) → (xo_X6_in a3 0 2) ∧ (((xr_X6_in a3 0 2) = 0 → True) ∧ (¬ ((xr_X6_in a3 0 2) = 0) → (xo_X6_isRegister a4) ∧ (((xr_X6_isRegister a4) = 0 → True) ∧ (¬ ((xr_X6_isRegister a4) = 0) → True))))))) ∧ (¬ (a1 = 15) → (a1 = 16 → (xo_X6_in a2 0 1) ∧ (((xr_X6_in a2 0 1) = 0 → True) ∧ (¬ ((xr_X6_in a2 0 1) = 0) → (xo_X6_isRegister a3) ∧ (((xr_X6_isRegister a3) = 0 → True) ∧ (¬ ((xr_X6_isRegister a3) = 0) → (xo_X6_in a4 0 5) ∧ (((xr_X6_in a4 0 5) = 0 → True) ∧ (¬ ((xr_X6_in a4 0 5) = 0) → True))))))) ∧ (¬ (a1 = 16) → (a1 = 17 → (xo_X6_isRegister a2) ∧ (((xr_X6_isRegister a2) = 0 → True) ∧ (¬ ((xr_X6_isRegister a2) = 0) → (xo_X6_in a3 0 1) ∧ (((xr_X6_in a3 0 1) = 0 → True) ∧ (¬ ((xr_X6_in a3 0 1) = 0) → True))))) ∧ (¬ (a1 = 17) → (a1 = 18 → (xo_X6_in a2 0 2) ∧ (((xr_X6_in a2 0 2) = 0 → True) ∧ (¬ ((xr_X6_in a2 0 2) = 0) → (xo_X6_isRegister a3) ∧ (((xr_X6_isRegister a3) = 0 → True) ∧ (¬ ((xr_X6_isRegister a3) = 0) → True))))) ∧ (¬ (a1 = 18) → (a1 = 19 → (xo_X6_in a2 0 2) ∧ (narrow .boolean (.int (xr_X6_in a2 0 2)) = .int (xr_X6_in a2 0 2))) ∧ (¬ (a1 = 19) → (a1 = 20 → (xo_X6_in a2 0 2) ∧ (narrow .boolean (.int (xr_X6_in a2 0 2)) = .int (xr_X6_in a2 0 2))) ∧ (¬ (a1 = 20) → (a1 = 21 → (xo_X6_isRegister a2) ∧ (narrow .boolean (.int (xr_X6_isRegister a2)) = .int (xr_X6_isRegister a2))) ∧ (¬ (a1 = 21) → (a1 = 22 → (xo_X6_isRegister a2) ∧ (((xr_X6_isRegister a2) = 0 → True) ∧ (¬ ((xr_X6_isRegister a2) = 0) → (xo_X6_isRegister a3) ∧ (((xr_X6_isRegister a3) = 0 → True) ∧ (¬ ((xr_X6_isRegister a3) = 0) → True))))) ∧ (¬ (a1 = 22) → (a1 = 23 → (xo_X6_in a2 0 40) ∧ (narrow .boolean (.int (xr_X6_in a2 0 40)) = .int (xr_X6_in a2 0 40))) ∧ (¬ (a1 = 23) → (a1 = 24 → (xo_X6_isRegister a2) ∧ (((xr_X6_isRegister a2) = 0 → True) ∧ (¬ ((xr_X6_isRegister a2) = 0) → (xo_X6_in a3 0 40) ∧ (((xr_X6_in a3 0 40) = 0 → True) ∧ (¬ ((xr_X6_in a3 0 40) = 0) → True))))) ∧ (¬ (a1 = 24) → True)))))))))))))))))))))))))
set_option maxRecDepth 100000 in
set_option maxHeartbeats 4000000 in
theorem c_X6_isRight (l : Launch) (a1 : Int32) (a2 : Int32) (a3 : Int32) (a4 : Int32) (hok : xo_X6_isRight a1 a2 a3 a4) : Met l yX6_isRight (wm yX6_isRight cX6_isRight 4 (some .boolean)) ({ frames := 2, cells := 0, slots := 0, locals := 42 } : Room) (PS [.int a1, .int a2, .int a3, .int a4]) (QS (xr_X6_isRight a1 a2 a3 a4)) 0 0 (fun _ => False) := by
  generalize hR : xr_X6_isRight a1 a2 a3 a4 = R
  refine g_mets (lv := [(0, .int a1), (1, .int a2), (2, .int a3), (3, .int a4)]) (by decide) rfl (Nat.le_of_ble_eq_true rfl) rfl ?_
  intro p e s m below meth c ls S N hr hlocks hl
  refine lv_iload_n S.1 S.2.1 dX6_isRight_0 rfl (lv_at hl 0 rfl) ?_
  refine g_em 0 (fun c => ?_) (fun n0 => ?_)
  · replace hok := And.left hok c
    replace hR := (if_pos c).symm.trans hR
    refine g_sw (tgt := 116) S.1 S.2.1 dX6_isRight_1 c rfl (by decide) (by decide) rfl (by decide) ?_
    refine lv_iload_n S.1 S.2.1 dX6_isRight_116 rfl (lv_at hl 1 rfl) ?_
    have k2 := And.left hok
    replace hok := And.right hok
    refine g_calls S wz_cons N (c_X6_isPlace l _ k2) kc_X6_isPlace km_X6_110 kt_X6_isPlace kn_X6 yd_X6_isPlace.2 ⟨⟨Nat.le_of_ble_eq_true rfl, Nat.le_of_ble_eq_true rfl⟩, rfl, rfl, Nat.zero_le _, Nat.zero_le _⟩ rfl hl.1 (Nat.le_of_ble_eq_true rfl) rfl dX6_isRight_117 ?_
    refine lv_if_eq (tgt := 143) S.1 S.2.1 dX6_isRight_120 (by decide) (fun c => ?_) (fun c => ?_)
    · replace hok := And.left hok c
      replace hR := (if_pos c).symm.trans hR
      refine lv_iconst (v := 0) S.1 S.2.1 dX6_isRight_143 (by decide) ?_
      subst hR
      exact g_sretz S hr hlocks nar0 dX6_isRight_144
    · replace hok := And.right hok c
      replace hR := (if_neg c).symm.trans hR
      refine lv_iload_n S.1 S.2.1 dX6_isRight_123 rfl (lv_at hl 2 rfl) ?_
      refine lv_iconst (v := 0) S.1 S.2.1 dX6_isRight_124 (by decide) ?_
      refine lv_iconst (v := 4) S.1 S.2.1 dX6_isRight_125 (by decide) ?_
      have k5 := And.left hok
      replace hok := And.right hok
      refine g_calls S wz_cons N (c_X6_in l _ _ _ k5) kc_X6_in km_X6_106 kt_X6_in kn_X6 yd_X6_in.2 ⟨⟨Nat.le_of_ble_eq_true rfl, Nat.le_of_ble_eq_true rfl⟩, rfl, rfl, Nat.zero_le _, Nat.zero_le _⟩ rfl hl.1 (Nat.le_of_ble_eq_true rfl) rfl dX6_isRight_126 ?_
      refine lv_if_eq (tgt := 143) S.1 S.2.1 dX6_isRight_129 (by decide) (fun c => ?_) (fun c => ?_)
      · replace hok := And.left hok c
        replace hR := (if_pos c).symm.trans hR
        refine lv_iconst (v := 0) S.1 S.2.1 dX6_isRight_143 (by decide) ?_
        subst hR
        exact g_sretz S hr hlocks nar0 dX6_isRight_144
      · replace hok := And.right hok c
        replace hR := (if_neg c).symm.trans hR
        refine lv_iload_n S.1 S.2.1 dX6_isRight_132 rfl (lv_at hl 3 rfl) ?_
        have k8 := And.left hok
        replace hok := And.right hok
        refine g_calls S wz_cons N (c_X6_isRegister l _ k8) kc_X6_isRegister km_X6_114 kt_X6_isRegister kn_X6 yd_X6_isRegister.2 ⟨⟨Nat.le_of_ble_eq_true rfl, Nat.le_of_ble_eq_true rfl⟩, rfl, rfl, Nat.zero_le _, Nat.zero_le _⟩ rfl hl.1 (Nat.le_of_ble_eq_true rfl) rfl dX6_isRight_133 ?_
        refine lv_if_eq (tgt := 143) S.1 S.2.1 dX6_isRight_136 (by decide) (fun c => ?_) (fun c => ?_)
        · replace hok := And.left hok c
          replace hR := (if_pos c).symm.trans hR
          refine lv_iconst (v := 0) S.1 S.2.1 dX6_isRight_143 (by decide) ?_
          subst hR
          exact g_sretz S hr hlocks nar0 dX6_isRight_144
        · replace hok := And.right hok c
          replace hR := (if_neg c).symm.trans hR
          refine lv_iconst (v := 1) S.1 S.2.1 dX6_isRight_139 (by decide) ?_
          refine lv_goto (tgt := 144) S.1 S.2.1 dX6_isRight_140 (by decide) ?_
          subst hR
          exact g_sretz S hr hlocks nar1 dX6_isRight_144
  replace hok := And.right hok n0
  replace hR := (if_neg n0).symm.trans hR
  refine g_em 1 (fun c => ?_) (fun n1 => ?_)
  · replace hok := And.left hok c
    replace hR := (if_pos c).symm.trans hR
    refine g_sw (tgt := 145) S.1 S.2.1 dX6_isRight_1 c rfl (by decide) (by decide) rfl (by decide) ?_
    refine lv_iload_n S.1 S.2.1 dX6_isRight_145 rfl (lv_at hl 1 rfl) ?_
    have k11 := And.left hok
    replace hok := And.right hok
    refine g_calls S wz_cons N (c_X6_isPlace l _ k11) kc_X6_isPlace km_X6_110 kt_X6_isPlace kn_X6 yd_X6_isPlace.2 ⟨⟨Nat.le_of_ble_eq_true rfl, Nat.le_of_ble_eq_true rfl⟩, rfl, rfl, Nat.zero_le _, Nat.zero_le _⟩ rfl hl.1 (Nat.le_of_ble_eq_true rfl) rfl dX6_isRight_146 ?_
    subst hR
    exact g_sretz S hr hlocks hok dX6_isRight_149
  replace hok := And.right hok n1
  replace hR := (if_neg n1).symm.trans hR
  refine g_em 2 (fun c => ?_) (fun n2 => ?_)
  · replace hok := And.left hok c
    replace hR := (if_pos c).symm.trans hR
    refine g_sw (tgt := 150) S.1 S.2.1 dX6_isRight_1 c rfl (by decide) (by decide) rfl (by decide) ?_
    refine lv_iload_n S.1 S.2.1 dX6_isRight_150 rfl (lv_at hl 1 rfl) ?_
    have k14 := And.left hok
    replace hok := And.right hok
    refine g_calls S wz_cons N (c_X6_isPlace l _ k14) kc_X6_isPlace km_X6_110 kt_X6_isPlace kn_X6 yd_X6_isPlace.2 ⟨⟨Nat.le_of_ble_eq_true rfl, Nat.le_of_ble_eq_true rfl⟩, rfl, rfl, Nat.zero_le _, Nat.zero_le _⟩ rfl hl.1 (Nat.le_of_ble_eq_true rfl) rfl dX6_isRight_151 ?_
    refine lv_if_eq (tgt := 168) S.1 S.2.1 dX6_isRight_154 (by decide) (fun c => ?_) (fun c => ?_)
    · replace hok := And.left hok c
      replace hR := (if_pos c).symm.trans hR
      refine lv_iconst (v := 0) S.1 S.2.1 dX6_isRight_168 (by decide) ?_
      subst hR
      exact g_sretz S hr hlocks nar0 dX6_isRight_169
    · replace hok := And.right hok c
      replace hR := (if_neg c).symm.trans hR
      refine lv_iload_n S.1 S.2.1 dX6_isRight_157 rfl (lv_at hl 2 rfl) ?_
      have k17 := And.left hok
      replace hok := And.right hok
      refine g_calls S wz_cons N (c_X6_isPlace l _ k17) kc_X6_isPlace km_X6_110 kt_X6_isPlace kn_X6 yd_X6_isPlace.2 ⟨⟨Nat.le_of_ble_eq_true rfl, Nat.le_of_ble_eq_true rfl⟩, rfl, rfl, Nat.zero_le _, Nat.zero_le _⟩ rfl hl.1 (Nat.le_of_ble_eq_true rfl) rfl dX6_isRight_158 ?_
      refine lv_if_eq (tgt := 168) S.1 S.2.1 dX6_isRight_161 (by decide) (fun c => ?_) (fun c => ?_)
      · replace hok := And.left hok c
        replace hR := (if_pos c).symm.trans hR
        refine lv_iconst (v := 0) S.1 S.2.1 dX6_isRight_168 (by decide) ?_
        subst hR
        exact g_sretz S hr hlocks nar0 dX6_isRight_169
      · replace hok := And.right hok c
        replace hR := (if_neg c).symm.trans hR
        refine lv_iconst (v := 1) S.1 S.2.1 dX6_isRight_164 (by decide) ?_
        refine lv_goto (tgt := 169) S.1 S.2.1 dX6_isRight_165 (by decide) ?_
        subst hR
        exact g_sretz S hr hlocks nar1 dX6_isRight_169
  replace hok := And.right hok n2
  replace hR := (if_neg n2).symm.trans hR
  refine g_em 3 (fun c => ?_) (fun n3 => ?_)
  · replace hok := And.left hok c
    replace hR := (if_pos c).symm.trans hR
    refine g_sw (tgt := 170) S.1 S.2.1 dX6_isRight_1 c rfl (by decide) (by decide) rfl (by decide) ?_
    refine lv_iload_n S.1 S.2.1 dX6_isRight_170 rfl (lv_at hl 1 rfl) ?_
    refine lv_iconst (v := 0) S.1 S.2.1 dX6_isRight_171 (by decide) ?_
    refine lv_iconst (v := 3) S.1 S.2.1 dX6_isRight_172 (by decide) ?_
    have k20 := And.left hok
    replace hok := And.right hok
    refine g_calls S wz_cons N (c_X6_in l _ _ _ k20) kc_X6_in km_X6_106 kt_X6_in kn_X6 yd_X6_in.2 ⟨⟨Nat.le_of_ble_eq_true rfl, Nat.le_of_ble_eq_true rfl⟩, rfl, rfl, Nat.zero_le _, Nat.zero_le _⟩ rfl hl.1 (Nat.le_of_ble_eq_true rfl) rfl dX6_isRight_173 ?_
    refine lv_if_eq (tgt := 199) S.1 S.2.1 dX6_isRight_176 (by decide) (fun c => ?_) (fun c => ?_)
    · replace hok := And.left hok c
      replace hR := (if_pos c).symm.trans hR
      refine lv_iconst (v := 0) S.1 S.2.1 dX6_isRight_199 (by decide) ?_
      subst hR
      exact g_sretz S hr hlocks nar0 dX6_isRight_200
    · replace hok := And.right hok c
      replace hR := (if_neg c).symm.trans hR
      refine lv_iload_n S.1 S.2.1 dX6_isRight_179 rfl (lv_at hl 2 rfl) ?_
      refine lv_iconst (v := 0) S.1 S.2.1 dX6_isRight_180 (by decide) ?_
      refine lv_iconst (v := 4) S.1 S.2.1 dX6_isRight_181 (by decide) ?_
      have k23 := And.left hok
      replace hok := And.right hok
      refine g_calls S wz_cons N (c_X6_in l _ _ _ k23) kc_X6_in km_X6_106 kt_X6_in kn_X6 yd_X6_in.2 ⟨⟨Nat.le_of_ble_eq_true rfl, Nat.le_of_ble_eq_true rfl⟩, rfl, rfl, Nat.zero_le _, Nat.zero_le _⟩ rfl hl.1 (Nat.le_of_ble_eq_true rfl) rfl dX6_isRight_182 ?_
      refine lv_if_eq (tgt := 199) S.1 S.2.1 dX6_isRight_185 (by decide) (fun c => ?_) (fun c => ?_)
      · replace hok := And.left hok c
        replace hR := (if_pos c).symm.trans hR
        refine lv_iconst (v := 0) S.1 S.2.1 dX6_isRight_199 (by decide) ?_
        subst hR
        exact g_sretz S hr hlocks nar0 dX6_isRight_200
      · replace hok := And.right hok c
        replace hR := (if_neg c).symm.trans hR
        refine lv_iload_n S.1 S.2.1 dX6_isRight_188 rfl (lv_at hl 3 rfl) ?_
        have k26 := And.left hok
        replace hok := And.right hok
        refine g_calls S wz_cons N (c_X6_isRegister l _ k26) kc_X6_isRegister km_X6_114 kt_X6_isRegister kn_X6 yd_X6_isRegister.2 ⟨⟨Nat.le_of_ble_eq_true rfl, Nat.le_of_ble_eq_true rfl⟩, rfl, rfl, Nat.zero_le _, Nat.zero_le _⟩ rfl hl.1 (Nat.le_of_ble_eq_true rfl) rfl dX6_isRight_189 ?_
        refine lv_if_eq (tgt := 199) S.1 S.2.1 dX6_isRight_192 (by decide) (fun c => ?_) (fun c => ?_)
        · replace hok := And.left hok c
          replace hR := (if_pos c).symm.trans hR
          refine lv_iconst (v := 0) S.1 S.2.1 dX6_isRight_199 (by decide) ?_
          subst hR
          exact g_sretz S hr hlocks nar0 dX6_isRight_200
        · replace hok := And.right hok c
          replace hR := (if_neg c).symm.trans hR
          refine lv_iconst (v := 1) S.1 S.2.1 dX6_isRight_195 (by decide) ?_
          refine lv_goto (tgt := 200) S.1 S.2.1 dX6_isRight_196 (by decide) ?_
          subst hR
          exact g_sretz S hr hlocks nar1 dX6_isRight_200
  replace hok := And.right hok n3
  replace hR := (if_neg n3).symm.trans hR
  refine g_em 4 (fun c => ?_) (fun n4 => ?_)
  · replace hok := And.left hok c
    replace hR := (if_pos c).symm.trans hR
    refine g_sw (tgt := 201) S.1 S.2.1 dX6_isRight_1 c rfl (by decide) (by decide) rfl (by decide) ?_
    refine lv_iload_n S.1 S.2.1 dX6_isRight_201 rfl (lv_at hl 1 rfl) ?_
    refine lv_iconst (v := 0) S.1 S.2.1 dX6_isRight_202 (by decide) ?_
    refine lv_iconst (v := 3) S.1 S.2.1 dX6_isRight_203 (by decide) ?_
    have k29 := And.left hok
    replace hok := And.right hok
    refine g_calls S wz_cons N (c_X6_in l _ _ _ k29) kc_X6_in km_X6_106 kt_X6_in kn_X6 yd_X6_in.2 ⟨⟨Nat.le_of_ble_eq_true rfl, Nat.le_of_ble_eq_true rfl⟩, rfl, rfl, Nat.zero_le _, Nat.zero_le _⟩ rfl hl.1 (Nat.le_of_ble_eq_true rfl) rfl dX6_isRight_204 ?_
    refine lv_if_eq (tgt := 228) S.1 S.2.1 dX6_isRight_207 (by decide) (fun c => ?_) (fun c => ?_)
    · replace hok := And.left hok c
      replace hR := (if_pos c).symm.trans hR
      refine lv_iconst (v := 0) S.1 S.2.1 dX6_isRight_228 (by decide) ?_
      subst hR
      exact g_sretz S hr hlocks nar0 dX6_isRight_229
    · replace hok := And.right hok c
      replace hR := (if_neg c).symm.trans hR
      refine lv_iload_n S.1 S.2.1 dX6_isRight_210 rfl (lv_at hl 2 rfl) ?_
      have k32 := And.left hok
      replace hok := And.right hok
      refine g_calls S wz_cons N (c_X6_isRegister l _ k32) kc_X6_isRegister km_X6_114 kt_X6_isRegister kn_X6 yd_X6_isRegister.2 ⟨⟨Nat.le_of_ble_eq_true rfl, Nat.le_of_ble_eq_true rfl⟩, rfl, rfl, Nat.zero_le _, Nat.zero_le _⟩ rfl hl.1 (Nat.le_of_ble_eq_true rfl) rfl dX6_isRight_211 ?_
      refine lv_if_eq (tgt := 228) S.1 S.2.1 dX6_isRight_214 (by decide) (fun c => ?_) (fun c => ?_)
      · replace hok := And.left hok c
        replace hR := (if_pos c).symm.trans hR
        refine lv_iconst (v := 0) S.1 S.2.1 dX6_isRight_228 (by decide) ?_
        subst hR
        exact g_sretz S hr hlocks nar0 dX6_isRight_229
      · replace hok := And.right hok c
        replace hR := (if_neg c).symm.trans hR
        refine lv_iload_n S.1 S.2.1 dX6_isRight_217 rfl (lv_at hl 3 rfl) ?_
        have k35 := And.left hok
        replace hok := And.right hok
        refine g_calls S wz_cons N (c_X6_isPlace l _ k35) kc_X6_isPlace km_X6_110 kt_X6_isPlace kn_X6 yd_X6_isPlace.2 ⟨⟨Nat.le_of_ble_eq_true rfl, Nat.le_of_ble_eq_true rfl⟩, rfl, rfl, Nat.zero_le _, Nat.zero_le _⟩ rfl hl.1 (Nat.le_of_ble_eq_true rfl) rfl dX6_isRight_218 ?_
        refine lv_if_eq (tgt := 228) S.1 S.2.1 dX6_isRight_221 (by decide) (fun c => ?_) (fun c => ?_)
        · replace hok := And.left hok c
          replace hR := (if_pos c).symm.trans hR
          refine lv_iconst (v := 0) S.1 S.2.1 dX6_isRight_228 (by decide) ?_
          subst hR
          exact g_sretz S hr hlocks nar0 dX6_isRight_229
        · replace hok := And.right hok c
          replace hR := (if_neg c).symm.trans hR
          refine lv_iconst (v := 1) S.1 S.2.1 dX6_isRight_224 (by decide) ?_
          refine lv_goto (tgt := 229) S.1 S.2.1 dX6_isRight_225 (by decide) ?_
          subst hR
          exact g_sretz S hr hlocks nar1 dX6_isRight_229
  replace hok := And.right hok n4
  replace hR := (if_neg n4).symm.trans hR
  refine g_em 5 (fun c => ?_) (fun n5 => ?_)
  · replace hok := And.left hok c
    replace hR := (if_pos c).symm.trans hR
    refine g_sw (tgt := 230) S.1 S.2.1 dX6_isRight_1 c rfl (by decide) (by decide) rfl (by decide) ?_
    refine lv_iload_n S.1 S.2.1 dX6_isRight_230 rfl (lv_at hl 1 rfl) ?_
    have k38 := And.left hok
    replace hok := And.right hok
    refine g_calls S wz_cons N (c_X6_isPlace l _ k38) kc_X6_isPlace km_X6_110 kt_X6_isPlace kn_X6 yd_X6_isPlace.2 ⟨⟨Nat.le_of_ble_eq_true rfl, Nat.le_of_ble_eq_true rfl⟩, rfl, rfl, Nat.zero_le _, Nat.zero_le _⟩ rfl hl.1 (Nat.le_of_ble_eq_true rfl) rfl dX6_isRight_231 ?_
    refine lv_if_eq (tgt := 257) S.1 S.2.1 dX6_isRight_234 (by decide) (fun c => ?_) (fun c => ?_)
    · replace hok := And.left hok c
      replace hR := (if_pos c).symm.trans hR
      refine lv_iconst (v := 0) S.1 S.2.1 dX6_isRight_257 (by decide) ?_
      subst hR
      exact g_sretz S hr hlocks nar0 dX6_isRight_258
    · replace hok := And.right hok c
      replace hR := (if_neg c).symm.trans hR
      refine lv_iload_n S.1 S.2.1 dX6_isRight_237 rfl (lv_at hl 2 rfl) ?_
      refine lv_iconst (v := 0) S.1 S.2.1 dX6_isRight_238 (by decide) ?_
      refine lv_iconst (v := 3) S.1 S.2.1 dX6_isRight_239 (by decide) ?_
      have k41 := And.left hok
      replace hok := And.right hok
      refine g_calls S wz_cons N (c_X6_in l _ _ _ k41) kc_X6_in km_X6_106 kt_X6_in kn_X6 yd_X6_in.2 ⟨⟨Nat.le_of_ble_eq_true rfl, Nat.le_of_ble_eq_true rfl⟩, rfl, rfl, Nat.zero_le _, Nat.zero_le _⟩ rfl hl.1 (Nat.le_of_ble_eq_true rfl) rfl dX6_isRight_240 ?_
      refine lv_if_eq (tgt := 257) S.1 S.2.1 dX6_isRight_243 (by decide) (fun c => ?_) (fun c => ?_)
      · replace hok := And.left hok c
        replace hR := (if_pos c).symm.trans hR
        refine lv_iconst (v := 0) S.1 S.2.1 dX6_isRight_257 (by decide) ?_
        subst hR
        exact g_sretz S hr hlocks nar0 dX6_isRight_258
      · replace hok := And.right hok c
        replace hR := (if_neg c).symm.trans hR
        refine lv_iload_n S.1 S.2.1 dX6_isRight_246 rfl (lv_at hl 3 rfl) ?_
        have k44 := And.left hok
        replace hok := And.right hok
        refine g_calls S wz_cons N (c_X6_isRegister l _ k44) kc_X6_isRegister km_X6_114 kt_X6_isRegister kn_X6 yd_X6_isRegister.2 ⟨⟨Nat.le_of_ble_eq_true rfl, Nat.le_of_ble_eq_true rfl⟩, rfl, rfl, Nat.zero_le _, Nat.zero_le _⟩ rfl hl.1 (Nat.le_of_ble_eq_true rfl) rfl dX6_isRight_247 ?_
        refine lv_if_eq (tgt := 257) S.1 S.2.1 dX6_isRight_250 (by decide) (fun c => ?_) (fun c => ?_)
        · replace hok := And.left hok c
          replace hR := (if_pos c).symm.trans hR
          refine lv_iconst (v := 0) S.1 S.2.1 dX6_isRight_257 (by decide) ?_
          subst hR
          exact g_sretz S hr hlocks nar0 dX6_isRight_258
        · replace hok := And.right hok c
          replace hR := (if_neg c).symm.trans hR
          refine lv_iconst (v := 1) S.1 S.2.1 dX6_isRight_253 (by decide) ?_
          refine lv_goto (tgt := 258) S.1 S.2.1 dX6_isRight_254 (by decide) ?_
          subst hR
          exact g_sretz S hr hlocks nar1 dX6_isRight_258
  replace hok := And.right hok n5
  replace hR := (if_neg n5).symm.trans hR
  refine g_em 6 (fun c => ?_) (fun n6 => ?_)
  · replace hok := And.left hok c
    replace hR := (if_pos c).symm.trans hR
    refine g_sw (tgt := 259) S.1 S.2.1 dX6_isRight_1 c rfl (by decide) (by decide) rfl (by decide) ?_
    refine lv_iload_n S.1 S.2.1 dX6_isRight_259 rfl (lv_at hl 1 rfl) ?_
    have k47 := And.left hok
    replace hok := And.right hok
    refine g_calls S wz_cons N (c_X6_isRegister l _ k47) kc_X6_isRegister km_X6_114 kt_X6_isRegister kn_X6 yd_X6_isRegister.2 ⟨⟨Nat.le_of_ble_eq_true rfl, Nat.le_of_ble_eq_true rfl⟩, rfl, rfl, Nat.zero_le _, Nat.zero_le _⟩ rfl hl.1 (Nat.le_of_ble_eq_true rfl) rfl dX6_isRight_260 ?_
    refine lv_if_eq (tgt := 279) S.1 S.2.1 dX6_isRight_263 (by decide) (fun c => ?_) (fun c => ?_)
    · replace hok := And.left hok c
      replace hR := (if_pos c).symm.trans hR
      refine lv_iconst (v := 0) S.1 S.2.1 dX6_isRight_279 (by decide) ?_
      subst hR
      exact g_sretz S hr hlocks nar0 dX6_isRight_280
    · replace hok := And.right hok c
      replace hR := (if_neg c).symm.trans hR
      refine lv_iload_n S.1 S.2.1 dX6_isRight_266 rfl (lv_at hl 2 rfl) ?_
      refine lv_iconst (v := 0) S.1 S.2.1 dX6_isRight_267 (by decide) ?_
      refine lv_iconst (v := 3) S.1 S.2.1 dX6_isRight_268 (by decide) ?_
      have k50 := And.left hok
      replace hok := And.right hok
      refine g_calls S wz_cons N (c_X6_in l _ _ _ k50) kc_X6_in km_X6_106 kt_X6_in kn_X6 yd_X6_in.2 ⟨⟨Nat.le_of_ble_eq_true rfl, Nat.le_of_ble_eq_true rfl⟩, rfl, rfl, Nat.zero_le _, Nat.zero_le _⟩ rfl hl.1 (Nat.le_of_ble_eq_true rfl) rfl dX6_isRight_269 ?_
      refine lv_if_eq (tgt := 279) S.1 S.2.1 dX6_isRight_272 (by decide) (fun c => ?_) (fun c => ?_)
      · replace hok := And.left hok c
        replace hR := (if_pos c).symm.trans hR
        refine lv_iconst (v := 0) S.1 S.2.1 dX6_isRight_279 (by decide) ?_
        subst hR
        exact g_sretz S hr hlocks nar0 dX6_isRight_280
      · replace hok := And.right hok c
        replace hR := (if_neg c).symm.trans hR
        refine lv_iconst (v := 1) S.1 S.2.1 dX6_isRight_275 (by decide) ?_
        refine lv_goto (tgt := 280) S.1 S.2.1 dX6_isRight_276 (by decide) ?_
        subst hR
        exact g_sretz S hr hlocks nar1 dX6_isRight_280
  replace hok := And.right hok n6
  replace hR := (if_neg n6).symm.trans hR
  refine g_em 7 (fun c => ?_) (fun n7 => ?_)
  · replace hok := And.left hok c
    replace hR := (if_pos c).symm.trans hR
    refine g_sw (tgt := 281) S.1 S.2.1 dX6_isRight_1 c rfl (by decide) (by decide) rfl (by decide) ?_
    refine lv_iload_n S.1 S.2.1 dX6_isRight_281 rfl (lv_at hl 1 rfl) ?_
    refine lv_iconst (v := 0) S.1 S.2.1 dX6_isRight_282 (by decide) ?_
    refine lv_iconst (v := 3) S.1 S.2.1 dX6_isRight_283 (by decide) ?_
    have k53 := And.left hok
    replace hok := And.right hok
    refine g_calls S wz_cons N (c_X6_in l _ _ _ k53) kc_X6_in km_X6_106 kt_X6_in kn_X6 yd_X6_in.2 ⟨⟨Nat.le_of_ble_eq_true rfl, Nat.le_of_ble_eq_true rfl⟩, rfl, rfl, Nat.zero_le _, Nat.zero_le _⟩ rfl hl.1 (Nat.le_of_ble_eq_true rfl) rfl dX6_isRight_284 ?_
    subst hR
    exact g_sretz S hr hlocks hok dX6_isRight_287
  replace hok := And.right hok n7
  replace hR := (if_neg n7).symm.trans hR
  refine g_em 8 (fun c => ?_) (fun n8 => ?_)
  · replace hok := And.left hok c
    replace hR := (if_pos c).symm.trans hR
    refine g_sw (tgt := 288) S.1 S.2.1 dX6_isRight_1 c rfl (by decide) (by decide) rfl (by decide) ?_
    refine lv_iload_n S.1 S.2.1 dX6_isRight_288 rfl (lv_at hl 1 rfl) ?_
    have k56 := And.left hok
    replace hok := And.right hok
    refine g_calls S wz_cons N (c_X6_isRegister l _ k56) kc_X6_isRegister km_X6_114 kt_X6_isRegister kn_X6 yd_X6_isRegister.2 ⟨⟨Nat.le_of_ble_eq_true rfl, Nat.le_of_ble_eq_true rfl⟩, rfl, rfl, Nat.zero_le _, Nat.zero_le _⟩ rfl hl.1 (Nat.le_of_ble_eq_true rfl) rfl dX6_isRight_289 ?_
    refine lv_if_eq (tgt := 306) S.1 S.2.1 dX6_isRight_292 (by decide) (fun c => ?_) (fun c => ?_)
    · replace hok := And.left hok c
      replace hR := (if_pos c).symm.trans hR
      refine lv_iconst (v := 0) S.1 S.2.1 dX6_isRight_306 (by decide) ?_
      subst hR
      exact g_sretz S hr hlocks nar0 dX6_isRight_307
    · replace hok := And.right hok c
      replace hR := (if_neg c).symm.trans hR
      refine lv_iload_n S.1 S.2.1 dX6_isRight_295 rfl (lv_at hl 2 rfl) ?_
      have k59 := And.left hok
      replace hok := And.right hok
      refine g_calls S wz_cons N (c_X6_isPlace l _ k59) kc_X6_isPlace km_X6_110 kt_X6_isPlace kn_X6 yd_X6_isPlace.2 ⟨⟨Nat.le_of_ble_eq_true rfl, Nat.le_of_ble_eq_true rfl⟩, rfl, rfl, Nat.zero_le _, Nat.zero_le _⟩ rfl hl.1 (Nat.le_of_ble_eq_true rfl) rfl dX6_isRight_296 ?_
      refine lv_if_eq (tgt := 306) S.1 S.2.1 dX6_isRight_299 (by decide) (fun c => ?_) (fun c => ?_)
      · replace hok := And.left hok c
        replace hR := (if_pos c).symm.trans hR
        refine lv_iconst (v := 0) S.1 S.2.1 dX6_isRight_306 (by decide) ?_
        subst hR
        exact g_sretz S hr hlocks nar0 dX6_isRight_307
      · replace hok := And.right hok c
        replace hR := (if_neg c).symm.trans hR
        refine lv_iconst (v := 1) S.1 S.2.1 dX6_isRight_302 (by decide) ?_
        refine lv_goto (tgt := 307) S.1 S.2.1 dX6_isRight_303 (by decide) ?_
        subst hR
        exact g_sretz S hr hlocks nar1 dX6_isRight_307
  replace hok := And.right hok n8
  replace hR := (if_neg n8).symm.trans hR
  refine g_em 9 (fun c => ?_) (fun n9 => ?_)
  · replace hok := And.left hok c
    replace hR := (if_pos c).symm.trans hR
    refine g_sw (tgt := 308) S.1 S.2.1 dX6_isRight_1 c rfl (by decide) (by decide) rfl (by decide) ?_
    refine lv_iload_n S.1 S.2.1 dX6_isRight_308 rfl (lv_at hl 1 rfl) ?_
    have k62 := And.left hok
    replace hok := And.right hok
    refine g_calls S wz_cons N (c_X6_isPlace l _ k62) kc_X6_isPlace km_X6_110 kt_X6_isPlace kn_X6 yd_X6_isPlace.2 ⟨⟨Nat.le_of_ble_eq_true rfl, Nat.le_of_ble_eq_true rfl⟩, rfl, rfl, Nat.zero_le _, Nat.zero_le _⟩ rfl hl.1 (Nat.le_of_ble_eq_true rfl) rfl dX6_isRight_309 ?_
    refine lv_if_eq (tgt := 326) S.1 S.2.1 dX6_isRight_312 (by decide) (fun c => ?_) (fun c => ?_)
    · replace hok := And.left hok c
      replace hR := (if_pos c).symm.trans hR
      refine lv_iconst (v := 0) S.1 S.2.1 dX6_isRight_326 (by decide) ?_
      subst hR
      exact g_sretz S hr hlocks nar0 dX6_isRight_327
    · replace hok := And.right hok c
      replace hR := (if_neg c).symm.trans hR
      refine lv_iload_n S.1 S.2.1 dX6_isRight_315 rfl (lv_at hl 2 rfl) ?_
      have k65 := And.left hok
      replace hok := And.right hok
      refine g_calls S wz_cons N (c_X6_isRegister l _ k65) kc_X6_isRegister km_X6_114 kt_X6_isRegister kn_X6 yd_X6_isRegister.2 ⟨⟨Nat.le_of_ble_eq_true rfl, Nat.le_of_ble_eq_true rfl⟩, rfl, rfl, Nat.zero_le _, Nat.zero_le _⟩ rfl hl.1 (Nat.le_of_ble_eq_true rfl) rfl dX6_isRight_316 ?_
      refine lv_if_eq (tgt := 326) S.1 S.2.1 dX6_isRight_319 (by decide) (fun c => ?_) (fun c => ?_)
      · replace hok := And.left hok c
        replace hR := (if_pos c).symm.trans hR
        refine lv_iconst (v := 0) S.1 S.2.1 dX6_isRight_326 (by decide) ?_
        subst hR
        exact g_sretz S hr hlocks nar0 dX6_isRight_327
      · replace hok := And.right hok c
        replace hR := (if_neg c).symm.trans hR
        refine lv_iconst (v := 1) S.1 S.2.1 dX6_isRight_322 (by decide) ?_
        refine lv_goto (tgt := 327) S.1 S.2.1 dX6_isRight_323 (by decide) ?_
        subst hR
        exact g_sretz S hr hlocks nar1 dX6_isRight_327
  replace hok := And.right hok n9
  replace hR := (if_neg n9).symm.trans hR
  refine g_em 10 (fun c => ?_) (fun n10 => ?_)
  · replace hok := And.left hok c
    replace hR := (if_pos c).symm.trans hR
    refine g_sw (tgt := 288) S.1 S.2.1 dX6_isRight_1 c rfl (by decide) (by decide) rfl (by decide) ?_
    refine lv_iload_n S.1 S.2.1 dX6_isRight_288 rfl (lv_at hl 1 rfl) ?_
    have k68 := And.left hok
    replace hok := And.right hok
    refine g_calls S wz_cons N (c_X6_isRegister l _ k68) kc_X6_isRegister km_X6_114 kt_X6_isRegister kn_X6 yd_X6_isRegister.2 ⟨⟨Nat.le_of_ble_eq_true rfl, Nat.le_of_ble_eq_true rfl⟩, rfl, rfl, Nat.zero_le _, Nat.zero_le _⟩ rfl hl.1 (Nat.le_of_ble_eq_true rfl) rfl dX6_isRight_289 ?_
    refine lv_if_eq (tgt := 306) S.1 S.2.1 dX6_isRight_292 (by decide) (fun c => ?_) (fun c => ?_)
    · replace hok := And.left hok c
      replace hR := (if_pos c).symm.trans hR
      refine lv_iconst (v := 0) S.1 S.2.1 dX6_isRight_306 (by decide) ?_
      subst hR
      exact g_sretz S hr hlocks nar0 dX6_isRight_307
    · replace hok := And.right hok c
      replace hR := (if_neg c).symm.trans hR
      refine lv_iload_n S.1 S.2.1 dX6_isRight_295 rfl (lv_at hl 2 rfl) ?_
      have k71 := And.left hok
      replace hok := And.right hok
      refine g_calls S wz_cons N (c_X6_isPlace l _ k71) kc_X6_isPlace km_X6_110 kt_X6_isPlace kn_X6 yd_X6_isPlace.2 ⟨⟨Nat.le_of_ble_eq_true rfl, Nat.le_of_ble_eq_true rfl⟩, rfl, rfl, Nat.zero_le _, Nat.zero_le _⟩ rfl hl.1 (Nat.le_of_ble_eq_true rfl) rfl dX6_isRight_296 ?_
      refine lv_if_eq (tgt := 306) S.1 S.2.1 dX6_isRight_299 (by decide) (fun c => ?_) (fun c => ?_)
      · replace hok := And.left hok c
        replace hR := (if_pos c).symm.trans hR
        refine lv_iconst (v := 0) S.1 S.2.1 dX6_isRight_306 (by decide) ?_
        subst hR
        exact g_sretz S hr hlocks nar0 dX6_isRight_307
      · replace hok := And.right hok c
        replace hR := (if_neg c).symm.trans hR
        refine lv_iconst (v := 1) S.1 S.2.1 dX6_isRight_302 (by decide) ?_
        refine lv_goto (tgt := 307) S.1 S.2.1 dX6_isRight_303 (by decide) ?_
        subst hR
        exact g_sretz S hr hlocks nar1 dX6_isRight_307
  replace hok := And.right hok n10
  replace hR := (if_neg n10).symm.trans hR
  refine g_em 11 (fun c => ?_) (fun n11 => ?_)
  · replace hok := And.left hok c
    replace hR := (if_pos c).symm.trans hR
    refine g_sw (tgt := 288) S.1 S.2.1 dX6_isRight_1 c rfl (by decide) (by decide) rfl (by decide) ?_
    refine lv_iload_n S.1 S.2.1 dX6_isRight_288 rfl (lv_at hl 1 rfl) ?_
    have k74 := And.left hok
    replace hok := And.right hok
    refine g_calls S wz_cons N (c_X6_isRegister l _ k74) kc_X6_isRegister km_X6_114 kt_X6_isRegister kn_X6 yd_X6_isRegister.2 ⟨⟨Nat.le_of_ble_eq_true rfl, Nat.le_of_ble_eq_true rfl⟩, rfl, rfl, Nat.zero_le _, Nat.zero_le _⟩ rfl hl.1 (Nat.le_of_ble_eq_true rfl) rfl dX6_isRight_289 ?_
    refine lv_if_eq (tgt := 306) S.1 S.2.1 dX6_isRight_292 (by decide) (fun c => ?_) (fun c => ?_)
    · replace hok := And.left hok c
      replace hR := (if_pos c).symm.trans hR
      refine lv_iconst (v := 0) S.1 S.2.1 dX6_isRight_306 (by decide) ?_
      subst hR
      exact g_sretz S hr hlocks nar0 dX6_isRight_307
    · replace hok := And.right hok c
      replace hR := (if_neg c).symm.trans hR
      refine lv_iload_n S.1 S.2.1 dX6_isRight_295 rfl (lv_at hl 2 rfl) ?_
      have k77 := And.left hok
      replace hok := And.right hok
      refine g_calls S wz_cons N (c_X6_isPlace l _ k77) kc_X6_isPlace km_X6_110 kt_X6_isPlace kn_X6 yd_X6_isPlace.2 ⟨⟨Nat.le_of_ble_eq_true rfl, Nat.le_of_ble_eq_true rfl⟩, rfl, rfl, Nat.zero_le _, Nat.zero_le _⟩ rfl hl.1 (Nat.le_of_ble_eq_true rfl) rfl dX6_isRight_296 ?_
      refine lv_if_eq (tgt := 306) S.1 S.2.1 dX6_isRight_299 (by decide) (fun c => ?_) (fun c => ?_)
      · replace hok := And.left hok c
        replace hR := (if_pos c).symm.trans hR
        refine lv_iconst (v := 0) S.1 S.2.1 dX6_isRight_306 (by decide) ?_
        subst hR
        exact g_sretz S hr hlocks nar0 dX6_isRight_307
      · replace hok := And.right hok c
        replace hR := (if_neg c).symm.trans hR
        refine lv_iconst (v := 1) S.1 S.2.1 dX6_isRight_302 (by decide) ?_
        refine lv_goto (tgt := 307) S.1 S.2.1 dX6_isRight_303 (by decide) ?_
        subst hR
        exact g_sretz S hr hlocks nar1 dX6_isRight_307
  replace hok := And.right hok n11
  replace hR := (if_neg n11).symm.trans hR
  refine g_em 12 (fun c => ?_) (fun n12 => ?_)
  · replace hok := And.left hok c
    replace hR := (if_pos c).symm.trans hR
    refine g_sw (tgt := 328) S.1 S.2.1 dX6_isRight_1 c rfl (by decide) (by decide) rfl (by decide) ?_
    refine lv_iload_n S.1 S.2.1 dX6_isRight_328 rfl (lv_at hl 1 rfl) ?_
    have k80 := And.left hok
    replace hok := And.right hok
    refine g_calls S wz_cons N (c_X6_isPlace l _ k80) kc_X6_isPlace km_X6_110 kt_X6_isPlace kn_X6 yd_X6_isPlace.2 ⟨⟨Nat.le_of_ble_eq_true rfl, Nat.le_of_ble_eq_true rfl⟩, rfl, rfl, Nat.zero_le _, Nat.zero_le _⟩ rfl hl.1 (Nat.le_of_ble_eq_true rfl) rfl dX6_isRight_329 ?_
    refine lv_if_eq (tgt := 348) S.1 S.2.1 dX6_isRight_332 (by decide) (fun c => ?_) (fun c => ?_)
    · replace hok := And.left hok c
      replace hR := (if_pos c).symm.trans hR
      refine lv_iconst (v := 0) S.1 S.2.1 dX6_isRight_348 (by decide) ?_
      subst hR
      exact g_sretz S hr hlocks nar0 dX6_isRight_349
    · replace hok := And.right hok c
      replace hR := (if_neg c).symm.trans hR
      refine lv_iload_n S.1 S.2.1 dX6_isRight_335 rfl (lv_at hl 2 rfl) ?_
      refine lv_iconst (v := 0) S.1 S.2.1 dX6_isRight_336 (by decide) ?_
      refine lv_iconst (v := 4) S.1 S.2.1 dX6_isRight_337 (by decide) ?_
      have k83 := And.left hok
      replace hok := And.right hok
      refine g_calls S wz_cons N (c_X6_in l _ _ _ k83) kc_X6_in km_X6_106 kt_X6_in kn_X6 yd_X6_in.2 ⟨⟨Nat.le_of_ble_eq_true rfl, Nat.le_of_ble_eq_true rfl⟩, rfl, rfl, Nat.zero_le _, Nat.zero_le _⟩ rfl hl.1 (Nat.le_of_ble_eq_true rfl) rfl dX6_isRight_338 ?_
      refine lv_if_eq (tgt := 348) S.1 S.2.1 dX6_isRight_341 (by decide) (fun c => ?_) (fun c => ?_)
      · replace hok := And.left hok c
        replace hR := (if_pos c).symm.trans hR
        refine lv_iconst (v := 0) S.1 S.2.1 dX6_isRight_348 (by decide) ?_
        subst hR
        exact g_sretz S hr hlocks nar0 dX6_isRight_349
      · replace hok := And.right hok c
        replace hR := (if_neg c).symm.trans hR
        refine lv_iconst (v := 1) S.1 S.2.1 dX6_isRight_344 (by decide) ?_
        refine lv_goto (tgt := 349) S.1 S.2.1 dX6_isRight_345 (by decide) ?_
        subst hR
        exact g_sretz S hr hlocks nar1 dX6_isRight_349
  replace hok := And.right hok n12
  replace hR := (if_neg n12).symm.trans hR
  refine g_em 13 (fun c => ?_) (fun n13 => ?_)
  · replace hok := And.left hok c
    replace hR := (if_pos c).symm.trans hR
    refine g_sw (tgt := 350) S.1 S.2.1 dX6_isRight_1 c rfl (by decide) (by decide) rfl (by decide) ?_
    refine lv_iload_n S.1 S.2.1 dX6_isRight_350 rfl (lv_at hl 1 rfl) ?_
    refine lv_iconst (v := 0) S.1 S.2.1 dX6_isRight_351 (by decide) ?_
    refine lv_iconst (v := 2) S.1 S.2.1 dX6_isRight_352 (by decide) ?_
    have k86 := And.left hok
    replace hok := And.right hok
    refine g_calls S wz_cons N (c_X6_in l _ _ _ k86) kc_X6_in km_X6_106 kt_X6_in kn_X6 yd_X6_in.2 ⟨⟨Nat.le_of_ble_eq_true rfl, Nat.le_of_ble_eq_true rfl⟩, rfl, rfl, Nat.zero_le _, Nat.zero_le _⟩ rfl hl.1 (Nat.le_of_ble_eq_true rfl) rfl dX6_isRight_353 ?_
    refine lv_if_eq (tgt := 370) S.1 S.2.1 dX6_isRight_356 (by decide) (fun c => ?_) (fun c => ?_)
    · replace hok := And.left hok c
      replace hR := (if_pos c).symm.trans hR
      refine lv_iconst (v := 0) S.1 S.2.1 dX6_isRight_370 (by decide) ?_
      subst hR
      exact g_sretz S hr hlocks nar0 dX6_isRight_371
    · replace hok := And.right hok c
      replace hR := (if_neg c).symm.trans hR
      refine lv_iload_n S.1 S.2.1 dX6_isRight_359 rfl (lv_at hl 2 rfl) ?_
      have k89 := And.left hok
      replace hok := And.right hok
      refine g_calls S wz_cons N (c_X6_isRegister l _ k89) kc_X6_isRegister km_X6_114 kt_X6_isRegister kn_X6 yd_X6_isRegister.2 ⟨⟨Nat.le_of_ble_eq_true rfl, Nat.le_of_ble_eq_true rfl⟩, rfl, rfl, Nat.zero_le _, Nat.zero_le _⟩ rfl hl.1 (Nat.le_of_ble_eq_true rfl) rfl dX6_isRight_360 ?_
      refine lv_if_eq (tgt := 370) S.1 S.2.1 dX6_isRight_363 (by decide) (fun c => ?_) (fun c => ?_)
      · replace hok := And.left hok c
        replace hR := (if_pos c).symm.trans hR
        refine lv_iconst (v := 0) S.1 S.2.1 dX6_isRight_370 (by decide) ?_
        subst hR
        exact g_sretz S hr hlocks nar0 dX6_isRight_371
      · replace hok := And.right hok c
        replace hR := (if_neg c).symm.trans hR
        refine lv_iconst (v := 1) S.1 S.2.1 dX6_isRight_366 (by decide) ?_
        refine lv_goto (tgt := 371) S.1 S.2.1 dX6_isRight_367 (by decide) ?_
        subst hR
        exact g_sretz S hr hlocks nar1 dX6_isRight_371
  replace hok := And.right hok n13
  replace hR := (if_neg n13).symm.trans hR
  refine g_em 14 (fun c => ?_) (fun n14 => ?_)
  · replace hok := And.left hok c
    replace hR := (if_pos c).symm.trans hR
    refine g_sw (tgt := 350) S.1 S.2.1 dX6_isRight_1 c rfl (by decide) (by decide) rfl (by decide) ?_
    refine lv_iload_n S.1 S.2.1 dX6_isRight_350 rfl (lv_at hl 1 rfl) ?_
    refine lv_iconst (v := 0) S.1 S.2.1 dX6_isRight_351 (by decide) ?_
    refine lv_iconst (v := 2) S.1 S.2.1 dX6_isRight_352 (by decide) ?_
    have k92 := And.left hok
    replace hok := And.right hok
    refine g_calls S wz_cons N (c_X6_in l _ _ _ k92) kc_X6_in km_X6_106 kt_X6_in kn_X6 yd_X6_in.2 ⟨⟨Nat.le_of_ble_eq_true rfl, Nat.le_of_ble_eq_true rfl⟩, rfl, rfl, Nat.zero_le _, Nat.zero_le _⟩ rfl hl.1 (Nat.le_of_ble_eq_true rfl) rfl dX6_isRight_353 ?_
    refine lv_if_eq (tgt := 370) S.1 S.2.1 dX6_isRight_356 (by decide) (fun c => ?_) (fun c => ?_)
    · replace hok := And.left hok c
      replace hR := (if_pos c).symm.trans hR
      refine lv_iconst (v := 0) S.1 S.2.1 dX6_isRight_370 (by decide) ?_
      subst hR
      exact g_sretz S hr hlocks nar0 dX6_isRight_371
    · replace hok := And.right hok c
      replace hR := (if_neg c).symm.trans hR
      refine lv_iload_n S.1 S.2.1 dX6_isRight_359 rfl (lv_at hl 2 rfl) ?_
      have k95 := And.left hok
      replace hok := And.right hok
      refine g_calls S wz_cons N (c_X6_isRegister l _ k95) kc_X6_isRegister km_X6_114 kt_X6_isRegister kn_X6 yd_X6_isRegister.2 ⟨⟨Nat.le_of_ble_eq_true rfl, Nat.le_of_ble_eq_true rfl⟩, rfl, rfl, Nat.zero_le _, Nat.zero_le _⟩ rfl hl.1 (Nat.le_of_ble_eq_true rfl) rfl dX6_isRight_360 ?_
      refine lv_if_eq (tgt := 370) S.1 S.2.1 dX6_isRight_363 (by decide) (fun c => ?_) (fun c => ?_)
      · replace hok := And.left hok c
        replace hR := (if_pos c).symm.trans hR
        refine lv_iconst (v := 0) S.1 S.2.1 dX6_isRight_370 (by decide) ?_
        subst hR
        exact g_sretz S hr hlocks nar0 dX6_isRight_371
      · replace hok := And.right hok c
        replace hR := (if_neg c).symm.trans hR
        refine lv_iconst (v := 1) S.1 S.2.1 dX6_isRight_366 (by decide) ?_
        refine lv_goto (tgt := 371) S.1 S.2.1 dX6_isRight_367 (by decide) ?_
        subst hR
        exact g_sretz S hr hlocks nar1 dX6_isRight_371
  replace hok := And.right hok n14
  replace hR := (if_neg n14).symm.trans hR
  refine g_em 15 (fun c => ?_) (fun n15 => ?_)
  · replace hok := And.left hok c
    replace hR := (if_pos c).symm.trans hR
    refine g_sw (tgt := 372) S.1 S.2.1 dX6_isRight_1 c rfl (by decide) (by decide) rfl (by decide) ?_
    refine lv_iload_n S.1 S.2.1 dX6_isRight_372 rfl (lv_at hl 1 rfl) ?_
    have k98 := And.left hok
    replace hok := And.right hok
    refine g_calls S wz_cons N (c_X6_isRegister l _ k98) kc_X6_isRegister km_X6_114 kt_X6_isRegister kn_X6 yd_X6_isRegister.2 ⟨⟨Nat.le_of_ble_eq_true rfl, Nat.le_of_ble_eq_true rfl⟩, rfl, rfl, Nat.zero_le _, Nat.zero_le _⟩ rfl hl.1 (Nat.le_of_ble_eq_true rfl) rfl dX6_isRight_373 ?_
    refine lv_if_eq (tgt := 399) S.1 S.2.1 dX6_isRight_376 (by decide) (fun c => ?_) (fun c => ?_)
    · replace hok := And.left hok c
      replace hR := (if_pos c).symm.trans hR
      refine lv_iconst (v := 0) S.1 S.2.1 dX6_isRight_399 (by decide) ?_
      subst hR
      exact g_sretz S hr hlocks nar0 dX6_isRight_400
    · replace hok := And.right hok c
      replace hR := (if_neg c).symm.trans hR
      refine lv_iload_n S.1 S.2.1 dX6_isRight_379 rfl (lv_at hl 2 rfl) ?_
      refine lv_iconst (v := 0) S.1 S.2.1 dX6_isRight_380 (by decide) ?_
      refine lv_iconst (v := 2) S.1 S.2.1 dX6_isRight_381 (by decide) ?_
      have k101 := And.left hok
      replace hok := And.right hok
      refine g_calls S wz_cons N (c_X6_in l _ _ _ k101) kc_X6_in km_X6_106 kt_X6_in kn_X6 yd_X6_in.2 ⟨⟨Nat.le_of_ble_eq_true rfl, Nat.le_of_ble_eq_true rfl⟩, rfl, rfl, Nat.zero_le _, Nat.zero_le _⟩ rfl hl.1 (Nat.le_of_ble_eq_true rfl) rfl dX6_isRight_382 ?_
      refine lv_if_eq (tgt := 399) S.1 S.2.1 dX6_isRight_385 (by decide) (fun c => ?_) (fun c => ?_)
      · replace hok := And.left hok c
        replace hR := (if_pos c).symm.trans hR
        refine lv_iconst (v := 0) S.1 S.2.1 dX6_isRight_399 (by decide) ?_
        subst hR
        exact g_sretz S hr hlocks nar0 dX6_isRight_400
      · replace hok := And.right hok c
        replace hR := (if_neg c).symm.trans hR
        refine lv_iload_n S.1 S.2.1 dX6_isRight_388 rfl (lv_at hl 3 rfl) ?_
        have k104 := And.left hok
        replace hok := And.right hok
        refine g_calls S wz_cons N (c_X6_isRegister l _ k104) kc_X6_isRegister km_X6_114 kt_X6_isRegister kn_X6 yd_X6_isRegister.2 ⟨⟨Nat.le_of_ble_eq_true rfl, Nat.le_of_ble_eq_true rfl⟩, rfl, rfl, Nat.zero_le _, Nat.zero_le _⟩ rfl hl.1 (Nat.le_of_ble_eq_true rfl) rfl dX6_isRight_389 ?_
        refine lv_if_eq (tgt := 399) S.1 S.2.1 dX6_isRight_392 (by decide) (fun c => ?_) (fun c => ?_)
        · replace hok := And.left hok c
          replace hR := (if_pos c).symm.trans hR
          refine lv_iconst (v := 0) S.1 S.2.1 dX6_isRight_399 (by decide) ?_
          subst hR
          exact g_sretz S hr hlocks nar0 dX6_isRight_400
        · replace hok := And.right hok c
          replace hR := (if_neg c).symm.trans hR
          refine lv_iconst (v := 1) S.1 S.2.1 dX6_isRight_395 (by decide) ?_
          refine lv_goto (tgt := 400) S.1 S.2.1 dX6_isRight_396 (by decide) ?_
          subst hR
          exact g_sretz S hr hlocks nar1 dX6_isRight_400
  replace hok := And.right hok n15
  replace hR := (if_neg n15).symm.trans hR
  refine g_em 16 (fun c => ?_) (fun n16 => ?_)
  · replace hok := And.left hok c
    replace hR := (if_pos c).symm.trans hR
    refine g_sw (tgt := 401) S.1 S.2.1 dX6_isRight_1 c rfl (by decide) (by decide) rfl (by decide) ?_
    refine lv_iload_n S.1 S.2.1 dX6_isRight_401 rfl (lv_at hl 1 rfl) ?_
    refine lv_iconst (v := 0) S.1 S.2.1 dX6_isRight_402 (by decide) ?_
    refine lv_iconst (v := 1) S.1 S.2.1 dX6_isRight_403 (by decide) ?_
    have k107 := And.left hok
    replace hok := And.right hok
    refine g_calls S wz_cons N (c_X6_in l _ _ _ k107) kc_X6_in km_X6_106 kt_X6_in kn_X6 yd_X6_in.2 ⟨⟨Nat.le_of_ble_eq_true rfl, Nat.le_of_ble_eq_true rfl⟩, rfl, rfl, Nat.zero_le _, Nat.zero_le _⟩ rfl hl.1 (Nat.le_of_ble_eq_true rfl) rfl dX6_isRight_404 ?_
    refine lv_if_eq (tgt := 430) S.1 S.2.1 dX6_isRight_407 (by decide) (fun c => ?_) (fun c => ?_)
    · replace hok := And.left hok c
      replace hR := (if_pos c).symm.trans hR
      refine lv_iconst (v := 0) S.1 S.2.1 dX6_isRight_430 (by decide) ?_
      subst hR
      exact g_sretz S hr hlocks nar0 dX6_isRight_431
    · replace hok := And.right hok c
      replace hR := (if_neg c).symm.trans hR
      refine lv_iload_n S.1 S.2.1 dX6_isRight_410 rfl (lv_at hl 2 rfl) ?_
      have k110 := And.left hok
      replace hok := And.right hok
      refine g_calls S wz_cons N (c_X6_isRegister l _ k110) kc_X6_isRegister km_X6_114 kt_X6_isRegister kn_X6 yd_X6_isRegister.2 ⟨⟨Nat.le_of_ble_eq_true rfl, Nat.le_of_ble_eq_true rfl⟩, rfl, rfl, Nat.zero_le _, Nat.zero_le _⟩ rfl hl.1 (Nat.le_of_ble_eq_true rfl) rfl dX6_isRight_411 ?_
      refine lv_if_eq (tgt := 430) S.1 S.2.1 dX6_isRight_414 (by decide) (fun c => ?_) (fun c => ?_)
      · replace hok := And.left hok c
        replace hR := (if_pos c).symm.trans hR
        refine lv_iconst (v := 0) S.1 S.2.1 dX6_isRight_430 (by decide) ?_
        subst hR
        exact g_sretz S hr hlocks nar0 dX6_isRight_431
      · replace hok := And.right hok c
        replace hR := (if_neg c).symm.trans hR
        refine lv_iload_n S.1 S.2.1 dX6_isRight_417 rfl (lv_at hl 3 rfl) ?_
        refine lv_iconst (v := 0) S.1 S.2.1 dX6_isRight_418 (by decide) ?_
        refine lv_iconst (v := 5) S.1 S.2.1 dX6_isRight_419 (by decide) ?_
        have k113 := And.left hok
        replace hok := And.right hok
        refine g_calls S wz_cons N (c_X6_in l _ _ _ k113) kc_X6_in km_X6_106 kt_X6_in kn_X6 yd_X6_in.2 ⟨⟨Nat.le_of_ble_eq_true rfl, Nat.le_of_ble_eq_true rfl⟩, rfl, rfl, Nat.zero_le _, Nat.zero_le _⟩ rfl hl.1 (Nat.le_of_ble_eq_true rfl) rfl dX6_isRight_420 ?_
        refine lv_if_eq (tgt := 430) S.1 S.2.1 dX6_isRight_423 (by decide) (fun c => ?_) (fun c => ?_)
        · replace hok := And.left hok c
          replace hR := (if_pos c).symm.trans hR
          refine lv_iconst (v := 0) S.1 S.2.1 dX6_isRight_430 (by decide) ?_
          subst hR
          exact g_sretz S hr hlocks nar0 dX6_isRight_431
        · replace hok := And.right hok c
          replace hR := (if_neg c).symm.trans hR
          refine lv_iconst (v := 1) S.1 S.2.1 dX6_isRight_426 (by decide) ?_
          refine lv_goto (tgt := 431) S.1 S.2.1 dX6_isRight_427 (by decide) ?_
          subst hR
          exact g_sretz S hr hlocks nar1 dX6_isRight_431
  replace hok := And.right hok n16
  replace hR := (if_neg n16).symm.trans hR
  refine g_em 17 (fun c => ?_) (fun n17 => ?_)
  · replace hok := And.left hok c
    replace hR := (if_pos c).symm.trans hR
    refine g_sw (tgt := 432) S.1 S.2.1 dX6_isRight_1 c rfl (by decide) (by decide) rfl (by decide) ?_
    refine lv_iload_n S.1 S.2.1 dX6_isRight_432 rfl (lv_at hl 1 rfl) ?_
    have k116 := And.left hok
    replace hok := And.right hok
    refine g_calls S wz_cons N (c_X6_isRegister l _ k116) kc_X6_isRegister km_X6_114 kt_X6_isRegister kn_X6 yd_X6_isRegister.2 ⟨⟨Nat.le_of_ble_eq_true rfl, Nat.le_of_ble_eq_true rfl⟩, rfl, rfl, Nat.zero_le _, Nat.zero_le _⟩ rfl hl.1 (Nat.le_of_ble_eq_true rfl) rfl dX6_isRight_433 ?_
    refine lv_if_eq (tgt := 452) S.1 S.2.1 dX6_isRight_436 (by decide) (fun c => ?_) (fun c => ?_)
    · replace hok := And.left hok c
      replace hR := (if_pos c).symm.trans hR
      refine lv_iconst (v := 0) S.1 S.2.1 dX6_isRight_452 (by decide) ?_
      subst hR
      exact g_sretz S hr hlocks nar0 dX6_isRight_453
    · replace hok := And.right hok c
      replace hR := (if_neg c).symm.trans hR
      refine lv_iload_n S.1 S.2.1 dX6_isRight_439 rfl (lv_at hl 2 rfl) ?_
      refine lv_iconst (v := 0) S.1 S.2.1 dX6_isRight_440 (by decide) ?_
      refine lv_iconst (v := 1) S.1 S.2.1 dX6_isRight_441 (by decide) ?_
      have k119 := And.left hok
      replace hok := And.right hok
      refine g_calls S wz_cons N (c_X6_in l _ _ _ k119) kc_X6_in km_X6_106 kt_X6_in kn_X6 yd_X6_in.2 ⟨⟨Nat.le_of_ble_eq_true rfl, Nat.le_of_ble_eq_true rfl⟩, rfl, rfl, Nat.zero_le _, Nat.zero_le _⟩ rfl hl.1 (Nat.le_of_ble_eq_true rfl) rfl dX6_isRight_442 ?_
      refine lv_if_eq (tgt := 452) S.1 S.2.1 dX6_isRight_445 (by decide) (fun c => ?_) (fun c => ?_)
      · replace hok := And.left hok c
        replace hR := (if_pos c).symm.trans hR
        refine lv_iconst (v := 0) S.1 S.2.1 dX6_isRight_452 (by decide) ?_
        subst hR
        exact g_sretz S hr hlocks nar0 dX6_isRight_453
      · replace hok := And.right hok c
        replace hR := (if_neg c).symm.trans hR
        refine lv_iconst (v := 1) S.1 S.2.1 dX6_isRight_448 (by decide) ?_
        refine lv_goto (tgt := 453) S.1 S.2.1 dX6_isRight_449 (by decide) ?_
        subst hR
        exact g_sretz S hr hlocks nar1 dX6_isRight_453
  replace hok := And.right hok n17
  replace hR := (if_neg n17).symm.trans hR
  refine g_em 18 (fun c => ?_) (fun n18 => ?_)
  · replace hok := And.left hok c
    replace hR := (if_pos c).symm.trans hR
    refine g_sw (tgt := 350) S.1 S.2.1 dX6_isRight_1 c rfl (by decide) (by decide) rfl (by decide) ?_
    refine lv_iload_n S.1 S.2.1 dX6_isRight_350 rfl (lv_at hl 1 rfl) ?_
    refine lv_iconst (v := 0) S.1 S.2.1 dX6_isRight_351 (by decide) ?_
    refine lv_iconst (v := 2) S.1 S.2.1 dX6_isRight_352 (by decide) ?_
    have k122 := And.left hok
    replace hok := And.right hok
    refine g_calls S wz_cons N (c_X6_in l _ _ _ k122) kc_X6_in km_X6_106 kt_X6_in kn_X6 yd_X6_in.2 ⟨⟨Nat.le_of_ble_eq_true rfl, Nat.le_of_ble_eq_true rfl⟩, rfl, rfl, Nat.zero_le _, Nat.zero_le _⟩ rfl hl.1 (Nat.le_of_ble_eq_true rfl) rfl dX6_isRight_353 ?_
    refine lv_if_eq (tgt := 370) S.1 S.2.1 dX6_isRight_356 (by decide) (fun c => ?_) (fun c => ?_)
    · replace hok := And.left hok c
      replace hR := (if_pos c).symm.trans hR
      refine lv_iconst (v := 0) S.1 S.2.1 dX6_isRight_370 (by decide) ?_
      subst hR
      exact g_sretz S hr hlocks nar0 dX6_isRight_371
    · replace hok := And.right hok c
      replace hR := (if_neg c).symm.trans hR
      refine lv_iload_n S.1 S.2.1 dX6_isRight_359 rfl (lv_at hl 2 rfl) ?_
      have k125 := And.left hok
      replace hok := And.right hok
      refine g_calls S wz_cons N (c_X6_isRegister l _ k125) kc_X6_isRegister km_X6_114 kt_X6_isRegister kn_X6 yd_X6_isRegister.2 ⟨⟨Nat.le_of_ble_eq_true rfl, Nat.le_of_ble_eq_true rfl⟩, rfl, rfl, Nat.zero_le _, Nat.zero_le _⟩ rfl hl.1 (Nat.le_of_ble_eq_true rfl) rfl dX6_isRight_360 ?_
      refine lv_if_eq (tgt := 370) S.1 S.2.1 dX6_isRight_363 (by decide) (fun c => ?_) (fun c => ?_)
      · replace hok := And.left hok c
        replace hR := (if_pos c).symm.trans hR
        refine lv_iconst (v := 0) S.1 S.2.1 dX6_isRight_370 (by decide) ?_
        subst hR
        exact g_sretz S hr hlocks nar0 dX6_isRight_371
      · replace hok := And.right hok c
        replace hR := (if_neg c).symm.trans hR
        refine lv_iconst (v := 1) S.1 S.2.1 dX6_isRight_366 (by decide) ?_
        refine lv_goto (tgt := 371) S.1 S.2.1 dX6_isRight_367 (by decide) ?_
        subst hR
        exact g_sretz S hr hlocks nar1 dX6_isRight_371
  replace hok := And.right hok n18
  replace hR := (if_neg n18).symm.trans hR
  refine g_em 19 (fun c => ?_) (fun n19 => ?_)
  · replace hok := And.left hok c
    replace hR := (if_pos c).symm.trans hR
    refine g_sw (tgt := 454) S.1 S.2.1 dX6_isRight_1 c rfl (by decide) (by decide) rfl (by decide) ?_
    refine lv_iload_n S.1 S.2.1 dX6_isRight_454 rfl (lv_at hl 1 rfl) ?_
    refine lv_iconst (v := 0) S.1 S.2.1 dX6_isRight_455 (by decide) ?_
    refine lv_iconst (v := 2) S.1 S.2.1 dX6_isRight_456 (by decide) ?_
    have k128 := And.left hok
    replace hok := And.right hok
    refine g_calls S wz_cons N (c_X6_in l _ _ _ k128) kc_X6_in km_X6_106 kt_X6_in kn_X6 yd_X6_in.2 ⟨⟨Nat.le_of_ble_eq_true rfl, Nat.le_of_ble_eq_true rfl⟩, rfl, rfl, Nat.zero_le _, Nat.zero_le _⟩ rfl hl.1 (Nat.le_of_ble_eq_true rfl) rfl dX6_isRight_457 ?_
    subst hR
    exact g_sretz S hr hlocks hok dX6_isRight_460
  replace hok := And.right hok n19
  replace hR := (if_neg n19).symm.trans hR
  refine g_em 20 (fun c => ?_) (fun n20 => ?_)
  · replace hok := And.left hok c
    replace hR := (if_pos c).symm.trans hR
    refine g_sw (tgt := 454) S.1 S.2.1 dX6_isRight_1 c rfl (by decide) (by decide) rfl (by decide) ?_
    refine lv_iload_n S.1 S.2.1 dX6_isRight_454 rfl (lv_at hl 1 rfl) ?_
    refine lv_iconst (v := 0) S.1 S.2.1 dX6_isRight_455 (by decide) ?_
    refine lv_iconst (v := 2) S.1 S.2.1 dX6_isRight_456 (by decide) ?_
    have k131 := And.left hok
    replace hok := And.right hok
    refine g_calls S wz_cons N (c_X6_in l _ _ _ k131) kc_X6_in km_X6_106 kt_X6_in kn_X6 yd_X6_in.2 ⟨⟨Nat.le_of_ble_eq_true rfl, Nat.le_of_ble_eq_true rfl⟩, rfl, rfl, Nat.zero_le _, Nat.zero_le _⟩ rfl hl.1 (Nat.le_of_ble_eq_true rfl) rfl dX6_isRight_457 ?_
    subst hR
    exact g_sretz S hr hlocks hok dX6_isRight_460
  replace hok := And.right hok n20
  replace hR := (if_neg n20).symm.trans hR
  refine g_em 21 (fun c => ?_) (fun n21 => ?_)
  · replace hok := And.left hok c
    replace hR := (if_pos c).symm.trans hR
    refine g_sw (tgt := 461) S.1 S.2.1 dX6_isRight_1 c rfl (by decide) (by decide) rfl (by decide) ?_
    refine lv_iload_n S.1 S.2.1 dX6_isRight_461 rfl (lv_at hl 1 rfl) ?_
    have k134 := And.left hok
    replace hok := And.right hok
    refine g_calls S wz_cons N (c_X6_isRegister l _ k134) kc_X6_isRegister km_X6_114 kt_X6_isRegister kn_X6 yd_X6_isRegister.2 ⟨⟨Nat.le_of_ble_eq_true rfl, Nat.le_of_ble_eq_true rfl⟩, rfl, rfl, Nat.zero_le _, Nat.zero_le _⟩ rfl hl.1 (Nat.le_of_ble_eq_true rfl) rfl dX6_isRight_462 ?_
    subst hR
    exact g_sretz S hr hlocks hok dX6_isRight_465
  replace hok := And.right hok n21
  replace hR := (if_neg n21).symm.trans hR
  refine g_em 22 (fun c => ?_) (fun n22 => ?_)
  · replace hok := And.left hok c
    replace hR := (if_pos c).symm.trans hR
    refine g_sw (tgt := 466) S.1 S.2.1 dX6_isRight_1 c rfl (by decide) (by decide) rfl (by decide) ?_
    refine lv_iload_n S.1 S.2.1 dX6_isRight_466 rfl (lv_at hl 1 rfl) ?_
    have k137 := And.left hok
    replace hok := And.right hok
    refine g_calls S wz_cons N (c_X6_isRegister l _ k137) kc_X6_isRegister km_X6_114 kt_X6_isRegister kn_X6 yd_X6_isRegister.2 ⟨⟨Nat.le_of_ble_eq_true rfl, Nat.le_of_ble_eq_true rfl⟩, rfl, rfl, Nat.zero_le _, Nat.zero_le _⟩ rfl hl.1 (Nat.le_of_ble_eq_true rfl) rfl dX6_isRight_467 ?_
    refine lv_if_eq (tgt := 484) S.1 S.2.1 dX6_isRight_470 (by decide) (fun c => ?_) (fun c => ?_)
    · replace hok := And.left hok c
      replace hR := (if_pos c).symm.trans hR
      refine lv_iconst (v := 0) S.1 S.2.1 dX6_isRight_484 (by decide) ?_
      subst hR
      exact g_sretz S hr hlocks nar0 dX6_isRight_485
    · replace hok := And.right hok c
      replace hR := (if_neg c).symm.trans hR
      refine lv_iload_n S.1 S.2.1 dX6_isRight_473 rfl (lv_at hl 2 rfl) ?_
      have k140 := And.left hok
      replace hok := And.right hok
      refine g_calls S wz_cons N (c_X6_isRegister l _ k140) kc_X6_isRegister km_X6_114 kt_X6_isRegister kn_X6 yd_X6_isRegister.2 ⟨⟨Nat.le_of_ble_eq_true rfl, Nat.le_of_ble_eq_true rfl⟩, rfl, rfl, Nat.zero_le _, Nat.zero_le _⟩ rfl hl.1 (Nat.le_of_ble_eq_true rfl) rfl dX6_isRight_474 ?_
      refine lv_if_eq (tgt := 484) S.1 S.2.1 dX6_isRight_477 (by decide) (fun c => ?_) (fun c => ?_)
      · replace hok := And.left hok c
        replace hR := (if_pos c).symm.trans hR
        refine lv_iconst (v := 0) S.1 S.2.1 dX6_isRight_484 (by decide) ?_
        subst hR
        exact g_sretz S hr hlocks nar0 dX6_isRight_485
      · replace hok := And.right hok c
        replace hR := (if_neg c).symm.trans hR
        refine lv_iconst (v := 1) S.1 S.2.1 dX6_isRight_480 (by decide) ?_
        refine lv_goto (tgt := 485) S.1 S.2.1 dX6_isRight_481 (by decide) ?_
        subst hR
        exact g_sretz S hr hlocks nar1 dX6_isRight_485
  replace hok := And.right hok n22
  replace hR := (if_neg n22).symm.trans hR
  refine g_em 23 (fun c => ?_) (fun n23 => ?_)
  · replace hok := And.left hok c
    replace hR := (if_pos c).symm.trans hR
    refine g_sw (tgt := 486) S.1 S.2.1 dX6_isRight_1 c rfl (by decide) (by decide) rfl (by decide) ?_
    refine lv_iload_n S.1 S.2.1 dX6_isRight_486 rfl (lv_at hl 1 rfl) ?_
    refine lv_iconst (v := 0) S.1 S.2.1 dX6_isRight_487 (by decide) ?_
    refine lv_bipush (v := 40) S.1 S.2.1 dX6_isRight_488 (by decide) ?_
    have k143 := And.left hok
    replace hok := And.right hok
    refine g_calls S wz_cons N (c_X6_in l _ _ _ k143) kc_X6_in km_X6_106 kt_X6_in kn_X6 yd_X6_in.2 ⟨⟨Nat.le_of_ble_eq_true rfl, Nat.le_of_ble_eq_true rfl⟩, rfl, rfl, Nat.zero_le _, Nat.zero_le _⟩ rfl hl.1 (Nat.le_of_ble_eq_true rfl) rfl dX6_isRight_490 ?_
    subst hR
    exact g_sretz S hr hlocks hok dX6_isRight_493
  replace hok := And.right hok n23
  replace hR := (if_neg n23).symm.trans hR
  refine g_em 24 (fun c => ?_) (fun n24 => ?_)
  · replace hok := And.left hok c
    replace hR := (if_pos c).symm.trans hR
    refine g_sw (tgt := 494) S.1 S.2.1 dX6_isRight_1 c rfl (by decide) (by decide) rfl (by decide) ?_
    refine lv_iload_n S.1 S.2.1 dX6_isRight_494 rfl (lv_at hl 1 rfl) ?_
    have k146 := And.left hok
    replace hok := And.right hok
    refine g_calls S wz_cons N (c_X6_isRegister l _ k146) kc_X6_isRegister km_X6_114 kt_X6_isRegister kn_X6 yd_X6_isRegister.2 ⟨⟨Nat.le_of_ble_eq_true rfl, Nat.le_of_ble_eq_true rfl⟩, rfl, rfl, Nat.zero_le _, Nat.zero_le _⟩ rfl hl.1 (Nat.le_of_ble_eq_true rfl) rfl dX6_isRight_495 ?_
    refine lv_if_eq (tgt := 515) S.1 S.2.1 dX6_isRight_498 (by decide) (fun c => ?_) (fun c => ?_)
    · replace hok := And.left hok c
      replace hR := (if_pos c).symm.trans hR
      refine lv_iconst (v := 0) S.1 S.2.1 dX6_isRight_515 (by decide) ?_
      subst hR
      exact g_sretz S hr hlocks nar0 dX6_isRight_516
    · replace hok := And.right hok c
      replace hR := (if_neg c).symm.trans hR
      refine lv_iload_n S.1 S.2.1 dX6_isRight_501 rfl (lv_at hl 2 rfl) ?_
      refine lv_iconst (v := 0) S.1 S.2.1 dX6_isRight_502 (by decide) ?_
      refine lv_bipush (v := 40) S.1 S.2.1 dX6_isRight_503 (by decide) ?_
      have k149 := And.left hok
      replace hok := And.right hok
      refine g_calls S wz_cons N (c_X6_in l _ _ _ k149) kc_X6_in km_X6_106 kt_X6_in kn_X6 yd_X6_in.2 ⟨⟨Nat.le_of_ble_eq_true rfl, Nat.le_of_ble_eq_true rfl⟩, rfl, rfl, Nat.zero_le _, Nat.zero_le _⟩ rfl hl.1 (Nat.le_of_ble_eq_true rfl) rfl dX6_isRight_505 ?_
      refine lv_if_eq (tgt := 515) S.1 S.2.1 dX6_isRight_508 (by decide) (fun c => ?_) (fun c => ?_)
      · replace hok := And.left hok c
        replace hR := (if_pos c).symm.trans hR
        refine lv_iconst (v := 0) S.1 S.2.1 dX6_isRight_515 (by decide) ?_
        subst hR
        exact g_sretz S hr hlocks nar0 dX6_isRight_516
      · replace hok := And.right hok c
        replace hR := (if_neg c).symm.trans hR
        refine lv_iconst (v := 1) S.1 S.2.1 dX6_isRight_511 (by decide) ?_
        refine lv_goto (tgt := 516) S.1 S.2.1 dX6_isRight_512 (by decide) ?_
        subst hR
        exact g_sretz S hr hlocks nar1 dX6_isRight_516
  replace hok := And.right hok n24
  replace hR := (if_neg n24).symm.trans hR
  have m0 := lv_neT (a := 0) n0 rfl
  have m1 := lv_neT (a := 1) n1 rfl
  have m2 := lv_neT (a := 2) n2 rfl
  have m3 := lv_neT (a := 3) n3 rfl
  have m4 := lv_neT (a := 4) n4 rfl
  have m5 := lv_neT (a := 5) n5 rfl
  have m6 := lv_neT (a := 6) n6 rfl
  have m7 := lv_neT (a := 7) n7 rfl
  have m8 := lv_neT (a := 8) n8 rfl
  have m9 := lv_neT (a := 9) n9 rfl
  have m10 := lv_neT (a := 10) n10 rfl
  have m11 := lv_neT (a := 11) n11 rfl
  have m12 := lv_neT (a := 12) n12 rfl
  have m13 := lv_neT (a := 13) n13 rfl
  have m14 := lv_neT (a := 14) n14 rfl
  have m15 := lv_neT (a := 15) n15 rfl
  have m16 := lv_neT (a := 16) n16 rfl
  have m17 := lv_neT (a := 17) n17 rfl
  have m18 := lv_neT (a := 18) n18 rfl
  have m19 := lv_neT (a := 19) n19 rfl
  have m20 := lv_neT (a := 20) n20 rfl
  have m21 := lv_neT (a := 21) n21 rfl
  have m22 := lv_neT (a := 22) n22 rfl
  have m23 := lv_neT (a := 23) n23 rfl
  have m24 := lv_neT (a := 24) n24 rfl
  refine lv_tableOut (tgt := 517) S.1 S.2.1 dX6_isRight_1 (by omega) (by decide) ?_
  refine lv_iconst (v := 0) S.1 S.2.1 dX6_isRight_517 (by decide) ?_
  subst hR
  exact g_sretz S hr hlocks nar0 dX6_isRight_518
def xr_X6_isOf (a1 : Int32) (a2 : Int32) : Int32 := if a2 = 0 then 1 else if a1 = a2 then 1 else if (3 : Int32) ≤ a2 then 0 else if a1 ≤ a2 then 0 else if (3 : Int32) < a1 then 0 else 1
def xo_X6_isOf (a1 : Int32) (a2 : Int32) : Prop := (a2 = 0 → True) ∧ (¬ (a2 = 0) → (a1 = a2 → True) ∧ (¬ (a1 = a2) → ((3 : Int32) ≤ a2 → True) ∧ (¬ ((3 : Int32) ≤ a2) → (a1 ≤ a2 → True) ∧ (¬ (a1 ≤ a2) → ((3 : Int32) < a1 → True) ∧ (¬ ((3 : Int32) < a1) → True)))))
set_option maxRecDepth 100000 in
set_option maxHeartbeats 4000000 in
theorem c_X6_isOf (l : Launch) (a1 : Int32) (a2 : Int32) (hok : xo_X6_isOf a1 a2) : Met l yX6_isOf (wm yX6_isOf cX6_isOf 2 (some .boolean)) ({ frames := 0, cells := 0, slots := 0, locals := 0 } : Room) (PS [.int a1, .int a2]) (QS (xr_X6_isOf a1 a2)) 0 0 (fun _ => False) := by
  generalize hR : xr_X6_isOf a1 a2 = R
  refine g_mets (lv := [(0, .int a1), (1, .int a2)]) (by decide) rfl (Nat.le_of_ble_eq_true rfl) rfl ?_
  intro p e s m below meth c ls S N hr hlocks hl
  refine lv_iload_n S.1 S.2.1 dX6_isOf_0 rfl (lv_at hl 1 rfl) ?_
  refine lv_if_eq (tgt := 24) S.1 S.2.1 dX6_isOf_1 (by decide) (fun c => ?_) (fun c => ?_)
  · replace hok := And.left hok c
    replace hR := (if_pos c).symm.trans hR
    refine lv_iconst (v := 1) S.1 S.2.1 dX6_isOf_24 (by decide) ?_
    refine lv_goto (tgt := 29) S.1 S.2.1 dX6_isOf_25 (by decide) ?_
    subst hR
    exact g_sretz S hr hlocks nar1 dX6_isOf_29
  · replace hok := And.right hok c
    replace hR := (if_neg c).symm.trans hR
    refine lv_iload_n S.1 S.2.1 dX6_isOf_4 rfl (lv_at hl 0 rfl) ?_
    refine lv_iload_n S.1 S.2.1 dX6_isOf_5 rfl (lv_at hl 1 rfl) ?_
    refine lv_icmp_eq (tgt := 24) S.1 S.2.1 dX6_isOf_6 (by decide) (fun c => ?_) (fun c => ?_)
    · replace hok := And.left hok c
      replace hR := (if_pos c).symm.trans hR
      refine lv_iconst (v := 1) S.1 S.2.1 dX6_isOf_24 (by decide) ?_
      refine lv_goto (tgt := 29) S.1 S.2.1 dX6_isOf_25 (by decide) ?_
      subst hR
      exact g_sretz S hr hlocks nar1 dX6_isOf_29
    · replace hok := And.right hok c
      replace hR := (if_neg c).symm.trans hR
      refine lv_iload_n S.1 S.2.1 dX6_isOf_9 rfl (lv_at hl 1 rfl) ?_
      refine lv_iconst (v := 3) S.1 S.2.1 dX6_isOf_10 (by decide) ?_
      refine lv_icmp_ge (tgt := 28) S.1 S.2.1 dX6_isOf_11 (by decide) (fun c => ?_) (fun c => ?_)
      · replace hok := And.left hok c
        replace hR := (if_pos c).symm.trans hR
        refine lv_iconst (v := 0) S.1 S.2.1 dX6_isOf_28 (by decide) ?_
        subst hR
        exact g_sretz S hr hlocks nar0 dX6_isOf_29
      · replace hok := And.right hok c
        replace hR := (if_neg c).symm.trans hR
        refine lv_iload_n S.1 S.2.1 dX6_isOf_14 rfl (lv_at hl 0 rfl) ?_
        refine lv_iload_n S.1 S.2.1 dX6_isOf_15 rfl (lv_at hl 1 rfl) ?_
        refine lv_icmp_le (tgt := 28) S.1 S.2.1 dX6_isOf_16 (by decide) (fun c => ?_) (fun c => ?_)
        · replace hok := And.left hok c
          replace hR := (if_pos c).symm.trans hR
          refine lv_iconst (v := 0) S.1 S.2.1 dX6_isOf_28 (by decide) ?_
          subst hR
          exact g_sretz S hr hlocks nar0 dX6_isOf_29
        · replace hok := And.right hok c
          replace hR := (if_neg c).symm.trans hR
          refine lv_iload_n S.1 S.2.1 dX6_isOf_19 rfl (lv_at hl 0 rfl) ?_
          refine lv_iconst (v := 3) S.1 S.2.1 dX6_isOf_20 (by decide) ?_
          refine lv_icmp_gt (tgt := 28) S.1 S.2.1 dX6_isOf_21 (by decide) (fun c => ?_) (fun c => ?_)
          · replace hok := And.left hok c
            replace hR := (if_pos c).symm.trans hR
            refine lv_iconst (v := 0) S.1 S.2.1 dX6_isOf_28 (by decide) ?_
            subst hR
            exact g_sretz S hr hlocks nar0 dX6_isOf_29
          · replace hok := And.right hok c
            replace hR := (if_neg c).symm.trans hR
            refine lv_iconst (v := 1) S.1 S.2.1 dX6_isOf_24 (by decide) ?_
            refine lv_goto (tgt := 29) S.1 S.2.1 dX6_isOf_25 (by decide) ?_
            subst hR
            exact g_sretz S hr hlocks nar1 dX6_isOf_29
def xr_X6_isSize (σ : GS) (a1 : Int32) : Int32 × GS := if (0 : Int32) ≤ a1 then if a1 ≤ 8 then if ((st σ 0 27 0) 0 27) = 0 then (1, st σ 0 27 0) else (0, st σ 0 27 0) else if ((st σ 0 27 6) 0 27) = 0 then (1, st σ 0 27 6) else (0, st σ 0 27 6) else if ((st σ 0 27 2) 0 27) = 0 then (1, st σ 0 27 2) else (0, st σ 0 27 2)
def xo_X6_isSize (σ : GS) (a1 : Int32) : Prop := ((0 : Int32) ≤ a1 → (a1 ≤ 8 → (((st σ 0 27 0) 0 27) = 0 → True) ∧ (¬ (((st σ 0 27 0) 0 27) = 0) → True)) ∧ (¬ (a1 ≤ 8) → (((st σ 0 27 6) 0 27) = 0 → True) ∧ (¬ (((st σ 0 27 6) 0 27) = 0) → True))) ∧ (¬ ((0 : Int32) ≤ a1) → (((st σ 0 27 2) 0 27) = 0 → True) ∧ (¬ (((st σ 0 27 2) 0 27) = 0) → True))
set_option maxRecDepth 100000 in
set_option maxHeartbeats 4000000 in
theorem c_X6_isSize (l : Launch) (D : va_G) (cy : CY) (q : Nat → Nat) (ex : va_W) (A : Nat → Prop) (σ : GS) (a1 : Int32) (hok : xo_X6_isSize σ a1) : Met l yX6_isSize (wm yX6_isSize cX6_isSize 2 (some .boolean)) ({ frames := 0, cells := 0, slots := 0, locals := 0 } : Room) (PC D cy (wM cy q σ ++ ex) A [.ref (q 0), .int a1]) (QI D (wM cy q (xr_X6_isSize σ a1).2 ++ ex) A (xr_X6_isSize σ a1).1) 0 0 A := by
  generalize hR : xr_X6_isSize σ a1 = R
  refine g_met (lv := [(0, .ref (q 0)), (1, .int a1)]) (by decide) rfl (Nat.le_of_ble_eq_true rfl) rfl ?_
  intro p e s m below meth c ls S K h hr hlocks hl
  refine lv_aload_n S.1 S.2.1 dX6_isSize_0 rfl (lv_at hl 0 rfl) ?_
  refine lv_iload_n S.1 S.2.1 dX6_isSize_1 rfl (lv_at hl 1 rfl) ?_
  refine lv_if_ge (tgt := 9) S.1 S.2.1 dX6_isSize_2 (by decide) (fun c => ?_) (fun c => ?_)
  · replace hok := And.left hok c
    replace hR := (if_pos c).symm.trans hR
    refine lv_iload_n S.1 S.2.1 dX6_isSize_9 rfl (lv_at hl 1 rfl) ?_
    refine lv_bipush (v := 8) S.1 S.2.1 dX6_isSize_10 (by decide) ?_
    refine lv_icmp_le (tgt := 20) S.1 S.2.1 dX6_isSize_12 (by decide) (fun c => ?_) (fun c => ?_)
    · replace hok := And.left hok c
      replace hR := (if_pos c).symm.trans hR
      refine lv_iconst (v := 0) S.1 S.2.1 dX6_isSize_20 (by decide) ?_
      refine fp_X6_127 S K h dX6_isSize_21 (fun H locs h => ?_)
      refine lv_aload_n S.1 S.2.1 dX6_isSize_24 rfl (lv_at hl 0 rfl) ?_
      refine fg_X6_127 S K h dX6_isSize_25 ?_
      refine lv_if_ne (tgt := 35) S.1 S.2.1 dX6_isSize_28 (by decide) (fun c => ?_) (fun c => ?_)
      · replace hok := And.right hok c
        replace hR := (if_neg c).symm.trans hR
        refine lv_iconst (v := 0) S.1 S.2.1 dX6_isSize_35 (by decide) ?_
        subst hR
        exact g_retz S hr hlocks h nar0 dX6_isSize_36
      · replace hok := And.left hok c
        replace hR := (if_pos c).symm.trans hR
        refine lv_iconst (v := 1) S.1 S.2.1 dX6_isSize_31 (by decide) ?_
        refine lv_goto (tgt := 36) S.1 S.2.1 dX6_isSize_32 (by decide) ?_
        subst hR
        exact g_retz S hr hlocks h nar1 dX6_isSize_36
    · replace hok := And.right hok c
      replace hR := (if_neg c).symm.trans hR
      refine lv_bipush (v := 6) S.1 S.2.1 dX6_isSize_15 (by decide) ?_
      refine lv_goto (tgt := 21) S.1 S.2.1 dX6_isSize_17 (by decide) ?_
      refine fp_X6_127 S K h dX6_isSize_21 (fun H locs h => ?_)
      refine lv_aload_n S.1 S.2.1 dX6_isSize_24 rfl (lv_at hl 0 rfl) ?_
      refine fg_X6_127 S K h dX6_isSize_25 ?_
      refine lv_if_ne (tgt := 35) S.1 S.2.1 dX6_isSize_28 (by decide) (fun c => ?_) (fun c => ?_)
      · replace hok := And.right hok c
        replace hR := (if_neg c).symm.trans hR
        refine lv_iconst (v := 0) S.1 S.2.1 dX6_isSize_35 (by decide) ?_
        subst hR
        exact g_retz S hr hlocks h nar0 dX6_isSize_36
      · replace hok := And.left hok c
        replace hR := (if_pos c).symm.trans hR
        refine lv_iconst (v := 1) S.1 S.2.1 dX6_isSize_31 (by decide) ?_
        refine lv_goto (tgt := 36) S.1 S.2.1 dX6_isSize_32 (by decide) ?_
        subst hR
        exact g_retz S hr hlocks h nar1 dX6_isSize_36
  · replace hok := And.right hok c
    replace hR := (if_neg c).symm.trans hR
    refine lv_iconst (v := 2) S.1 S.2.1 dX6_isSize_5 (by decide) ?_
    refine lv_goto (tgt := 21) S.1 S.2.1 dX6_isSize_6 (by decide) ?_
    refine fp_X6_127 S K h dX6_isSize_21 (fun H locs h => ?_)
    refine lv_aload_n S.1 S.2.1 dX6_isSize_24 rfl (lv_at hl 0 rfl) ?_
    refine fg_X6_127 S K h dX6_isSize_25 ?_
    refine lv_if_ne (tgt := 35) S.1 S.2.1 dX6_isSize_28 (by decide) (fun c => ?_) (fun c => ?_)
    · replace hok := And.right hok c
      replace hR := (if_neg c).symm.trans hR
      refine lv_iconst (v := 0) S.1 S.2.1 dX6_isSize_35 (by decide) ?_
      subst hR
      exact g_retz S hr hlocks h nar0 dX6_isSize_36
    · replace hok := And.left hok c
      replace hR := (if_pos c).symm.trans hR
      refine lv_iconst (v := 1) S.1 S.2.1 dX6_isSize_31 (by decide) ?_
      refine lv_goto (tgt := 36) S.1 S.2.1 dX6_isSize_32 (by decide) ?_
      subst hR
      exact g_retz S hr hlocks h nar1 dX6_isSize_36
def xr_X6_isThere (σ : GS) (a1 : Int32) : Int32 × GS := if a1 = 0 then (a1, st σ 0 27 1) else (a1, st σ 0 27 0)
def xo_X6_isThere (σ : GS) (a1 : Int32) : Prop := (a1 = 0 → narrow .boolean (.int a1) = .int a1) ∧ (¬ (a1 = 0) → narrow .boolean (.int a1) = .int a1)
set_option maxRecDepth 100000 in
set_option maxHeartbeats 4000000 in
theorem c_X6_isThere (l : Launch) (D : va_G) (cy : CY) (q : Nat → Nat) (ex : va_W) (A : Nat → Prop) (σ : GS) (a1 : Int32) (hok : xo_X6_isThere σ a1) : Met l yX6_isThere (wm yX6_isThere cX6_isThere 2 (some .boolean)) ({ frames := 0, cells := 0, slots := 0, locals := 0 } : Room) (PC D cy (wM cy q σ ++ ex) A [.ref (q 0), .int a1]) (QI D (wM cy q (xr_X6_isThere σ a1).2 ++ ex) A (xr_X6_isThere σ a1).1) 0 0 A := by
  generalize hR : xr_X6_isThere σ a1 = R
  refine g_met (lv := [(0, .ref (q 0)), (1, .int a1)]) (by decide) rfl (Nat.le_of_ble_eq_true rfl) rfl ?_
  intro p e s m below meth c ls S K h hr hlocks hl
  refine lv_aload_n S.1 S.2.1 dX6_isThere_0 rfl (lv_at hl 0 rfl) ?_
  refine lv_iload_n S.1 S.2.1 dX6_isThere_1 rfl (lv_at hl 1 rfl) ?_
  refine lv_if_eq (tgt := 9) S.1 S.2.1 dX6_isThere_2 (by decide) (fun c => ?_) (fun c => ?_)
  · replace hok := And.left hok c
    replace hR := (if_pos c).symm.trans hR
    refine lv_iconst (v := 1) S.1 S.2.1 dX6_isThere_9 (by decide) ?_
    refine fp_X6_127 S K h dX6_isThere_10 (fun H locs h => ?_)
    refine lv_iload_n S.1 S.2.1 dX6_isThere_13 rfl (lv_at hl 1 rfl) ?_
    subst hR
    exact g_retz S hr hlocks h hok dX6_isThere_14
  · replace hok := And.right hok c
    replace hR := (if_neg c).symm.trans hR
    refine lv_iconst (v := 0) S.1 S.2.1 dX6_isThere_5 (by decide) ?_
    refine lv_goto (tgt := 10) S.1 S.2.1 dX6_isThere_6 (by decide) ?_
    refine fp_X6_127 S K h dX6_isThere_10 (fun H locs h => ?_)
    refine lv_iload_n S.1 S.2.1 dX6_isThere_13 rfl (lv_at hl 1 rfl) ?_
    subst hR
    exact g_retz S hr hlocks h hok dX6_isThere_14
def xr_X6_isIndex (σ : GS) (a1 : Int32) (a2 : Int32) : Int32 × GS := if (xr_X6_in a1 0 (a2 - 1)) = 0 then if ((st σ 0 27 3) 0 27) = 0 then (1, st σ 0 27 3) else (0, st σ 0 27 3) else if ((st σ 0 27 0) 0 27) = 0 then (1, st σ 0 27 0) else (0, st σ 0 27 0)
def xo_X6_isIndex (σ : GS) (a1 : Int32) (a2 : Int32) : Prop := (xo_X6_in a1 0 (a2 - 1)) ∧ (((xr_X6_in a1 0 (a2 - 1)) = 0 → (((st σ 0 27 3) 0 27) = 0 → True) ∧ (¬ (((st σ 0 27 3) 0 27) = 0) → True)) ∧ (¬ ((xr_X6_in a1 0 (a2 - 1)) = 0) → (((st σ 0 27 0) 0 27) = 0 → True) ∧ (¬ (((st σ 0 27 0) 0 27) = 0) → True)))
set_option maxRecDepth 100000 in
set_option maxHeartbeats 4000000 in
theorem c_X6_isIndex (l : Launch) (D : va_G) (cy : CY) (q : Nat → Nat) (ex : va_W) (A : Nat → Prop) (σ : GS) (a1 : Int32) (a2 : Int32) (hok : xo_X6_isIndex σ a1 a2) : Met l yX6_isIndex (wm yX6_isIndex cX6_isIndex 3 (some .boolean)) ({ frames := 1, cells := 0, slots := 0, locals := 22 } : Room) (PC D cy (wM cy q σ ++ ex) A [.ref (q 0), .int a1, .int a2]) (QI D (wM cy q (xr_X6_isIndex σ a1 a2).2 ++ ex) A (xr_X6_isIndex σ a1 a2).1) 0 0 A := by
  generalize hR : xr_X6_isIndex σ a1 a2 = R
  refine g_met (lv := [(0, .ref (q 0)), (1, .int a1), (2, .int a2)]) (by decide) rfl (Nat.le_of_ble_eq_true rfl) rfl ?_
  intro p e s m below meth c ls S K h hr hlocks hl
  refine lv_aload_n S.1 S.2.1 dX6_isIndex_0 rfl (lv_at hl 0 rfl) ?_
  refine lv_iload_n S.1 S.2.1 dX6_isIndex_1 rfl (lv_at hl 1 rfl) ?_
  refine lv_iconst (v := 0) S.1 S.2.1 dX6_isIndex_2 (by decide) ?_
  refine lv_iload_n S.1 S.2.1 dX6_isIndex_3 rfl (lv_at hl 2 rfl) ?_
  refine lv_iconst (v := 1) S.1 S.2.1 dX6_isIndex_4 (by decide) ?_
  refine lv_isub S.1 S.2.1 dX6_isIndex_5 ?_
  have k2 := And.left hok
  replace hok := And.right hok
  refine g_calls S wz_cons K.2 (c_X6_in l _ _ _ k2) kc_X6_in km_X6_106 kt_X6_in kn_X6 yd_X6_in.2 ⟨⟨Nat.le_of_ble_eq_true rfl, Nat.le_of_ble_eq_true rfl⟩, rfl, rfl, Nat.zero_le _, Nat.zero_le _⟩ rfl hl.1 (Nat.le_of_ble_eq_true rfl) rfl dX6_isIndex_6 ?_
  refine lv_if_eq (tgt := 16) S.1 S.2.1 dX6_isIndex_9 (by decide) (fun c => ?_) (fun c => ?_)
  · replace hok := And.left hok c
    replace hR := (if_pos c).symm.trans hR
    refine lv_iconst (v := 3) S.1 S.2.1 dX6_isIndex_16 (by decide) ?_
    refine fp_X6_127 S K h dX6_isIndex_17 (fun H locs h => ?_)
    refine lv_aload_n S.1 S.2.1 dX6_isIndex_20 rfl (lv_at hl 0 rfl) ?_
    refine fg_X6_127 S K h dX6_isIndex_21 ?_
    refine lv_if_ne (tgt := 31) S.1 S.2.1 dX6_isIndex_24 (by decide) (fun c => ?_) (fun c => ?_)
    · replace hok := And.right hok c
      replace hR := (if_neg c).symm.trans hR
      refine lv_iconst (v := 0) S.1 S.2.1 dX6_isIndex_31 (by decide) ?_
      subst hR
      exact g_retz S hr hlocks h nar0 dX6_isIndex_32
    · replace hok := And.left hok c
      replace hR := (if_pos c).symm.trans hR
      refine lv_iconst (v := 1) S.1 S.2.1 dX6_isIndex_27 (by decide) ?_
      refine lv_goto (tgt := 32) S.1 S.2.1 dX6_isIndex_28 (by decide) ?_
      subst hR
      exact g_retz S hr hlocks h nar1 dX6_isIndex_32
  · replace hok := And.right hok c
    replace hR := (if_neg c).symm.trans hR
    refine lv_iconst (v := 0) S.1 S.2.1 dX6_isIndex_12 (by decide) ?_
    refine lv_goto (tgt := 17) S.1 S.2.1 dX6_isIndex_13 (by decide) ?_
    refine fp_X6_127 S K h dX6_isIndex_17 (fun H locs h => ?_)
    refine lv_aload_n S.1 S.2.1 dX6_isIndex_20 rfl (lv_at hl 0 rfl) ?_
    refine fg_X6_127 S K h dX6_isIndex_21 ?_
    refine lv_if_ne (tgt := 31) S.1 S.2.1 dX6_isIndex_24 (by decide) (fun c => ?_) (fun c => ?_)
    · replace hok := And.right hok c
      replace hR := (if_neg c).symm.trans hR
      refine lv_iconst (v := 0) S.1 S.2.1 dX6_isIndex_31 (by decide) ?_
      subst hR
      exact g_retz S hr hlocks h nar0 dX6_isIndex_32
    · replace hok := And.left hok c
      replace hR := (if_pos c).symm.trans hR
      refine lv_iconst (v := 1) S.1 S.2.1 dX6_isIndex_27 (by decide) ?_
      refine lv_goto (tgt := 32) S.1 S.2.1 dX6_isIndex_28 (by decide) ?_
      subst hR
      exact g_retz S hr hlocks h nar1 dX6_isIndex_32
def xl_X6_begin_96 : Nat → GS → Int32 → Int32 → Int32 × GS
  | 0, σ, _, _ => (0, σ)
  | n + 1, σ, x1, x2 => if (6 : Int32) ≤ x2 then (0, st (st (st (st (st (st (st σ 22 (0 : Int32).toNatClampNeg x1) 0 25 0) 0 26 0) 0 28 0) 0 29 (-1)) 0 30 0) 0 31 0) else xl_X6_begin_96 n (st σ 22 x2.toNatClampNeg 0) x1 (x2 + 1)
def xlo_X6_begin_96 : Nat → GS → Int32 → Int32 → Prop
  | 0, _, _, _ => False
  | n + 1, σ, x1, x2 => ((6 : Int32) ≤ x2 → vp_in 0 6 ∧ (True)) ∧ (¬ ((6 : Int32) ≤ x2) → vp_in x2 6 ∧ (xlo_X6_begin_96 n (st σ 22 x2.toNatClampNeg 0) x1 (x2 + 1)))
set_option maxRecDepth 100000 in
set_option maxHeartbeats 4000000 in
theorem w_X6_begin_96 {p : Program} {l : Launch} {e : Env} {s : State} {m : MethodId} {args : Array Value} {below : List Frame} {meth : Method} {c : Code} {D : va_G} {cy : CY} {q : Nat → Nat} {ex : va_W} {A : Nat → Prop} (S : CallFix p m c cX6_begin 3 s args (wm yX6_begin cX6_begin 3 none) RX6) (K : KK D cy s) (hr : meth.sig.returnType = none) (hlocks : meth.locks = false) :
    ∀ (n : Nat) (σ : GS) (x1 : Int32) (x2 : Int32) (H : Heap) (locs : List Loc) (ls : Array Slot) (R : Int32 × GS), xlo_X6_begin_96 n σ x1 x2 → xl_X6_begin_96 n σ x1 x2 = R → WH D A s.heap H locs (wM cy q σ ++ ex) → lv_has ls 3 [(0, .ref (q 0)), (1, .int x1), (2, .int x2)] → W p l e ({ frames := 0, cells := 0, slots := 0, locals := 0 } : Room) s m args below meth c H locs 0 0 (MQ below (QV D (wM cy q R.2 ++ ex) A) args s 0 0 A) (F0 m 96 ls []) := by
  intro n
  induction n with
  | zero =>
    intro σ x1 x2 H locs ls R hok
    exact False.elim hok
  | succ n ih =>
    intro σ x1 x2 H locs ls R hok hR h hl
    refine lv_iload_n S.1 S.2.1 dX6_begin_96 rfl (lv_at hl 2 rfl) ?_
    refine lv_bipush (v := 6) S.1 S.2.1 dX6_begin_97 (by decide) ?_
    refine lv_icmp_ge (tgt := 115) S.1 S.2.1 dX6_begin_99 (by decide) (fun c => ?_) (fun c => ?_)
    · replace hok := And.left hok c
      replace hR := (if_pos c).symm.trans hR
      refine lv_aload_n S.1 S.2.1 dX6_begin_115 rfl (lv_at hl 0 rfl) ?_
      refine fg_X6_74 S K h dX6_begin_116 ?_
      refine lv_iconst (v := 0) S.1 S.2.1 dX6_begin_119 (by decide) ?_
      refine lv_iload_n S.1 S.2.1 dX6_begin_120 rfl (lv_at hl 1 rfl) ?_
      have k3 := And.left hok
      replace hok := And.right hok
      refine as_M22 S K h k3 dX6_begin_121 (fun H locs h => ?_)
      refine lv_aload_n S.1 S.2.1 dX6_begin_122 rfl (lv_at hl 0 rfl) ?_
      refine lv_iconst (v := 0) S.1 S.2.1 dX6_begin_123 (by decide) ?_
      refine fp_X6_88 S K h dX6_begin_124 (fun H locs h => ?_)
      refine lv_aload_n S.1 S.2.1 dX6_begin_127 rfl (lv_at hl 0 rfl) ?_
      refine lv_iconst (v := 0) S.1 S.2.1 dX6_begin_128 (by decide) ?_
      refine fp_X6_91 S K h dX6_begin_129 (fun H locs h => ?_)
      refine lv_aload_n S.1 S.2.1 dX6_begin_132 rfl (lv_at hl 0 rfl) ?_
      refine lv_iconst (v := 0) S.1 S.2.1 dX6_begin_133 (by decide) ?_
      refine fp_X6_94 S K h dX6_begin_134 (fun H locs h => ?_)
      refine lv_aload_n S.1 S.2.1 dX6_begin_137 rfl (lv_at hl 0 rfl) ?_
      refine lv_iconst (v := -1) S.1 S.2.1 dX6_begin_138 (by decide) ?_
      refine fp_X6_97 S K h dX6_begin_139 (fun H locs h => ?_)
      refine lv_aload_n S.1 S.2.1 dX6_begin_142 rfl (lv_at hl 0 rfl) ?_
      refine lv_iconst (v := 0) S.1 S.2.1 dX6_begin_143 (by decide) ?_
      refine fp_X6_100 S K h dX6_begin_144 (fun H locs h => ?_)
      refine lv_aload_n S.1 S.2.1 dX6_begin_147 rfl (lv_at hl 0 rfl) ?_
      refine lv_iconst (v := 0) S.1 S.2.1 dX6_begin_148 (by decide) ?_
      refine fp_X6_103 S K h dX6_begin_149 (fun H locs h => ?_)
      subst hR
      exact g_retv S hr hlocks h dX6_begin_152
    · replace hok := And.right hok c
      replace hR := (if_neg c).symm.trans hR
      refine lv_aload_n S.1 S.2.1 dX6_begin_102 rfl (lv_at hl 0 rfl) ?_
      refine fg_X6_74 S K h dX6_begin_103 ?_
      refine lv_iload_n S.1 S.2.1 dX6_begin_106 rfl (lv_at hl 2 rfl) ?_
      refine lv_iconst (v := 0) S.1 S.2.1 dX6_begin_107 (by decide) ?_
      have k4 := And.left hok
      replace hok := And.right hok
      refine as_M22 S K h k4 dX6_begin_108 (fun H locs h => ?_)
      refine lv_iinc (v := _ + 1) (lv' := [(2, .int _), (0, .ref _), (1, .int _)]) S.1 S.2.1 dX6_begin_109 hl (k := 2) rfl rfl (by decide) rfl (fun ls hl => ?_)
      refine lv_goto (tgt := 96) S.1 S.2.1 dX6_begin_112 (by decide) ?_
      exact ih _ _ _ _ _ _ R hok hR h (lv_sub hl [1, 2, 0] rfl)
def xl_X6_begin_55 : Nat → GS → Int32 → Int32 → Int32 × GS
  | 0, σ, _, _ => (0, σ)
  | n + 1, σ, x1, x2 => if (3 : Int32) ≤ x2 then xl_X6_begin_96 100 (st (st σ 18 (0 : Int32).toNatClampNeg (-1)) 18 (1 : Int32).toNatClampNeg (-1)) x1 0 else xl_X6_begin_55 n (st (st σ 16 x2.toNatClampNeg (-1)) 20 x2.toNatClampNeg (vp_nar .boolean 0)) x1 (x2 + 1)
def xlo_X6_begin_55 : Nat → GS → Int32 → Int32 → Prop
  | 0, _, _, _ => False
  | n + 1, σ, x1, x2 => ((3 : Int32) ≤ x2 → vp_in 0 2 ∧ (vp_in 1 2 ∧ (xlo_X6_begin_96 100 (st (st σ 18 (0 : Int32).toNatClampNeg (-1)) 18 (1 : Int32).toNatClampNeg (-1)) x1 0))) ∧ (¬ ((3 : Int32) ≤ x2) → vp_in x2 3 ∧ (vp_in x2 3 ∧ (xlo_X6_begin_55 n (st (st σ 16 x2.toNatClampNeg (-1)) 20 x2.toNatClampNeg (vp_nar .boolean 0)) x1 (x2 + 1))))
set_option maxRecDepth 100000 in
set_option maxHeartbeats 4000000 in
theorem w_X6_begin_55 {p : Program} {l : Launch} {e : Env} {s : State} {m : MethodId} {args : Array Value} {below : List Frame} {meth : Method} {c : Code} {D : va_G} {cy : CY} {q : Nat → Nat} {ex : va_W} {A : Nat → Prop} (S : CallFix p m c cX6_begin 3 s args (wm yX6_begin cX6_begin 3 none) RX6) (K : KK D cy s) (hr : meth.sig.returnType = none) (hlocks : meth.locks = false) :
    ∀ (n : Nat) (σ : GS) (x1 : Int32) (x2 : Int32) (H : Heap) (locs : List Loc) (ls : Array Slot) (R : Int32 × GS), xlo_X6_begin_55 n σ x1 x2 → xl_X6_begin_55 n σ x1 x2 = R → WH D A s.heap H locs (wM cy q σ ++ ex) → lv_has ls 3 [(0, .ref (q 0)), (1, .int x1), (2, .int x2)] → W p l e ({ frames := 0, cells := 0, slots := 0, locals := 0 } : Room) s m args below meth c H locs 0 0 (MQ below (QV D (wM cy q R.2 ++ ex) A) args s 0 0 A) (F0 m 55 ls []) := by
  intro n
  induction n with
  | zero =>
    intro σ x1 x2 H locs ls R hok
    exact False.elim hok
  | succ n ih =>
    intro σ x1 x2 H locs ls R hok hR h hl
    refine lv_iload_n S.1 S.2.1 dX6_begin_55 rfl (lv_at hl 2 rfl) ?_
    refine lv_iconst (v := 3) S.1 S.2.1 dX6_begin_56 (by decide) ?_
    refine lv_icmp_ge (tgt := 80) S.1 S.2.1 dX6_begin_57 (by decide) (fun c => ?_) (fun c => ?_)
    · replace hok := And.left hok c
      replace hR := (if_pos c).symm.trans hR
      refine lv_aload_n S.1 S.2.1 dX6_begin_80 rfl (lv_at hl 0 rfl) ?_
      refine fg_X6_61 S K h dX6_begin_81 ?_
      refine lv_iconst (v := 0) S.1 S.2.1 dX6_begin_84 (by decide) ?_
      refine lv_iconst (v := -1) S.1 S.2.1 dX6_begin_85 (by decide) ?_
      have k1 := And.left hok
      replace hok := And.right hok
      refine as_M18 S K h k1 dX6_begin_86 (fun H locs h => ?_)
      refine lv_aload_n S.1 S.2.1 dX6_begin_87 rfl (lv_at hl 0 rfl) ?_
      refine fg_X6_61 S K h dX6_begin_88 ?_
      refine lv_iconst (v := 1) S.1 S.2.1 dX6_begin_91 (by decide) ?_
      refine lv_iconst (v := -1) S.1 S.2.1 dX6_begin_92 (by decide) ?_
      have k2 := And.left hok
      replace hok := And.right hok
      refine as_M18 S K h k2 dX6_begin_93 (fun H locs h => ?_)
      refine lv_iconst (v := 0) S.1 S.2.1 dX6_begin_94 (by decide) ?_
      refine lv_istore_n (lv' := [(2, .int _), (0, .ref _), (1, .int _)]) S.1 S.2.1 dX6_begin_95 rfl hl (by decide) rfl (fun ls hl => ?_)
      exact w_X6_begin_96  S K hr hlocks 100 _ _ _ _ _ _ R hok hR h (lv_sub hl [1, 2, 0] rfl)
    · replace hok := And.right hok c
      replace hR := (if_neg c).symm.trans hR
      refine lv_aload_n S.1 S.2.1 dX6_begin_60 rfl (lv_at hl 0 rfl) ?_
      refine fg_X6_55 S K h dX6_begin_61 ?_
      refine lv_iload_n S.1 S.2.1 dX6_begin_64 rfl (lv_at hl 2 rfl) ?_
      refine lv_iconst (v := -1) S.1 S.2.1 dX6_begin_65 (by decide) ?_
      have k5 := And.left hok
      replace hok := And.right hok
      refine as_M16 S K h k5 dX6_begin_66 (fun H locs h => ?_)
      refine lv_aload_n S.1 S.2.1 dX6_begin_67 rfl (lv_at hl 0 rfl) ?_
      refine fg_X6_67 S K h dX6_begin_68 ?_
      refine lv_iload_n S.1 S.2.1 dX6_begin_71 rfl (lv_at hl 2 rfl) ?_
      refine lv_iconst (v := 0) S.1 S.2.1 dX6_begin_72 (by decide) ?_
      have k6 := And.left hok
      replace hok := And.right hok
      refine as_M20 S K h k6 dX6_begin_73 (fun H locs h => ?_)
      refine lv_iinc (v := _ + 1) (lv' := [(2, .int _), (0, .ref _), (1, .int _)]) S.1 S.2.1 dX6_begin_74 hl (k := 2) rfl rfl (by decide) rfl (fun ls hl => ?_)
      refine lv_goto (tgt := 55) S.1 S.2.1 dX6_begin_77 (by decide) ?_
      exact ih _ _ _ _ _ _ R hok hR h (lv_sub hl [1, 2, 0] rfl)
def xl_X6_begin_35 : Nat → GS → Int32 → Int32 → Int32 × GS
  | 0, σ, _, _ => (0, σ)
  | n + 1, σ, x1, x2 => if (4 : Int32) ≤ x2 then xl_X6_begin_55 100 σ x1 0 else xl_X6_begin_35 n (st σ 13 x2.toNatClampNeg (-1)) x1 (x2 + 1)
def xlo_X6_begin_35 : Nat → GS → Int32 → Int32 → Prop
  | 0, _, _, _ => False
  | n + 1, σ, x1, x2 => ((4 : Int32) ≤ x2 → xlo_X6_begin_55 100 σ x1 0) ∧ (¬ ((4 : Int32) ≤ x2) → vp_in x2 4 ∧ (xlo_X6_begin_35 n (st σ 13 x2.toNatClampNeg (-1)) x1 (x2 + 1)))
set_option maxRecDepth 100000 in
set_option maxHeartbeats 4000000 in
theorem w_X6_begin_35 {p : Program} {l : Launch} {e : Env} {s : State} {m : MethodId} {args : Array Value} {below : List Frame} {meth : Method} {c : Code} {D : va_G} {cy : CY} {q : Nat → Nat} {ex : va_W} {A : Nat → Prop} (S : CallFix p m c cX6_begin 3 s args (wm yX6_begin cX6_begin 3 none) RX6) (K : KK D cy s) (hr : meth.sig.returnType = none) (hlocks : meth.locks = false) :
    ∀ (n : Nat) (σ : GS) (x1 : Int32) (x2 : Int32) (H : Heap) (locs : List Loc) (ls : Array Slot) (R : Int32 × GS), xlo_X6_begin_35 n σ x1 x2 → xl_X6_begin_35 n σ x1 x2 = R → WH D A s.heap H locs (wM cy q σ ++ ex) → lv_has ls 3 [(0, .ref (q 0)), (1, .int x1), (2, .int x2)] → W p l e ({ frames := 0, cells := 0, slots := 0, locals := 0 } : Room) s m args below meth c H locs 0 0 (MQ below (QV D (wM cy q R.2 ++ ex) A) args s 0 0 A) (F0 m 35 ls []) := by
  intro n
  induction n with
  | zero =>
    intro σ x1 x2 H locs ls R hok
    exact False.elim hok
  | succ n ih =>
    intro σ x1 x2 H locs ls R hok hR h hl
    refine lv_iload_n S.1 S.2.1 dX6_begin_35 rfl (lv_at hl 2 rfl) ?_
    refine lv_iconst (v := 4) S.1 S.2.1 dX6_begin_36 (by decide) ?_
    refine lv_icmp_ge (tgt := 53) S.1 S.2.1 dX6_begin_37 (by decide) (fun c => ?_) (fun c => ?_)
    · replace hok := And.left hok c
      replace hR := (if_pos c).symm.trans hR
      refine lv_iconst (v := 0) S.1 S.2.1 dX6_begin_53 (by decide) ?_
      refine lv_istore_n (lv' := [(2, .int _), (0, .ref _), (1, .int _)]) S.1 S.2.1 dX6_begin_54 rfl hl (by decide) rfl (fun ls hl => ?_)
      exact w_X6_begin_55  S K hr hlocks 100 _ _ _ _ _ _ R hok hR h (lv_sub hl [1, 2, 0] rfl)
    · replace hok := And.right hok c
      replace hR := (if_neg c).symm.trans hR
      refine lv_aload_n S.1 S.2.1 dX6_begin_40 rfl (lv_at hl 0 rfl) ?_
      refine fg_X6_46 S K h dX6_begin_41 ?_
      refine lv_iload_n S.1 S.2.1 dX6_begin_44 rfl (lv_at hl 2 rfl) ?_
      refine lv_iconst (v := -1) S.1 S.2.1 dX6_begin_45 (by decide) ?_
      have k7 := And.left hok
      replace hok := And.right hok
      refine as_M13 S K h k7 dX6_begin_46 (fun H locs h => ?_)
      refine lv_iinc (v := _ + 1) (lv' := [(2, .int _), (0, .ref _), (1, .int _)]) S.1 S.2.1 dX6_begin_47 hl (k := 2) rfl rfl (by decide) rfl (fun ls hl => ?_)
      refine lv_goto (tgt := 35) S.1 S.2.1 dX6_begin_50 (by decide) ?_
      exact ih _ _ _ _ _ _ R hok hR h (lv_sub hl [1, 2, 0] rfl)
def xl_X6_begin_7 : Nat → GS → Int32 → Int32 → Int32 × GS
  | 0, σ, _, _ => (0, σ)
  | n + 1, σ, x1, x2 => if (8 : Int32) ≤ x2 then xl_X6_begin_35 100 σ x1 0 else xl_X6_begin_7 n (st (st σ 12 x2.toNatClampNeg (-1)) 23 x2.toNatClampNeg 0) x1 (x2 + 1)
def xlo_X6_begin_7 : Nat → GS → Int32 → Int32 → Prop
  | 0, _, _, _ => False
  | n + 1, σ, x1, x2 => ((8 : Int32) ≤ x2 → xlo_X6_begin_35 100 σ x1 0) ∧ (¬ ((8 : Int32) ≤ x2) → vp_in x2 8 ∧ (vp_in x2 8 ∧ (xlo_X6_begin_7 n (st (st σ 12 x2.toNatClampNeg (-1)) 23 x2.toNatClampNeg 0) x1 (x2 + 1))))
set_option maxRecDepth 100000 in
set_option maxHeartbeats 4000000 in
theorem w_X6_begin_7 {p : Program} {l : Launch} {e : Env} {s : State} {m : MethodId} {args : Array Value} {below : List Frame} {meth : Method} {c : Code} {D : va_G} {cy : CY} {q : Nat → Nat} {ex : va_W} {A : Nat → Prop} (S : CallFix p m c cX6_begin 3 s args (wm yX6_begin cX6_begin 3 none) RX6) (K : KK D cy s) (hr : meth.sig.returnType = none) (hlocks : meth.locks = false) :
    ∀ (n : Nat) (σ : GS) (x1 : Int32) (x2 : Int32) (H : Heap) (locs : List Loc) (ls : Array Slot) (R : Int32 × GS), xlo_X6_begin_7 n σ x1 x2 → xl_X6_begin_7 n σ x1 x2 = R → WH D A s.heap H locs (wM cy q σ ++ ex) → lv_has ls 3 [(0, .ref (q 0)), (1, .int x1), (2, .int x2)] → W p l e ({ frames := 0, cells := 0, slots := 0, locals := 0 } : Room) s m args below meth c H locs 0 0 (MQ below (QV D (wM cy q R.2 ++ ex) A) args s 0 0 A) (F0 m 7 ls []) := by
  intro n
  induction n with
  | zero =>
    intro σ x1 x2 H locs ls R hok
    exact False.elim hok
  | succ n ih =>
    intro σ x1 x2 H locs ls R hok hR h hl
    refine lv_iload_n S.1 S.2.1 dX6_begin_7 rfl (lv_at hl 2 rfl) ?_
    refine lv_bipush (v := 8) S.1 S.2.1 dX6_begin_8 (by decide) ?_
    refine lv_icmp_ge (tgt := 33) S.1 S.2.1 dX6_begin_10 (by decide) (fun c => ?_) (fun c => ?_)
    · replace hok := And.left hok c
      replace hR := (if_pos c).symm.trans hR
      refine lv_iconst (v := 0) S.1 S.2.1 dX6_begin_33 (by decide) ?_
      refine lv_istore_n (lv' := [(2, .int _), (0, .ref _), (1, .int _)]) S.1 S.2.1 dX6_begin_34 rfl hl (by decide) rfl (fun ls hl => ?_)
      exact w_X6_begin_35  S K hr hlocks 100 _ _ _ _ _ _ R hok hR h (lv_sub hl [1, 2, 0] rfl)
    · replace hok := And.right hok c
      replace hR := (if_neg c).symm.trans hR
      refine lv_aload_n S.1 S.2.1 dX6_begin_13 rfl (lv_at hl 0 rfl) ?_
      refine fg_X6_43 S K h dX6_begin_14 ?_
      refine lv_iload_n S.1 S.2.1 dX6_begin_17 rfl (lv_at hl 2 rfl) ?_
      refine lv_iconst (v := -1) S.1 S.2.1 dX6_begin_18 (by decide) ?_
      have k8 := And.left hok
      replace hok := And.right hok
      refine as_M12 S K h k8 dX6_begin_19 (fun H locs h => ?_)
      refine lv_aload_n S.1 S.2.1 dX6_begin_20 rfl (lv_at hl 0 rfl) ?_
      refine fg_X6_77 S K h dX6_begin_21 ?_
      refine lv_iload_n S.1 S.2.1 dX6_begin_24 rfl (lv_at hl 2 rfl) ?_
      refine lv_iconst (v := 0) S.1 S.2.1 dX6_begin_25 (by decide) ?_
      have k9 := And.left hok
      replace hok := And.right hok
      refine as_M23 S K h k9 dX6_begin_26 (fun H locs h => ?_)
      refine lv_iinc (v := _ + 1) (lv' := [(2, .int _), (0, .ref _), (1, .int _)]) S.1 S.2.1 dX6_begin_27 hl (k := 2) rfl rfl (by decide) rfl (fun ls hl => ?_)
      refine lv_goto (tgt := 7) S.1 S.2.1 dX6_begin_30 (by decide) ?_
      exact ih _ _ _ _ _ _ R hok hR h (lv_sub hl [1, 2, 0] rfl)
def xr_X6_begin (σ : GS) (a1 : Int32) : Int32 × GS := xl_X6_begin_7 100 (st σ 0 10 0) a1 0
def xo_X6_begin (σ : GS) (a1 : Int32) : Prop := xlo_X6_begin_7 100 (st σ 0 10 0) a1 0
set_option maxRecDepth 100000 in
set_option maxHeartbeats 4000000 in
theorem c_X6_begin (l : Launch) (D : va_G) (cy : CY) (q : Nat → Nat) (ex : va_W) (A : Nat → Prop) (σ : GS) (a1 : Int32) (hok : xo_X6_begin σ a1) : Met l yX6_begin (wm yX6_begin cX6_begin 3 none) ({ frames := 0, cells := 0, slots := 0, locals := 0 } : Room) (PC D cy (wM cy q σ ++ ex) A [.ref (q 0), .int a1]) (QV D (wM cy q (xr_X6_begin σ a1).2 ++ ex) A) 0 0 A := by
  generalize hR : xr_X6_begin σ a1 = R
  refine g_met (lv := [(0, .ref (q 0)), (1, .int a1)]) (by decide) rfl (Nat.le_of_ble_eq_true rfl) rfl ?_
  intro p e s m below meth c ls S K h hr hlocks hl
  refine lv_aload_n S.1 S.2.1 dX6_begin_0 rfl (lv_at hl 0 rfl) ?_
  refine lv_iconst (v := 0) S.1 S.2.1 dX6_begin_1 (by decide) ?_
  refine fp_X6_84 S K h dX6_begin_2 (fun H locs h => ?_)
  refine lv_iconst (v := 0) S.1 S.2.1 dX6_begin_5 (by decide) ?_
  refine lv_istore_n (lv' := [(2, .int _), (0, .ref _), (1, .int _)]) S.1 S.2.1 dX6_begin_6 rfl hl (by decide) rfl (fun ls hl => ?_)
  exact w_X6_begin_7  S K hr hlocks 100 _ _ _ _ _ _ R hok hR h (lv_sub hl [1, 2, 0] rfl)
def xr_X6_act (σ : GS) (a1 : Int32) (a2 : Int32) (a3 : Int32) (a4 : Int32) : Int32 × GS := if (xr_X6_isRight a1 a2 a3 a4) = 0 then (-101, σ) else if (σ 0 0) = 40 then (-102, σ) else (((st (st (st (st (st σ 1 (σ 0 0).toNatClampNeg a1) 2 ((st σ 1 (σ 0 0).toNatClampNeg a1) 0 0).toNatClampNeg a2) 3 ((st (st σ 1 (σ 0 0).toNatClampNeg a1) 2 ((st σ 1 (σ 0 0).toNatClampNeg a1) 0 0).toNatClampNeg a2) 0 0).toNatClampNeg a3) 4 ((st (st (st σ 1 (σ 0 0).toNatClampNeg a1) 2 ((st σ 1 (σ 0 0).toNatClampNeg a1) 0 0).toNatClampNeg a2) 3 ((st (st σ 1 (σ 0 0).toNatClampNeg a1) 2 ((st σ 1 (σ 0 0).toNatClampNeg a1) 0 0).toNatClampNeg a2) 0 0).toNatClampNeg a3) 0 0).toNatClampNeg a4) 0 0 (((st (st (st (st σ 1 (σ 0 0).toNatClampNeg a1) 2 ((st σ 1 (σ 0 0).toNatClampNeg a1) 0 0).toNatClampNeg a2) 3 ((st (st σ 1 (σ 0 0).toNatClampNeg a1) 2 ((st σ 1 (σ 0 0).toNatClampNeg a1) 0 0).toNatClampNeg a2) 0 0).toNatClampNeg a3) 4 ((st (st (st σ 1 (σ 0 0).toNatClampNeg a1) 2 ((st σ 1 (σ 0 0).toNatClampNeg a1) 0 0).toNatClampNeg a2) 3 ((st (st σ 1 (σ 0 0).toNatClampNeg a1) 2 ((st σ 1 (σ 0 0).toNatClampNeg a1) 0 0).toNatClampNeg a2) 0 0).toNatClampNeg a3) 0 0).toNatClampNeg a4) 0 0) + 1)) 0 0) - 1, st (st (st (st (st σ 1 (σ 0 0).toNatClampNeg a1) 2 ((st σ 1 (σ 0 0).toNatClampNeg a1) 0 0).toNatClampNeg a2) 3 ((st (st σ 1 (σ 0 0).toNatClampNeg a1) 2 ((st σ 1 (σ 0 0).toNatClampNeg a1) 0 0).toNatClampNeg a2) 0 0).toNatClampNeg a3) 4 ((st (st (st σ 1 (σ 0 0).toNatClampNeg a1) 2 ((st σ 1 (σ 0 0).toNatClampNeg a1) 0 0).toNatClampNeg a2) 3 ((st (st σ 1 (σ 0 0).toNatClampNeg a1) 2 ((st σ 1 (σ 0 0).toNatClampNeg a1) 0 0).toNatClampNeg a2) 0 0).toNatClampNeg a3) 0 0).toNatClampNeg a4) 0 0 (((st (st (st (st σ 1 (σ 0 0).toNatClampNeg a1) 2 ((st σ 1 (σ 0 0).toNatClampNeg a1) 0 0).toNatClampNeg a2) 3 ((st (st σ 1 (σ 0 0).toNatClampNeg a1) 2 ((st σ 1 (σ 0 0).toNatClampNeg a1) 0 0).toNatClampNeg a2) 0 0).toNatClampNeg a3) 4 ((st (st (st σ 1 (σ 0 0).toNatClampNeg a1) 2 ((st σ 1 (σ 0 0).toNatClampNeg a1) 0 0).toNatClampNeg a2) 3 ((st (st σ 1 (σ 0 0).toNatClampNeg a1) 2 ((st σ 1 (σ 0 0).toNatClampNeg a1) 0 0).toNatClampNeg a2) 0 0).toNatClampNeg a3) 0 0).toNatClampNeg a4) 0 0) + 1))
def xo_X6_act (σ : GS) (a1 : Int32) (a2 : Int32) (a3 : Int32) (a4 : Int32) : Prop := (xo_X6_isRight a1 a2 a3 a4) ∧ (((xr_X6_isRight a1 a2 a3 a4) = 0 → True) ∧ (¬ ((xr_X6_isRight a1 a2 a3 a4) = 0) → ((σ 0 0) = 40 → True) ∧ (¬ ((σ 0 0) = 40) → vp_in (σ 0 0) 40 ∧ (vp_in ((st σ 1 (σ 0 0).toNatClampNeg a1) 0 0) 40 ∧ (vp_in ((st (st σ 1 (σ 0 0).toNatClampNeg a1) 2 ((st σ 1 (σ 0 0).toNatClampNeg a1) 0 0).toNatClampNeg a2) 0 0) 40 ∧ (vp_in ((st (st (st σ 1 (σ 0 0).toNatClampNeg a1) 2 ((st σ 1 (σ 0 0).toNatClampNeg a1) 0 0).toNatClampNeg a2) 3 ((st (st σ 1 (σ 0 0).toNatClampNeg a1) 2 ((st σ 1 (σ 0 0).toNatClampNeg a1) 0 0).toNatClampNeg a2) 0 0).toNatClampNeg a3) 0 0) 40 ∧ (True)))))))
set_option maxRecDepth 100000 in
set_option maxHeartbeats 4000000 in
theorem c_X6_act (l : Launch) (D : va_G) (cy : CY) (q : Nat → Nat) (ex : va_W) (A : Nat → Prop) (σ : GS) (a1 : Int32) (a2 : Int32) (a3 : Int32) (a4 : Int32) (hok : xo_X6_act σ a1 a2 a3 a4) : Met l yX6_act (wm yX6_act cX6_act 5 (some .int)) ({ frames := 3, cells := 0, slots := 0, locals := 65 } : Room) (PC D cy (wM cy q σ ++ ex) A [.ref (q 0), .int a1, .int a2, .int a3, .int a4]) (QI D (wM cy q (xr_X6_act σ a1 a2 a3 a4).2 ++ ex) A (xr_X6_act σ a1 a2 a3 a4).1) 0 0 A := by
  generalize hR : xr_X6_act σ a1 a2 a3 a4 = R
  refine g_met (lv := [(0, .ref (q 0)), (1, .int a1), (2, .int a2), (3, .int a3), (4, .int a4)]) (by decide) rfl (Nat.le_of_ble_eq_true rfl) rfl ?_
  intro p e s m below meth c ls S K h hr hlocks hl
  refine lv_iload_n S.1 S.2.1 dX6_act_0 rfl (lv_at hl 1 rfl) ?_
  refine lv_iload_n S.1 S.2.1 dX6_act_1 rfl (lv_at hl 2 rfl) ?_
  refine lv_iload_n S.1 S.2.1 dX6_act_2 rfl (lv_at hl 3 rfl) ?_
  refine lv_iload S.1 S.2.1 dX6_act_3 (lv_at hl 4 rfl) ?_
  have k2 := And.left hok
  replace hok := And.right hok
  refine g_calls S wz_cons K.2 (c_X6_isRight l _ _ _ _ k2) kc_X6_isRight km_X6_117 kt_X6_isRight kn_X6 yd_X6_isRight.2 ⟨⟨Nat.le_of_ble_eq_true rfl, Nat.le_of_ble_eq_true rfl⟩, rfl, rfl, Nat.zero_le _, Nat.zero_le _⟩ rfl hl.1 (Nat.le_of_ble_eq_true rfl) rfl dX6_act_5 ?_
  refine lv_if_ne (tgt := 14) S.1 S.2.1 dX6_act_8 (by decide) (fun c => ?_) (fun c => ?_)
  · replace hok := And.right hok c
    replace hR := (if_neg c).symm.trans hR
    refine lv_aload_n S.1 S.2.1 dX6_act_14 rfl (lv_at hl 0 rfl) ?_
    refine fg_X6_121 S K h dX6_act_15 ?_
    refine lv_bipush (v := 40) S.1 S.2.1 dX6_act_18 (by decide) ?_
    refine lv_icmp_ne (tgt := 26) S.1 S.2.1 dX6_act_20 (by decide) (fun c => ?_) (fun c => ?_)
    · replace hok := And.right hok c
      replace hR := (if_neg c).symm.trans hR
      refine lv_aload_n S.1 S.2.1 dX6_act_26 rfl (lv_at hl 0 rfl) ?_
      refine fg_X6_7 S K h dX6_act_27 ?_
      refine lv_aload_n S.1 S.2.1 dX6_act_30 rfl (lv_at hl 0 rfl) ?_
      refine fg_X6_121 S K h dX6_act_31 ?_
      refine lv_iload_n S.1 S.2.1 dX6_act_34 rfl (lv_at hl 1 rfl) ?_
      have k4 := And.left hok
      replace hok := And.right hok
      refine as_M1 S K h k4 dX6_act_35 (fun H locs h => ?_)
      refine lv_aload_n S.1 S.2.1 dX6_act_36 rfl (lv_at hl 0 rfl) ?_
      refine fg_X6_13 S K h dX6_act_37 ?_
      refine lv_aload_n S.1 S.2.1 dX6_act_40 rfl (lv_at hl 0 rfl) ?_
      refine fg_X6_121 S K h dX6_act_41 ?_
      refine lv_iload_n S.1 S.2.1 dX6_act_44 rfl (lv_at hl 2 rfl) ?_
      have k5 := And.left hok
      replace hok := And.right hok
      refine as_M2 S K h k5 dX6_act_45 (fun H locs h => ?_)
      refine lv_aload_n S.1 S.2.1 dX6_act_46 rfl (lv_at hl 0 rfl) ?_
      refine fg_X6_16 S K h dX6_act_47 ?_
      refine lv_aload_n S.1 S.2.1 dX6_act_50 rfl (lv_at hl 0 rfl) ?_
      refine fg_X6_121 S K h dX6_act_51 ?_
      refine lv_iload_n S.1 S.2.1 dX6_act_54 rfl (lv_at hl 3 rfl) ?_
      have k6 := And.left hok
      replace hok := And.right hok
      refine as_M3 S K h k6 dX6_act_55 (fun H locs h => ?_)
      refine lv_aload_n S.1 S.2.1 dX6_act_56 rfl (lv_at hl 0 rfl) ?_
      refine fg_X6_19 S K h dX6_act_57 ?_
      refine lv_aload_n S.1 S.2.1 dX6_act_60 rfl (lv_at hl 0 rfl) ?_
      refine fg_X6_121 S K h dX6_act_61 ?_
      refine lv_iload S.1 S.2.1 dX6_act_64 (lv_at hl 4 rfl) ?_
      have k7 := And.left hok
      replace hok := And.right hok
      refine as_M4 S K h k7 dX6_act_66 (fun H locs h => ?_)
      refine lv_aload_n S.1 S.2.1 dX6_act_67 rfl (lv_at hl 0 rfl) ?_
      refine lv_dup S.1 S.2.1 dX6_act_68 rfl ?_
      refine fg_X6_121 S K h dX6_act_69 ?_
      refine lv_iconst (v := 1) S.1 S.2.1 dX6_act_72 (by decide) ?_
      refine lv_iadd S.1 S.2.1 dX6_act_73 ?_
      refine fp_X6_121 S K h dX6_act_74 (fun H locs h => ?_)
      refine lv_aload_n S.1 S.2.1 dX6_act_77 rfl (lv_at hl 0 rfl) ?_
      refine fg_X6_121 S K h dX6_act_78 ?_
      refine lv_iconst (v := 1) S.1 S.2.1 dX6_act_81 (by decide) ?_
      refine lv_isub S.1 S.2.1 dX6_act_82 ?_
      subst hR
      exact g_reti S hr hlocks h dX6_act_83
    · replace hok := And.left hok c
      replace hR := (if_pos c).symm.trans hR
      refine lv_bipush (v := -102) S.1 S.2.1 dX6_act_23 (by decide) ?_
      subst hR
      exact g_reti S hr hlocks h dX6_act_25
  · replace hok := And.left hok c
    replace hR := (if_pos c).symm.trans hR
    refine lv_bipush (v := -101) S.1 S.2.1 dX6_act_11 (by decide) ?_
    subst hR
    exact g_reti S hr hlocks h dX6_act_13
def xr_X6_guard (σ : GS) (a1 : Int32) (a2 : Int32) (a3 : Int32) (a4 : Int32) : Int32 × GS := if a1 < 0 then (-101, σ) else if a2 ≤ a1 then (-101, σ) else if (40 : Int32) < a2 then (-101, σ) else if (xr_X6_in a3 0 7) = 0 then (-101, σ) else if (xr_X6_in a4 0 40) = 0 then (-101, σ) else if (σ 0 5) = 5 then (-102, σ) else (((st (st (st (st (st σ 5 (σ 0 5).toNatClampNeg a1) 6 ((st σ 5 (σ 0 5).toNatClampNeg a1) 0 5).toNatClampNeg a2) 7 ((st (st σ 5 (σ 0 5).toNatClampNeg a1) 6 ((st σ 5 (σ 0 5).toNatClampNeg a1) 0 5).toNatClampNeg a2) 0 5).toNatClampNeg a3) 8 ((st (st (st σ 5 (σ 0 5).toNatClampNeg a1) 6 ((st σ 5 (σ 0 5).toNatClampNeg a1) 0 5).toNatClampNeg a2) 7 ((st (st σ 5 (σ 0 5).toNatClampNeg a1) 6 ((st σ 5 (σ 0 5).toNatClampNeg a1) 0 5).toNatClampNeg a2) 0 5).toNatClampNeg a3) 0 5).toNatClampNeg a4) 0 5 (((st (st (st (st σ 5 (σ 0 5).toNatClampNeg a1) 6 ((st σ 5 (σ 0 5).toNatClampNeg a1) 0 5).toNatClampNeg a2) 7 ((st (st σ 5 (σ 0 5).toNatClampNeg a1) 6 ((st σ 5 (σ 0 5).toNatClampNeg a1) 0 5).toNatClampNeg a2) 0 5).toNatClampNeg a3) 8 ((st (st (st σ 5 (σ 0 5).toNatClampNeg a1) 6 ((st σ 5 (σ 0 5).toNatClampNeg a1) 0 5).toNatClampNeg a2) 7 ((st (st σ 5 (σ 0 5).toNatClampNeg a1) 6 ((st σ 5 (σ 0 5).toNatClampNeg a1) 0 5).toNatClampNeg a2) 0 5).toNatClampNeg a3) 0 5).toNatClampNeg a4) 0 5) + 1)) 0 5) - 1, st (st (st (st (st σ 5 (σ 0 5).toNatClampNeg a1) 6 ((st σ 5 (σ 0 5).toNatClampNeg a1) 0 5).toNatClampNeg a2) 7 ((st (st σ 5 (σ 0 5).toNatClampNeg a1) 6 ((st σ 5 (σ 0 5).toNatClampNeg a1) 0 5).toNatClampNeg a2) 0 5).toNatClampNeg a3) 8 ((st (st (st σ 5 (σ 0 5).toNatClampNeg a1) 6 ((st σ 5 (σ 0 5).toNatClampNeg a1) 0 5).toNatClampNeg a2) 7 ((st (st σ 5 (σ 0 5).toNatClampNeg a1) 6 ((st σ 5 (σ 0 5).toNatClampNeg a1) 0 5).toNatClampNeg a2) 0 5).toNatClampNeg a3) 0 5).toNatClampNeg a4) 0 5 (((st (st (st (st σ 5 (σ 0 5).toNatClampNeg a1) 6 ((st σ 5 (σ 0 5).toNatClampNeg a1) 0 5).toNatClampNeg a2) 7 ((st (st σ 5 (σ 0 5).toNatClampNeg a1) 6 ((st σ 5 (σ 0 5).toNatClampNeg a1) 0 5).toNatClampNeg a2) 0 5).toNatClampNeg a3) 8 ((st (st (st σ 5 (σ 0 5).toNatClampNeg a1) 6 ((st σ 5 (σ 0 5).toNatClampNeg a1) 0 5).toNatClampNeg a2) 7 ((st (st σ 5 (σ 0 5).toNatClampNeg a1) 6 ((st σ 5 (σ 0 5).toNatClampNeg a1) 0 5).toNatClampNeg a2) 0 5).toNatClampNeg a3) 0 5).toNatClampNeg a4) 0 5) + 1))
def xo_X6_guard (σ : GS) (a1 : Int32) (a2 : Int32) (a3 : Int32) (a4 : Int32) : Prop := (a1 < 0 → True) ∧ (¬ (a1 < 0) → (a2 ≤ a1 → True) ∧ (¬ (a2 ≤ a1) → ((40 : Int32) < a2 → True) ∧ (¬ ((40 : Int32) < a2) → (xo_X6_in a3 0 7) ∧ (((xr_X6_in a3 0 7) = 0 → True) ∧ (¬ ((xr_X6_in a3 0 7) = 0) → (xo_X6_in a4 0 40) ∧ (((xr_X6_in a4 0 40) = 0 → True) ∧ (¬ ((xr_X6_in a4 0 40) = 0) → ((σ 0 5) = 5 → True) ∧ (¬ ((σ 0 5) = 5) → vp_in (σ 0 5) 5 ∧ (vp_in ((st σ 5 (σ 0 5).toNatClampNeg a1) 0 5) 5 ∧ (vp_in ((st (st σ 5 (σ 0 5).toNatClampNeg a1) 6 ((st σ 5 (σ 0 5).toNatClampNeg a1) 0 5).toNatClampNeg a2) 0 5) 5 ∧ (vp_in ((st (st (st σ 5 (σ 0 5).toNatClampNeg a1) 6 ((st σ 5 (σ 0 5).toNatClampNeg a1) 0 5).toNatClampNeg a2) 7 ((st (st σ 5 (σ 0 5).toNatClampNeg a1) 6 ((st σ 5 (σ 0 5).toNatClampNeg a1) 0 5).toNatClampNeg a2) 0 5).toNatClampNeg a3) 0 5) 5 ∧ (True))))))))))))
set_option maxRecDepth 100000 in
set_option maxHeartbeats 4000000 in
theorem c_X6_guard (l : Launch) (D : va_G) (cy : CY) (q : Nat → Nat) (ex : va_W) (A : Nat → Prop) (σ : GS) (a1 : Int32) (a2 : Int32) (a3 : Int32) (a4 : Int32) (hok : xo_X6_guard σ a1 a2 a3 a4) : Met l yX6_guard (wm yX6_guard cX6_guard 5 (some .int)) ({ frames := 1, cells := 0, slots := 0, locals := 22 } : Room) (PC D cy (wM cy q σ ++ ex) A [.ref (q 0), .int a1, .int a2, .int a3, .int a4]) (QI D (wM cy q (xr_X6_guard σ a1 a2 a3 a4).2 ++ ex) A (xr_X6_guard σ a1 a2 a3 a4).1) 0 0 A := by
  generalize hR : xr_X6_guard σ a1 a2 a3 a4 = R
  refine g_met (lv := [(0, .ref (q 0)), (1, .int a1), (2, .int a2), (3, .int a3), (4, .int a4)]) (by decide) rfl (Nat.le_of_ble_eq_true rfl) rfl ?_
  intro p e s m below meth c ls S K h hr hlocks hl
  refine lv_iload_n S.1 S.2.1 dX6_guard_0 rfl (lv_at hl 1 rfl) ?_
  refine lv_if_lt (tgt := 36) S.1 S.2.1 dX6_guard_1 (by decide) (fun c => ?_) (fun c => ?_)
  · replace hok := And.left hok c
    replace hR := (if_pos c).symm.trans hR
    refine lv_bipush (v := -101) S.1 S.2.1 dX6_guard_36 (by decide) ?_
    subst hR
    exact g_reti S hr hlocks h dX6_guard_38
  · replace hok := And.right hok c
    replace hR := (if_neg c).symm.trans hR
    refine lv_iload_n S.1 S.2.1 dX6_guard_4 rfl (lv_at hl 1 rfl) ?_
    refine lv_iload_n S.1 S.2.1 dX6_guard_5 rfl (lv_at hl 2 rfl) ?_
    refine lv_icmp_ge (tgt := 36) S.1 S.2.1 dX6_guard_6 (by decide) (fun c => ?_) (fun c => ?_)
    · replace hok := And.left hok c
      replace hR := (if_pos c).symm.trans hR
      refine lv_bipush (v := -101) S.1 S.2.1 dX6_guard_36 (by decide) ?_
      subst hR
      exact g_reti S hr hlocks h dX6_guard_38
    · replace hok := And.right hok c
      replace hR := (if_neg c).symm.trans hR
      refine lv_iload_n S.1 S.2.1 dX6_guard_9 rfl (lv_at hl 2 rfl) ?_
      refine lv_bipush (v := 40) S.1 S.2.1 dX6_guard_10 (by decide) ?_
      refine lv_icmp_gt (tgt := 36) S.1 S.2.1 dX6_guard_12 (by decide) (fun c => ?_) (fun c => ?_)
      · replace hok := And.left hok c
        replace hR := (if_pos c).symm.trans hR
        refine lv_bipush (v := -101) S.1 S.2.1 dX6_guard_36 (by decide) ?_
        subst hR
        exact g_reti S hr hlocks h dX6_guard_38
      · replace hok := And.right hok c
        replace hR := (if_neg c).symm.trans hR
        refine lv_iload_n S.1 S.2.1 dX6_guard_15 rfl (lv_at hl 3 rfl) ?_
        refine lv_iconst (v := 0) S.1 S.2.1 dX6_guard_16 (by decide) ?_
        refine lv_bipush (v := 7) S.1 S.2.1 dX6_guard_17 (by decide) ?_
        have k2 := And.left hok
        replace hok := And.right hok
        refine g_calls S wz_cons K.2 (c_X6_in l _ _ _ k2) kc_X6_in km_X6_106 kt_X6_in kn_X6 yd_X6_in.2 ⟨⟨Nat.le_of_ble_eq_true rfl, Nat.le_of_ble_eq_true rfl⟩, rfl, rfl, Nat.zero_le _, Nat.zero_le _⟩ rfl hl.1 (Nat.le_of_ble_eq_true rfl) rfl dX6_guard_19 ?_
        refine lv_if_eq (tgt := 36) S.1 S.2.1 dX6_guard_22 (by decide) (fun c => ?_) (fun c => ?_)
        · replace hok := And.left hok c
          replace hR := (if_pos c).symm.trans hR
          refine lv_bipush (v := -101) S.1 S.2.1 dX6_guard_36 (by decide) ?_
          subst hR
          exact g_reti S hr hlocks h dX6_guard_38
        · replace hok := And.right hok c
          replace hR := (if_neg c).symm.trans hR
          refine lv_iload S.1 S.2.1 dX6_guard_25 (lv_at hl 4 rfl) ?_
          refine lv_iconst (v := 0) S.1 S.2.1 dX6_guard_27 (by decide) ?_
          refine lv_bipush (v := 40) S.1 S.2.1 dX6_guard_28 (by decide) ?_
          have k5 := And.left hok
          replace hok := And.right hok
          refine g_calls S wz_cons K.2 (c_X6_in l _ _ _ k5) kc_X6_in km_X6_106 kt_X6_in kn_X6 yd_X6_in.2 ⟨⟨Nat.le_of_ble_eq_true rfl, Nat.le_of_ble_eq_true rfl⟩, rfl, rfl, Nat.zero_le _, Nat.zero_le _⟩ rfl hl.1 (Nat.le_of_ble_eq_true rfl) rfl dX6_guard_30 ?_
          refine lv_if_ne (tgt := 39) S.1 S.2.1 dX6_guard_33 (by decide) (fun c => ?_) (fun c => ?_)
          · replace hok := And.right hok c
            replace hR := (if_neg c).symm.trans hR
            refine lv_aload_n S.1 S.2.1 dX6_guard_39 rfl (lv_at hl 0 rfl) ?_
            refine fg_X6_124 S K h dX6_guard_40 ?_
            refine lv_iconst (v := 5) S.1 S.2.1 dX6_guard_43 (by decide) ?_
            refine lv_icmp_ne (tgt := 50) S.1 S.2.1 dX6_guard_44 (by decide) (fun c => ?_) (fun c => ?_)
            · replace hok := And.right hok c
              replace hR := (if_neg c).symm.trans hR
              refine lv_aload_n S.1 S.2.1 dX6_guard_50 rfl (lv_at hl 0 rfl) ?_
              refine fg_X6_22 S K h dX6_guard_51 ?_
              refine lv_aload_n S.1 S.2.1 dX6_guard_54 rfl (lv_at hl 0 rfl) ?_
              refine fg_X6_124 S K h dX6_guard_55 ?_
              refine lv_iload_n S.1 S.2.1 dX6_guard_58 rfl (lv_at hl 1 rfl) ?_
              have k7 := And.left hok
              replace hok := And.right hok
              refine as_M5 S K h k7 dX6_guard_59 (fun H locs h => ?_)
              refine lv_aload_n S.1 S.2.1 dX6_guard_60 rfl (lv_at hl 0 rfl) ?_
              refine fg_X6_25 S K h dX6_guard_61 ?_
              refine lv_aload_n S.1 S.2.1 dX6_guard_64 rfl (lv_at hl 0 rfl) ?_
              refine fg_X6_124 S K h dX6_guard_65 ?_
              refine lv_iload_n S.1 S.2.1 dX6_guard_68 rfl (lv_at hl 2 rfl) ?_
              have k8 := And.left hok
              replace hok := And.right hok
              refine as_M6 S K h k8 dX6_guard_69 (fun H locs h => ?_)
              refine lv_aload_n S.1 S.2.1 dX6_guard_70 rfl (lv_at hl 0 rfl) ?_
              refine fg_X6_28 S K h dX6_guard_71 ?_
              refine lv_aload_n S.1 S.2.1 dX6_guard_74 rfl (lv_at hl 0 rfl) ?_
              refine fg_X6_124 S K h dX6_guard_75 ?_
              refine lv_iload_n S.1 S.2.1 dX6_guard_78 rfl (lv_at hl 3 rfl) ?_
              have k9 := And.left hok
              replace hok := And.right hok
              refine as_M7 S K h k9 dX6_guard_79 (fun H locs h => ?_)
              refine lv_aload_n S.1 S.2.1 dX6_guard_80 rfl (lv_at hl 0 rfl) ?_
              refine fg_X6_31 S K h dX6_guard_81 ?_
              refine lv_aload_n S.1 S.2.1 dX6_guard_84 rfl (lv_at hl 0 rfl) ?_
              refine fg_X6_124 S K h dX6_guard_85 ?_
              refine lv_iload S.1 S.2.1 dX6_guard_88 (lv_at hl 4 rfl) ?_
              have k10 := And.left hok
              replace hok := And.right hok
              refine as_M8 S K h k10 dX6_guard_90 (fun H locs h => ?_)
              refine lv_aload_n S.1 S.2.1 dX6_guard_91 rfl (lv_at hl 0 rfl) ?_
              refine lv_dup S.1 S.2.1 dX6_guard_92 rfl ?_
              refine fg_X6_124 S K h dX6_guard_93 ?_
              refine lv_iconst (v := 1) S.1 S.2.1 dX6_guard_96 (by decide) ?_
              refine lv_iadd S.1 S.2.1 dX6_guard_97 ?_
              refine fp_X6_124 S K h dX6_guard_98 (fun H locs h => ?_)
              refine lv_aload_n S.1 S.2.1 dX6_guard_101 rfl (lv_at hl 0 rfl) ?_
              refine fg_X6_124 S K h dX6_guard_102 ?_
              refine lv_iconst (v := 1) S.1 S.2.1 dX6_guard_105 (by decide) ?_
              refine lv_isub S.1 S.2.1 dX6_guard_106 ?_
              subst hR
              exact g_reti S hr hlocks h dX6_guard_107
            · replace hok := And.left hok c
              replace hR := (if_pos c).symm.trans hR
              refine lv_bipush (v := -102) S.1 S.2.1 dX6_guard_47 (by decide) ?_
              subst hR
              exact g_reti S hr hlocks h dX6_guard_49
          · replace hok := And.left hok c
            replace hR := (if_pos c).symm.trans hR
            refine lv_bipush (v := -101) S.1 S.2.1 dX6_guard_36 (by decide) ?_
            subst hR
            exact g_reti S hr hlocks h dX6_guard_38
def xr_X6_clear (σ : GS) : Int32 × GS := (σ 0 0, st (st σ 0 0 0) 0 5 0)
def xo_X6_clear (σ : GS) : Prop := True
set_option maxRecDepth 100000 in
set_option maxHeartbeats 4000000 in
theorem c_X6_clear (l : Launch) (D : va_G) (cy : CY) (q : Nat → Nat) (ex : va_W) (A : Nat → Prop) (σ : GS) (hok : xo_X6_clear σ) : Met l yX6_clear (wm yX6_clear cX6_clear 2 (some .int)) ({ frames := 0, cells := 0, slots := 0, locals := 0 } : Room) (PC D cy (wM cy q σ ++ ex) A [.ref (q 0)]) (QI D (wM cy q (xr_X6_clear σ).2 ++ ex) A (xr_X6_clear σ).1) 0 0 A := by
  generalize hR : xr_X6_clear σ = R
  refine g_met (lv := [(0, .ref (q 0))]) (by decide) rfl (Nat.le_of_ble_eq_true rfl) rfl ?_
  intro p e s m below meth c ls S K h hr hlocks hl
  refine lv_aload_n S.1 S.2.1 dX6_clear_0 rfl (lv_at hl 0 rfl) ?_
  refine fg_X6_121 S K h dX6_clear_1 ?_
  refine lv_istore_n (lv' := [(1, .int _), (0, .ref _)]) S.1 S.2.1 dX6_clear_4 rfl hl (by decide) rfl (fun ls hl => ?_)
  refine lv_aload_n S.1 S.2.1 dX6_clear_5 rfl (lv_at hl 1 rfl) ?_
  refine lv_iconst (v := 0) S.1 S.2.1 dX6_clear_6 (by decide) ?_
  refine fp_X6_121 S K h dX6_clear_7 (fun H locs h => ?_)
  refine lv_aload_n S.1 S.2.1 dX6_clear_10 rfl (lv_at hl 1 rfl) ?_
  refine lv_iconst (v := 0) S.1 S.2.1 dX6_clear_11 (by decide) ?_
  refine fp_X6_124 S K h dX6_clear_12 (fun H locs h => ?_)
  refine lv_iload_n S.1 S.2.1 dX6_clear_15 rfl (lv_at hl 0 rfl) ?_
  subst hR
  exact g_reti S hr hlocks h dX6_clear_16
def xr_X6_stamped (σ : GS) (a1 : Int32) : Int32 × GS := if ((st σ 11 a1.toNatClampNeg ((σ 11 a1.toNatClampNeg) + 1)) 9 a1.toNatClampNeg) = 0 then (((st σ 11 a1.toNatClampNeg ((σ 11 a1.toNatClampNeg) + 1)) 10 a1.toNatClampNeg) + ((st σ 11 a1.toNatClampNeg ((σ 11 a1.toNatClampNeg) + 1)) 11 a1.toNatClampNeg), st σ 11 a1.toNatClampNeg ((σ 11 a1.toNatClampNeg) + 1)) else if ((st σ 11 a1.toNatClampNeg ((σ 11 a1.toNatClampNeg) + 1)) 9 a1.toNatClampNeg) = 4 then (3 * (((st σ 11 a1.toNatClampNeg ((σ 11 a1.toNatClampNeg) + 1)) 10 a1.toNatClampNeg) + ((st σ 11 a1.toNatClampNeg ((σ 11 a1.toNatClampNeg) + 1)) 11 a1.toNatClampNeg)), st σ 11 a1.toNatClampNeg ((σ 11 a1.toNatClampNeg) + 1)) else if ((st σ 11 a1.toNatClampNeg ((σ 11 a1.toNatClampNeg) + 1)) 9 a1.toNatClampNeg) = 3 then ((2 * (((st σ 11 a1.toNatClampNeg ((σ 11 a1.toNatClampNeg) + 1)) 10 a1.toNatClampNeg) + ((st σ 11 a1.toNatClampNeg ((σ 11 a1.toNatClampNeg) + 1)) 11 a1.toNatClampNeg))) - 1, st σ 11 a1.toNatClampNeg ((σ 11 a1.toNatClampNeg) + 1)) else (2 * (((st σ 11 a1.toNatClampNeg ((σ 11 a1.toNatClampNeg) + 1)) 10 a1.toNatClampNeg) + ((st σ 11 a1.toNatClampNeg ((σ 11 a1.toNatClampNeg) + 1)) 11 a1.toNatClampNeg)), st σ 11 a1.toNatClampNeg ((σ 11 a1.toNatClampNeg) + 1))
def xo_X6_stamped (σ : GS) (a1 : Int32) : Prop := vp_in a1 64 ∧ (vp_in a1 64 ∧ (vp_in a1 64 ∧ (vp_in a1 64 ∧ (vp_in a1 64 ∧ ((((st σ 11 a1.toNatClampNeg ((σ 11 a1.toNatClampNeg) + 1)) 9 a1.toNatClampNeg) = 0 → True) ∧ (¬ (((st σ 11 a1.toNatClampNeg ((σ 11 a1.toNatClampNeg) + 1)) 9 a1.toNatClampNeg) = 0) → vp_in a1 64 ∧ ((((st σ 11 a1.toNatClampNeg ((σ 11 a1.toNatClampNeg) + 1)) 9 a1.toNatClampNeg) = 4 → True) ∧ (¬ (((st σ 11 a1.toNatClampNeg ((σ 11 a1.toNatClampNeg) + 1)) 9 a1.toNatClampNeg) = 4) → vp_in a1 64 ∧ ((((st σ 11 a1.toNatClampNeg ((σ 11 a1.toNatClampNeg) + 1)) 9 a1.toNatClampNeg) = 3 → True) ∧ (¬ (((st σ 11 a1.toNatClampNeg ((σ 11 a1.toNatClampNeg) + 1)) 9 a1.toNatClampNeg) = 3) → True))))))))))
set_option maxRecDepth 100000 in
set_option maxHeartbeats 4000000 in
theorem c_X6_stamped (l : Launch) (D : va_G) (cy : CY) (q : Nat → Nat) (ex : va_W) (A : Nat → Prop) (σ : GS) (a1 : Int32) (hok : xo_X6_stamped σ a1) : Met l yX6_stamped (wm yX6_stamped cX6_stamped 3 (some .int)) ({ frames := 0, cells := 0, slots := 0, locals := 0 } : Room) (PC D cy (wM cy q σ ++ ex) A [.ref (q 0), .int a1]) (QI D (wM cy q (xr_X6_stamped σ a1).2 ++ ex) A (xr_X6_stamped σ a1).1) 0 0 A := by
  generalize hR : xr_X6_stamped σ a1 = R
  refine g_met (lv := [(0, .ref (q 0)), (1, .int a1)]) (by decide) rfl (Nat.le_of_ble_eq_true rfl) rfl ?_
  intro p e s m below meth c ls S K h hr hlocks hl
  refine lv_aload_n S.1 S.2.1 dX6_stamped_0 rfl (lv_at hl 0 rfl) ?_
  refine fg_X6_40 S K h dX6_stamped_1 ?_
  refine lv_iload_n S.1 S.2.1 dX6_stamped_4 rfl (lv_at hl 1 rfl) ?_
  refine lv_dup2_11 S.1 S.2.1 dX6_stamped_5 rfl rfl ?_
  have k1 := And.left hok
  replace hok := And.right hok
  refine al_M11 S K h k1 dX6_stamped_6 ?_
  refine lv_iconst (v := 1) S.1 S.2.1 dX6_stamped_7 (by decide) ?_
  refine lv_iadd S.1 S.2.1 dX6_stamped_8 ?_
  have k2 := And.left hok
  replace hok := And.right hok
  refine as_M11 S K h k2 dX6_stamped_9 (fun H locs h => ?_)
  refine lv_aload_n S.1 S.2.1 dX6_stamped_10 rfl (lv_at hl 0 rfl) ?_
  refine fg_X6_37 S K h dX6_stamped_11 ?_
  refine lv_iload_n S.1 S.2.1 dX6_stamped_14 rfl (lv_at hl 1 rfl) ?_
  have k3 := And.left hok
  replace hok := And.right hok
  refine al_M10 S K h k3 dX6_stamped_15 ?_
  refine lv_aload_n S.1 S.2.1 dX6_stamped_16 rfl (lv_at hl 0 rfl) ?_
  refine fg_X6_40 S K h dX6_stamped_17 ?_
  refine lv_iload_n S.1 S.2.1 dX6_stamped_20 rfl (lv_at hl 1 rfl) ?_
  have k4 := And.left hok
  replace hok := And.right hok
  refine al_M11 S K h k4 dX6_stamped_21 ?_
  refine lv_iadd S.1 S.2.1 dX6_stamped_22 ?_
  refine lv_istore_n (lv' := [(2, .int _), (0, .ref _), (1, .int _)]) S.1 S.2.1 dX6_stamped_23 rfl hl (by decide) rfl (fun ls hl => ?_)
  refine lv_aload_n S.1 S.2.1 dX6_stamped_24 rfl (lv_at hl 1 rfl) ?_
  refine fg_X6_34 S K h dX6_stamped_25 ?_
  refine lv_iload_n S.1 S.2.1 dX6_stamped_28 rfl (lv_at hl 2 rfl) ?_
  have k5 := And.left hok
  replace hok := And.right hok
  refine al_M9 S K h k5 dX6_stamped_29 ?_
  refine lv_if_ne (tgt := 37) S.1 S.2.1 dX6_stamped_30 (by decide) (fun c => ?_) (fun c => ?_)
  · replace hok := And.right hok c
    replace hR := (if_neg c).symm.trans hR
    refine lv_aload_n S.1 S.2.1 dX6_stamped_37 rfl (lv_at hl 1 rfl) ?_
    refine fg_X6_34 S K h dX6_stamped_38 ?_
    refine lv_iload_n S.1 S.2.1 dX6_stamped_41 rfl (lv_at hl 2 rfl) ?_
    have k6 := And.left hok
    replace hok := And.right hok
    refine al_M9 S K h k6 dX6_stamped_42 ?_
    refine lv_iconst (v := 4) S.1 S.2.1 dX6_stamped_43 (by decide) ?_
    refine lv_icmp_ne (tgt := 53) S.1 S.2.1 dX6_stamped_44 (by decide) (fun c => ?_) (fun c => ?_)
    · replace hok := And.right hok c
      replace hR := (if_neg c).symm.trans hR
      refine lv_aload_n S.1 S.2.1 dX6_stamped_53 rfl (lv_at hl 1 rfl) ?_
      refine fg_X6_34 S K h dX6_stamped_54 ?_
      refine lv_iload_n S.1 S.2.1 dX6_stamped_57 rfl (lv_at hl 2 rfl) ?_
      have k7 := And.left hok
      replace hok := And.right hok
      refine al_M9 S K h k7 dX6_stamped_58 ?_
      refine lv_iconst (v := 3) S.1 S.2.1 dX6_stamped_59 (by decide) ?_
      refine lv_icmp_ne (tgt := 71) S.1 S.2.1 dX6_stamped_60 (by decide) (fun c => ?_) (fun c => ?_)
      · replace hok := And.right hok c
        replace hR := (if_neg c).symm.trans hR
        refine lv_iconst (v := 2) S.1 S.2.1 dX6_stamped_71 (by decide) ?_
        refine lv_iload_n S.1 S.2.1 dX6_stamped_72 rfl (lv_at hl 0 rfl) ?_
        refine lv_imul S.1 S.2.1 dX6_stamped_73 ?_
        subst hR
        exact g_reti S hr hlocks h dX6_stamped_74
      · replace hok := And.left hok c
        replace hR := (if_pos c).symm.trans hR
        refine lv_iconst (v := 2) S.1 S.2.1 dX6_stamped_63 (by decide) ?_
        refine lv_iload_n S.1 S.2.1 dX6_stamped_64 rfl (lv_at hl 0 rfl) ?_
        refine lv_imul S.1 S.2.1 dX6_stamped_65 ?_
        refine lv_iconst (v := 1) S.1 S.2.1 dX6_stamped_66 (by decide) ?_
        refine lv_isub S.1 S.2.1 dX6_stamped_67 ?_
        refine lv_goto (tgt := 74) S.1 S.2.1 dX6_stamped_68 (by decide) ?_
        subst hR
        exact g_reti S hr hlocks h dX6_stamped_74
    · replace hok := And.left hok c
      replace hR := (if_pos c).symm.trans hR
      refine lv_iconst (v := 3) S.1 S.2.1 dX6_stamped_47 (by decide) ?_
      refine lv_iload_n S.1 S.2.1 dX6_stamped_48 rfl (lv_at hl 0 rfl) ?_
      refine lv_imul S.1 S.2.1 dX6_stamped_49 ?_
      refine lv_goto (tgt := 74) S.1 S.2.1 dX6_stamped_50 (by decide) ?_
      subst hR
      exact g_reti S hr hlocks h dX6_stamped_74
  · replace hok := And.left hok c
    replace hR := (if_pos c).symm.trans hR
    refine lv_iload_n S.1 S.2.1 dX6_stamped_33 rfl (lv_at hl 0 rfl) ?_
    refine lv_goto (tgt := 74) S.1 S.2.1 dX6_stamped_34 (by decide) ?_
    subst hR
    exact g_reti S hr hlocks h dX6_stamped_74
def xr_X6_feed (σ : GS) (a1 : Int32) (a2 : Int32) : Int32 × GS := if (3 : Int32) ≤ (σ 9 a2.toNatClampNeg) then if (σ 9 a2.toNatClampNeg) = 3 then (0, st (st σ 10 a2.toNatClampNeg ((σ 10 a2.toNatClampNeg) + 5)) 22 a1.toNatClampNeg ((st σ 10 a2.toNatClampNeg ((σ 10 a2.toNatClampNeg) + 5)) 10 a2.toNatClampNeg)) else (0, st (st σ 10 a2.toNatClampNeg ((σ 10 a2.toNatClampNeg) * 2)) 22 a1.toNatClampNeg (((st σ 10 a2.toNatClampNeg ((σ 10 a2.toNatClampNeg) * 2)) 10 a2.toNatClampNeg) - ((st σ 10 a2.toNatClampNeg ((σ 10 a2.toNatClampNeg) * 2)) 11 a2.toNatClampNeg))) else (0, st σ 0 27 4)
def xo_X6_feed (σ : GS) (a1 : Int32) (a2 : Int32) : Prop := vp_in a2 64 ∧ (((3 : Int32) ≤ (σ 9 a2.toNatClampNeg) → vp_in a2 64 ∧ (((σ 9 a2.toNatClampNeg) = 3 → vp_in a2 64 ∧ (vp_in a2 64 ∧ (vp_in a2 64 ∧ (vp_in a1 6 ∧ (True))))) ∧ (¬ ((σ 9 a2.toNatClampNeg) = 3) → vp_in a2 64 ∧ (vp_in a2 64 ∧ (vp_in a2 64 ∧ (vp_in a2 64 ∧ (vp_in a1 6 ∧ (True)))))))) ∧ (¬ ((3 : Int32) ≤ (σ 9 a2.toNatClampNeg)) → True))
set_option maxRecDepth 100000 in
set_option maxHeartbeats 4000000 in
theorem c_X6_feed (l : Launch) (D : va_G) (cy : CY) (q : Nat → Nat) (ex : va_W) (A : Nat → Prop) (σ : GS) (a1 : Int32) (a2 : Int32) (hok : xo_X6_feed σ a1 a2) : Met l yX6_feed (wm yX6_feed cX6_feed 3 none) ({ frames := 0, cells := 0, slots := 0, locals := 0 } : Room) (PC D cy (wM cy q σ ++ ex) A [.ref (q 0), .int a1, .int a2]) (QV D (wM cy q (xr_X6_feed σ a1 a2).2 ++ ex) A) 0 0 A := by
  generalize hR : xr_X6_feed σ a1 a2 = R
  refine g_met (lv := [(0, .ref (q 0)), (1, .int a1), (2, .int a2)]) (by decide) rfl (Nat.le_of_ble_eq_true rfl) rfl ?_
  intro p e s m below meth c ls S K h hr hlocks hl
  refine lv_aload_n S.1 S.2.1 dX6_feed_0 rfl (lv_at hl 0 rfl) ?_
  refine fg_X6_34 S K h dX6_feed_1 ?_
  refine lv_iload_n S.1 S.2.1 dX6_feed_4 rfl (lv_at hl 2 rfl) ?_
  have k1 := And.left hok
  replace hok := And.right hok
  refine al_M9 S K h k1 dX6_feed_5 ?_
  refine lv_iconst (v := 3) S.1 S.2.1 dX6_feed_6 (by decide) ?_
  refine lv_icmp_ge (tgt := 18) S.1 S.2.1 dX6_feed_7 (by decide) (fun c => ?_) (fun c => ?_)
  · replace hok := And.left hok c
    replace hR := (if_pos c).symm.trans hR
    refine lv_aload_n S.1 S.2.1 dX6_feed_18 rfl (lv_at hl 0 rfl) ?_
    refine fg_X6_34 S K h dX6_feed_19 ?_
    refine lv_iload_n S.1 S.2.1 dX6_feed_22 rfl (lv_at hl 2 rfl) ?_
    have k2 := And.left hok
    replace hok := And.right hok
    refine al_M9 S K h k2 dX6_feed_23 ?_
    refine lv_iconst (v := 3) S.1 S.2.1 dX6_feed_24 (by decide) ?_
    refine lv_icmp_ne (tgt := 53) S.1 S.2.1 dX6_feed_25 (by decide) (fun c => ?_) (fun c => ?_)
    · replace hok := And.right hok c
      replace hR := (if_neg c).symm.trans hR
      refine lv_aload_n S.1 S.2.1 dX6_feed_53 rfl (lv_at hl 0 rfl) ?_
      refine fg_X6_37 S K h dX6_feed_54 ?_
      refine lv_iload_n S.1 S.2.1 dX6_feed_57 rfl (lv_at hl 2 rfl) ?_
      refine lv_dup2_11 S.1 S.2.1 dX6_feed_58 rfl rfl ?_
      have k3 := And.left hok
      replace hok := And.right hok
      refine al_M10 S K h k3 dX6_feed_59 ?_
      refine lv_iconst (v := 2) S.1 S.2.1 dX6_feed_60 (by decide) ?_
      refine lv_imul S.1 S.2.1 dX6_feed_61 ?_
      have k4 := And.left hok
      replace hok := And.right hok
      refine as_M10 S K h k4 dX6_feed_62 (fun H locs h => ?_)
      refine lv_aload_n S.1 S.2.1 dX6_feed_63 rfl (lv_at hl 0 rfl) ?_
      refine fg_X6_74 S K h dX6_feed_64 ?_
      refine lv_iload_n S.1 S.2.1 dX6_feed_67 rfl (lv_at hl 1 rfl) ?_
      refine lv_aload_n S.1 S.2.1 dX6_feed_68 rfl (lv_at hl 0 rfl) ?_
      refine fg_X6_37 S K h dX6_feed_69 ?_
      refine lv_iload_n S.1 S.2.1 dX6_feed_72 rfl (lv_at hl 2 rfl) ?_
      have k5 := And.left hok
      replace hok := And.right hok
      refine al_M10 S K h k5 dX6_feed_73 ?_
      refine lv_aload_n S.1 S.2.1 dX6_feed_74 rfl (lv_at hl 0 rfl) ?_
      refine fg_X6_40 S K h dX6_feed_75 ?_
      refine lv_iload_n S.1 S.2.1 dX6_feed_78 rfl (lv_at hl 2 rfl) ?_
      have k6 := And.left hok
      replace hok := And.right hok
      refine al_M11 S K h k6 dX6_feed_79 ?_
      refine lv_isub S.1 S.2.1 dX6_feed_80 ?_
      have k7 := And.left hok
      replace hok := And.right hok
      refine as_M22 S K h k7 dX6_feed_81 (fun H locs h => ?_)
      subst hR
      exact g_retv S hr hlocks h dX6_feed_82
    · replace hok := And.left hok c
      replace hR := (if_pos c).symm.trans hR
      refine lv_aload_n S.1 S.2.1 dX6_feed_28 rfl (lv_at hl 0 rfl) ?_
      refine fg_X6_37 S K h dX6_feed_29 ?_
      refine lv_iload_n S.1 S.2.1 dX6_feed_32 rfl (lv_at hl 2 rfl) ?_
      refine lv_dup2_11 S.1 S.2.1 dX6_feed_33 rfl rfl ?_
      have k8 := And.left hok
      replace hok := And.right hok
      refine al_M10 S K h k8 dX6_feed_34 ?_
      refine lv_iconst (v := 5) S.1 S.2.1 dX6_feed_35 (by decide) ?_
      refine lv_iadd S.1 S.2.1 dX6_feed_36 ?_
      have k9 := And.left hok
      replace hok := And.right hok
      refine as_M10 S K h k9 dX6_feed_37 (fun H locs h => ?_)
      refine lv_aload_n S.1 S.2.1 dX6_feed_38 rfl (lv_at hl 0 rfl) ?_
      refine fg_X6_74 S K h dX6_feed_39 ?_
      refine lv_iload_n S.1 S.2.1 dX6_feed_42 rfl (lv_at hl 1 rfl) ?_
      refine lv_aload_n S.1 S.2.1 dX6_feed_43 rfl (lv_at hl 0 rfl) ?_
      refine fg_X6_37 S K h dX6_feed_44 ?_
      refine lv_iload_n S.1 S.2.1 dX6_feed_47 rfl (lv_at hl 2 rfl) ?_
      have k10 := And.left hok
      replace hok := And.right hok
      refine al_M10 S K h k10 dX6_feed_48 ?_
      have k11 := And.left hok
      replace hok := And.right hok
      refine as_M22 S K h k11 dX6_feed_49 (fun H locs h => ?_)
      refine lv_goto (tgt := 82) S.1 S.2.1 dX6_feed_50 (by decide) ?_
      subst hR
      exact g_retv S hr hlocks h dX6_feed_82
  · replace hok := And.right hok c
    replace hR := (if_neg c).symm.trans hR
    refine lv_aload_n S.1 S.2.1 dX6_feed_10 rfl (lv_at hl 0 rfl) ?_
    refine lv_iconst (v := 4) S.1 S.2.1 dX6_feed_11 (by decide) ?_
    refine fp_X6_127 S K h dX6_feed_12 (fun H locs h => ?_)
    refine lv_goto (tgt := 82) S.1 S.2.1 dX6_feed_15 (by decide) ?_
    subst hR
    exact g_retv S hr hlocks h dX6_feed_82
def xr_X6_told (σ : GS) (a1 : Int32) : Int32 × GS := if a1 = 0 then (σ 0 28, σ) else if a1 = 1 then (σ 0 29, σ) else if a1 = 2 then (σ 0 30, σ) else if a1 = 3 then (σ 0 26, σ) else if a1 = 4 then (σ 0 31, σ) else (-101, σ)
def xo_X6_told (σ : GS) (a1 : Int32) : Prop := (a1 = 0 → True) ∧ (¬ (a1 = 0) → (a1 = 1 → True) ∧ (¬ (a1 = 1) → (a1 = 2 → True) ∧ (¬ (a1 = 2) → (a1 = 3 → True) ∧ (¬ (a1 = 3) → (a1 = 4 → True) ∧ (¬ (a1 = 4) → True)))))
set_option maxRecDepth 100000 in
set_option maxHeartbeats 4000000 in
theorem c_X6_told (l : Launch) (D : va_G) (cy : CY) (q : Nat → Nat) (ex : va_W) (A : Nat → Prop) (σ : GS) (a1 : Int32) (hok : xo_X6_told σ a1) : Met l yX6_told (wm yX6_told cX6_told 2 (some .int)) ({ frames := 0, cells := 0, slots := 0, locals := 0 } : Room) (PC D cy (wM cy q σ ++ ex) A [.ref (q 0), .int a1]) (QI D (wM cy q (xr_X6_told σ a1).2 ++ ex) A (xr_X6_told σ a1).1) 0 0 A := by
  generalize hR : xr_X6_told σ a1 = R
  refine g_met (lv := [(0, .ref (q 0)), (1, .int a1)]) (by decide) rfl (Nat.le_of_ble_eq_true rfl) rfl ?_
  intro p e s m below meth c ls S K h hr hlocks hl
  refine lv_iload_n S.1 S.2.1 dX6_told_0 rfl (lv_at hl 1 rfl) ?_
  refine g_em 0 (fun c => ?_) (fun n0 => ?_)
  · replace hok := And.left hok c
    replace hR := (if_pos c).symm.trans hR
    refine g_sw (tgt := 36) S.1 S.2.1 dX6_told_1 c rfl (by decide) (by decide) rfl (by decide) ?_
    refine lv_aload_n S.1 S.2.1 dX6_told_36 rfl (lv_at hl 0 rfl) ?_
    refine fg_X6_94 S K h dX6_told_37 ?_
    subst hR
    exact g_reti S hr hlocks h dX6_told_40
  replace hok := And.right hok n0
  replace hR := (if_neg n0).symm.trans hR
  refine g_em 1 (fun c => ?_) (fun n1 => ?_)
  · replace hok := And.left hok c
    replace hR := (if_pos c).symm.trans hR
    refine g_sw (tgt := 41) S.1 S.2.1 dX6_told_1 c rfl (by decide) (by decide) rfl (by decide) ?_
    refine lv_aload_n S.1 S.2.1 dX6_told_41 rfl (lv_at hl 0 rfl) ?_
    refine fg_X6_97 S K h dX6_told_42 ?_
    subst hR
    exact g_reti S hr hlocks h dX6_told_45
  replace hok := And.right hok n1
  replace hR := (if_neg n1).symm.trans hR
  refine g_em 2 (fun c => ?_) (fun n2 => ?_)
  · replace hok := And.left hok c
    replace hR := (if_pos c).symm.trans hR
    refine g_sw (tgt := 46) S.1 S.2.1 dX6_told_1 c rfl (by decide) (by decide) rfl (by decide) ?_
    refine lv_aload_n S.1 S.2.1 dX6_told_46 rfl (lv_at hl 0 rfl) ?_
    refine fg_X6_100 S K h dX6_told_47 ?_
    subst hR
    exact g_reti S hr hlocks h dX6_told_50
  replace hok := And.right hok n2
  replace hR := (if_neg n2).symm.trans hR
  refine g_em 3 (fun c => ?_) (fun n3 => ?_)
  · replace hok := And.left hok c
    replace hR := (if_pos c).symm.trans hR
    refine g_sw (tgt := 51) S.1 S.2.1 dX6_told_1 c rfl (by decide) (by decide) rfl (by decide) ?_
    refine lv_aload_n S.1 S.2.1 dX6_told_51 rfl (lv_at hl 0 rfl) ?_
    refine fg_X6_91 S K h dX6_told_52 ?_
    subst hR
    exact g_reti S hr hlocks h dX6_told_55
  replace hok := And.right hok n3
  replace hR := (if_neg n3).symm.trans hR
  refine g_em 4 (fun c => ?_) (fun n4 => ?_)
  · replace hok := And.left hok c
    replace hR := (if_pos c).symm.trans hR
    refine g_sw (tgt := 56) S.1 S.2.1 dX6_told_1 c rfl (by decide) (by decide) rfl (by decide) ?_
    refine lv_aload_n S.1 S.2.1 dX6_told_56 rfl (lv_at hl 0 rfl) ?_
    refine fg_X6_103 S K h dX6_told_57 ?_
    subst hR
    exact g_reti S hr hlocks h dX6_told_60
  replace hok := And.right hok n4
  replace hR := (if_neg n4).symm.trans hR
  have m0 := lv_neT (a := 0) n0 rfl
  have m1 := lv_neT (a := 1) n1 rfl
  have m2 := lv_neT (a := 2) n2 rfl
  have m3 := lv_neT (a := 3) n3 rfl
  have m4 := lv_neT (a := 4) n4 rfl
  refine lv_tableOut (tgt := 61) S.1 S.2.1 dX6_told_1 (by omega) (by decide) ?_
  refine lv_bipush (v := -101) S.1 S.2.1 dX6_told_61 (by decide) ?_
  subst hR
  exact g_reti S hr hlocks h dX6_told_63
def xr_X6_caught (σ : GS) (a1 : Int32) : Int32 × GS := if (xr_X6_in a1 1 7) = 0 then (-101, σ) else (σ 23 a1.toNatClampNeg, σ)
def xo_X6_caught (σ : GS) (a1 : Int32) : Prop := (xo_X6_in a1 1 7) ∧ (((xr_X6_in a1 1 7) = 0 → True) ∧ (¬ ((xr_X6_in a1 1 7) = 0) → vp_in a1 8 ∧ (True)))
set_option maxRecDepth 100000 in
set_option maxHeartbeats 4000000 in
theorem c_X6_caught (l : Launch) (D : va_G) (cy : CY) (q : Nat → Nat) (ex : va_W) (A : Nat → Prop) (σ : GS) (a1 : Int32) (hok : xo_X6_caught σ a1) : Met l yX6_caught (wm yX6_caught cX6_caught 2 (some .int)) ({ frames := 1, cells := 0, slots := 0, locals := 22 } : Room) (PC D cy (wM cy q σ ++ ex) A [.ref (q 0), .int a1]) (QI D (wM cy q (xr_X6_caught σ a1).2 ++ ex) A (xr_X6_caught σ a1).1) 0 0 A := by
  generalize hR : xr_X6_caught σ a1 = R
  refine g_met (lv := [(0, .ref (q 0)), (1, .int a1)]) (by decide) rfl (Nat.le_of_ble_eq_true rfl) rfl ?_
  intro p e s m below meth c ls S K h hr hlocks hl
  refine lv_iload_n S.1 S.2.1 dX6_caught_0 rfl (lv_at hl 1 rfl) ?_
  refine lv_iconst (v := 1) S.1 S.2.1 dX6_caught_1 (by decide) ?_
  refine lv_bipush (v := 7) S.1 S.2.1 dX6_caught_2 (by decide) ?_
  have k2 := And.left hok
  replace hok := And.right hok
  refine g_calls S wz_cons K.2 (c_X6_in l _ _ _ k2) kc_X6_in km_X6_106 kt_X6_in kn_X6 yd_X6_in.2 ⟨⟨Nat.le_of_ble_eq_true rfl, Nat.le_of_ble_eq_true rfl⟩, rfl, rfl, Nat.zero_le _, Nat.zero_le _⟩ rfl hl.1 (Nat.le_of_ble_eq_true rfl) rfl dX6_caught_4 ?_
  refine lv_if_eq (tgt := 19) S.1 S.2.1 dX6_caught_7 (by decide) (fun c => ?_) (fun c => ?_)
  · replace hok := And.left hok c
    replace hR := (if_pos c).symm.trans hR
    refine lv_bipush (v := -101) S.1 S.2.1 dX6_caught_19 (by decide) ?_
    subst hR
    exact g_reti S hr hlocks h dX6_caught_21
  · replace hok := And.right hok c
    replace hR := (if_neg c).symm.trans hR
    refine lv_aload_n S.1 S.2.1 dX6_caught_10 rfl (lv_at hl 0 rfl) ?_
    refine fg_X6_77 S K h dX6_caught_11 ?_
    refine lv_iload_n S.1 S.2.1 dX6_caught_14 rfl (lv_at hl 1 rfl) ?_
    have k4 := And.left hok
    replace hok := And.right hok
    refine al_M23 S K h k4 dX6_caught_15 ?_
    refine lv_goto (tgt := 21) S.1 S.2.1 dX6_caught_16 (by decide) ?_
    subst hR
    exact g_reti S hr hlocks h dX6_caught_21
def xr_X6_register (σ : GS) (a1 : Int32) : Int32 × GS := if (xr_X6_isRegister a1) = 0 then (0, σ) else (σ 22 a1.toNatClampNeg, σ)
def xo_X6_register (σ : GS) (a1 : Int32) : Prop := (xo_X6_isRegister a1) ∧ (((xr_X6_isRegister a1) = 0 → True) ∧ (¬ ((xr_X6_isRegister a1) = 0) → vp_in a1 6 ∧ (True)))
set_option maxRecDepth 100000 in
set_option maxHeartbeats 4000000 in
theorem c_X6_register (l : Launch) (D : va_G) (cy : CY) (q : Nat → Nat) (ex : va_W) (A : Nat → Prop) (σ : GS) (a1 : Int32) (hok : xo_X6_register σ a1) : Met l yX6_register (wm yX6_register cX6_register 2 (some .int)) ({ frames := 2, cells := 0, slots := 0, locals := 42 } : Room) (PC D cy (wM cy q σ ++ ex) A [.ref (q 0), .int a1]) (QI D (wM cy q (xr_X6_register σ a1).2 ++ ex) A (xr_X6_register σ a1).1) 0 0 A := by
  generalize hR : xr_X6_register σ a1 = R
  refine g_met (lv := [(0, .ref (q 0)), (1, .int a1)]) (by decide) rfl (Nat.le_of_ble_eq_true rfl) rfl ?_
  intro p e s m below meth c ls S K h hr hlocks hl
  refine lv_iload_n S.1 S.2.1 dX6_register_0 rfl (lv_at hl 1 rfl) ?_
  have k2 := And.left hok
  replace hok := And.right hok
  refine g_calls S wz_cons K.2 (c_X6_isRegister l _ k2) kc_X6_isRegister km_X6_114 kt_X6_isRegister kn_X6 yd_X6_isRegister.2 ⟨⟨Nat.le_of_ble_eq_true rfl, Nat.le_of_ble_eq_true rfl⟩, rfl, rfl, Nat.zero_le _, Nat.zero_le _⟩ rfl hl.1 (Nat.le_of_ble_eq_true rfl) rfl dX6_register_1 ?_
  refine lv_if_eq (tgt := 16) S.1 S.2.1 dX6_register_4 (by decide) (fun c => ?_) (fun c => ?_)
  · replace hok := And.left hok c
    replace hR := (if_pos c).symm.trans hR
    refine lv_iconst (v := 0) S.1 S.2.1 dX6_register_16 (by decide) ?_
    subst hR
    exact g_reti S hr hlocks h dX6_register_17
  · replace hok := And.right hok c
    replace hR := (if_neg c).symm.trans hR
    refine lv_aload_n S.1 S.2.1 dX6_register_7 rfl (lv_at hl 0 rfl) ?_
    refine fg_X6_74 S K h dX6_register_8 ?_
    refine lv_iload_n S.1 S.2.1 dX6_register_11 rfl (lv_at hl 1 rfl) ?_
    have k4 := And.left hok
    replace hok := And.right hok
    refine al_M22 S K h k4 dX6_register_12 ?_
    refine lv_goto (tgt := 17) S.1 S.2.1 dX6_register_13 (by decide) ?_
    subst hR
    exact g_reti S hr hlocks h dX6_register_17
def xl_X6_item_36 : Nat → GS → Int32 → Int32 → Int32 → Int32 → Int32 × GS
  | 0, σ, _, _, _, _ => (0, σ)
  | n + 1, σ, x1, x2, x3, x4 => if (σ 12 x4.toNatClampNeg) = x3 then if x2 = 0 then (σ 9 x3.toNatClampNeg, σ) else if x2 = 1 then (σ 10 x3.toNatClampNeg, σ) else if x2 = 2 then (σ 11 x3.toNatClampNeg, σ) else (x4, σ) else xl_X6_item_36 n σ x1 x2 x3 (x4 + 1)
def xlo_X6_item_36 : Nat → GS → Int32 → Int32 → Int32 → Int32 → Prop
  | 0, _, _, _, _, _ => False
  | n + 1, σ, x1, x2, x3, x4 => vp_in x4 8 ∧ (((σ 12 x4.toNatClampNeg) = x3 → (x2 = 0 → vp_in x3 64 ∧ (True)) ∧ (¬ (x2 = 0) → (x2 = 1 → vp_in x3 64 ∧ (True)) ∧ (¬ (x2 = 1) → (x2 = 2 → vp_in x3 64 ∧ (True)) ∧ (¬ (x2 = 2) → True)))) ∧ (¬ ((σ 12 x4.toNatClampNeg) = x3) → xlo_X6_item_36 n σ x1 x2 x3 (x4 + 1)))
set_option maxRecDepth 100000 in
set_option maxHeartbeats 4000000 in
theorem w_X6_item_36 {p : Program} {l : Launch} {e : Env} {s : State} {m : MethodId} {args : Array Value} {below : List Frame} {meth : Method} {c : Code} {D : va_G} {cy : CY} {q : Nat → Nat} {ex : va_W} {A : Nat → Prop} (S : CallFix p m c cX6_item 5 s args (wm yX6_item cX6_item 5 (some .int)) RX6) (K : KK D cy s) (hr : meth.sig.returnType = (some .int)) (hlocks : meth.locks = false) :
    ∀ (n : Nat) (σ : GS) (x1 : Int32) (x2 : Int32) (x3 : Int32) (x4 : Int32) (H : Heap) (locs : List Loc) (ls : Array Slot) (R : Int32 × GS), xlo_X6_item_36 n σ x1 x2 x3 x4 → xl_X6_item_36 n σ x1 x2 x3 x4 = R → WH D A s.heap H locs (wM cy q σ ++ ex) → lv_has ls 5 [(0, .ref (q 0)), (1, .int x1), (2, .int x2), (3, .int x3), (4, .int x4)] → W p l e ({ frames := 2, cells := 0, slots := 0, locals := 42 } : Room) s m args below meth c H locs 0 0 (MQ below (QI D (wM cy q R.2 ++ ex) A R.1) args s 0 0 A) (F0 m 36 ls []) := by
  intro n
  induction n with
  | zero =>
    intro σ x1 x2 x3 x4 H locs ls R hok
    exact False.elim hok
  | succ n ih =>
    intro σ x1 x2 x3 x4 H locs ls R hok hR h hl
    refine lv_aload_n S.1 S.2.1 dX6_item_36 rfl (lv_at hl 0 rfl) ?_
    refine fg_X6_43 S K h dX6_item_37 ?_
    refine lv_iload S.1 S.2.1 dX6_item_40 (lv_at hl 4 rfl) ?_
    have k8 := And.left hok
    replace hok := And.right hok
    refine al_M12 S K h k8 dX6_item_42 ?_
    refine lv_iload_n S.1 S.2.1 dX6_item_43 rfl (lv_at hl 3 rfl) ?_
    refine lv_icmp_eq (tgt := 53) S.1 S.2.1 dX6_item_44 (by decide) (fun c => ?_) (fun c => ?_)
    · replace hok := And.left hok c
      replace hR := (if_pos c).symm.trans hR
      refine lv_iload_n S.1 S.2.1 dX6_item_53 rfl (lv_at hl 2 rfl) ?_
      refine lv_if_ne (tgt := 66) S.1 S.2.1 dX6_item_54 (by decide) (fun c => ?_) (fun c => ?_)
      · replace hok := And.right hok c
        replace hR := (if_neg c).symm.trans hR
        refine lv_iload_n S.1 S.2.1 dX6_item_66 rfl (lv_at hl 2 rfl) ?_
        refine lv_iconst (v := 1) S.1 S.2.1 dX6_item_67 (by decide) ?_
        refine lv_icmp_ne (tgt := 80) S.1 S.2.1 dX6_item_68 (by decide) (fun c => ?_) (fun c => ?_)
        · replace hok := And.right hok c
          replace hR := (if_neg c).symm.trans hR
          refine lv_iload_n S.1 S.2.1 dX6_item_80 rfl (lv_at hl 2 rfl) ?_
          refine lv_iconst (v := 2) S.1 S.2.1 dX6_item_81 (by decide) ?_
          refine lv_icmp_ne (tgt := 94) S.1 S.2.1 dX6_item_82 (by decide) (fun c => ?_) (fun c => ?_)
          · replace hok := And.right hok c
            replace hR := (if_neg c).symm.trans hR
            refine lv_iload S.1 S.2.1 dX6_item_94 (lv_at hl 4 rfl) ?_
            subst hR
            exact g_reti S hr hlocks h dX6_item_96
          · replace hok := And.left hok c
            replace hR := (if_pos c).symm.trans hR
            refine lv_aload_n S.1 S.2.1 dX6_item_85 rfl (lv_at hl 0 rfl) ?_
            refine fg_X6_40 S K h dX6_item_86 ?_
            refine lv_iload_n S.1 S.2.1 dX6_item_89 rfl (lv_at hl 3 rfl) ?_
            have k9 := And.left hok
            replace hok := And.right hok
            refine al_M11 S K h k9 dX6_item_90 ?_
            refine lv_goto (tgt := 96) S.1 S.2.1 dX6_item_91 (by decide) ?_
            subst hR
            exact g_reti S hr hlocks h dX6_item_96
        · replace hok := And.left hok c
          replace hR := (if_pos c).symm.trans hR
          refine lv_aload_n S.1 S.2.1 dX6_item_71 rfl (lv_at hl 0 rfl) ?_
          refine fg_X6_37 S K h dX6_item_72 ?_
          refine lv_iload_n S.1 S.2.1 dX6_item_75 rfl (lv_at hl 3 rfl) ?_
          have k10 := And.left hok
          replace hok := And.right hok
          refine al_M10 S K h k10 dX6_item_76 ?_
          refine lv_goto (tgt := 96) S.1 S.2.1 dX6_item_77 (by decide) ?_
          subst hR
          exact g_reti S hr hlocks h dX6_item_96
      · replace hok := And.left hok c
        replace hR := (if_pos c).symm.trans hR
        refine lv_aload_n S.1 S.2.1 dX6_item_57 rfl (lv_at hl 0 rfl) ?_
        refine fg_X6_34 S K h dX6_item_58 ?_
        refine lv_iload_n S.1 S.2.1 dX6_item_61 rfl (lv_at hl 3 rfl) ?_
        have k11 := And.left hok
        replace hok := And.right hok
        refine al_M9 S K h k11 dX6_item_62 ?_
        refine lv_goto (tgt := 96) S.1 S.2.1 dX6_item_63 (by decide) ?_
        subst hR
        exact g_reti S hr hlocks h dX6_item_96
    · replace hok := And.right hok c
      replace hR := (if_neg c).symm.trans hR
      refine lv_iinc (v := _ + 1) (lv' := [(4, .int _), (0, .ref _), (1, .int _), (2, .int _), (3, .int _)]) S.1 S.2.1 dX6_item_47 hl (k := 4) rfl rfl (by decide) rfl (fun ls hl => ?_)
      refine lv_goto (tgt := 36) S.1 S.2.1 dX6_item_50 (by decide) ?_
      exact ih _ _ _ _ _ _ _ _ R hok hR h (lv_sub hl [1, 2, 3, 4, 0] rfl)
def xr_X6_item (σ : GS) (a1 : Int32) (a2 : Int32) : Int32 × GS := if (xr_X6_isPlace a1) = 0 then (-101, σ) else if (xr_X6_in a2 0 3) = 0 then (-101, σ) else if (σ 12 a1.toNatClampNeg) = (-1) then (-1, σ) else xl_X6_item_36 100 σ a1 a2 (σ 12 a1.toNatClampNeg) 0
def xo_X6_item (σ : GS) (a1 : Int32) (a2 : Int32) : Prop := (xo_X6_isPlace a1) ∧ (((xr_X6_isPlace a1) = 0 → True) ∧ (¬ ((xr_X6_isPlace a1) = 0) → (xo_X6_in a2 0 3) ∧ (((xr_X6_in a2 0 3) = 0 → True) ∧ (¬ ((xr_X6_in a2 0 3) = 0) → vp_in a1 8 ∧ (((σ 12 a1.toNatClampNeg) = (-1) → True) ∧ (¬ ((σ 12 a1.toNatClampNeg) = (-1)) → xlo_X6_item_36 100 σ a1 a2 (σ 12 a1.toNatClampNeg) 0))))))
set_option maxRecDepth 100000 in
set_option maxHeartbeats 4000000 in
theorem c_X6_item (l : Launch) (D : va_G) (cy : CY) (q : Nat → Nat) (ex : va_W) (A : Nat → Prop) (σ : GS) (a1 : Int32) (a2 : Int32) (hok : xo_X6_item σ a1 a2) : Met l yX6_item (wm yX6_item cX6_item 5 (some .int)) ({ frames := 2, cells := 0, slots := 0, locals := 42 } : Room) (PC D cy (wM cy q σ ++ ex) A [.ref (q 0), .int a1, .int a2]) (QI D (wM cy q (xr_X6_item σ a1 a2).2 ++ ex) A (xr_X6_item σ a1 a2).1) 0 0 A := by
  generalize hR : xr_X6_item σ a1 a2 = R
  refine g_met (lv := [(0, .ref (q 0)), (1, .int a1), (2, .int a2)]) (by decide) rfl (Nat.le_of_ble_eq_true rfl) rfl ?_
  intro p e s m below meth c ls S K h hr hlocks hl
  refine lv_iload_n S.1 S.2.1 dX6_item_0 rfl (lv_at hl 1 rfl) ?_
  have k2 := And.left hok
  replace hok := And.right hok
  refine g_calls S wz_cons K.2 (c_X6_isPlace l _ k2) kc_X6_isPlace km_X6_110 kt_X6_isPlace kn_X6 yd_X6_isPlace.2 ⟨⟨Nat.le_of_ble_eq_true rfl, Nat.le_of_ble_eq_true rfl⟩, rfl, rfl, Nat.zero_le _, Nat.zero_le _⟩ rfl hl.1 (Nat.le_of_ble_eq_true rfl) rfl dX6_item_1 ?_
  refine lv_if_eq (tgt := 16) S.1 S.2.1 dX6_item_4 (by decide) (fun c => ?_) (fun c => ?_)
  · replace hok := And.left hok c
    replace hR := (if_pos c).symm.trans hR
    refine lv_bipush (v := -101) S.1 S.2.1 dX6_item_16 (by decide) ?_
    subst hR
    exact g_reti S hr hlocks h dX6_item_18
  · replace hok := And.right hok c
    replace hR := (if_neg c).symm.trans hR
    refine lv_iload_n S.1 S.2.1 dX6_item_7 rfl (lv_at hl 2 rfl) ?_
    refine lv_iconst (v := 0) S.1 S.2.1 dX6_item_8 (by decide) ?_
    refine lv_iconst (v := 3) S.1 S.2.1 dX6_item_9 (by decide) ?_
    have k5 := And.left hok
    replace hok := And.right hok
    refine g_calls S wz_cons K.2 (c_X6_in l _ _ _ k5) kc_X6_in km_X6_106 kt_X6_in kn_X6 yd_X6_in.2 ⟨⟨Nat.le_of_ble_eq_true rfl, Nat.le_of_ble_eq_true rfl⟩, rfl, rfl, Nat.zero_le _, Nat.zero_le _⟩ rfl hl.1 (Nat.le_of_ble_eq_true rfl) rfl dX6_item_10 ?_
    refine lv_if_ne (tgt := 19) S.1 S.2.1 dX6_item_13 (by decide) (fun c => ?_) (fun c => ?_)
    · replace hok := And.right hok c
      replace hR := (if_neg c).symm.trans hR
      refine lv_aload_n S.1 S.2.1 dX6_item_19 rfl (lv_at hl 0 rfl) ?_
      refine fg_X6_43 S K h dX6_item_20 ?_
      refine lv_iload_n S.1 S.2.1 dX6_item_23 rfl (lv_at hl 1 rfl) ?_
      have k7 := And.left hok
      replace hok := And.right hok
      refine al_M12 S K h k7 dX6_item_24 ?_
      refine lv_istore_n (lv' := [(3, .int _), (0, .ref _), (1, .int _), (2, .int _)]) S.1 S.2.1 dX6_item_25 rfl hl (by decide) rfl (fun ls hl => ?_)
      refine lv_iload_n S.1 S.2.1 dX6_item_26 rfl (lv_at hl 0 rfl) ?_
      refine lv_iconst (v := -1) S.1 S.2.1 dX6_item_27 (by decide) ?_
      refine lv_icmp_ne (tgt := 33) S.1 S.2.1 dX6_item_28 (by decide) (fun c => ?_) (fun c => ?_)
      · replace hok := And.right hok c
        replace hR := (if_neg c).symm.trans hR
        refine lv_iconst (v := 0) S.1 S.2.1 dX6_item_33 (by decide) ?_
        refine lv_istore (lv' := [(4, .int _), (3, .int _), (0, .ref _), (1, .int _), (2, .int _)]) S.1 S.2.1 dX6_item_34 hl (by decide) rfl (fun ls hl => ?_)
        exact w_X6_item_36  S K hr hlocks 100 _ _ _ _ _ _ _ _ R hok hR h (lv_sub hl [2, 3, 4, 1, 0] rfl)
      · replace hok := And.left hok c
        replace hR := (if_pos c).symm.trans hR
        refine lv_iconst (v := -1) S.1 S.2.1 dX6_item_31 (by decide) ?_
        subst hR
        exact g_reti S hr hlocks h dX6_item_32
    · replace hok := And.left hok c
      replace hR := (if_pos c).symm.trans hR
      refine lv_bipush (v := -101) S.1 S.2.1 dX6_item_16 (by decide) ?_
      subst hR
      exact g_reti S hr hlocks h dX6_item_18
def xr_X6_row (σ : GS) (a1 : Int32) (a2 : Int32) : Int32 × GS := if a2 = 0 then if (xr_X6_in a1 0 3) = 0 then (-101, σ) else if a2 = 0 then (σ 13 a1.toNatClampNeg, σ) else if (σ 13 a1.toNatClampNeg) = (-1) then (-1, σ) else (σ 14 a1.toNatClampNeg, σ) else if a2 = 3 then if (xr_X6_in a1 0 3) = 0 then (-101, σ) else if a2 = 0 then (σ 13 a1.toNatClampNeg, σ) else if (σ 13 a1.toNatClampNeg) = (-1) then (-1, σ) else (σ 14 a1.toNatClampNeg, σ) else if a2 = 1 then if (xr_X6_in a1 0 2) = 0 then (-101, σ) else (σ 16 a1.toNatClampNeg, σ) else if a2 = 2 then if (xr_X6_in a1 0 1) = 0 then (-101, σ) else (σ 18 a1.toNatClampNeg, σ) else (-101, σ)
def xo_X6_row (σ : GS) (a1 : Int32) (a2 : Int32) : Prop := (a2 = 0 → (xo_X6_in a1 0 3) ∧ (((xr_X6_in a1 0 3) = 0 → True) ∧ (¬ ((xr_X6_in a1 0 3) = 0) → (a2 = 0 → vp_in a1 4 ∧ (True)) ∧ (¬ (a2 = 0) → vp_in a1 4 ∧ (((σ 13 a1.toNatClampNeg) = (-1) → True) ∧ (¬ ((σ 13 a1.toNatClampNeg) = (-1)) → vp_in a1 4 ∧ (True))))))) ∧ (¬ (a2 = 0) → (a2 = 3 → (xo_X6_in a1 0 3) ∧ (((xr_X6_in a1 0 3) = 0 → True) ∧ (¬ ((xr_X6_in a1 0 3) = 0) → (a2 = 0 → vp_in a1 4 ∧ (True)) ∧ (¬ (a2 = 0) → vp_in a1 4 ∧ (((σ 13 a1.toNatClampNeg) = (-1) → True) ∧ (¬ ((σ 13 a1.toNatClampNeg) = (-1)) → vp_in a1 4 ∧ (True))))))) ∧ (¬ (a2 = 3) → (a2 = 1 → (xo_X6_in a1 0 2) ∧ (((xr_X6_in a1 0 2) = 0 → True) ∧ (¬ ((xr_X6_in a1 0 2) = 0) → vp_in a1 3 ∧ (True)))) ∧ (¬ (a2 = 1) → (a2 = 2 → (xo_X6_in a1 0 1) ∧ (((xr_X6_in a1 0 1) = 0 → True) ∧ (¬ ((xr_X6_in a1 0 1) = 0) → vp_in a1 2 ∧ (True)))) ∧ (¬ (a2 = 2) → True))))
set_option maxRecDepth 100000 in
set_option maxHeartbeats 4000000 in
theorem c_X6_row (l : Launch) (D : va_G) (cy : CY) (q : Nat → Nat) (ex : va_W) (A : Nat → Prop) (σ : GS) (a1 : Int32) (a2 : Int32) (hok : xo_X6_row σ a1 a2) : Met l yX6_row (wm yX6_row cX6_row 3 (some .int)) ({ frames := 1, cells := 0, slots := 0, locals := 22 } : Room) (PC D cy (wM cy q σ ++ ex) A [.ref (q 0), .int a1, .int a2]) (QI D (wM cy q (xr_X6_row σ a1 a2).2 ++ ex) A (xr_X6_row σ a1 a2).1) 0 0 A := by
  generalize hR : xr_X6_row σ a1 a2 = R
  refine g_met (lv := [(0, .ref (q 0)), (1, .int a1), (2, .int a2)]) (by decide) rfl (Nat.le_of_ble_eq_true rfl) rfl ?_
  intro p e s m below meth c ls S K h hr hlocks hl
  refine lv_iload_n S.1 S.2.1 dX6_row_0 rfl (lv_at hl 2 rfl) ?_
  refine lv_if_eq (tgt := 9) S.1 S.2.1 dX6_row_1 (by decide) (fun c => ?_) (fun c => ?_)
  · replace hok := And.left hok c
    replace hR := (if_pos c).symm.trans hR
    refine lv_iload_n S.1 S.2.1 dX6_row_9 rfl (lv_at hl 1 rfl) ?_
    refine lv_iconst (v := 0) S.1 S.2.1 dX6_row_10 (by decide) ?_
    refine lv_iconst (v := 3) S.1 S.2.1 dX6_row_11 (by decide) ?_
    have k2 := And.left hok
    replace hok := And.right hok
    refine g_calls S wz_cons K.2 (c_X6_in l _ _ _ k2) kc_X6_in km_X6_106 kt_X6_in kn_X6 yd_X6_in.2 ⟨⟨Nat.le_of_ble_eq_true rfl, Nat.le_of_ble_eq_true rfl⟩, rfl, rfl, Nat.zero_le _, Nat.zero_le _⟩ rfl hl.1 (Nat.le_of_ble_eq_true rfl) rfl dX6_row_12 ?_
    refine lv_if_ne (tgt := 23) S.1 S.2.1 dX6_row_15 (by decide) (fun c => ?_) (fun c => ?_)
    · replace hok := And.right hok c
      replace hR := (if_neg c).symm.trans hR
      refine lv_iload_n S.1 S.2.1 dX6_row_23 rfl (lv_at hl 2 rfl) ?_
      refine lv_if_ne (tgt := 36) S.1 S.2.1 dX6_row_24 (by decide) (fun c => ?_) (fun c => ?_)
      · replace hok := And.right hok c
        replace hR := (if_neg c).symm.trans hR
        refine lv_aload_n S.1 S.2.1 dX6_row_36 rfl (lv_at hl 0 rfl) ?_
        refine fg_X6_46 S K h dX6_row_37 ?_
        refine lv_iload_n S.1 S.2.1 dX6_row_40 rfl (lv_at hl 1 rfl) ?_
        have k4 := And.left hok
        replace hok := And.right hok
        refine al_M13 S K h k4 dX6_row_41 ?_
        refine lv_iconst (v := -1) S.1 S.2.1 dX6_row_42 (by decide) ?_
        refine lv_icmp_ne (tgt := 50) S.1 S.2.1 dX6_row_43 (by decide) (fun c => ?_) (fun c => ?_)
        · replace hok := And.right hok c
          replace hR := (if_neg c).symm.trans hR
          refine lv_aload_n S.1 S.2.1 dX6_row_50 rfl (lv_at hl 0 rfl) ?_
          refine fg_X6_49 S K h dX6_row_51 ?_
          refine lv_iload_n S.1 S.2.1 dX6_row_54 rfl (lv_at hl 1 rfl) ?_
          have k5 := And.left hok
          replace hok := And.right hok
          refine al_M14 S K h k5 dX6_row_55 ?_
          subst hR
          exact g_reti S hr hlocks h dX6_row_56
        · replace hok := And.left hok c
          replace hR := (if_pos c).symm.trans hR
          refine lv_iconst (v := -1) S.1 S.2.1 dX6_row_46 (by decide) ?_
          refine lv_goto (tgt := 56) S.1 S.2.1 dX6_row_47 (by decide) ?_
          subst hR
          exact g_reti S hr hlocks h dX6_row_56
      · replace hok := And.left hok c
        replace hR := (if_pos c).symm.trans hR
        refine lv_aload_n S.1 S.2.1 dX6_row_27 rfl (lv_at hl 0 rfl) ?_
        refine fg_X6_46 S K h dX6_row_28 ?_
        refine lv_iload_n S.1 S.2.1 dX6_row_31 rfl (lv_at hl 1 rfl) ?_
        have k6 := And.left hok
        replace hok := And.right hok
        refine al_M13 S K h k6 dX6_row_32 ?_
        refine lv_goto (tgt := 56) S.1 S.2.1 dX6_row_33 (by decide) ?_
        subst hR
        exact g_reti S hr hlocks h dX6_row_56
    · replace hok := And.left hok c
      replace hR := (if_pos c).symm.trans hR
      refine lv_bipush (v := -101) S.1 S.2.1 dX6_row_18 (by decide) ?_
      refine lv_goto (tgt := 56) S.1 S.2.1 dX6_row_20 (by decide) ?_
      subst hR
      exact g_reti S hr hlocks h dX6_row_56
  · replace hok := And.right hok c
    replace hR := (if_neg c).symm.trans hR
    refine lv_iload_n S.1 S.2.1 dX6_row_4 rfl (lv_at hl 2 rfl) ?_
    refine lv_iconst (v := 3) S.1 S.2.1 dX6_row_5 (by decide) ?_
    refine lv_icmp_ne (tgt := 57) S.1 S.2.1 dX6_row_6 (by decide) (fun c => ?_) (fun c => ?_)
    · replace hok := And.right hok c
      replace hR := (if_neg c).symm.trans hR
      refine lv_iload_n S.1 S.2.1 dX6_row_57 rfl (lv_at hl 2 rfl) ?_
      refine lv_iconst (v := 1) S.1 S.2.1 dX6_row_58 (by decide) ?_
      refine lv_icmp_ne (tgt := 83) S.1 S.2.1 dX6_row_59 (by decide) (fun c => ?_) (fun c => ?_)
      · replace hok := And.right hok c
        replace hR := (if_neg c).symm.trans hR
        refine lv_iload_n S.1 S.2.1 dX6_row_83 rfl (lv_at hl 2 rfl) ?_
        refine lv_iconst (v := 2) S.1 S.2.1 dX6_row_84 (by decide) ?_
        refine lv_icmp_ne (tgt := 106) S.1 S.2.1 dX6_row_85 (by decide) (fun c => ?_) (fun c => ?_)
        · replace hok := And.right hok c
          replace hR := (if_neg c).symm.trans hR
          refine lv_bipush (v := -101) S.1 S.2.1 dX6_row_106 (by decide) ?_
          subst hR
          exact g_reti S hr hlocks h dX6_row_108
        · replace hok := And.left hok c
          replace hR := (if_pos c).symm.trans hR
          refine lv_iload_n S.1 S.2.1 dX6_row_88 rfl (lv_at hl 1 rfl) ?_
          refine lv_iconst (v := 0) S.1 S.2.1 dX6_row_89 (by decide) ?_
          refine lv_iconst (v := 1) S.1 S.2.1 dX6_row_90 (by decide) ?_
          have k8 := And.left hok
          replace hok := And.right hok
          refine g_calls S wz_cons K.2 (c_X6_in l _ _ _ k8) kc_X6_in km_X6_106 kt_X6_in kn_X6 yd_X6_in.2 ⟨⟨Nat.le_of_ble_eq_true rfl, Nat.le_of_ble_eq_true rfl⟩, rfl, rfl, Nat.zero_le _, Nat.zero_le _⟩ rfl hl.1 (Nat.le_of_ble_eq_true rfl) rfl dX6_row_91 ?_
          refine lv_if_eq (tgt := 106) S.1 S.2.1 dX6_row_94 (by decide) (fun c => ?_) (fun c => ?_)
          · replace hok := And.left hok c
            replace hR := (if_pos c).symm.trans hR
            refine lv_bipush (v := -101) S.1 S.2.1 dX6_row_106 (by decide) ?_
            subst hR
            exact g_reti S hr hlocks h dX6_row_108
          · replace hok := And.right hok c
            replace hR := (if_neg c).symm.trans hR
            refine lv_aload_n S.1 S.2.1 dX6_row_97 rfl (lv_at hl 0 rfl) ?_
            refine fg_X6_61 S K h dX6_row_98 ?_
            refine lv_iload_n S.1 S.2.1 dX6_row_101 rfl (lv_at hl 1 rfl) ?_
            have k10 := And.left hok
            replace hok := And.right hok
            refine al_M18 S K h k10 dX6_row_102 ?_
            refine lv_goto (tgt := 108) S.1 S.2.1 dX6_row_103 (by decide) ?_
            subst hR
            exact g_reti S hr hlocks h dX6_row_108
      · replace hok := And.left hok c
        replace hR := (if_pos c).symm.trans hR
        refine lv_iload_n S.1 S.2.1 dX6_row_62 rfl (lv_at hl 1 rfl) ?_
        refine lv_iconst (v := 0) S.1 S.2.1 dX6_row_63 (by decide) ?_
        refine lv_iconst (v := 2) S.1 S.2.1 dX6_row_64 (by decide) ?_
        have k12 := And.left hok
        replace hok := And.right hok
        refine g_calls S wz_cons K.2 (c_X6_in l _ _ _ k12) kc_X6_in km_X6_106 kt_X6_in kn_X6 yd_X6_in.2 ⟨⟨Nat.le_of_ble_eq_true rfl, Nat.le_of_ble_eq_true rfl⟩, rfl, rfl, Nat.zero_le _, Nat.zero_le _⟩ rfl hl.1 (Nat.le_of_ble_eq_true rfl) rfl dX6_row_65 ?_
        refine lv_if_eq (tgt := 80) S.1 S.2.1 dX6_row_68 (by decide) (fun c => ?_) (fun c => ?_)
        · replace hok := And.left hok c
          replace hR := (if_pos c).symm.trans hR
          refine lv_bipush (v := -101) S.1 S.2.1 dX6_row_80 (by decide) ?_
          subst hR
          exact g_reti S hr hlocks h dX6_row_82
        · replace hok := And.right hok c
          replace hR := (if_neg c).symm.trans hR
          refine lv_aload_n S.1 S.2.1 dX6_row_71 rfl (lv_at hl 0 rfl) ?_
          refine fg_X6_55 S K h dX6_row_72 ?_
          refine lv_iload_n S.1 S.2.1 dX6_row_75 rfl (lv_at hl 1 rfl) ?_
          have k14 := And.left hok
          replace hok := And.right hok
          refine al_M16 S K h k14 dX6_row_76 ?_
          refine lv_goto (tgt := 82) S.1 S.2.1 dX6_row_77 (by decide) ?_
          subst hR
          exact g_reti S hr hlocks h dX6_row_82
    · replace hok := And.left hok c
      replace hR := (if_pos c).symm.trans hR
      refine lv_iload_n S.1 S.2.1 dX6_row_9 rfl (lv_at hl 1 rfl) ?_
      refine lv_iconst (v := 0) S.1 S.2.1 dX6_row_10 (by decide) ?_
      refine lv_iconst (v := 3) S.1 S.2.1 dX6_row_11 (by decide) ?_
      have k16 := And.left hok
      replace hok := And.right hok
      refine g_calls S wz_cons K.2 (c_X6_in l _ _ _ k16) kc_X6_in km_X6_106 kt_X6_in kn_X6 yd_X6_in.2 ⟨⟨Nat.le_of_ble_eq_true rfl, Nat.le_of_ble_eq_true rfl⟩, rfl, rfl, Nat.zero_le _, Nat.zero_le _⟩ rfl hl.1 (Nat.le_of_ble_eq_true rfl) rfl dX6_row_12 ?_
      refine lv_if_ne (tgt := 23) S.1 S.2.1 dX6_row_15 (by decide) (fun c => ?_) (fun c => ?_)
      · replace hok := And.right hok c
        replace hR := (if_neg c).symm.trans hR
        refine lv_iload_n S.1 S.2.1 dX6_row_23 rfl (lv_at hl 2 rfl) ?_
        refine lv_if_ne (tgt := 36) S.1 S.2.1 dX6_row_24 (by decide) (fun c => ?_) (fun c => ?_)
        · replace hok := And.right hok c
          replace hR := (if_neg c).symm.trans hR
          refine lv_aload_n S.1 S.2.1 dX6_row_36 rfl (lv_at hl 0 rfl) ?_
          refine fg_X6_46 S K h dX6_row_37 ?_
          refine lv_iload_n S.1 S.2.1 dX6_row_40 rfl (lv_at hl 1 rfl) ?_
          have k18 := And.left hok
          replace hok := And.right hok
          refine al_M13 S K h k18 dX6_row_41 ?_
          refine lv_iconst (v := -1) S.1 S.2.1 dX6_row_42 (by decide) ?_
          refine lv_icmp_ne (tgt := 50) S.1 S.2.1 dX6_row_43 (by decide) (fun c => ?_) (fun c => ?_)
          · replace hok := And.right hok c
            replace hR := (if_neg c).symm.trans hR
            refine lv_aload_n S.1 S.2.1 dX6_row_50 rfl (lv_at hl 0 rfl) ?_
            refine fg_X6_49 S K h dX6_row_51 ?_
            refine lv_iload_n S.1 S.2.1 dX6_row_54 rfl (lv_at hl 1 rfl) ?_
            have k19 := And.left hok
            replace hok := And.right hok
            refine al_M14 S K h k19 dX6_row_55 ?_
            subst hR
            exact g_reti S hr hlocks h dX6_row_56
          · replace hok := And.left hok c
            replace hR := (if_pos c).symm.trans hR
            refine lv_iconst (v := -1) S.1 S.2.1 dX6_row_46 (by decide) ?_
            refine lv_goto (tgt := 56) S.1 S.2.1 dX6_row_47 (by decide) ?_
            subst hR
            exact g_reti S hr hlocks h dX6_row_56
        · replace hok := And.left hok c
          replace hR := (if_pos c).symm.trans hR
          refine lv_aload_n S.1 S.2.1 dX6_row_27 rfl (lv_at hl 0 rfl) ?_
          refine fg_X6_46 S K h dX6_row_28 ?_
          refine lv_iload_n S.1 S.2.1 dX6_row_31 rfl (lv_at hl 1 rfl) ?_
          have k20 := And.left hok
          replace hok := And.right hok
          refine al_M13 S K h k20 dX6_row_32 ?_
          refine lv_goto (tgt := 56) S.1 S.2.1 dX6_row_33 (by decide) ?_
          subst hR
          exact g_reti S hr hlocks h dX6_row_56
      · replace hok := And.left hok c
        replace hR := (if_pos c).symm.trans hR
        refine lv_bipush (v := -101) S.1 S.2.1 dX6_row_18 (by decide) ?_
        refine lv_goto (tgt := 56) S.1 S.2.1 dX6_row_20 (by decide) ?_
        subst hR
        exact g_reti S hr hlocks h dX6_row_56
def xr_X6_onBelt (σ : GS) (a1 : Int32) (a2 : Int32) : Int32 × GS := if (xr_X6_in a1 0 3) = 0 then (-101, σ) else if (xr_X6_in a2 0 ((σ 13 a1.toNatClampNeg) - 1)) = 0 then if (0 : Int32) = 0 then (-1, σ) else (σ 9 (σ 15 ((8 * a1) + a2).toNatClampNeg).toNatClampNeg, σ) else if (σ 15 ((8 * a1) + a2).toNatClampNeg) = (-1) then if (0 : Int32) = 0 then (-1, σ) else (σ 9 (σ 15 ((8 * a1) + a2).toNatClampNeg).toNatClampNeg, σ) else if (1 : Int32) = 0 then (-1, σ) else (σ 9 (σ 15 ((8 * a1) + a2).toNatClampNeg).toNatClampNeg, σ)
def xo_X6_onBelt (σ : GS) (a1 : Int32) (a2 : Int32) : Prop := (xo_X6_in a1 0 3) ∧ (((xr_X6_in a1 0 3) = 0 → True) ∧ (¬ ((xr_X6_in a1 0 3) = 0) → vp_in a1 4 ∧ ((xo_X6_in a2 0 ((σ 13 a1.toNatClampNeg) - 1)) ∧ (((xr_X6_in a2 0 ((σ 13 a1.toNatClampNeg) - 1)) = 0 → ((0 : Int32) = 0 → True) ∧ (¬ ((0 : Int32) = 0) → vp_in ((8 * a1) + a2) 32 ∧ (vp_in (σ 15 ((8 * a1) + a2).toNatClampNeg) 64 ∧ (True)))) ∧ (¬ ((xr_X6_in a2 0 ((σ 13 a1.toNatClampNeg) - 1)) = 0) → vp_in ((8 * a1) + a2) 32 ∧ (((σ 15 ((8 * a1) + a2).toNatClampNeg) = (-1) → ((0 : Int32) = 0 → True) ∧ (¬ ((0 : Int32) = 0) → vp_in ((8 * a1) + a2) 32 ∧ (vp_in (σ 15 ((8 * a1) + a2).toNatClampNeg) 64 ∧ (True)))) ∧ (¬ ((σ 15 ((8 * a1) + a2).toNatClampNeg) = (-1)) → ((1 : Int32) = 0 → True) ∧ (¬ ((1 : Int32) = 0) → vp_in ((8 * a1) + a2) 32 ∧ (vp_in (σ 15 ((8 * a1) + a2).toNatClampNeg) 64 ∧ (True))))))))))
set_option maxRecDepth 100000 in
set_option maxHeartbeats 4000000 in
theorem c_X6_onBelt (l : Launch) (D : va_G) (cy : CY) (q : Nat → Nat) (ex : va_W) (A : Nat → Prop) (σ : GS) (a1 : Int32) (a2 : Int32) (hok : xo_X6_onBelt σ a1 a2) : Met l yX6_onBelt (wm yX6_onBelt cX6_onBelt 4 (some .int)) ({ frames := 1, cells := 0, slots := 0, locals := 22 } : Room) (PC D cy (wM cy q σ ++ ex) A [.ref (q 0), .int a1, .int a2]) (QI D (wM cy q (xr_X6_onBelt σ a1 a2).2 ++ ex) A (xr_X6_onBelt σ a1 a2).1) 0 0 A := by
  generalize hR : xr_X6_onBelt σ a1 a2 = R
  refine g_met (lv := [(0, .ref (q 0)), (1, .int a1), (2, .int a2)]) (by decide) rfl (Nat.le_of_ble_eq_true rfl) rfl ?_
  intro p e s m below meth c ls S K h hr hlocks hl
  refine lv_iload_n S.1 S.2.1 dX6_onBelt_0 rfl (lv_at hl 1 rfl) ?_
  refine lv_iconst (v := 0) S.1 S.2.1 dX6_onBelt_1 (by decide) ?_
  refine lv_iconst (v := 3) S.1 S.2.1 dX6_onBelt_2 (by decide) ?_
  have k2 := And.left hok
  replace hok := And.right hok
  refine g_calls S wz_cons K.2 (c_X6_in l _ _ _ k2) kc_X6_in km_X6_106 kt_X6_in kn_X6 yd_X6_in.2 ⟨⟨Nat.le_of_ble_eq_true rfl, Nat.le_of_ble_eq_true rfl⟩, rfl, rfl, Nat.zero_le _, Nat.zero_le _⟩ rfl hl.1 (Nat.le_of_ble_eq_true rfl) rfl dX6_onBelt_3 ?_
  refine lv_if_ne (tgt := 12) S.1 S.2.1 dX6_onBelt_6 (by decide) (fun c => ?_) (fun c => ?_)
  · replace hok := And.right hok c
    replace hR := (if_neg c).symm.trans hR
    refine lv_iload_n S.1 S.2.1 dX6_onBelt_12 rfl (lv_at hl 2 rfl) ?_
    refine lv_iconst (v := 0) S.1 S.2.1 dX6_onBelt_13 (by decide) ?_
    refine lv_aload_n S.1 S.2.1 dX6_onBelt_14 rfl (lv_at hl 0 rfl) ?_
    refine fg_X6_46 S K h dX6_onBelt_15 ?_
    refine lv_iload_n S.1 S.2.1 dX6_onBelt_18 rfl (lv_at hl 1 rfl) ?_
    have k4 := And.left hok
    replace hok := And.right hok
    refine al_M13 S K h k4 dX6_onBelt_19 ?_
    refine lv_iconst (v := 1) S.1 S.2.1 dX6_onBelt_20 (by decide) ?_
    refine lv_isub S.1 S.2.1 dX6_onBelt_21 ?_
    have k6 := And.left hok
    replace hok := And.right hok
    refine g_calls S wz_cons K.2 (c_X6_in l _ _ _ k6) kc_X6_in km_X6_106 kt_X6_in kn_X6 yd_X6_in.2 ⟨⟨Nat.le_of_ble_eq_true rfl, Nat.le_of_ble_eq_true rfl⟩, rfl, rfl, Nat.zero_le _, Nat.zero_le _⟩ rfl hl.1 (Nat.le_of_ble_eq_true rfl) rfl dX6_onBelt_22 ?_
    refine lv_if_eq (tgt := 47) S.1 S.2.1 dX6_onBelt_25 (by decide) (fun c => ?_) (fun c => ?_)
    · replace hok := And.left hok c
      replace hR := (if_pos c).symm.trans hR
      refine lv_iconst (v := 0) S.1 S.2.1 dX6_onBelt_47 (by decide) ?_
      refine lv_istore_n (lv' := [(3, .int _), (0, .ref _), (1, .int _), (2, .int _)]) S.1 S.2.1 dX6_onBelt_48 rfl hl (by decide) rfl (fun ls hl => ?_)
      refine lv_iload_n S.1 S.2.1 dX6_onBelt_49 rfl (lv_at hl 0 rfl) ?_
      refine lv_if_eq (tgt := 72) S.1 S.2.1 dX6_onBelt_50 (by decide) (fun c => ?_) (fun c => ?_)
      · replace hok := And.left hok c
        replace hR := (if_pos c).symm.trans hR
        refine lv_iconst (v := -1) S.1 S.2.1 dX6_onBelt_72 (by decide) ?_
        subst hR
        exact g_reti S hr hlocks h dX6_onBelt_73
      · replace hok := And.right hok c
        replace hR := (if_neg c).symm.trans hR
        refine lv_aload_n S.1 S.2.1 dX6_onBelt_53 rfl (lv_at hl 1 rfl) ?_
        refine fg_X6_34 S K h dX6_onBelt_54 ?_
        refine lv_aload_n S.1 S.2.1 dX6_onBelt_57 rfl (lv_at hl 1 rfl) ?_
        refine fg_X6_52 S K h dX6_onBelt_58 ?_
        refine lv_bipush (v := 8) S.1 S.2.1 dX6_onBelt_61 (by decide) ?_
        refine lv_iload_n S.1 S.2.1 dX6_onBelt_63 rfl (lv_at hl 2 rfl) ?_
        refine lv_imul S.1 S.2.1 dX6_onBelt_64 ?_
        refine lv_iload_n S.1 S.2.1 dX6_onBelt_65 rfl (lv_at hl 3 rfl) ?_
        refine lv_iadd S.1 S.2.1 dX6_onBelt_66 ?_
        have k8 := And.left hok
        replace hok := And.right hok
        refine al_M15 S K h k8 dX6_onBelt_67 ?_
        have k9 := And.left hok
        replace hok := And.right hok
        refine al_M9 S K h k9 dX6_onBelt_68 ?_
        refine lv_goto (tgt := 73) S.1 S.2.1 dX6_onBelt_69 (by decide) ?_
        subst hR
        exact g_reti S hr hlocks h dX6_onBelt_73
    · replace hok := And.right hok c
      replace hR := (if_neg c).symm.trans hR
      refine lv_aload_n S.1 S.2.1 dX6_onBelt_28 rfl (lv_at hl 0 rfl) ?_
      refine fg_X6_52 S K h dX6_onBelt_29 ?_
      refine lv_bipush (v := 8) S.1 S.2.1 dX6_onBelt_32 (by decide) ?_
      refine lv_iload_n S.1 S.2.1 dX6_onBelt_34 rfl (lv_at hl 1 rfl) ?_
      refine lv_imul S.1 S.2.1 dX6_onBelt_35 ?_
      refine lv_iload_n S.1 S.2.1 dX6_onBelt_36 rfl (lv_at hl 2 rfl) ?_
      refine lv_iadd S.1 S.2.1 dX6_onBelt_37 ?_
      have k10 := And.left hok
      replace hok := And.right hok
      refine al_M15 S K h k10 dX6_onBelt_38 ?_
      refine lv_iconst (v := -1) S.1 S.2.1 dX6_onBelt_39 (by decide) ?_
      refine lv_icmp_eq (tgt := 47) S.1 S.2.1 dX6_onBelt_40 (by decide) (fun c => ?_) (fun c => ?_)
      · replace hok := And.left hok c
        replace hR := (if_pos c).symm.trans hR
        refine lv_iconst (v := 0) S.1 S.2.1 dX6_onBelt_47 (by decide) ?_
        refine lv_istore_n (lv' := [(3, .int _), (0, .ref _), (1, .int _), (2, .int _)]) S.1 S.2.1 dX6_onBelt_48 rfl hl (by decide) rfl (fun ls hl => ?_)
        refine lv_iload_n S.1 S.2.1 dX6_onBelt_49 rfl (lv_at hl 0 rfl) ?_
        refine lv_if_eq (tgt := 72) S.1 S.2.1 dX6_onBelt_50 (by decide) (fun c => ?_) (fun c => ?_)
        · replace hok := And.left hok c
          replace hR := (if_pos c).symm.trans hR
          refine lv_iconst (v := -1) S.1 S.2.1 dX6_onBelt_72 (by decide) ?_
          subst hR
          exact g_reti S hr hlocks h dX6_onBelt_73
        · replace hok := And.right hok c
          replace hR := (if_neg c).symm.trans hR
          refine lv_aload_n S.1 S.2.1 dX6_onBelt_53 rfl (lv_at hl 1 rfl) ?_
          refine fg_X6_34 S K h dX6_onBelt_54 ?_
          refine lv_aload_n S.1 S.2.1 dX6_onBelt_57 rfl (lv_at hl 1 rfl) ?_
          refine fg_X6_52 S K h dX6_onBelt_58 ?_
          refine lv_bipush (v := 8) S.1 S.2.1 dX6_onBelt_61 (by decide) ?_
          refine lv_iload_n S.1 S.2.1 dX6_onBelt_63 rfl (lv_at hl 2 rfl) ?_
          refine lv_imul S.1 S.2.1 dX6_onBelt_64 ?_
          refine lv_iload_n S.1 S.2.1 dX6_onBelt_65 rfl (lv_at hl 3 rfl) ?_
          refine lv_iadd S.1 S.2.1 dX6_onBelt_66 ?_
          have k11 := And.left hok
          replace hok := And.right hok
          refine al_M15 S K h k11 dX6_onBelt_67 ?_
          have k12 := And.left hok
          replace hok := And.right hok
          refine al_M9 S K h k12 dX6_onBelt_68 ?_
          refine lv_goto (tgt := 73) S.1 S.2.1 dX6_onBelt_69 (by decide) ?_
          subst hR
          exact g_reti S hr hlocks h dX6_onBelt_73
      · replace hok := And.right hok c
        replace hR := (if_neg c).symm.trans hR
        refine lv_iconst (v := 1) S.1 S.2.1 dX6_onBelt_43 (by decide) ?_
        refine lv_goto (tgt := 48) S.1 S.2.1 dX6_onBelt_44 (by decide) ?_
        refine lv_istore_n (lv' := [(3, .int _), (0, .ref _), (1, .int _), (2, .int _)]) S.1 S.2.1 dX6_onBelt_48 rfl hl (by decide) rfl (fun ls hl => ?_)
        refine lv_iload_n S.1 S.2.1 dX6_onBelt_49 rfl (lv_at hl 0 rfl) ?_
        refine lv_if_eq (tgt := 72) S.1 S.2.1 dX6_onBelt_50 (by decide) (fun c => ?_) (fun c => ?_)
        · replace hok := And.left hok c
          replace hR := (if_pos c).symm.trans hR
          refine lv_iconst (v := -1) S.1 S.2.1 dX6_onBelt_72 (by decide) ?_
          subst hR
          exact g_reti S hr hlocks h dX6_onBelt_73
        · replace hok := And.right hok c
          replace hR := (if_neg c).symm.trans hR
          refine lv_aload_n S.1 S.2.1 dX6_onBelt_53 rfl (lv_at hl 1 rfl) ?_
          refine fg_X6_34 S K h dX6_onBelt_54 ?_
          refine lv_aload_n S.1 S.2.1 dX6_onBelt_57 rfl (lv_at hl 1 rfl) ?_
          refine fg_X6_52 S K h dX6_onBelt_58 ?_
          refine lv_bipush (v := 8) S.1 S.2.1 dX6_onBelt_61 (by decide) ?_
          refine lv_iload_n S.1 S.2.1 dX6_onBelt_63 rfl (lv_at hl 2 rfl) ?_
          refine lv_imul S.1 S.2.1 dX6_onBelt_64 ?_
          refine lv_iload_n S.1 S.2.1 dX6_onBelt_65 rfl (lv_at hl 3 rfl) ?_
          refine lv_iadd S.1 S.2.1 dX6_onBelt_66 ?_
          have k13 := And.left hok
          replace hok := And.right hok
          refine al_M15 S K h k13 dX6_onBelt_67 ?_
          have k14 := And.left hok
          replace hok := And.right hok
          refine al_M9 S K h k14 dX6_onBelt_68 ?_
          refine lv_goto (tgt := 73) S.1 S.2.1 dX6_onBelt_69 (by decide) ?_
          subst hR
          exact g_reti S hr hlocks h dX6_onBelt_73
  · replace hok := And.left hok c
    replace hR := (if_pos c).symm.trans hR
    refine lv_bipush (v := -101) S.1 S.2.1 dX6_onBelt_9 (by decide) ?_
    subst hR
    exact g_reti S hr hlocks h dX6_onBelt_11
def xr_X6_counted (σ : GS) (a1 : Int32) (a2 : Int32) : Int32 × GS := if (xr_X6_in a1 0 2) = 0 then (-101, σ) else if (xr_X6_in a2 0 ((σ 16 a1.toNatClampNeg) - 1)) = 0 then (0, σ) else (σ 17 ((8 * a1) + a2).toNatClampNeg, σ)
def xo_X6_counted (σ : GS) (a1 : Int32) (a2 : Int32) : Prop := (xo_X6_in a1 0 2) ∧ (((xr_X6_in a1 0 2) = 0 → True) ∧ (¬ ((xr_X6_in a1 0 2) = 0) → vp_in a1 3 ∧ ((xo_X6_in a2 0 ((σ 16 a1.toNatClampNeg) - 1)) ∧ (((xr_X6_in a2 0 ((σ 16 a1.toNatClampNeg) - 1)) = 0 → True) ∧ (¬ ((xr_X6_in a2 0 ((σ 16 a1.toNatClampNeg) - 1)) = 0) → vp_in ((8 * a1) + a2) 24 ∧ (True))))))
set_option maxRecDepth 100000 in
set_option maxHeartbeats 4000000 in
theorem c_X6_counted (l : Launch) (D : va_G) (cy : CY) (q : Nat → Nat) (ex : va_W) (A : Nat → Prop) (σ : GS) (a1 : Int32) (a2 : Int32) (hok : xo_X6_counted σ a1 a2) : Met l yX6_counted (wm yX6_counted cX6_counted 3 (some .int)) ({ frames := 1, cells := 0, slots := 0, locals := 22 } : Room) (PC D cy (wM cy q σ ++ ex) A [.ref (q 0), .int a1, .int a2]) (QI D (wM cy q (xr_X6_counted σ a1 a2).2 ++ ex) A (xr_X6_counted σ a1 a2).1) 0 0 A := by
  generalize hR : xr_X6_counted σ a1 a2 = R
  refine g_met (lv := [(0, .ref (q 0)), (1, .int a1), (2, .int a2)]) (by decide) rfl (Nat.le_of_ble_eq_true rfl) rfl ?_
  intro p e s m below meth c ls S K h hr hlocks hl
  refine lv_iload_n S.1 S.2.1 dX6_counted_0 rfl (lv_at hl 1 rfl) ?_
  refine lv_iconst (v := 0) S.1 S.2.1 dX6_counted_1 (by decide) ?_
  refine lv_iconst (v := 2) S.1 S.2.1 dX6_counted_2 (by decide) ?_
  have k2 := And.left hok
  replace hok := And.right hok
  refine g_calls S wz_cons K.2 (c_X6_in l _ _ _ k2) kc_X6_in km_X6_106 kt_X6_in kn_X6 yd_X6_in.2 ⟨⟨Nat.le_of_ble_eq_true rfl, Nat.le_of_ble_eq_true rfl⟩, rfl, rfl, Nat.zero_le _, Nat.zero_le _⟩ rfl hl.1 (Nat.le_of_ble_eq_true rfl) rfl dX6_counted_3 ?_
  refine lv_if_ne (tgt := 12) S.1 S.2.1 dX6_counted_6 (by decide) (fun c => ?_) (fun c => ?_)
  · replace hok := And.right hok c
    replace hR := (if_neg c).symm.trans hR
    refine lv_iload_n S.1 S.2.1 dX6_counted_12 rfl (lv_at hl 2 rfl) ?_
    refine lv_iconst (v := 0) S.1 S.2.1 dX6_counted_13 (by decide) ?_
    refine lv_aload_n S.1 S.2.1 dX6_counted_14 rfl (lv_at hl 0 rfl) ?_
    refine fg_X6_55 S K h dX6_counted_15 ?_
    refine lv_iload_n S.1 S.2.1 dX6_counted_18 rfl (lv_at hl 1 rfl) ?_
    have k4 := And.left hok
    replace hok := And.right hok
    refine al_M16 S K h k4 dX6_counted_19 ?_
    refine lv_iconst (v := 1) S.1 S.2.1 dX6_counted_20 (by decide) ?_
    refine lv_isub S.1 S.2.1 dX6_counted_21 ?_
    have k6 := And.left hok
    replace hok := And.right hok
    refine g_calls S wz_cons K.2 (c_X6_in l _ _ _ k6) kc_X6_in km_X6_106 kt_X6_in kn_X6 yd_X6_in.2 ⟨⟨Nat.le_of_ble_eq_true rfl, Nat.le_of_ble_eq_true rfl⟩, rfl, rfl, Nat.zero_le _, Nat.zero_le _⟩ rfl hl.1 (Nat.le_of_ble_eq_true rfl) rfl dX6_counted_22 ?_
    refine lv_if_eq (tgt := 42) S.1 S.2.1 dX6_counted_25 (by decide) (fun c => ?_) (fun c => ?_)
    · replace hok := And.left hok c
      replace hR := (if_pos c).symm.trans hR
      refine lv_iconst (v := 0) S.1 S.2.1 dX6_counted_42 (by decide) ?_
      subst hR
      exact g_reti S hr hlocks h dX6_counted_43
    · replace hok := And.right hok c
      replace hR := (if_neg c).symm.trans hR
      refine lv_aload_n S.1 S.2.1 dX6_counted_28 rfl (lv_at hl 0 rfl) ?_
      refine fg_X6_58 S K h dX6_counted_29 ?_
      refine lv_bipush (v := 8) S.1 S.2.1 dX6_counted_32 (by decide) ?_
      refine lv_iload_n S.1 S.2.1 dX6_counted_34 rfl (lv_at hl 1 rfl) ?_
      refine lv_imul S.1 S.2.1 dX6_counted_35 ?_
      refine lv_iload_n S.1 S.2.1 dX6_counted_36 rfl (lv_at hl 2 rfl) ?_
      refine lv_iadd S.1 S.2.1 dX6_counted_37 ?_
      have k8 := And.left hok
      replace hok := And.right hok
      refine al_M17 S K h k8 dX6_counted_38 ?_
      refine lv_goto (tgt := 43) S.1 S.2.1 dX6_counted_39 (by decide) ?_
      subst hR
      exact g_reti S hr hlocks h dX6_counted_43
  · replace hok := And.left hok c
    replace hR := (if_pos c).symm.trans hR
    refine lv_bipush (v := -101) S.1 S.2.1 dX6_counted_9 (by decide) ?_
    subst hR
    exact g_reti S hr hlocks h dX6_counted_11
