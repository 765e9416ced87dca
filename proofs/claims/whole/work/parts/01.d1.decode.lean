theorem dX2_addAct_16 : decode cX2_addAct 16 = .ok (.aload_n 0, 1) := by decide +kernel
theorem dX2_addAct_17 : decode cX2_addAct 17 = .ok (.getfield 24, 3) := by decide +kernel
theorem dX2_addAct_20 : decode cX2_addAct 20 = .ok (.iload_n 1, 1) := by decide +kernel
theorem dX2_addAct_21 : decode cX2_addAct 21 = .ok (.iastore, 1) := by decide +kernel
theorem dX2_addAct_22 : decode cX2_addAct 22 = .ok (.aload_n 0, 1) := by decide +kernel
theorem dX2_addAct_23 : decode cX2_addAct 23 = .ok (.getfield 15, 3) := by decide +kernel
theorem dX2_addAct_26 : decode cX2_addAct 26 = .ok (.aload_n 0, 1) := by decide +kernel
theorem dX2_addAct_27 : decode cX2_addAct 27 = .ok (.getfield 24, 3) := by decide +kernel
theorem dX2_addAct_30 : decode cX2_addAct 30 = .ok (.iload_n 2, 1) := by decide +kernel
theorem dX2_addAct_31 : decode cX2_addAct 31 = .ok (.iastore, 1) := by decide +kernel
theorem dX2_addAct_32 : decode cX2_addAct 32 = .ok (.aload_n 0, 1) := by decide +kernel
theorem dX2_addAct_33 : decode cX2_addAct 33 = .ok (.getfield 18, 3) := by decide +kernel
theorem dX2_addAct_36 : decode cX2_addAct 36 = .ok (.aload_n 0, 1) := by decide +kernel
theorem dX2_addAct_37 : decode cX2_addAct 37 = .ok (.getfield 24, 3) := by decide +kernel
theorem dX2_addAct_40 : decode cX2_addAct 40 = .ok (.iload_n 3, 1) := by decide +kernel
theorem dX2_addAct_41 : decode cX2_addAct 41 = .ok (.iastore, 1) := by decide +kernel
theorem dX2_addAct_42 : decode cX2_addAct 42 = .ok (.aload_n 0, 1) := by decide +kernel
theorem dX2_addAct_43 : decode cX2_addAct 43 = .ok (.getfield 21, 3) := by decide +kernel
theorem dX2_addAct_46 : decode cX2_addAct 46 = .ok (.aload_n 0, 1) := by decide +kernel
theorem dX2_addAct_47 : decode cX2_addAct 47 = .ok (.getfield 24, 3) := by decide +kernel
theorem dX2_addAct_50 : decode cX2_addAct 50 = .ok (.iload 4, 2) := by decide +kernel
theorem dX2_addAct_52 : decode cX2_addAct 52 = .ok (.iastore, 1) := by decide +kernel
theorem dX2_addAct_53 : decode cX2_addAct 53 = .ok (.aload_n 0, 1) := by decide +kernel
theorem dX2_addAct_54 : decode cX2_addAct 54 = .ok (.dup, 1) := by decide +kernel
theorem dX2_addAct_55 : decode cX2_addAct 55 = .ok (.getfield 24, 3) := by decide +kernel
theorem dX2_addAct_58 : decode cX2_addAct 58 = .ok (.dup_x1, 1) := by decide +kernel
theorem dX2_addAct_59 : decode cX2_addAct 59 = .ok (.iconst 1, 1) := by decide +kernel
theorem dX2_addAct_60 : decode cX2_addAct 60 = .ok (.iadd, 1) := by decide +kernel
theorem dX2_addAct_61 : decode cX2_addAct 61 = .ok (.putfield 24, 3) := by decide +kernel
theorem dX2_addAct_64 : decode cX2_addAct 64 = .ok (.ireturn, 1) := by decide +kernel
theorem dX2_addGuard_0 : decode cX2_addGuard 0 = .ok (.aload_n 0, 1) := by decide +kernel
theorem dX2_addGuard_1 : decode cX2_addGuard 1 = .ok (.getfield 40, 3) := by decide +kernel
theorem dX2_addGuard_4 : decode cX2_addGuard 4 = .ok (.iconst 5, 1) := by decide +kernel
theorem dX2_addGuard_5 : decode cX2_addGuard 5 = .ok (.if_icmp .lt 6, 3) := by decide +kernel
theorem dX2_addGuard_8 : decode cX2_addGuard 8 = .ok (.bipush (-102), 2) := by decide +kernel
theorem dX2_addGuard_10 : decode cX2_addGuard 10 = .ok (.ireturn, 1) := by decide +kernel
theorem dX2_addGuard_11 : decode cX2_addGuard 11 = .ok (.aload_n 0, 1) := by decide +kernel
theorem dX2_addGuard_12 : decode cX2_addGuard 12 = .ok (.getfield 28, 3) := by decide +kernel
theorem dX2_addGuard_15 : decode cX2_addGuard 15 = .ok (.aload_n 0, 1) := by decide +kernel
theorem dX2_addGuard_16 : decode cX2_addGuard 16 = .ok (.getfield 40, 3) := by decide +kernel
theorem dX2_addGuard_19 : decode cX2_addGuard 19 = .ok (.iload_n 1, 1) := by decide +kernel
theorem dX2_addGuard_20 : decode cX2_addGuard 20 = .ok (.iastore, 1) := by decide +kernel
theorem dX2_addGuard_21 : decode cX2_addGuard 21 = .ok (.aload_n 0, 1) := by decide +kernel
theorem dX2_addGuard_22 : decode cX2_addGuard 22 = .ok (.getfield 31, 3) := by decide +kernel
theorem dX2_addGuard_25 : decode cX2_addGuard 25 = .ok (.aload_n 0, 1) := by decide +kernel
theorem dX2_addGuard_26 : decode cX2_addGuard 26 = .ok (.getfield 40, 3) := by decide +kernel
theorem dX2_addGuard_29 : decode cX2_addGuard 29 = .ok (.iload_n 2, 1) := by decide +kernel
theorem dX2_addGuard_30 : decode cX2_addGuard 30 = .ok (.iastore, 1) := by decide +kernel
theorem dX2_addGuard_31 : decode cX2_addGuard 31 = .ok (.aload_n 0, 1) := by decide +kernel
theorem dX2_addGuard_32 : decode cX2_addGuard 32 = .ok (.getfield 34, 3) := by decide +kernel
theorem dX2_addGuard_35 : decode cX2_addGuard 35 = .ok (.aload_n 0, 1) := by decide +kernel
theorem dX2_addGuard_36 : decode cX2_addGuard 36 = .ok (.getfield 40, 3) := by decide +kernel
theorem dX2_addGuard_39 : decode cX2_addGuard 39 = .ok (.iload_n 3, 1) := by decide +kernel
theorem dX2_addGuard_40 : decode cX2_addGuard 40 = .ok (.iastore, 1) := by decide +kernel
theorem dX2_addGuard_41 : decode cX2_addGuard 41 = .ok (.aload_n 0, 1) := by decide +kernel
theorem dX2_addGuard_42 : decode cX2_addGuard 42 = .ok (.getfield 37, 3) := by decide +kernel
theorem dX2_addGuard_45 : decode cX2_addGuard 45 = .ok (.aload_n 0, 1) := by decide +kernel
theorem dX2_addGuard_46 : decode cX2_addGuard 46 = .ok (.getfield 40, 3) := by decide +kernel
theorem dX2_addGuard_49 : decode cX2_addGuard 49 = .ok (.iload 4, 2) := by decide +kernel
theorem dX2_addGuard_51 : decode cX2_addGuard 51 = .ok (.iastore, 1) := by decide +kernel
theorem dX2_addGuard_52 : decode cX2_addGuard 52 = .ok (.aload_n 0, 1) := by decide +kernel
theorem dX2_addGuard_53 : decode cX2_addGuard 53 = .ok (.dup, 1) := by decide +kernel
theorem dX2_addGuard_54 : decode cX2_addGuard 54 = .ok (.getfield 40, 3) := by decide +kernel
theorem dX2_addGuard_57 : decode cX2_addGuard 57 = .ok (.dup_x1, 1) := by decide +kernel
theorem dX2_addGuard_58 : decode cX2_addGuard 58 = .ok (.iconst 1, 1) := by decide +kernel
theorem dX2_addGuard_59 : decode cX2_addGuard 59 = .ok (.iadd, 1) := by decide +kernel
theorem dX2_addGuard_60 : decode cX2_addGuard 60 = .ok (.putfield 40, 3) := by decide +kernel
theorem dX2_addGuard_63 : decode cX2_addGuard 63 = .ok (.ireturn, 1) := by decide +kernel
theorem dX2_hasAct_0 : decode cX2_hasAct 0 = .ok (.iload_n 1, 1) := by decide +kernel
theorem dX2_hasAct_1 : decode cX2_hasAct 1 = .ok (.aload_n 0, 1) := by decide +kernel
theorem dX2_hasAct_2 : decode cX2_hasAct 2 = .ok (.getfield 24, 3) := by decide +kernel
theorem dX2_hasAct_5 : decode cX2_hasAct 5 = .ok (.invokestatic 43, 3) := by decide +kernel
theorem dX2_hasAct_8 : decode cX2_hasAct 8 = .ok (.ireturn, 1) := by decide +kernel
theorem dX2_guardFor_0 : decode cX2_guardFor 0 = .ok (.iconst 0, 1) := by decide +kernel
theorem dX2_guardFor_1 : decode cX2_guardFor 1 = .ok (.istore_n 3, 1) := by decide +kernel
theorem dX2_guardFor_2 : decode cX2_guardFor 2 = .ok (.iload_n 3, 1) := by decide +kernel
theorem dX2_guardFor_3 : decode cX2_guardFor 3 = .ok (.aload_n 0, 1) := by decide +kernel
theorem dX2_guardFor_4 : decode cX2_guardFor 4 = .ok (.getfield 40, 3) := by decide +kernel
theorem dX2_guardFor_7 : decode cX2_guardFor 7 = .ok (.if_icmp .ge 62, 3) := by decide +kernel
theorem dX2_guardFor_10 : decode cX2_guardFor 10 = .ok (.aload_n 0, 1) := by decide +kernel
theorem dX2_guardFor_11 : decode cX2_guardFor 11 = .ok (.getfield 28, 3) := by decide +kernel
theorem dX2_guardFor_14 : decode cX2_guardFor 14 = .ok (.iload_n 3, 1) := by decide +kernel
theorem dX2_guardFor_15 : decode cX2_guardFor 15 = .ok (.iaload, 1) := by decide +kernel
theorem dX2_guardFor_16 : decode cX2_guardFor 16 = .ok (.iload_n 1, 1) := by decide +kernel
theorem dX2_guardFor_17 : decode cX2_guardFor 17 = .ok (.if_icmp .gt 17, 3) := by decide +kernel
theorem dX2_guardFor_20 : decode cX2_guardFor 20 = .ok (.iload_n 1, 1) := by decide +kernel
theorem dX2_guardFor_21 : decode cX2_guardFor 21 = .ok (.aload_n 0, 1) := by decide +kernel
theorem dX2_guardFor_22 : decode cX2_guardFor 22 = .ok (.getfield 31, 3) := by decide +kernel
theorem dX2_guardFor_25 : decode cX2_guardFor 25 = .ok (.iload_n 3, 1) := by decide +kernel
theorem dX2_guardFor_26 : decode cX2_guardFor 26 = .ok (.iaload, 1) := by decide +kernel
theorem dX2_guardFor_27 : decode cX2_guardFor 27 = .ok (.if_icmp .ge 7, 3) := by decide +kernel
theorem dX2_guardFor_30 : decode cX2_guardFor 30 = .ok (.iconst 1, 1) := by decide +kernel
theorem dX2_guardFor_31 : decode cX2_guardFor 31 = .ok (.goto 4, 3) := by decide +kernel
theorem dX2_guardFor_34 : decode cX2_guardFor 34 = .ok (.iconst 0, 1) := by decide +kernel
theorem dX2_guardFor_35 : decode cX2_guardFor 35 = .ok (.istore 4, 2) := by decide +kernel
theorem dX2_guardFor_37 : decode cX2_guardFor 37 = .ok (.iload 4, 2) := by decide +kernel
theorem dX2_guardFor_39 : decode cX2_guardFor 39 = .ok (.ifCond .eq 24, 3) := by decide +kernel
theorem dX2_guardFor_42 : decode cX2_guardFor 42 = .ok (.aload_n 0, 1) := by decide +kernel
theorem dX2_guardFor_43 : decode cX2_guardFor 43 = .ok (.getfield 34, 3) := by decide +kernel
theorem dX2_guardFor_46 : decode cX2_guardFor 46 = .ok (.iload_n 3, 1) := by decide +kernel
theorem dX2_guardFor_47 : decode cX2_guardFor 47 = .ok (.iaload, 1) := by decide +kernel
theorem dX2_guardFor_48 : decode cX2_guardFor 48 = .ok (.ifCond .eq 13, 3) := by decide +kernel
theorem dX2_guardFor_51 : decode cX2_guardFor 51 = .ok (.aload_n 0, 1) := by decide +kernel
theorem dX2_guardFor_52 : decode cX2_guardFor 52 = .ok (.getfield 34, 3) := by decide +kernel
theorem dX2_guardFor_55 : decode cX2_guardFor 55 = .ok (.iload_n 3, 1) := by decide +kernel
theorem dX2_guardFor_56 : decode cX2_guardFor 56 = .ok (.iaload, 1) := by decide +kernel
theorem dX2_guardFor_57 : decode cX2_guardFor 57 = .ok (.iload_n 2, 1) := by decide +kernel
theorem dX2_guardFor_58 : decode cX2_guardFor 58 = .ok (.if_icmp .ne 5, 3) := by decide +kernel
theorem dX2_guardFor_61 : decode cX2_guardFor 61 = .ok (.iload_n 3, 1) := by decide +kernel
theorem dX2_guardFor_62 : decode cX2_guardFor 62 = .ok (.ireturn, 1) := by decide +kernel
theorem dX2_guardFor_63 : decode cX2_guardFor 63 = .ok (.iinc 3 1, 3) := by decide +kernel
theorem dX2_guardFor_66 : decode cX2_guardFor 66 = .ok (.goto (-64), 3) := by decide +kernel
theorem dX2_guardFor_69 : decode cX2_guardFor 69 = .ok (.iconst (-1), 1) := by decide +kernel
theorem dX2_guardFor_70 : decode cX2_guardFor 70 = .ok (.ireturn, 1) := by decide +kernel
theorem dX3_init_0 : decode cX3_init 0 = .ok (.aload_n 0, 1) := by decide +kernel
theorem dX3_init_1 : decode cX3_init 1 = .ok (.invokespecial 3, 3) := by decide +kernel
theorem dX3_init_4 : decode cX3_init 4 = .ok (.aload_n 0, 1) := by decide +kernel
theorem dX3_init_5 : decode cX3_init 5 = .ok (.iconst 0, 1) := by decide +kernel
theorem dX3_init_6 : decode cX3_init 6 = .ok (.putfield 9, 3) := by decide +kernel
theorem dX3_init_9 : decode cX3_init 9 = .ok (.aload_n 0, 1) := by decide +kernel
theorem dX3_init_10 : decode cX3_init 10 = .ok (.iconst (-1), 1) := by decide +kernel
theorem dX3_init_11 : decode cX3_init 11 = .ok (.putfield 15, 3) := by decide +kernel
theorem dX3_init_14 : decode cX3_init 14 = .ok (.aload_n 0, 1) := by decide +kernel
theorem dX3_init_15 : decode cX3_init 15 = .ok (.iconst 0, 1) := by decide +kernel
theorem dX3_init_16 : decode cX3_init 16 = .ok (.putfield 18, 3) := by decide +kernel
theorem dX3_init_19 : decode cX3_init 19 = .ok (.aload_n 0, 1) := by decide +kernel
theorem dX3_init_20 : decode cX3_init 20 = .ok (.iconst 0, 1) := by decide +kernel
theorem dX3_init_21 : decode cX3_init 21 = .ok (.putfield 21, 3) := by decide +kernel
theorem dX3_init_24 : decode cX3_init 24 = .ok (.aload_n 0, 1) := by decide +kernel
theorem dX3_init_25 : decode cX3_init 25 = .ok (.iconst 0, 1) := by decide +kernel
theorem dX3_init_26 : decode cX3_init 26 = .ok (.putfield 24, 3) := by decide +kernel
theorem dX3_init_29 : decode cX3_init 29 = .ok (.aload_n 0, 1) := by decide +kernel
theorem dX3_init_30 : decode cX3_init 30 = .ok (.bipush 8, 2) := by decide +kernel
theorem dX3_init_32 : decode cX3_init 32 = .ok (.newarray .int, 2) := by decide +kernel
theorem dX3_init_34 : decode cX3_init 34 = .ok (.putfield 27, 3) := by decide +kernel
theorem dX3_init_37 : decode cX3_init 37 = .ok (.return_, 1) := by decide +kernel
theorem dX3_begin_0 : decode cX3_begin 0 = .ok (.aload_n 0, 1) := by decide +kernel
theorem dX3_begin_1 : decode cX3_begin 1 = .ok (.iconst 0, 1) := by decide +kernel
theorem dX3_begin_2 : decode cX3_begin 2 = .ok (.putfield 9, 3) := by decide +kernel
theorem dX3_begin_5 : decode cX3_begin 5 = .ok (.aload_n 0, 1) := by decide +kernel
theorem dX3_begin_6 : decode cX3_begin 6 = .ok (.iconst (-1), 1) := by decide +kernel
theorem dX3_begin_7 : decode cX3_begin 7 = .ok (.putfield 15, 3) := by decide +kernel
theorem dX3_begin_10 : decode cX3_begin 10 = .ok (.aload_n 0, 1) := by decide +kernel
theorem dX3_begin_11 : decode cX3_begin 11 = .ok (.iconst 0, 1) := by decide +kernel
theorem dX3_begin_12 : decode cX3_begin 12 = .ok (.putfield 18, 3) := by decide +kernel
theorem dX3_begin_15 : decode cX3_begin 15 = .ok (.aload_n 0, 1) := by decide +kernel
theorem dX3_begin_16 : decode cX3_begin 16 = .ok (.iconst 0, 1) := by decide +kernel
theorem dX3_begin_17 : decode cX3_begin 17 = .ok (.putfield 21, 3) := by decide +kernel
theorem dX3_begin_20 : decode cX3_begin 20 = .ok (.aload_n 0, 1) := by decide +kernel
theorem dX3_begin_21 : decode cX3_begin 21 = .ok (.iconst 0, 1) := by decide +kernel
theorem dX3_begin_22 : decode cX3_begin 22 = .ok (.putfield 24, 3) := by decide +kernel
theorem dX3_begin_25 : decode cX3_begin 25 = .ok (.iconst 0, 1) := by decide +kernel
theorem dX3_begin_26 : decode cX3_begin 26 = .ok (.istore_n 1, 1) := by decide +kernel
theorem dX3_begin_27 : decode cX3_begin 27 = .ok (.iload_n 1, 1) := by decide +kernel
theorem dX3_begin_28 : decode cX3_begin 28 = .ok (.bipush 8, 2) := by decide +kernel
theorem dX3_begin_30 : decode cX3_begin 30 = .ok (.if_icmp .ge 16, 3) := by decide +kernel
theorem dX3_begin_33 : decode cX3_begin 33 = .ok (.aload_n 0, 1) := by decide +kernel
theorem dX3_begin_34 : decode cX3_begin 34 = .ok (.getfield 27, 3) := by decide +kernel
theorem dX3_begin_37 : decode cX3_begin 37 = .ok (.iload_n 1, 1) := by decide +kernel
theorem dX3_begin_38 : decode cX3_begin 38 = .ok (.iconst 0, 1) := by decide +kernel
theorem dX3_begin_39 : decode cX3_begin 39 = .ok (.iastore, 1) := by decide +kernel
theorem dX3_begin_40 : decode cX3_begin 40 = .ok (.iinc 1 1, 3) := by decide +kernel
theorem dX3_begin_43 : decode cX3_begin 43 = .ok (.goto (-16), 3) := by decide +kernel
theorem dX3_begin_46 : decode cX3_begin 46 = .ok (.return_, 1) := by decide +kernel
theorem dX4_init_0 : decode cX4_init 0 = .ok (.aload_n 0, 1) := by decide +kernel
theorem dX4_init_1 : decode cX4_init 1 = .ok (.invokespecial 3, 3) := by decide +kernel
theorem dX4_init_4 : decode cX4_init 4 = .ok (.aload_n 0, 1) := by decide +kernel
theorem dX4_init_5 : decode cX4_init 5 = .ok (.iconst (-1), 1) := by decide +kernel
theorem dX4_init_6 : decode cX4_init 6 = .ok (.putfield 9, 3) := by decide +kernel
theorem dX4_init_9 : decode cX4_init 9 = .ok (.aload_n 0, 1) := by decide +kernel
theorem dX4_init_10 : decode cX4_init 10 = .ok (.iconst (-1), 1) := by decide +kernel
theorem dX4_init_11 : decode cX4_init 11 = .ok (.putfield 15, 3) := by decide +kernel
theorem dX4_init_14 : decode cX4_init 14 = .ok (.aload_n 0, 1) := by decide +kernel
theorem dX4_init_15 : decode cX4_init 15 = .ok (.bipush 8, 2) := by decide +kernel
theorem dX4_init_17 : decode cX4_init 17 = .ok (.newarray .int, 2) := by decide +kernel
theorem dX4_init_19 : decode cX4_init 19 = .ok (.putfield 18, 3) := by decide +kernel
theorem dX4_init_22 : decode cX4_init 22 = .ok (.return_, 1) := by decide +kernel
theorem dX4_isThere_0 : decode cX4_isThere 0 = .ok (.aload_n 0, 1) := by decide +kernel
theorem dX4_isThere_1 : decode cX4_isThere 1 = .ok (.getfield 15, 3) := by decide +kernel
theorem dX4_isThere_4 : decode cX4_isThere 4 = .ok (.iconst (-1), 1) := by decide +kernel
theorem dX4_isThere_5 : decode cX4_isThere 5 = .ok (.if_icmp .eq 7, 3) := by decide +kernel
theorem dX4_isThere_8 : decode cX4_isThere 8 = .ok (.iconst 1, 1) := by decide +kernel
theorem dX4_isThere_9 : decode cX4_isThere 9 = .ok (.goto 4, 3) := by decide +kernel
theorem dX4_isThere_12 : decode cX4_isThere 12 = .ok (.iconst 0, 1) := by decide +kernel
theorem dX4_isThere_13 : decode cX4_isThere 13 = .ok (.ireturn, 1) := by decide +kernel
theorem dX4_hasPlace_0 : decode cX4_hasPlace 0 = .ok (.iconst 0, 1) := by decide +kernel
theorem dX4_hasPlace_1 : decode cX4_hasPlace 1 = .ok (.iload_n 1, 1) := by decide +kernel
theorem dX4_hasPlace_2 : decode cX4_hasPlace 2 = .ok (.if_icmp .gt 15, 3) := by decide +kernel
theorem dX4_hasPlace_5 : decode cX4_hasPlace 5 = .ok (.iload_n 1, 1) := by decide +kernel
theorem dX4_hasPlace_6 : decode cX4_hasPlace 6 = .ok (.aload_n 0, 1) := by decide +kernel
theorem dX4_hasPlace_7 : decode cX4_hasPlace 7 = .ok (.getfield 15, 3) := by decide +kernel
theorem dX4_hasPlace_10 : decode cX4_hasPlace 10 = .ok (.if_icmp .ge 7, 3) := by decide +kernel
theorem dX4_hasPlace_13 : decode cX4_hasPlace 13 = .ok (.iconst 1, 1) := by decide +kernel
theorem dX4_hasPlace_14 : decode cX4_hasPlace 14 = .ok (.goto 4, 3) := by decide +kernel
theorem dX4_hasPlace_17 : decode cX4_hasPlace 17 = .ok (.iconst 0, 1) := by decide +kernel
theorem dX4_hasPlace_18 : decode cX4_hasPlace 18 = .ok (.ireturn, 1) := by decide +kernel
theorem dX4_remove_0 : decode cX4_remove 0 = .ok (.aload_n 0, 1) := by decide +kernel
theorem dX4_remove_1 : decode cX4_remove 1 = .ok (.iconst (-1), 1) := by decide +kernel
theorem dX4_remove_2 : decode cX4_remove 2 = .ok (.putfield 9, 3) := by decide +kernel
theorem dX4_remove_5 : decode cX4_remove 5 = .ok (.aload_n 0, 1) := by decide +kernel
theorem dX4_remove_6 : decode cX4_remove 6 = .ok (.iconst (-1), 1) := by decide +kernel
theorem dX4_remove_7 : decode cX4_remove 7 = .ok (.putfield 15, 3) := by decide +kernel
theorem dX4_remove_10 : decode cX4_remove 10 = .ok (.return_, 1) := by decide +kernel
theorem dX4_renew_0 : decode cX4_renew 0 = .ok (.iload_n 2, 1) := by decide +kernel
theorem dX4_renew_1 : decode cX4_renew 1 = .ok (.invokestatic 22, 3) := by decide +kernel
theorem dX4_renew_4 : decode cX4_renew 4 = .ok (.istore 4, 2) := by decide +kernel
theorem dX4_renew_6 : decode cX4_renew 6 = .ok (.iload 4, 2) := by decide +kernel
theorem dX4_renew_8 : decode cX4_renew 8 = .ok (.ifCond .ne 37, 3) := by decide +kernel
theorem dX4_renew_11 : decode cX4_renew 11 = .ok (.aload_n 0, 1) := by decide +kernel
theorem dX4_renew_12 : decode cX4_renew 12 = .ok (.iload_n 1, 1) := by decide +kernel
theorem dX4_renew_13 : decode cX4_renew 13 = .ok (.putfield 9, 3) := by decide +kernel
theorem dX4_renew_16 : decode cX4_renew 16 = .ok (.aload_n 0, 1) := by decide +kernel
theorem dX4_renew_17 : decode cX4_renew 17 = .ok (.iload_n 2, 1) := by decide +kernel
theorem dX4_renew_18 : decode cX4_renew 18 = .ok (.putfield 15, 3) := by decide +kernel
theorem dX4_renew_21 : decode cX4_renew 21 = .ok (.iconst 0, 1) := by decide +kernel
theorem dX4_renew_22 : decode cX4_renew 22 = .ok (.istore 5, 2) := by decide +kernel
theorem dX4_renew_24 : decode cX4_renew 24 = .ok (.iload 5, 2) := by decide +kernel
theorem dX4_renew_26 : decode cX4_renew 26 = .ok (.bipush 8, 2) := by decide +kernel
theorem dX4_renew_28 : decode cX4_renew 28 = .ok (.if_icmp .ge 17, 3) := by decide +kernel
theorem dX4_renew_31 : decode cX4_renew 31 = .ok (.aload_n 0, 1) := by decide +kernel
theorem dX4_renew_32 : decode cX4_renew 32 = .ok (.getfield 18, 3) := by decide +kernel
theorem dX4_renew_35 : decode cX4_renew 35 = .ok (.iload 5, 2) := by decide +kernel
theorem dX4_renew_37 : decode cX4_renew 37 = .ok (.iload_n 3, 1) := by decide +kernel
theorem dX4_renew_38 : decode cX4_renew 38 = .ok (.iastore, 1) := by decide +kernel
theorem dX4_renew_39 : decode cX4_renew 39 = .ok (.iinc 5 1, 3) := by decide +kernel
theorem dX4_renew_42 : decode cX4_renew 42 = .ok (.goto (-18), 3) := by decide +kernel
theorem dX4_renew_45 : decode cX4_renew 45 = .ok (.iload 4, 2) := by decide +kernel
theorem dX4_renew_47 : decode cX4_renew 47 = .ok (.ireturn, 1) := by decide +kernel
theorem dX4_placeFailure_0 : decode cX4_placeFailure 0 = .ok (.aload_n 0, 1) := by decide +kernel
theorem dX4_placeFailure_1 : decode cX4_placeFailure 1 = .ok (.invokevirtual 26, 3) := by decide +kernel
theorem dX4_placeFailure_4 : decode cX4_placeFailure 4 = .ok (.ifCond .ne 5, 3) := by decide +kernel
theorem dX4_placeFailure_7 : decode cX4_placeFailure 7 = .ok (.iconst 1, 1) := by decide +kernel
theorem dX4_placeFailure_8 : decode cX4_placeFailure 8 = .ok (.ireturn, 1) := by decide +kernel
theorem dX4_placeFailure_9 : decode cX4_placeFailure 9 = .ok (.aload_n 0, 1) := by decide +kernel
theorem dX4_placeFailure_10 : decode cX4_placeFailure 10 = .ok (.iload_n 1, 1) := by decide +kernel
theorem dX4_placeFailure_11 : decode cX4_placeFailure 11 = .ok (.invokevirtual 30, 3) := by decide +kernel
theorem dX4_placeFailure_14 : decode cX4_placeFailure 14 = .ok (.ifCond .eq 7, 3) := by decide +kernel
theorem dX4_placeFailure_17 : decode cX4_placeFailure 17 = .ok (.iconst 0, 1) := by decide +kernel
theorem dX4_placeFailure_18 : decode cX4_placeFailure 18 = .ok (.goto 4, 3) := by decide +kernel
theorem dX4_placeFailure_21 : decode cX4_placeFailure 21 = .ok (.iconst 3, 1) := by decide +kernel
theorem dX4_placeFailure_22 : decode cX4_placeFailure 22 = .ok (.ireturn, 1) := by decide +kernel
theorem dX5_init_0 : decode cX5_init 0 = .ok (.aload_n 0, 1) := by decide +kernel
theorem dX5_init_1 : decode cX5_init 1 = .ok (.invokespecial 1, 3) := by decide +kernel
theorem dX5_init_4 : decode cX5_init 4 = .ok (.aload_n 0, 1) := by decide +kernel
theorem dX5_init_5 : decode cX5_init 5 = .ok (.new 7, 3) := by decide +kernel
theorem dX5_init_8 : decode cX5_init 8 = .ok (.dup, 1) := by decide +kernel
theorem dX5_init_9 : decode cX5_init 9 = .ok (.invokespecial 9, 3) := by decide +kernel
theorem dX5_init_12 : decode cX5_init 12 = .ok (.putfield 10, 3) := by decide +kernel
theorem dX5_init_15 : decode cX5_init 15 = .ok (.aload_n 0, 1) := by decide +kernel
theorem dX5_init_16 : decode cX5_init 16 = .ok (.new 16, 3) := by decide +kernel
theorem dX5_init_19 : decode cX5_init 19 = .ok (.dup, 1) := by decide +kernel
theorem dX5_init_20 : decode cX5_init 20 = .ok (.invokespecial 18, 3) := by decide +kernel
theorem dX5_init_23 : decode cX5_init 23 = .ok (.putfield 19, 3) := by decide +kernel
theorem dX5_init_26 : decode cX5_init 26 = .ok (.aload_n 0, 1) := by decide +kernel
theorem dX5_init_27 : decode cX5_init 27 = .ok (.new 23, 3) := by decide +kernel
theorem dX5_init_30 : decode cX5_init 30 = .ok (.dup, 1) := by decide +kernel
theorem dX5_init_31 : decode cX5_init 31 = .ok (.invokespecial 25, 3) := by decide +kernel
theorem dX5_init_34 : decode cX5_init 34 = .ok (.putfield 26, 3) := by decide +kernel
theorem dX5_init_37 : decode cX5_init 37 = .ok (.return_, 1) := by decide +kernel
theorem dX5_act_0 : decode cX5_act 0 = .ok (.iload_n 1, 1) := by decide +kernel
theorem dX5_act_1 : decode cX5_act 1 = .ok (.iload_n 2, 1) := by decide +kernel
theorem dX5_act_2 : decode cX5_act 2 = .ok (.iload_n 3, 1) := by decide +kernel
theorem dX5_act_3 : decode cX5_act 3 = .ok (.iload 4, 2) := by decide +kernel
theorem dX5_act_5 : decode cX5_act 5 = .ok (.invokestatic 30, 3) := by decide +kernel
theorem dX5_act_8 : decode cX5_act 8 = .ok (.ifCond .ne 6, 3) := by decide +kernel
theorem dX5_act_11 : decode cX5_act 11 = .ok (.bipush (-101), 2) := by decide +kernel
theorem dX5_act_13 : decode cX5_act 13 = .ok (.ireturn, 1) := by decide +kernel
theorem dX5_act_14 : decode cX5_act 14 = .ok (.aload_n 0, 1) := by decide +kernel
theorem dX5_act_15 : decode cX5_act 15 = .ok (.getfield 10, 3) := by decide +kernel
theorem dX5_act_18 : decode cX5_act 18 = .ok (.iload_n 1, 1) := by decide +kernel
theorem dX5_act_19 : decode cX5_act 19 = .ok (.iload_n 2, 1) := by decide +kernel
theorem dX5_act_20 : decode cX5_act 20 = .ok (.iload_n 3, 1) := by decide +kernel
theorem dX5_act_21 : decode cX5_act 21 = .ok (.iload 4, 2) := by decide +kernel
theorem dX5_act_23 : decode cX5_act 23 = .ok (.invokevirtual 34, 3) := by decide +kernel
theorem dX5_act_26 : decode cX5_act 26 = .ok (.ireturn, 1) := by decide +kernel
theorem dX5_guard_0 : decode cX5_guard 0 = .ok (.iconst 0, 1) := by decide +kernel
theorem dX5_guard_1 : decode cX5_guard 1 = .ok (.iload_n 1, 1) := by decide +kernel
theorem dX5_guard_2 : decode cX5_guard 2 = .ok (.if_icmp .gt 18, 3) := by decide +kernel
theorem dX5_guard_5 : decode cX5_guard 5 = .ok (.iload_n 1, 1) := by decide +kernel
theorem dX5_guard_6 : decode cX5_guard 6 = .ok (.iload_n 2, 1) := by decide +kernel
theorem dX5_guard_7 : decode cX5_guard 7 = .ok (.if_icmp .ge 13, 3) := by decide +kernel
theorem dX5_guard_10 : decode cX5_guard 10 = .ok (.iload_n 2, 1) := by decide +kernel
theorem dX5_guard_11 : decode cX5_guard 11 = .ok (.bipush 40, 2) := by decide +kernel
theorem dX5_guard_13 : decode cX5_guard 13 = .ok (.if_icmp .gt 7, 3) := by decide +kernel
theorem dX5_guard_16 : decode cX5_guard 16 = .ok (.iconst 1, 1) := by decide +kernel
theorem dX5_guard_17 : decode cX5_guard 17 = .ok (.goto 4, 3) := by decide +kernel
theorem dX5_guard_20 : decode cX5_guard 20 = .ok (.iconst 0, 1) := by decide +kernel
theorem dX5_guard_21 : decode cX5_guard 21 = .ok (.istore 5, 2) := by decide +kernel
theorem dX5_guard_23 : decode cX5_guard 23 = .ok (.iload 5, 2) := by decide +kernel
theorem dX5_guard_25 : decode cX5_guard 25 = .ok (.ifCond .eq 22, 3) := by decide +kernel
theorem dX5_guard_28 : decode cX5_guard 28 = .ok (.iload_n 3, 1) := by decide +kernel
theorem dX5_guard_29 : decode cX5_guard 29 = .ok (.bipush 8, 2) := by decide +kernel
theorem dX5_guard_31 : decode cX5_guard 31 = .ok (.invokestatic 38, 3) := by decide +kernel
theorem dX5_guard_34 : decode cX5_guard 34 = .ok (.ifCond .eq 13, 3) := by decide +kernel
theorem dX5_guard_37 : decode cX5_guard 37 = .ok (.iload 4, 2) := by decide +kernel
theorem dX5_guard_39 : decode cX5_guard 39 = .ok (.bipush 41, 2) := by decide +kernel
theorem dX5_guard_41 : decode cX5_guard 41 = .ok (.invokestatic 38, 3) := by decide +kernel
theorem dX5_guard_44 : decode cX5_guard 44 = .ok (.ifCond .ne 6, 3) := by decide +kernel
theorem dX5_guard_47 : decode cX5_guard 47 = .ok (.bipush (-101), 2) := by decide +kernel
theorem dX5_guard_49 : decode cX5_guard 49 = .ok (.ireturn, 1) := by decide +kernel
theorem dX5_guard_50 : decode cX5_guard 50 = .ok (.aload_n 0, 1) := by decide +kernel
theorem dX5_guard_51 : decode cX5_guard 51 = .ok (.getfield 10, 3) := by decide +kernel
theorem dX5_guard_54 : decode cX5_guard 54 = .ok (.iload_n 1, 1) := by decide +kernel
theorem dX5_guard_55 : decode cX5_guard 55 = .ok (.iload_n 2, 1) := by decide +kernel
theorem dX5_guard_56 : decode cX5_guard 56 = .ok (.iload_n 3, 1) := by decide +kernel
theorem dX5_guard_57 : decode cX5_guard 57 = .ok (.iload 4, 2) := by decide +kernel
theorem dX5_guard_59 : decode cX5_guard 59 = .ok (.invokevirtual 42, 3) := by decide +kernel
theorem dX5_guard_62 : decode cX5_guard 62 = .ok (.ireturn, 1) := by decide +kernel
theorem dX5_clear_0 : decode cX5_clear 0 = .ok (.aload_n 0, 1) := by decide +kernel
theorem dX5_clear_1 : decode cX5_clear 1 = .ok (.getfield 10, 3) := by decide +kernel
theorem dX5_clear_4 : decode cX5_clear 4 = .ok (.getfield 45, 3) := by decide +kernel
theorem dX5_clear_7 : decode cX5_clear 7 = .ok (.istore_n 1, 1) := by decide +kernel
theorem dX5_clear_8 : decode cX5_clear 8 = .ok (.aload_n 0, 1) := by decide +kernel
theorem dX5_clear_9 : decode cX5_clear 9 = .ok (.getfield 10, 3) := by decide +kernel
theorem dX5_clear_12 : decode cX5_clear 12 = .ok (.iconst 0, 1) := by decide +kernel
theorem dX5_clear_13 : decode cX5_clear 13 = .ok (.putfield 45, 3) := by decide +kernel
theorem dX5_clear_16 : decode cX5_clear 16 = .ok (.aload_n 0, 1) := by decide +kernel
theorem dX5_clear_17 : decode cX5_clear 17 = .ok (.getfield 10, 3) := by decide +kernel
theorem dX5_clear_20 : decode cX5_clear 20 = .ok (.iconst 0, 1) := by decide +kernel
theorem dX5_clear_21 : decode cX5_clear 21 = .ok (.putfield 49, 3) := by decide +kernel
theorem dX5_clear_24 : decode cX5_clear 24 = .ok (.iload_n 1, 1) := by decide +kernel
theorem dX5_clear_25 : decode cX5_clear 25 = .ok (.ireturn, 1) := by decide +kernel
theorem dX5_run_0 : decode cX5_run 0 = .ok (.iload_n 2, 1) := by decide +kernel
theorem dX5_run_1 : decode cX5_run 1 = .ok (.bipush 65, 2) := by decide +kernel
theorem dX5_run_3 : decode cX5_run 3 = .ok (.invokestatic 38, 3) := by decide +kernel
theorem dX5_run_6 : decode cX5_run 6 = .ok (.ifCond .ne 6, 3) := by decide +kernel
theorem dX5_run_9 : decode cX5_run 9 = .ok (.bipush (-101), 2) := by decide +kernel
theorem dX5_run_11 : decode cX5_run 11 = .ok (.ireturn, 1) := by decide +kernel
theorem dX5_run_12 : decode cX5_run 12 = .ok (.aload_n 0, 1) := by decide +kernel
theorem dX5_run_13 : decode cX5_run 13 = .ok (.getfield 19, 3) := by decide +kernel
theorem dX5_run_16 : decode cX5_run 16 = .ok (.iload_n 1, 1) := by decide +kernel
theorem dX5_run_17 : decode cX5_run 17 = .ok (.invokevirtual 52, 3) := by decide +kernel
theorem dX5_run_20 : decode cX5_run 20 = .ok (.aload_n 0, 1) := by decide +kernel
theorem dX5_run_21 : decode cX5_run 21 = .ok (.getfield 26, 3) := by decide +kernel
theorem dX5_run_24 : decode cX5_run 24 = .ok (.invokevirtual 56, 3) := by decide +kernel
theorem dX5_run_27 : decode cX5_run 27 = .ok (.iconst 0, 1) := by decide +kernel
theorem dX5_run_28 : decode cX5_run 28 = .ok (.istore_n 3, 1) := by decide +kernel
theorem dX5_run_29 : decode cX5_run 29 = .ok (.iconst 0, 1) := by decide +kernel
theorem dX5_run_30 : decode cX5_run 30 = .ok (.istore 4, 2) := by decide +kernel
theorem dX5_run_32 : decode cX5_run 32 = .ok (.iload 4, 2) := by decide +kernel
theorem dX5_run_34 : decode cX5_run 34 = .ok (.iload_n 2, 1) := by decide +kernel
theorem dX5_run_35 : decode cX5_run 35 = .ok (.if_icmp .ge 26, 3) := by decide +kernel
theorem dX5_run_38 : decode cX5_run 38 = .ok (.aload_n 0, 1) := by decide +kernel
theorem dX5_run_39 : decode cX5_run 39 = .ok (.getfield 10, 3) := by decide +kernel
theorem dX5_run_42 : decode cX5_run 42 = .ok (.iload_n 3, 1) := by decide +kernel
theorem dX5_run_43 : decode cX5_run 43 = .ok (.invokevirtual 58, 3) := by decide +kernel
theorem dX5_run_46 : decode cX5_run 46 = .ok (.ifCond .eq 15, 3) := by decide +kernel
theorem dX5_run_49 : decode cX5_run 49 = .ok (.aload_n 0, 1) := by decide +kernel
theorem dX5_run_50 : decode cX5_run 50 = .ok (.iload_n 3, 1) := by decide +kernel
theorem dX5_run_51 : decode cX5_run 51 = .ok (.invokevirtual 62, 3) := by decide +kernel
theorem dX5_run_54 : decode cX5_run 54 = .ok (.istore_n 3, 1) := by decide +kernel
theorem dX5_run_55 : decode cX5_run 55 = .ok (.iinc 4 1, 3) := by decide +kernel
theorem dX5_run_58 : decode cX5_run 58 = .ok (.goto (-26), 3) := by decide +kernel
theorem dX5_run_61 : decode cX5_run 61 = .ok (.aload_n 0, 1) := by decide +kernel
theorem dX5_run_62 : decode cX5_run 62 = .ok (.getfield 26, 3) := by decide +kernel
theorem dX5_run_65 : decode cX5_run 65 = .ok (.getfield 66, 3) := by decide +kernel
theorem dX5_run_68 : decode cX5_run 68 = .ok (.ifCond .eq 5, 3) := by decide +kernel
theorem dX5_run_71 : decode cX5_run 71 = .ok (.iconst 1, 1) := by decide +kernel
theorem dX5_run_72 : decode cX5_run 72 = .ok (.ireturn, 1) := by decide +kernel
theorem dX5_run_73 : decode cX5_run 73 = .ok (.aload_n 0, 1) := by decide +kernel
theorem dX5_run_74 : decode cX5_run 74 = .ok (.getfield 10, 3) := by decide +kernel
theorem dX5_run_77 : decode cX5_run 77 = .ok (.iload_n 3, 1) := by decide +kernel
theorem dX5_run_78 : decode cX5_run 78 = .ok (.invokevirtual 58, 3) := by decide +kernel
theorem dX5_run_81 : decode cX5_run 81 = .ok (.ifCond .eq 7, 3) := by decide +kernel
theorem dX5_run_84 : decode cX5_run 84 = .ok (.iconst 2, 1) := by decide +kernel
theorem dX5_run_85 : decode cX5_run 85 = .ok (.goto 4, 3) := by decide +kernel
theorem dX5_run_88 : decode cX5_run 88 = .ok (.iconst 0, 1) := by decide +kernel
theorem dX5_run_89 : decode cX5_run 89 = .ok (.ireturn, 1) := by decide +kernel
theorem dX5_told_0 : decode cX5_told 0 = .ok (.iload_n 1, 1) := by decide +kernel
theorem dX5_told_1 : decode cX5_told 1 = .ok (.tableswitch 75 0 4 #[35, 43, 51, 59, 67], 35) := by decide +kernel
theorem dX5_told_36 : decode cX5_told 36 = .ok (.aload_n 0, 1) := by decide +kernel
theorem dX5_told_37 : decode cX5_told 37 = .ok (.getfield 26, 3) := by decide +kernel
theorem dX5_told_40 : decode cX5_told 40 = .ok (.getfield 66, 3) := by decide +kernel
theorem dX5_told_43 : decode cX5_told 43 = .ok (.ireturn, 1) := by decide +kernel
theorem dX5_told_44 : decode cX5_told 44 = .ok (.aload_n 0, 1) := by decide +kernel
theorem dX5_told_45 : decode cX5_told 45 = .ok (.getfield 26, 3) := by decide +kernel
theorem dX5_told_48 : decode cX5_told 48 = .ok (.getfield 69, 3) := by decide +kernel
theorem dX5_told_51 : decode cX5_told 51 = .ok (.ireturn, 1) := by decide +kernel
theorem dX5_told_52 : decode cX5_told 52 = .ok (.aload_n 0, 1) := by decide +kernel
theorem dX5_told_53 : decode cX5_told 53 = .ok (.getfield 26, 3) := by decide +kernel
theorem dX5_told_56 : decode cX5_told 56 = .ok (.getfield 72, 3) := by decide +kernel
theorem dX5_told_59 : decode cX5_told 59 = .ok (.ireturn, 1) := by decide +kernel
theorem dX5_told_60 : decode cX5_told 60 = .ok (.aload_n 0, 1) := by decide +kernel
theorem dX5_told_61 : decode cX5_told 61 = .ok (.getfield 26, 3) := by decide +kernel
theorem dX5_told_64 : decode cX5_told 64 = .ok (.getfield 75, 3) := by decide +kernel
theorem dX5_told_67 : decode cX5_told 67 = .ok (.ireturn, 1) := by decide +kernel
theorem dX5_told_68 : decode cX5_told 68 = .ok (.aload_n 0, 1) := by decide +kernel
theorem dX5_told_69 : decode cX5_told 69 = .ok (.getfield 26, 3) := by decide +kernel
theorem dX5_told_72 : decode cX5_told 72 = .ok (.getfield 78, 3) := by decide +kernel
theorem dX5_told_75 : decode cX5_told 75 = .ok (.ireturn, 1) := by decide +kernel
theorem dX5_told_76 : decode cX5_told 76 = .ok (.bipush (-101), 2) := by decide +kernel
theorem dX5_told_78 : decode cX5_told 78 = .ok (.ireturn, 1) := by decide +kernel
theorem dX5_caught_0 : decode cX5_caught 0 = .ok (.iload_n 1, 1) := by decide +kernel
theorem dX5_caught_1 : decode cX5_caught 1 = .ok (.ifCond .eq 12, 3) := by decide +kernel
theorem dX5_caught_4 : decode cX5_caught 4 = .ok (.iload_n 1, 1) := by decide +kernel
theorem dX5_caught_5 : decode cX5_caught 5 = .ok (.bipush 8, 2) := by decide +kernel
theorem dX5_caught_7 : decode cX5_caught 7 = .ok (.invokestatic 38, 3) := by decide +kernel
theorem dX5_caught_10 : decode cX5_caught 10 = .ok (.ifCond .ne 6, 3) := by decide +kernel
theorem dX5_caught_13 : decode cX5_caught 13 = .ok (.bipush (-101), 2) := by decide +kernel
theorem dX5_caught_15 : decode cX5_caught 15 = .ok (.ireturn, 1) := by decide +kernel
theorem dX5_caught_16 : decode cX5_caught 16 = .ok (.aload_n 0, 1) := by decide +kernel
theorem dX5_caught_17 : decode cX5_caught 17 = .ok (.getfield 26, 3) := by decide +kernel
theorem dX5_caught_20 : decode cX5_caught 20 = .ok (.getfield 81, 3) := by decide +kernel
theorem dX5_caught_23 : decode cX5_caught 23 = .ok (.iload_n 1, 1) := by decide +kernel
theorem dX5_caught_24 : decode cX5_caught 24 = .ok (.iaload, 1) := by decide +kernel
theorem dX5_caught_25 : decode cX5_caught 25 = .ok (.ireturn, 1) := by decide +kernel
theorem dX5_register_0 : decode cX5_register 0 = .ok (.iload_n 1, 1) := by decide +kernel
theorem dX5_register_1 : decode cX5_register 1 = .ok (.bipush 6, 2) := by decide +kernel
theorem dX5_register_3 : decode cX5_register 3 = .ok (.invokestatic 38, 3) := by decide +kernel
theorem dX5_register_6 : decode cX5_register 6 = .ok (.ifCond .eq 15, 3) := by decide +kernel
theorem dX5_register_9 : decode cX5_register 9 = .ok (.aload_n 0, 1) := by decide +kernel
theorem dX5_register_10 : decode cX5_register 10 = .ok (.getfield 19, 3) := by decide +kernel
theorem dX5_register_13 : decode cX5_register 13 = .ok (.getfield 85, 3) := by decide +kernel
theorem dX5_register_16 : decode cX5_register 16 = .ok (.iload_n 1, 1) := by decide +kernel
theorem dX5_register_17 : decode cX5_register 17 = .ok (.iaload, 1) := by decide +kernel
theorem dX5_register_18 : decode cX5_register 18 = .ok (.goto 4, 3) := by decide +kernel
theorem dX5_register_21 : decode cX5_register 21 = .ok (.iconst 0, 1) := by decide +kernel
theorem dX5_register_22 : decode cX5_register 22 = .ok (.ireturn, 1) := by decide +kernel
theorem dX5_item_0 : decode cX5_item 0 = .ok (.iload_n 1, 1) := by decide +kernel
theorem dX5_item_1 : decode cX5_item 1 = .ok (.bipush 8, 2) := by decide +kernel
theorem dX5_item_3 : decode cX5_item 3 = .ok (.invokestatic 38, 3) := by decide +kernel
theorem dX5_item_6 : decode cX5_item 6 = .ok (.ifCond .eq 11, 3) := by decide +kernel
theorem dX5_item_9 : decode cX5_item 9 = .ok (.iload_n 2, 1) := by decide +kernel
theorem dX5_item_10 : decode cX5_item 10 = .ok (.iconst 4, 1) := by decide +kernel
theorem dX5_item_11 : decode cX5_item 11 = .ok (.invokestatic 38, 3) := by decide +kernel
theorem dX5_item_14 : decode cX5_item 14 = .ok (.ifCond .ne 6, 3) := by decide +kernel
theorem dX5_item_17 : decode cX5_item 17 = .ok (.bipush (-101), 2) := by decide +kernel
theorem dX5_item_19 : decode cX5_item 19 = .ok (.ireturn, 1) := by decide +kernel
theorem dX5_item_20 : decode cX5_item 20 = .ok (.aload_n 0, 1) := by decide +kernel
theorem dX5_item_21 : decode cX5_item 21 = .ok (.getfield 19, 3) := by decide +kernel
theorem dX5_item_24 : decode cX5_item 24 = .ok (.getfield 88, 3) := by decide +kernel
theorem dX5_item_27 : decode cX5_item 27 = .ok (.iload_n 1, 1) := by decide +kernel
theorem dX5_item_28 : decode cX5_item 28 = .ok (.iaload, 1) := by decide +kernel
theorem dX5_item_29 : decode cX5_item 29 = .ok (.istore_n 3, 1) := by decide +kernel
theorem dX5_item_30 : decode cX5_item 30 = .ok (.aload_n 0, 1) := by decide +kernel
theorem dX5_item_31 : decode cX5_item 31 = .ok (.getfield 19, 3) := by decide +kernel
theorem dX5_item_34 : decode cX5_item 34 = .ok (.getfield 91, 3) := by decide +kernel
theorem dX5_item_37 : decode cX5_item 37 = .ok (.iload_n 3, 1) := by decide +kernel
theorem dX5_item_38 : decode cX5_item 38 = .ok (.invokevirtual 95, 3) := by decide +kernel
theorem dX5_item_41 : decode cX5_item 41 = .ok (.ifCond .ne 5, 3) := by decide +kernel
theorem dX5_item_44 : decode cX5_item 44 = .ok (.iconst (-1), 1) := by decide +kernel
theorem dX5_item_45 : decode cX5_item 45 = .ok (.ireturn, 1) := by decide +kernel
theorem dX5_item_46 : decode cX5_item 46 = .ok (.iload_n 2, 1) := by decide +kernel
theorem dX5_item_47 : decode cX5_item 47 = .ok (.tableswitch 64 0 2 #[25, 38, 51], 25) := by decide +kernel
theorem dX5_item_72 : decode cX5_item 72 = .ok (.aload_n 0, 1) := by decide +kernel
theorem dX5_item_73 : decode cX5_item 73 = .ok (.getfield 19, 3) := by decide +kernel
theorem dX5_item_76 : decode cX5_item 76 = .ok (.getfield 91, 3) := by decide +kernel
theorem dX5_item_79 : decode cX5_item 79 = .ok (.getfield 100, 3) := by decide +kernel
theorem dX5_item_82 : decode cX5_item 82 = .ok (.iload_n 3, 1) := by decide +kernel
theorem dX5_item_83 : decode cX5_item 83 = .ok (.iaload, 1) := by decide +kernel
theorem dX5_item_84 : decode cX5_item 84 = .ok (.ireturn, 1) := by decide +kernel
theorem dX5_item_85 : decode cX5_item 85 = .ok (.aload_n 0, 1) := by decide +kernel
theorem dX5_item_86 : decode cX5_item 86 = .ok (.getfield 19, 3) := by decide +kernel
theorem dX5_item_89 : decode cX5_item 89 = .ok (.getfield 91, 3) := by decide +kernel
theorem dX5_item_92 : decode cX5_item 92 = .ok (.getfield 103, 3) := by decide +kernel
theorem dX5_item_95 : decode cX5_item 95 = .ok (.iload_n 3, 1) := by decide +kernel
theorem dX5_item_96 : decode cX5_item 96 = .ok (.iaload, 1) := by decide +kernel
theorem dX5_item_97 : decode cX5_item 97 = .ok (.ireturn, 1) := by decide +kernel
theorem dX5_item_98 : decode cX5_item 98 = .ok (.aload_n 0, 1) := by decide +kernel
theorem dX5_item_99 : decode cX5_item 99 = .ok (.getfield 19, 3) := by decide +kernel
theorem dX5_item_102 : decode cX5_item 102 = .ok (.getfield 91, 3) := by decide +kernel
theorem dX5_item_105 : decode cX5_item 105 = .ok (.getfield 106, 3) := by decide +kernel
theorem dX5_item_108 : decode cX5_item 108 = .ok (.iload_n 3, 1) := by decide +kernel
theorem dX5_item_109 : decode cX5_item 109 = .ok (.iaload, 1) := by decide +kernel
theorem dX5_item_110 : decode cX5_item 110 = .ok (.ireturn, 1) := by decide +kernel
theorem dX5_item_111 : decode cX5_item 111 = .ok (.aload_n 0, 1) := by decide +kernel
theorem dX5_item_112 : decode cX5_item 112 = .ok (.getfield 19, 3) := by decide +kernel
theorem dX5_item_115 : decode cX5_item 115 = .ok (.iload_n 3, 1) := by decide +kernel
theorem dX5_item_116 : decode cX5_item 116 = .ok (.invokevirtual 109, 3) := by decide +kernel
theorem dX5_item_119 : decode cX5_item 119 = .ok (.ireturn, 1) := by decide +kernel
theorem dX5_row_0 : decode cX5_row 0 = .ok (.iload_n 2, 1) := by decide +kernel
theorem dX5_row_1 : decode cX5_row 1 = .ok (.tableswitch 132 0 3 #[31, 57, 83, 106], 31) := by decide +kernel
theorem dX5_row_32 : decode cX5_row 32 = .ok (.iload_n 1, 1) := by decide +kernel
theorem dX5_row_33 : decode cX5_row 33 = .ok (.iconst 4, 1) := by decide +kernel
theorem dX5_row_34 : decode cX5_row 34 = .ok (.invokestatic 38, 3) := by decide +kernel
theorem dX5_row_37 : decode cX5_row 37 = .ok (.ifCond .eq 18, 3) := by decide +kernel
theorem dX5_row_40 : decode cX5_row 40 = .ok (.aload_n 0, 1) := by decide +kernel
theorem dX5_row_41 : decode cX5_row 41 = .ok (.getfield 19, 3) := by decide +kernel
theorem dX5_row_44 : decode cX5_row 44 = .ok (.getfield 112, 3) := by decide +kernel
theorem dX5_row_47 : decode cX5_row 47 = .ok (.iload_n 1, 1) := by decide +kernel
theorem dX5_row_48 : decode cX5_row 48 = .ok (.aaload, 1) := by decide +kernel
theorem dX5_row_49 : decode cX5_row 49 = .ok (.getfield 116, 3) := by decide +kernel
theorem dX5_row_52 : decode cX5_row 52 = .ok (.goto 5, 3) := by decide +kernel
theorem dX5_row_55 : decode cX5_row 55 = .ok (.bipush (-101), 2) := by decide +kernel
theorem dX5_row_57 : decode cX5_row 57 = .ok (.ireturn, 1) := by decide +kernel
theorem dX5_row_58 : decode cX5_row 58 = .ok (.iload_n 1, 1) := by decide +kernel
theorem dX5_row_59 : decode cX5_row 59 = .ok (.iconst 3, 1) := by decide +kernel
theorem dX5_row_60 : decode cX5_row 60 = .ok (.invokestatic 38, 3) := by decide +kernel
theorem dX5_row_63 : decode cX5_row 63 = .ok (.ifCond .eq 18, 3) := by decide +kernel
theorem dX5_row_66 : decode cX5_row 66 = .ok (.aload_n 0, 1) := by decide +kernel
theorem dX5_row_67 : decode cX5_row 67 = .ok (.getfield 19, 3) := by decide +kernel
theorem dX5_row_70 : decode cX5_row 70 = .ok (.getfield 121, 3) := by decide +kernel
theorem dX5_row_73 : decode cX5_row 73 = .ok (.iload_n 1, 1) := by decide +kernel
theorem dX5_row_74 : decode cX5_row 74 = .ok (.aaload, 1) := by decide +kernel
theorem dX5_row_75 : decode cX5_row 75 = .ok (.getfield 116, 3) := by decide +kernel
theorem dX5_row_78 : decode cX5_row 78 = .ok (.goto 5, 3) := by decide +kernel
theorem dX5_row_81 : decode cX5_row 81 = .ok (.bipush (-101), 2) := by decide +kernel
theorem dX5_row_83 : decode cX5_row 83 = .ok (.ireturn, 1) := by decide +kernel
theorem dX5_row_84 : decode cX5_row 84 = .ok (.iload_n 1, 1) := by decide +kernel
theorem dX5_row_85 : decode cX5_row 85 = .ok (.iconst 2, 1) := by decide +kernel
theorem dX5_row_86 : decode cX5_row 86 = .ok (.invokestatic 38, 3) := by decide +kernel
theorem dX5_row_89 : decode cX5_row 89 = .ok (.ifCond .eq 15, 3) := by decide +kernel
theorem dX5_row_92 : decode cX5_row 92 = .ok (.aload_n 0, 1) := by decide +kernel
theorem dX5_row_93 : decode cX5_row 93 = .ok (.getfield 19, 3) := by decide +kernel
theorem dX5_row_96 : decode cX5_row 96 = .ok (.getfield 124, 3) := by decide +kernel
theorem dX5_row_99 : decode cX5_row 99 = .ok (.iload_n 1, 1) := by decide +kernel
theorem dX5_row_100 : decode cX5_row 100 = .ok (.iaload, 1) := by decide +kernel
theorem dX5_row_101 : decode cX5_row 101 = .ok (.goto 5, 3) := by decide +kernel
theorem dX5_row_104 : decode cX5_row 104 = .ok (.bipush (-101), 2) := by decide +kernel
theorem dX5_row_106 : decode cX5_row 106 = .ok (.ireturn, 1) := by decide +kernel
theorem dX5_row_107 : decode cX5_row 107 = .ok (.iload_n 1, 1) := by decide +kernel
theorem dX5_row_108 : decode cX5_row 108 = .ok (.iconst 4, 1) := by decide +kernel
theorem dX5_row_109 : decode cX5_row 109 = .ok (.invokestatic 38, 3) := by decide +kernel
theorem dX5_row_112 : decode cX5_row 112 = .ok (.ifCond .eq 18, 3) := by decide +kernel
theorem dX5_row_115 : decode cX5_row 115 = .ok (.aload_n 0, 1) := by decide +kernel
theorem dX5_row_116 : decode cX5_row 116 = .ok (.getfield 19, 3) := by decide +kernel
theorem dX5_row_119 : decode cX5_row 119 = .ok (.getfield 112, 3) := by decide +kernel
theorem dX5_row_122 : decode cX5_row 122 = .ok (.iload_n 1, 1) := by decide +kernel
theorem dX5_row_123 : decode cX5_row 123 = .ok (.aaload, 1) := by decide +kernel
theorem dX5_row_124 : decode cX5_row 124 = .ok (.getfield 127, 3) := by decide +kernel
theorem dX5_row_127 : decode cX5_row 127 = .ok (.goto 5, 3) := by decide +kernel
theorem dX5_row_130 : decode cX5_row 130 = .ok (.bipush (-101), 2) := by decide +kernel
theorem dX5_row_132 : decode cX5_row 132 = .ok (.ireturn, 1) := by decide +kernel
theorem dX5_row_133 : decode cX5_row 133 = .ok (.bipush (-101), 2) := by decide +kernel
theorem dX5_row_135 : decode cX5_row 135 = .ok (.ireturn, 1) := by decide +kernel
theorem dX5_onBelt_0 : decode cX5_onBelt 0 = .ok (.iload_n 1, 1) := by decide +kernel
theorem dX5_onBelt_1 : decode cX5_onBelt 1 = .ok (.iconst 4, 1) := by decide +kernel
theorem dX5_onBelt_2 : decode cX5_onBelt 2 = .ok (.invokestatic 38, 3) := by decide +kernel
theorem dX5_onBelt_5 : decode cX5_onBelt 5 = .ok (.ifCond .ne 6, 3) := by decide +kernel
theorem dX5_onBelt_8 : decode cX5_onBelt 8 = .ok (.bipush (-101), 2) := by decide +kernel
theorem dX5_onBelt_10 : decode cX5_onBelt 10 = .ok (.ireturn, 1) := by decide +kernel
theorem dX5_onBelt_11 : decode cX5_onBelt 11 = .ok (.aload_n 0, 1) := by decide +kernel
theorem dX5_onBelt_12 : decode cX5_onBelt 12 = .ok (.getfield 19, 3) := by decide +kernel
theorem dX5_onBelt_15 : decode cX5_onBelt 15 = .ok (.getfield 112, 3) := by decide +kernel
theorem dX5_onBelt_18 : decode cX5_onBelt 18 = .ok (.iload_n 1, 1) := by decide +kernel
theorem dX5_onBelt_19 : decode cX5_onBelt 19 = .ok (.aaload, 1) := by decide +kernel
theorem dX5_onBelt_20 : decode cX5_onBelt 20 = .ok (.astore_n 3, 1) := by decide +kernel
theorem dX5_onBelt_21 : decode cX5_onBelt 21 = .ok (.aload_n 3, 1) := by decide +kernel
theorem dX5_onBelt_22 : decode cX5_onBelt 22 = .ok (.iload_n 2, 1) := by decide +kernel
theorem dX5_onBelt_23 : decode cX5_onBelt 23 = .ok (.invokevirtual 130, 3) := by decide +kernel
theorem dX5_onBelt_26 : decode cX5_onBelt 26 = .ok (.ifCond .ne 5, 3) := by decide +kernel
theorem dX5_onBelt_29 : decode cX5_onBelt 29 = .ok (.iconst (-1), 1) := by decide +kernel
theorem dX5_onBelt_30 : decode cX5_onBelt 30 = .ok (.ireturn, 1) := by decide +kernel
theorem dX5_onBelt_31 : decode cX5_onBelt 31 = .ok (.aload_n 3, 1) := by decide +kernel
theorem dX5_onBelt_32 : decode cX5_onBelt 32 = .ok (.getfield 133, 3) := by decide +kernel
theorem dX5_onBelt_35 : decode cX5_onBelt 35 = .ok (.iload_n 2, 1) := by decide +kernel
theorem dX5_onBelt_36 : decode cX5_onBelt 36 = .ok (.iaload, 1) := by decide +kernel
theorem dX5_onBelt_37 : decode cX5_onBelt 37 = .ok (.istore 4, 2) := by decide +kernel
theorem dX5_onBelt_39 : decode cX5_onBelt 39 = .ok (.aload_n 0, 1) := by decide +kernel
theorem dX5_onBelt_40 : decode cX5_onBelt 40 = .ok (.getfield 19, 3) := by decide +kernel
theorem dX5_onBelt_43 : decode cX5_onBelt 43 = .ok (.getfield 91, 3) := by decide +kernel
theorem dX5_onBelt_46 : decode cX5_onBelt 46 = .ok (.iload 4, 2) := by decide +kernel
theorem dX5_onBelt_48 : decode cX5_onBelt 48 = .ok (.invokevirtual 95, 3) := by decide +kernel
theorem dX5_onBelt_51 : decode cX5_onBelt 51 = .ok (.ifCond .eq 19, 3) := by decide +kernel
theorem dX5_onBelt_54 : decode cX5_onBelt 54 = .ok (.aload_n 0, 1) := by decide +kernel
theorem dX5_onBelt_55 : decode cX5_onBelt 55 = .ok (.getfield 19, 3) := by decide +kernel
theorem dX5_onBelt_58 : decode cX5_onBelt 58 = .ok (.getfield 91, 3) := by decide +kernel
theorem dX5_onBelt_61 : decode cX5_onBelt 61 = .ok (.getfield 100, 3) := by decide +kernel
theorem dX5_onBelt_64 : decode cX5_onBelt 64 = .ok (.iload 4, 2) := by decide +kernel
theorem dX5_onBelt_66 : decode cX5_onBelt 66 = .ok (.iaload, 1) := by decide +kernel
theorem dX5_onBelt_67 : decode cX5_onBelt 67 = .ok (.goto 4, 3) := by decide +kernel
theorem dX5_onBelt_70 : decode cX5_onBelt 70 = .ok (.iconst (-1), 1) := by decide +kernel
theorem dX5_onBelt_71 : decode cX5_onBelt 71 = .ok (.ireturn, 1) := by decide +kernel
theorem dX5_counted_0 : decode cX5_counted 0 = .ok (.iload_n 1, 1) := by decide +kernel
theorem dX5_counted_1 : decode cX5_counted 1 = .ok (.iconst 3, 1) := by decide +kernel
theorem dX5_counted_2 : decode cX5_counted 2 = .ok (.invokestatic 38, 3) := by decide +kernel
theorem dX5_counted_5 : decode cX5_counted 5 = .ok (.ifCond .ne 6, 3) := by decide +kernel
theorem dX5_counted_8 : decode cX5_counted 8 = .ok (.bipush (-101), 2) := by decide +kernel
theorem dX5_counted_10 : decode cX5_counted 10 = .ok (.ireturn, 1) := by decide +kernel
theorem dX5_counted_11 : decode cX5_counted 11 = .ok (.aload_n 0, 1) := by decide +kernel
theorem dX5_counted_12 : decode cX5_counted 12 = .ok (.getfield 19, 3) := by decide +kernel
theorem dX5_counted_15 : decode cX5_counted 15 = .ok (.getfield 121, 3) := by decide +kernel
theorem dX5_counted_18 : decode cX5_counted 18 = .ok (.iload_n 1, 1) := by decide +kernel
theorem dX5_counted_19 : decode cX5_counted 19 = .ok (.aaload, 1) := by decide +kernel
theorem dX5_counted_20 : decode cX5_counted 20 = .ok (.astore_n 3, 1) := by decide +kernel
theorem dX5_counted_21 : decode cX5_counted 21 = .ok (.aload_n 3, 1) := by decide +kernel
theorem dX5_counted_22 : decode cX5_counted 22 = .ok (.iload_n 2, 1) := by decide +kernel
theorem dX5_counted_23 : decode cX5_counted 23 = .ok (.invokevirtual 130, 3) := by decide +kernel
theorem dX5_counted_26 : decode cX5_counted 26 = .ok (.ifCond .eq 12, 3) := by decide +kernel
theorem dX5_counted_29 : decode cX5_counted 29 = .ok (.aload_n 3, 1) := by decide +kernel
theorem dX5_counted_30 : decode cX5_counted 30 = .ok (.getfield 133, 3) := by decide +kernel
theorem dX5_counted_33 : decode cX5_counted 33 = .ok (.iload_n 2, 1) := by decide +kernel
theorem dX5_counted_34 : decode cX5_counted 34 = .ok (.iaload, 1) := by decide +kernel
theorem dX5_counted_35 : decode cX5_counted 35 = .ok (.goto 4, 3) := by decide +kernel
theorem dX5_counted_38 : decode cX5_counted 38 = .ok (.iconst 0, 1) := by decide +kernel
theorem dX5_counted_39 : decode cX5_counted 39 = .ok (.ireturn, 1) := by decide +kernel
theorem dX5_nextLine_0 : decode cX5_nextLine 0 = .ok (.aload_n 0, 1) := by decide +kernel
theorem dX5_nextLine_1 : decode cX5_nextLine 1 = .ok (.getfield 10, 3) := by decide +kernel
theorem dX5_nextLine_4 : decode cX5_nextLine 4 = .ok (.getfield 136, 3) := by decide +kernel
theorem dX5_nextLine_7 : decode cX5_nextLine 7 = .ok (.iload_n 1, 1) := by decide +kernel
theorem dX5_nextLine_8 : decode cX5_nextLine 8 = .ok (.iaload, 1) := by decide +kernel
theorem dX5_nextLine_9 : decode cX5_nextLine 9 = .ok (.istore_n 2, 1) := by decide +kernel
theorem dX5_nextLine_10 : decode cX5_nextLine 10 = .ok (.aload_n 0, 1) := by decide +kernel
theorem dX5_nextLine_11 : decode cX5_nextLine 11 = .ok (.getfield 10, 3) := by decide +kernel
theorem dX5_nextLine_14 : decode cX5_nextLine 14 = .ok (.getfield 139, 3) := by decide +kernel
theorem dX5_nextLine_17 : decode cX5_nextLine 17 = .ok (.iload_n 1, 1) := by decide +kernel
theorem dX5_nextLine_18 : decode cX5_nextLine 18 = .ok (.iaload, 1) := by decide +kernel
theorem dX5_nextLine_19 : decode cX5_nextLine 19 = .ok (.istore_n 3, 1) := by decide +kernel
theorem dX5_nextLine_20 : decode cX5_nextLine 20 = .ok (.aload_n 0, 1) := by decide +kernel
theorem dX5_nextLine_21 : decode cX5_nextLine 21 = .ok (.getfield 10, 3) := by decide +kernel
theorem dX5_nextLine_24 : decode cX5_nextLine 24 = .ok (.getfield 142, 3) := by decide +kernel
theorem dX5_nextLine_27 : decode cX5_nextLine 27 = .ok (.iload_n 1, 1) := by decide +kernel
theorem dX5_nextLine_28 : decode cX5_nextLine 28 = .ok (.iaload, 1) := by decide +kernel
theorem dX5_nextLine_29 : decode cX5_nextLine 29 = .ok (.istore 4, 2) := by decide +kernel
theorem dX5_nextLine_31 : decode cX5_nextLine 31 = .ok (.aload_n 0, 1) := by decide +kernel
theorem dX5_nextLine_32 : decode cX5_nextLine 32 = .ok (.getfield 19, 3) := by decide +kernel
theorem dX5_nextLine_35 : decode cX5_nextLine 35 = .ok (.iload_n 2, 1) := by decide +kernel
theorem dX5_nextLine_36 : decode cX5_nextLine 36 = .ok (.iload_n 3, 1) := by decide +kernel
theorem dX5_nextLine_37 : decode cX5_nextLine 37 = .ok (.iload 4, 2) := by decide +kernel
theorem dX5_nextLine_39 : decode cX5_nextLine 39 = .ok (.aload_n 0, 1) := by decide +kernel
theorem dX5_nextLine_40 : decode cX5_nextLine 40 = .ok (.getfield 10, 3) := by decide +kernel
theorem dX5_nextLine_43 : decode cX5_nextLine 43 = .ok (.getfield 145, 3) := by decide +kernel
theorem dX5_nextLine_46 : decode cX5_nextLine 46 = .ok (.iload_n 1, 1) := by decide +kernel
theorem dX5_nextLine_47 : decode cX5_nextLine 47 = .ok (.iaload, 1) := by decide +kernel
theorem dX5_nextLine_48 : decode cX5_nextLine 48 = .ok (.invokevirtual 148, 3) := by decide +kernel
theorem dX5_nextLine_51 : decode cX5_nextLine 51 = .ok (.istore 5, 2) := by decide +kernel
theorem dX5_nextLine_53 : decode cX5_nextLine 53 = .ok (.aload_n 0, 1) := by decide +kernel
theorem dX5_nextLine_54 : decode cX5_nextLine 54 = .ok (.getfield 26, 3) := by decide +kernel
theorem dX5_nextLine_57 : decode cX5_nextLine 57 = .ok (.dup, 1) := by decide +kernel
theorem dX5_nextLine_58 : decode cX5_nextLine 58 = .ok (.getfield 75, 3) := by decide +kernel
theorem dX5_nextLine_61 : decode cX5_nextLine 61 = .ok (.iconst 1, 1) := by decide +kernel
theorem dX5_nextLine_62 : decode cX5_nextLine 62 = .ok (.iadd, 1) := by decide +kernel
theorem dX5_nextLine_63 : decode cX5_nextLine 63 = .ok (.putfield 75, 3) := by decide +kernel
theorem dX5_nextLine_66 : decode cX5_nextLine 66 = .ok (.iload 5, 2) := by decide +kernel
theorem dX5_nextLine_68 : decode cX5_nextLine 68 = .ok (.ifCond .ne 16, 3) := by decide +kernel
theorem dX5_nextLine_71 : decode cX5_nextLine 71 = .ok (.aload_n 0, 1) := by decide +kernel
theorem dX5_nextLine_72 : decode cX5_nextLine 72 = .ok (.getfield 19, 3) := by decide +kernel
theorem dX5_nextLine_75 : decode cX5_nextLine 75 = .ok (.iload_n 1, 1) := by decide +kernel
theorem dX5_nextLine_76 : decode cX5_nextLine 76 = .ok (.iload_n 2, 1) := by decide +kernel
theorem dX5_nextLine_77 : decode cX5_nextLine 77 = .ok (.iload_n 3, 1) := by decide +kernel
theorem dX5_nextLine_78 : decode cX5_nextLine 78 = .ok (.iload 4, 2) := by decide +kernel
theorem dX5_nextLine_80 : decode cX5_nextLine 80 = .ok (.invokevirtual 151, 3) := by decide +kernel
theorem dX5_nextLine_83 : decode cX5_nextLine 83 = .ok (.ireturn, 1) := by decide +kernel
theorem dX5_nextLine_84 : decode cX5_nextLine 84 = .ok (.iload 5, 2) := by decide +kernel
theorem dX5_nextLine_86 : decode cX5_nextLine 86 = .ok (.bipush 7, 2) := by decide +kernel
theorem dX5_nextLine_88 : decode cX5_nextLine 88 = .ok (.if_icmp .ne 19, 3) := by decide +kernel
theorem dX5_nextLine_91 : decode cX5_nextLine 91 = .ok (.aload_n 0, 1) := by decide +kernel
theorem dX5_nextLine_92 : decode cX5_nextLine 92 = .ok (.getfield 26, 3) := by decide +kernel
theorem dX5_nextLine_95 : decode cX5_nextLine 95 = .ok (.aload_n 0, 1) := by decide +kernel
theorem dX5_nextLine_96 : decode cX5_nextLine 96 = .ok (.getfield 19, 3) := by decide +kernel
theorem dX5_nextLine_99 : decode cX5_nextLine 99 = .ok (.getfield 154, 3) := by decide +kernel
theorem dX5_nextLine_102 : decode cX5_nextLine 102 = .ok (.iload_n 3, 1) := by decide +kernel
theorem dX5_nextLine_103 : decode cX5_nextLine 103 = .ok (.iaload, 1) := by decide +kernel
theorem dX5_nextLine_104 : decode cX5_nextLine 104 = .ok (.putfield 72, 3) := by decide +kernel
theorem dX5_nextLine_107 : decode cX5_nextLine 107 = .ok (.aload_n 0, 1) := by decide +kernel
theorem dX5_nextLine_108 : decode cX5_nextLine 108 = .ok (.getfield 10, 3) := by decide +kernel
theorem dX5_nextLine_111 : decode cX5_nextLine 111 = .ok (.iload_n 1, 1) := by decide +kernel
theorem dX5_nextLine_112 : decode cX5_nextLine 112 = .ok (.iload 5, 2) := by decide +kernel
theorem dX5_nextLine_114 : decode cX5_nextLine 114 = .ok (.invokevirtual 157, 3) := by decide +kernel
theorem dX5_nextLine_117 : decode cX5_nextLine 117 = .ok (.istore 6, 2) := by decide +kernel
theorem dX5_nextLine_119 : decode cX5_nextLine 119 = .ok (.iload 6, 2) := by decide +kernel
theorem dX5_nextLine_121 : decode cX5_nextLine 121 = .ok (.iconst (-1), 1) := by decide +kernel
theorem dX5_nextLine_122 : decode cX5_nextLine 122 = .ok (.if_icmp .ne 22, 3) := by decide +kernel
theorem dX5_nextLine_125 : decode cX5_nextLine 125 = .ok (.aload_n 0, 1) := by decide +kernel
theorem dX5_nextLine_126 : decode cX5_nextLine 126 = .ok (.getfield 26, 3) := by decide +kernel
theorem dX5_nextLine_129 : decode cX5_nextLine 129 = .ok (.iload 5, 2) := by decide +kernel
theorem dX5_nextLine_131 : decode cX5_nextLine 131 = .ok (.putfield 66, 3) := by decide +kernel
theorem dX5_nextLine_134 : decode cX5_nextLine 134 = .ok (.aload_n 0, 1) := by decide +kernel
theorem dX5_nextLine_135 : decode cX5_nextLine 135 = .ok (.getfield 26, 3) := by decide +kernel
theorem dX5_nextLine_138 : decode cX5_nextLine 138 = .ok (.iload_n 1, 1) := by decide +kernel
theorem dX5_nextLine_139 : decode cX5_nextLine 139 = .ok (.putfield 69, 3) := by decide +kernel
theorem dX5_nextLine_142 : decode cX5_nextLine 142 = .ok (.iconst (-1), 1) := by decide +kernel
theorem dX5_nextLine_143 : decode cX5_nextLine 143 = .ok (.ireturn, 1) := by decide +kernel
theorem dX5_nextLine_144 : decode cX5_nextLine 144 = .ok (.aload_n 0, 1) := by decide +kernel
theorem dX5_nextLine_145 : decode cX5_nextLine 145 = .ok (.getfield 26, 3) := by decide +kernel
theorem dX5_nextLine_148 : decode cX5_nextLine 148 = .ok (.getfield 81, 3) := by decide +kernel
theorem dX5_nextLine_151 : decode cX5_nextLine 151 = .ok (.iload 5, 2) := by decide +kernel
theorem dX5_nextLine_153 : decode cX5_nextLine 153 = .ok (.dup2, 1) := by decide +kernel
theorem dX5_nextLine_154 : decode cX5_nextLine 154 = .ok (.iaload, 1) := by decide +kernel
theorem dX5_nextLine_155 : decode cX5_nextLine 155 = .ok (.iconst 1, 1) := by decide +kernel
theorem dX5_nextLine_156 : decode cX5_nextLine 156 = .ok (.iadd, 1) := by decide +kernel
theorem dX5_nextLine_157 : decode cX5_nextLine 157 = .ok (.iastore, 1) := by decide +kernel
theorem dX5_nextLine_158 : decode cX5_nextLine 158 = .ok (.aload_n 0, 1) := by decide +kernel
theorem dX5_nextLine_159 : decode cX5_nextLine 159 = .ok (.getfield 26, 3) := by decide +kernel
theorem dX5_nextLine_162 : decode cX5_nextLine 162 = .ok (.dup, 1) := by decide +kernel
theorem dX5_nextLine_163 : decode cX5_nextLine 163 = .ok (.getfield 78, 3) := by decide +kernel
theorem dX5_nextLine_166 : decode cX5_nextLine 166 = .ok (.iconst 1, 1) := by decide +kernel
theorem dX5_nextLine_167 : decode cX5_nextLine 167 = .ok (.iadd, 1) := by decide +kernel
theorem dX5_nextLine_168 : decode cX5_nextLine 168 = .ok (.putfield 78, 3) := by decide +kernel
theorem dX5_nextLine_171 : decode cX5_nextLine 171 = .ok (.aload_n 0, 1) := by decide +kernel
theorem dX5_nextLine_172 : decode cX5_nextLine 172 = .ok (.getfield 10, 3) := by decide +kernel
theorem dX5_nextLine_175 : decode cX5_nextLine 175 = .ok (.getfield 161, 3) := by decide +kernel
theorem dX5_nextLine_178 : decode cX5_nextLine 178 = .ok (.iload 6, 2) := by decide +kernel
theorem dX5_nextLine_180 : decode cX5_nextLine 180 = .ok (.iaload, 1) := by decide +kernel
theorem dX5_nextLine_181 : decode cX5_nextLine 181 = .ok (.ireturn, 1) := by decide +kernel
theorem dX5_isBelow_0 : decode cX5_isBelow 0 = .ok (.iconst 0, 1) := by decide +kernel
theorem dX5_isBelow_1 : decode cX5_isBelow 1 = .ok (.iload_n 0, 1) := by decide +kernel
theorem dX5_isBelow_2 : decode cX5_isBelow 2 = .ok (.if_icmp .gt 12, 3) := by decide +kernel
theorem dX5_isBelow_5 : decode cX5_isBelow 5 = .ok (.iload_n 0, 1) := by decide +kernel
theorem dX5_isBelow_6 : decode cX5_isBelow 6 = .ok (.iload_n 1, 1) := by decide +kernel
theorem dX5_isBelow_7 : decode cX5_isBelow 7 = .ok (.if_icmp .ge 7, 3) := by decide +kernel
theorem dX5_isBelow_10 : decode cX5_isBelow 10 = .ok (.iconst 1, 1) := by decide +kernel
theorem dX5_isBelow_11 : decode cX5_isBelow 11 = .ok (.goto 4, 3) := by decide +kernel
theorem dX5_isBelow_14 : decode cX5_isBelow 14 = .ok (.iconst 0, 1) := by decide +kernel
theorem dX5_isBelow_15 : decode cX5_isBelow 15 = .ok (.ireturn, 1) := by decide +kernel
theorem dX5_isOf_0 : decode cX5_isOf 0 = .ok (.iload_n 1, 1) := by decide +kernel
theorem dX5_isOf_1 : decode cX5_isOf 1 = .ok (.ifCond .eq 18, 3) := by decide +kernel
theorem dX5_isOf_4 : decode cX5_isOf 4 = .ok (.iload_n 0, 1) := by decide +kernel
theorem dX5_isOf_5 : decode cX5_isOf 5 = .ok (.iload_n 1, 1) := by decide +kernel
theorem dX5_isOf_6 : decode cX5_isOf 6 = .ok (.if_icmp .eq 13, 3) := by decide +kernel
theorem dX5_isOf_9 : decode cX5_isOf 9 = .ok (.iload_n 0, 1) := by decide +kernel
theorem dX5_isOf_10 : decode cX5_isOf 10 = .ok (.iconst 3, 1) := by decide +kernel
theorem dX5_isOf_11 : decode cX5_isOf 11 = .ok (.if_icmp .gt 12, 3) := by decide +kernel
theorem dX5_isOf_14 : decode cX5_isOf 14 = .ok (.iload_n 1, 1) := by decide +kernel
theorem dX5_isOf_15 : decode cX5_isOf 15 = .ok (.iload_n 0, 1) := by decide +kernel
theorem dX5_isOf_16 : decode cX5_isOf 16 = .ok (.if_icmp .ge 7, 3) := by decide +kernel
theorem dX5_isOf_19 : decode cX5_isOf 19 = .ok (.iconst 1, 1) := by decide +kernel
theorem dX5_isOf_20 : decode cX5_isOf 20 = .ok (.goto 4, 3) := by decide +kernel
theorem dX5_isOf_23 : decode cX5_isOf 23 = .ok (.iconst 0, 1) := by decide +kernel
theorem dX5_isOf_24 : decode cX5_isOf 24 = .ok (.ireturn, 1) := by decide +kernel
theorem dX5_sizeFailure_0 : decode cX5_sizeFailure 0 = .ok (.iload_n 0, 1) := by decide +kernel
theorem dX5_sizeFailure_1 : decode cX5_sizeFailure 1 = .ok (.ifCond .ge 5, 3) := by decide +kernel
theorem dX5_sizeFailure_4 : decode cX5_sizeFailure 4 = .ok (.iconst 2, 1) := by decide +kernel
theorem dX5_sizeFailure_5 : decode cX5_sizeFailure 5 = .ok (.ireturn, 1) := by decide +kernel
theorem dX5_sizeFailure_6 : decode cX5_sizeFailure 6 = .ok (.iload_n 0, 1) := by decide +kernel
theorem dX5_sizeFailure_7 : decode cX5_sizeFailure 7 = .ok (.bipush 8, 2) := by decide +kernel
theorem dX5_sizeFailure_9 : decode cX5_sizeFailure 9 = .ok (.if_icmp .le 8, 3) := by decide +kernel
theorem dX5_sizeFailure_12 : decode cX5_sizeFailure 12 = .ok (.bipush 6, 2) := by decide +kernel
theorem dX5_sizeFailure_14 : decode cX5_sizeFailure 14 = .ok (.goto 4, 3) := by decide +kernel
theorem dX5_sizeFailure_17 : decode cX5_sizeFailure 17 = .ok (.iconst 0, 1) := by decide +kernel
theorem dX5_sizeFailure_18 : decode cX5_sizeFailure 18 = .ok (.ireturn, 1) := by decide +kernel
theorem dX6_init_0 : decode cX6_init 0 = .ok (.aload_n 0, 1) := by decide +kernel
theorem dX6_init_1 : decode cX6_init 1 = .ok (.invokespecial 1, 3) := by decide +kernel
theorem dX6_init_4 : decode cX6_init 4 = .ok (.aload_n 0, 1) := by decide +kernel
theorem dX6_init_5 : decode cX6_init 5 = .ok (.bipush 40, 2) := by decide +kernel
theorem dX6_init_7 : decode cX6_init 7 = .ok (.newarray .int, 2) := by decide +kernel
theorem dX6_init_9 : decode cX6_init 9 = .ok (.putfield 7, 3) := by decide +kernel
theorem dX6_init_12 : decode cX6_init 12 = .ok (.aload_n 0, 1) := by decide +kernel
theorem dX6_init_13 : decode cX6_init 13 = .ok (.bipush 40, 2) := by decide +kernel
theorem dX6_init_15 : decode cX6_init 15 = .ok (.newarray .int, 2) := by decide +kernel
theorem dX6_init_17 : decode cX6_init 17 = .ok (.putfield 13, 3) := by decide +kernel
theorem dX6_init_20 : decode cX6_init 20 = .ok (.aload_n 0, 1) := by decide +kernel
theorem dX6_init_21 : decode cX6_init 21 = .ok (.bipush 40, 2) := by decide +kernel
theorem dX6_init_23 : decode cX6_init 23 = .ok (.newarray .int, 2) := by decide +kernel
theorem dX6_init_25 : decode cX6_init 25 = .ok (.putfield 16, 3) := by decide +kernel
theorem dX6_init_28 : decode cX6_init 28 = .ok (.aload_n 0, 1) := by decide +kernel
theorem dX6_init_29 : decode cX6_init 29 = .ok (.bipush 40, 2) := by decide +kernel
theorem dX6_init_31 : decode cX6_init 31 = .ok (.newarray .int, 2) := by decide +kernel
theorem dX6_init_33 : decode cX6_init 33 = .ok (.putfield 19, 3) := by decide +kernel
theorem dX6_init_36 : decode cX6_init 36 = .ok (.aload_n 0, 1) := by decide +kernel
theorem dX6_init_37 : decode cX6_init 37 = .ok (.iconst 5, 1) := by decide +kernel
theorem dX6_init_38 : decode cX6_init 38 = .ok (.newarray .int, 2) := by decide +kernel
theorem dX6_init_40 : decode cX6_init 40 = .ok (.putfield 22, 3) := by decide +kernel
theorem dX6_init_43 : decode cX6_init 43 = .ok (.aload_n 0, 1) := by decide +kernel
theorem dX6_init_44 : decode cX6_init 44 = .ok (.iconst 5, 1) := by decide +kernel
theorem dX6_init_45 : decode cX6_init 45 = .ok (.newarray .int, 2) := by decide +kernel
theorem dX6_init_47 : decode cX6_init 47 = .ok (.putfield 25, 3) := by decide +kernel
theorem dX6_init_50 : decode cX6_init 50 = .ok (.aload_n 0, 1) := by decide +kernel
theorem dX6_init_51 : decode cX6_init 51 = .ok (.iconst 5, 1) := by decide +kernel
theorem dX6_init_52 : decode cX6_init 52 = .ok (.newarray .int, 2) := by decide +kernel
theorem dX6_init_54 : decode cX6_init 54 = .ok (.putfield 28, 3) := by decide +kernel
theorem dX6_init_57 : decode cX6_init 57 = .ok (.aload_n 0, 1) := by decide +kernel
theorem dX6_init_58 : decode cX6_init 58 = .ok (.iconst 5, 1) := by decide +kernel
theorem dX6_init_59 : decode cX6_init 59 = .ok (.newarray .int, 2) := by decide +kernel
theorem dX6_init_61 : decode cX6_init 61 = .ok (.putfield 31, 3) := by decide +kernel
theorem dX6_init_64 : decode cX6_init 64 = .ok (.aload_n 0, 1) := by decide +kernel
theorem dX6_init_65 : decode cX6_init 65 = .ok (.bipush 64, 2) := by decide +kernel
theorem dX6_init_67 : decode cX6_init 67 = .ok (.newarray .int, 2) := by decide +kernel
theorem dX6_init_69 : decode cX6_init 69 = .ok (.putfield 34, 3) := by decide +kernel
theorem dX6_init_72 : decode cX6_init 72 = .ok (.aload_n 0, 1) := by decide +kernel
theorem dX6_init_73 : decode cX6_init 73 = .ok (.bipush 64, 2) := by decide +kernel
theorem dX6_init_75 : decode cX6_init 75 = .ok (.newarray .int, 2) := by decide +kernel
theorem dX6_init_77 : decode cX6_init 77 = .ok (.putfield 37, 3) := by decide +kernel
theorem dX6_init_80 : decode cX6_init 80 = .ok (.aload_n 0, 1) := by decide +kernel
theorem dX6_init_81 : decode cX6_init 81 = .ok (.bipush 64, 2) := by decide +kernel
theorem dX6_init_83 : decode cX6_init 83 = .ok (.newarray .int, 2) := by decide +kernel
theorem dX6_init_85 : decode cX6_init 85 = .ok (.putfield 40, 3) := by decide +kernel
theorem dX6_init_88 : decode cX6_init 88 = .ok (.aload_n 0, 1) := by decide +kernel
theorem dX6_init_89 : decode cX6_init 89 = .ok (.bipush 8, 2) := by decide +kernel
theorem dX6_init_91 : decode cX6_init 91 = .ok (.newarray .int, 2) := by decide +kernel
theorem dX6_init_93 : decode cX6_init 93 = .ok (.putfield 43, 3) := by decide +kernel
theorem dX6_init_96 : decode cX6_init 96 = .ok (.aload_n 0, 1) := by decide +kernel
theorem dX6_init_97 : decode cX6_init 97 = .ok (.iconst 4, 1) := by decide +kernel
theorem dX6_init_98 : decode cX6_init 98 = .ok (.newarray .int, 2) := by decide +kernel
theorem dX6_init_100 : decode cX6_init 100 = .ok (.putfield 46, 3) := by decide +kernel
theorem dX6_init_103 : decode cX6_init 103 = .ok (.aload_n 0, 1) := by decide +kernel
theorem dX6_init_104 : decode cX6_init 104 = .ok (.iconst 4, 1) := by decide +kernel
theorem dX6_init_105 : decode cX6_init 105 = .ok (.newarray .int, 2) := by decide +kernel
theorem dX6_init_107 : decode cX6_init 107 = .ok (.putfield 49, 3) := by decide +kernel
theorem dX6_init_110 : decode cX6_init 110 = .ok (.aload_n 0, 1) := by decide +kernel
theorem dX6_init_111 : decode cX6_init 111 = .ok (.bipush 32, 2) := by decide +kernel
theorem dX6_init_113 : decode cX6_init 113 = .ok (.newarray .int, 2) := by decide +kernel
theorem dX6_init_115 : decode cX6_init 115 = .ok (.putfield 52, 3) := by decide +kernel
theorem dX6_init_118 : decode cX6_init 118 = .ok (.aload_n 0, 1) := by decide +kernel
theorem dX6_init_119 : decode cX6_init 119 = .ok (.iconst 3, 1) := by decide +kernel
theorem dX6_init_120 : decode cX6_init 120 = .ok (.newarray .int, 2) := by decide +kernel
theorem dX6_init_122 : decode cX6_init 122 = .ok (.putfield 55, 3) := by decide +kernel
theorem dX6_init_125 : decode cX6_init 125 = .ok (.aload_n 0, 1) := by decide +kernel
theorem dX6_init_126 : decode cX6_init 126 = .ok (.bipush 24, 2) := by decide +kernel
theorem dX6_init_128 : decode cX6_init 128 = .ok (.newarray .int, 2) := by decide +kernel
theorem dX6_init_130 : decode cX6_init 130 = .ok (.putfield 58, 3) := by decide +kernel
theorem dX6_init_133 : decode cX6_init 133 = .ok (.aload_n 0, 1) := by decide +kernel
theorem dX6_init_134 : decode cX6_init 134 = .ok (.iconst 2, 1) := by decide +kernel
theorem dX6_init_135 : decode cX6_init 135 = .ok (.newarray .int, 2) := by decide +kernel
theorem dX6_init_137 : decode cX6_init 137 = .ok (.putfield 61, 3) := by decide +kernel
theorem dX6_init_140 : decode cX6_init 140 = .ok (.aload_n 0, 1) := by decide +kernel
theorem dX6_init_141 : decode cX6_init 141 = .ok (.iconst 2, 1) := by decide +kernel
theorem dX6_init_142 : decode cX6_init 142 = .ok (.newarray .int, 2) := by decide +kernel
theorem dX6_init_144 : decode cX6_init 144 = .ok (.putfield 64, 3) := by decide +kernel
theorem dX6_init_147 : decode cX6_init 147 = .ok (.aload_n 0, 1) := by decide +kernel
theorem dX6_init_148 : decode cX6_init 148 = .ok (.iconst 3, 1) := by decide +kernel
theorem dX6_init_149 : decode cX6_init 149 = .ok (.newarray .boolean, 2) := by decide +kernel
theorem dX6_init_151 : decode cX6_init 151 = .ok (.putfield 67, 3) := by decide +kernel
theorem dX6_init_154 : decode cX6_init 154 = .ok (.aload_n 0, 1) := by decide +kernel
theorem dX6_init_155 : decode cX6_init 155 = .ok (.iconst 3, 1) := by decide +kernel
theorem dX6_init_156 : decode cX6_init 156 = .ok (.newarray .int, 2) := by decide +kernel
theorem dX6_init_158 : decode cX6_init 158 = .ok (.putfield 71, 3) := by decide +kernel
theorem dX6_init_161 : decode cX6_init 161 = .ok (.aload_n 0, 1) := by decide +kernel
theorem dX6_init_162 : decode cX6_init 162 = .ok (.bipush 6, 2) := by decide +kernel
theorem dX6_init_164 : decode cX6_init 164 = .ok (.newarray .int, 2) := by decide +kernel
theorem dX6_init_166 : decode cX6_init 166 = .ok (.putfield 74, 3) := by decide +kernel
theorem dX6_init_169 : decode cX6_init 169 = .ok (.aload_n 0, 1) := by decide +kernel
theorem dX6_init_170 : decode cX6_init 170 = .ok (.bipush 8, 2) := by decide +kernel
theorem dX6_init_172 : decode cX6_init 172 = .ok (.newarray .int, 2) := by decide +kernel
theorem dX6_init_174 : decode cX6_init 174 = .ok (.putfield 77, 3) := by decide +kernel
theorem dX6_init_177 : decode cX6_init 177 = .ok (.aload_n 0, 1) := by decide +kernel
theorem dX6_init_178 : decode cX6_init 178 = .ok (.iconst 0, 1) := by decide +kernel
theorem dX6_init_179 : decode cX6_init 179 = .ok (.invokevirtual 80, 3) := by decide +kernel
theorem dX6_init_182 : decode cX6_init 182 = .ok (.return_, 1) := by decide +kernel
theorem dX6_in_0 : decode cX6_in 0 = .ok (.iload_n 0, 1) := by decide +kernel
theorem dX6_in_1 : decode cX6_in 1 = .ok (.iload_n 1, 1) := by decide +kernel
theorem dX6_in_2 : decode cX6_in 2 = .ok (.if_icmp .lt 12, 3) := by decide +kernel
theorem dX6_in_5 : decode cX6_in 5 = .ok (.iload_n 0, 1) := by decide +kernel
theorem dX6_in_6 : decode cX6_in 6 = .ok (.iload_n 2, 1) := by decide +kernel
theorem dX6_in_7 : decode cX6_in 7 = .ok (.if_icmp .gt 7, 3) := by decide +kernel
theorem dX6_in_10 : decode cX6_in 10 = .ok (.iconst 1, 1) := by decide +kernel
theorem dX6_in_11 : decode cX6_in 11 = .ok (.goto 4, 3) := by decide +kernel
theorem dX6_in_14 : decode cX6_in 14 = .ok (.iconst 0, 1) := by decide +kernel
theorem dX6_in_15 : decode cX6_in 15 = .ok (.ireturn, 1) := by decide +kernel
theorem dX6_begin_0 : decode cX6_begin 0 = .ok (.aload_n 0, 1) := by decide +kernel
theorem dX6_begin_1 : decode cX6_begin 1 = .ok (.iconst 0, 1) := by decide +kernel
theorem dX6_begin_2 : decode cX6_begin 2 = .ok (.putfield 84, 3) := by decide +kernel
theorem dX6_begin_5 : decode cX6_begin 5 = .ok (.iconst 0, 1) := by decide +kernel
theorem dX6_begin_6 : decode cX6_begin 6 = .ok (.istore_n 2, 1) := by decide +kernel
theorem dX6_begin_7 : decode cX6_begin 7 = .ok (.iload_n 2, 1) := by decide +kernel
theorem dX6_begin_8 : decode cX6_begin 8 = .ok (.bipush 8, 2) := by decide +kernel
theorem dX6_begin_10 : decode cX6_begin 10 = .ok (.if_icmp .ge 23, 3) := by decide +kernel
theorem dX6_begin_13 : decode cX6_begin 13 = .ok (.aload_n 0, 1) := by decide +kernel
theorem dX6_begin_14 : decode cX6_begin 14 = .ok (.getfield 43, 3) := by decide +kernel
theorem dX6_begin_17 : decode cX6_begin 17 = .ok (.iload_n 2, 1) := by decide +kernel
theorem dX6_begin_18 : decode cX6_begin 18 = .ok (.iconst (-1), 1) := by decide +kernel
theorem dX6_begin_19 : decode cX6_begin 19 = .ok (.iastore, 1) := by decide +kernel
theorem dX6_begin_20 : decode cX6_begin 20 = .ok (.aload_n 0, 1) := by decide +kernel
theorem dX6_begin_21 : decode cX6_begin 21 = .ok (.getfield 77, 3) := by decide +kernel
theorem dX6_begin_24 : decode cX6_begin 24 = .ok (.iload_n 2, 1) := by decide +kernel
theorem dX6_begin_25 : decode cX6_begin 25 = .ok (.iconst 0, 1) := by decide +kernel
theorem dX6_begin_26 : decode cX6_begin 26 = .ok (.iastore, 1) := by decide +kernel
theorem dX6_begin_27 : decode cX6_begin 27 = .ok (.iinc 2 1, 3) := by decide +kernel
theorem dX6_begin_30 : decode cX6_begin 30 = .ok (.goto (-23), 3) := by decide +kernel
theorem dX6_begin_33 : decode cX6_begin 33 = .ok (.iconst 0, 1) := by decide +kernel
theorem dX6_begin_34 : decode cX6_begin 34 = .ok (.istore_n 2, 1) := by decide +kernel
theorem dX6_begin_35 : decode cX6_begin 35 = .ok (.iload_n 2, 1) := by decide +kernel
theorem dX6_begin_36 : decode cX6_begin 36 = .ok (.iconst 4, 1) := by decide +kernel
theorem dX6_begin_37 : decode cX6_begin 37 = .ok (.if_icmp .ge 16, 3) := by decide +kernel
theorem dX6_begin_40 : decode cX6_begin 40 = .ok (.aload_n 0, 1) := by decide +kernel
theorem dX6_begin_41 : decode cX6_begin 41 = .ok (.getfield 46, 3) := by decide +kernel
theorem dX6_begin_44 : decode cX6_begin 44 = .ok (.iload_n 2, 1) := by decide +kernel
theorem dX6_begin_45 : decode cX6_begin 45 = .ok (.iconst (-1), 1) := by decide +kernel
theorem dX6_begin_46 : decode cX6_begin 46 = .ok (.iastore, 1) := by decide +kernel
theorem dX6_begin_47 : decode cX6_begin 47 = .ok (.iinc 2 1, 3) := by decide +kernel
theorem dX6_begin_50 : decode cX6_begin 50 = .ok (.goto (-15), 3) := by decide +kernel
theorem dX6_begin_53 : decode cX6_begin 53 = .ok (.iconst 0, 1) := by decide +kernel
theorem dX6_begin_54 : decode cX6_begin 54 = .ok (.istore_n 2, 1) := by decide +kernel
theorem dX6_begin_55 : decode cX6_begin 55 = .ok (.iload_n 2, 1) := by decide +kernel
theorem dX6_begin_56 : decode cX6_begin 56 = .ok (.iconst 3, 1) := by decide +kernel
theorem dX6_begin_57 : decode cX6_begin 57 = .ok (.if_icmp .ge 23, 3) := by decide +kernel
theorem dX6_begin_60 : decode cX6_begin 60 = .ok (.aload_n 0, 1) := by decide +kernel
theorem dX6_begin_61 : decode cX6_begin 61 = .ok (.getfield 55, 3) := by decide +kernel
theorem dX6_begin_64 : decode cX6_begin 64 = .ok (.iload_n 2, 1) := by decide +kernel
theorem dX6_begin_65 : decode cX6_begin 65 = .ok (.iconst (-1), 1) := by decide +kernel
theorem dX6_begin_66 : decode cX6_begin 66 = .ok (.iastore, 1) := by decide +kernel
theorem dX6_begin_67 : decode cX6_begin 67 = .ok (.aload_n 0, 1) := by decide +kernel
theorem dX6_begin_68 : decode cX6_begin 68 = .ok (.getfield 67, 3) := by decide +kernel
theorem dX6_begin_71 : decode cX6_begin 71 = .ok (.iload_n 2, 1) := by decide +kernel
theorem dX6_begin_72 : decode cX6_begin 72 = .ok (.iconst 0, 1) := by decide +kernel
theorem dX6_begin_73 : decode cX6_begin 73 = .ok (.bastore, 1) := by decide +kernel
theorem dX6_begin_74 : decode cX6_begin 74 = .ok (.iinc 2 1, 3) := by decide +kernel
theorem dX6_begin_77 : decode cX6_begin 77 = .ok (.goto (-22), 3) := by decide +kernel
theorem dX6_begin_80 : decode cX6_begin 80 = .ok (.aload_n 0, 1) := by decide +kernel
theorem dX6_begin_81 : decode cX6_begin 81 = .ok (.getfield 61, 3) := by decide +kernel
theorem dX6_begin_84 : decode cX6_begin 84 = .ok (.iconst 0, 1) := by decide +kernel
theorem dX6_begin_85 : decode cX6_begin 85 = .ok (.iconst (-1), 1) := by decide +kernel
theorem dX6_begin_86 : decode cX6_begin 86 = .ok (.iastore, 1) := by decide +kernel
theorem dX6_begin_87 : decode cX6_begin 87 = .ok (.aload_n 0, 1) := by decide +kernel
theorem dX6_begin_88 : decode cX6_begin 88 = .ok (.getfield 61, 3) := by decide +kernel
theorem dX6_begin_91 : decode cX6_begin 91 = .ok (.iconst 1, 1) := by decide +kernel
theorem dX6_begin_92 : decode cX6_begin 92 = .ok (.iconst (-1), 1) := by decide +kernel
theorem dX6_begin_93 : decode cX6_begin 93 = .ok (.iastore, 1) := by decide +kernel
theorem dX6_begin_94 : decode cX6_begin 94 = .ok (.iconst 0, 1) := by decide +kernel
theorem dX6_begin_95 : decode cX6_begin 95 = .ok (.istore_n 2, 1) := by decide +kernel
theorem dX6_begin_96 : decode cX6_begin 96 = .ok (.iload_n 2, 1) := by decide +kernel
theorem dX6_begin_97 : decode cX6_begin 97 = .ok (.bipush 6, 2) := by decide +kernel
theorem dX6_begin_99 : decode cX6_begin 99 = .ok (.if_icmp .ge 16, 3) := by decide +kernel
theorem dX6_begin_102 : decode cX6_begin 102 = .ok (.aload_n 0, 1) := by decide +kernel
theorem dX6_begin_103 : decode cX6_begin 103 = .ok (.getfield 74, 3) := by decide +kernel
theorem dX6_begin_106 : decode cX6_begin 106 = .ok (.iload_n 2, 1) := by decide +kernel
theorem dX6_begin_107 : decode cX6_begin 107 = .ok (.iconst 0, 1) := by decide +kernel
theorem dX6_begin_108 : decode cX6_begin 108 = .ok (.iastore, 1) := by decide +kernel
theorem dX6_begin_109 : decode cX6_begin 109 = .ok (.iinc 2 1, 3) := by decide +kernel
theorem dX6_begin_112 : decode cX6_begin 112 = .ok (.goto (-16), 3) := by decide +kernel
theorem dX6_begin_115 : decode cX6_begin 115 = .ok (.aload_n 0, 1) := by decide +kernel
