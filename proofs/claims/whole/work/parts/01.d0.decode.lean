theorem dX0_init_0 : decode cX0_init 0 = .ok (.aload_n 0, 1) := by decide +kernel
theorem dX0_init_1 : decode cX0_init 1 = .ok (.invokespecial 3, 3) := by decide +kernel
theorem dX0_init_4 : decode cX0_init 4 = .ok (.aload_n 0, 1) := by decide +kernel
theorem dX0_init_5 : decode cX0_init 5 = .ok (.bipush 6, 2) := by decide +kernel
theorem dX0_init_7 : decode cX0_init 7 = .ok (.newarray .int, 2) := by decide +kernel
theorem dX0_init_9 : decode cX0_init 9 = .ok (.putfield 9, 3) := by decide +kernel
theorem dX0_init_12 : decode cX0_init 12 = .ok (.aload_n 0, 1) := by decide +kernel
theorem dX0_init_13 : decode cX0_init 13 = .ok (.bipush 8, 2) := by decide +kernel
theorem dX0_init_15 : decode cX0_init 15 = .ok (.newarray .int, 2) := by decide +kernel
theorem dX0_init_17 : decode cX0_init 17 = .ok (.putfield 15, 3) := by decide +kernel
theorem dX0_init_20 : decode cX0_init 20 = .ok (.aload_n 0, 1) := by decide +kernel
theorem dX0_init_21 : decode cX0_init 21 = .ok (.new 18, 3) := by decide +kernel
theorem dX0_init_24 : decode cX0_init 24 = .ok (.dup, 1) := by decide +kernel
theorem dX0_init_25 : decode cX0_init 25 = .ok (.invokespecial 20, 3) := by decide +kernel
theorem dX0_init_28 : decode cX0_init 28 = .ok (.putfield 21, 3) := by decide +kernel
theorem dX0_init_31 : decode cX0_init 31 = .ok (.aload_n 0, 1) := by decide +kernel
theorem dX0_init_32 : decode cX0_init 32 = .ok (.iconst 4, 1) := by decide +kernel
theorem dX0_init_33 : decode cX0_init 33 = .ok (.anewarray 25, 3) := by decide +kernel
theorem dX0_init_36 : decode cX0_init 36 = .ok (.putfield 27, 3) := by decide +kernel
theorem dX0_init_39 : decode cX0_init 39 = .ok (.aload_n 0, 1) := by decide +kernel
theorem dX0_init_40 : decode cX0_init 40 = .ok (.iconst 3, 1) := by decide +kernel
theorem dX0_init_41 : decode cX0_init 41 = .ok (.anewarray 25, 3) := by decide +kernel
theorem dX0_init_44 : decode cX0_init 44 = .ok (.putfield 31, 3) := by decide +kernel
theorem dX0_init_47 : decode cX0_init 47 = .ok (.aload_n 0, 1) := by decide +kernel
theorem dX0_init_48 : decode cX0_init 48 = .ok (.iconst 2, 1) := by decide +kernel
theorem dX0_init_49 : decode cX0_init 49 = .ok (.newarray .int, 2) := by decide +kernel
theorem dX0_init_51 : decode cX0_init 51 = .ok (.putfield 34, 3) := by decide +kernel
theorem dX0_init_54 : decode cX0_init 54 = .ok (.aload_n 0, 1) := by decide +kernel
theorem dX0_init_55 : decode cX0_init 55 = .ok (.iconst 2, 1) := by decide +kernel
theorem dX0_init_56 : decode cX0_init 56 = .ok (.newarray .int, 2) := by decide +kernel
theorem dX0_init_58 : decode cX0_init 58 = .ok (.putfield 37, 3) := by decide +kernel
theorem dX0_init_61 : decode cX0_init 61 = .ok (.aload_n 0, 1) := by decide +kernel
theorem dX0_init_62 : decode cX0_init 62 = .ok (.iconst 3, 1) := by decide +kernel
theorem dX0_init_63 : decode cX0_init 63 = .ok (.newarray .boolean, 2) := by decide +kernel
theorem dX0_init_65 : decode cX0_init 65 = .ok (.putfield 40, 3) := by decide +kernel
theorem dX0_init_68 : decode cX0_init 68 = .ok (.aload_n 0, 1) := by decide +kernel
theorem dX0_init_69 : decode cX0_init 69 = .ok (.iconst 3, 1) := by decide +kernel
theorem dX0_init_70 : decode cX0_init 70 = .ok (.newarray .int, 2) := by decide +kernel
theorem dX0_init_72 : decode cX0_init 72 = .ok (.putfield 44, 3) := by decide +kernel
theorem dX0_init_75 : decode cX0_init 75 = .ok (.iconst 0, 1) := by decide +kernel
theorem dX0_init_76 : decode cX0_init 76 = .ok (.istore_n 1, 1) := by decide +kernel
theorem dX0_init_77 : decode cX0_init 77 = .ok (.iload_n 1, 1) := by decide +kernel
theorem dX0_init_78 : decode cX0_init 78 = .ok (.iconst 4, 1) := by decide +kernel
theorem dX0_init_79 : decode cX0_init 79 = .ok (.if_icmp .ge 22, 3) := by decide +kernel
theorem dX0_init_82 : decode cX0_init 82 = .ok (.aload_n 0, 1) := by decide +kernel
theorem dX0_init_83 : decode cX0_init 83 = .ok (.getfield 27, 3) := by decide +kernel
theorem dX0_init_86 : decode cX0_init 86 = .ok (.iload_n 1, 1) := by decide +kernel
theorem dX0_init_87 : decode cX0_init 87 = .ok (.new 25, 3) := by decide +kernel
theorem dX0_init_90 : decode cX0_init 90 = .ok (.dup, 1) := by decide +kernel
theorem dX0_init_91 : decode cX0_init 91 = .ok (.invokespecial 47, 3) := by decide +kernel
theorem dX0_init_94 : decode cX0_init 94 = .ok (.aastore, 1) := by decide +kernel
theorem dX0_init_95 : decode cX0_init 95 = .ok (.iinc 1 1, 3) := by decide +kernel
theorem dX0_init_98 : decode cX0_init 98 = .ok (.goto (-21), 3) := by decide +kernel
theorem dX0_init_101 : decode cX0_init 101 = .ok (.iconst 0, 1) := by decide +kernel
theorem dX0_init_102 : decode cX0_init 102 = .ok (.istore_n 1, 1) := by decide +kernel
theorem dX0_init_103 : decode cX0_init 103 = .ok (.iload_n 1, 1) := by decide +kernel
theorem dX0_init_104 : decode cX0_init 104 = .ok (.iconst 3, 1) := by decide +kernel
theorem dX0_init_105 : decode cX0_init 105 = .ok (.if_icmp .ge 22, 3) := by decide +kernel
theorem dX0_init_108 : decode cX0_init 108 = .ok (.aload_n 0, 1) := by decide +kernel
theorem dX0_init_109 : decode cX0_init 109 = .ok (.getfield 31, 3) := by decide +kernel
theorem dX0_init_112 : decode cX0_init 112 = .ok (.iload_n 1, 1) := by decide +kernel
theorem dX0_init_113 : decode cX0_init 113 = .ok (.new 25, 3) := by decide +kernel
theorem dX0_init_116 : decode cX0_init 116 = .ok (.dup, 1) := by decide +kernel
theorem dX0_init_117 : decode cX0_init 117 = .ok (.invokespecial 47, 3) := by decide +kernel
theorem dX0_init_120 : decode cX0_init 120 = .ok (.aastore, 1) := by decide +kernel
theorem dX0_init_121 : decode cX0_init 121 = .ok (.iinc 1 1, 3) := by decide +kernel
theorem dX0_init_124 : decode cX0_init 124 = .ok (.goto (-21), 3) := by decide +kernel
theorem dX0_init_127 : decode cX0_init 127 = .ok (.aload_n 0, 1) := by decide +kernel
theorem dX0_init_128 : decode cX0_init 128 = .ok (.iconst 0, 1) := by decide +kernel
theorem dX0_init_129 : decode cX0_init 129 = .ok (.invokevirtual 48, 3) := by decide +kernel
theorem dX0_init_132 : decode cX0_init 132 = .ok (.return_, 1) := by decide +kernel
theorem dX0_begin_0 : decode cX0_begin 0 = .ok (.iconst 0, 1) := by decide +kernel
theorem dX0_begin_1 : decode cX0_begin 1 = .ok (.istore_n 2, 1) := by decide +kernel
theorem dX0_begin_2 : decode cX0_begin 2 = .ok (.iload_n 2, 1) := by decide +kernel
theorem dX0_begin_3 : decode cX0_begin 3 = .ok (.bipush 6, 2) := by decide +kernel
theorem dX0_begin_5 : decode cX0_begin 5 = .ok (.if_icmp .ge 16, 3) := by decide +kernel
theorem dX0_begin_8 : decode cX0_begin 8 = .ok (.aload_n 0, 1) := by decide +kernel
theorem dX0_begin_9 : decode cX0_begin 9 = .ok (.getfield 9, 3) := by decide +kernel
theorem dX0_begin_12 : decode cX0_begin 12 = .ok (.iload_n 2, 1) := by decide +kernel
theorem dX0_begin_13 : decode cX0_begin 13 = .ok (.iconst 0, 1) := by decide +kernel
theorem dX0_begin_14 : decode cX0_begin 14 = .ok (.iastore, 1) := by decide +kernel
theorem dX0_begin_15 : decode cX0_begin 15 = .ok (.iinc 2 1, 3) := by decide +kernel
theorem dX0_begin_18 : decode cX0_begin 18 = .ok (.goto (-16), 3) := by decide +kernel
theorem dX0_begin_21 : decode cX0_begin 21 = .ok (.aload_n 0, 1) := by decide +kernel
theorem dX0_begin_22 : decode cX0_begin 22 = .ok (.getfield 9, 3) := by decide +kernel
theorem dX0_begin_25 : decode cX0_begin 25 = .ok (.iconst 0, 1) := by decide +kernel
theorem dX0_begin_26 : decode cX0_begin 26 = .ok (.iload_n 1, 1) := by decide +kernel
theorem dX0_begin_27 : decode cX0_begin 27 = .ok (.iastore, 1) := by decide +kernel
theorem dX0_begin_28 : decode cX0_begin 28 = .ok (.aload_n 0, 1) := by decide +kernel
theorem dX0_begin_29 : decode cX0_begin 29 = .ok (.getfield 21, 3) := by decide +kernel
theorem dX0_begin_32 : decode cX0_begin 32 = .ok (.iconst 0, 1) := by decide +kernel
theorem dX0_begin_33 : decode cX0_begin 33 = .ok (.putfield 52, 3) := by decide +kernel
theorem dX0_begin_36 : decode cX0_begin 36 = .ok (.iconst 0, 1) := by decide +kernel
theorem dX0_begin_37 : decode cX0_begin 37 = .ok (.istore_n 2, 1) := by decide +kernel
theorem dX0_begin_38 : decode cX0_begin 38 = .ok (.iload_n 2, 1) := by decide +kernel
theorem dX0_begin_39 : decode cX0_begin 39 = .ok (.bipush 8, 2) := by decide +kernel
theorem dX0_begin_41 : decode cX0_begin 41 = .ok (.if_icmp .ge 16, 3) := by decide +kernel
theorem dX0_begin_44 : decode cX0_begin 44 = .ok (.aload_n 0, 1) := by decide +kernel
theorem dX0_begin_45 : decode cX0_begin 45 = .ok (.getfield 15, 3) := by decide +kernel
theorem dX0_begin_48 : decode cX0_begin 48 = .ok (.iload_n 2, 1) := by decide +kernel
theorem dX0_begin_49 : decode cX0_begin 49 = .ok (.iconst (-1), 1) := by decide +kernel
theorem dX0_begin_50 : decode cX0_begin 50 = .ok (.iastore, 1) := by decide +kernel
theorem dX0_begin_51 : decode cX0_begin 51 = .ok (.iinc 2 1, 3) := by decide +kernel
theorem dX0_begin_54 : decode cX0_begin 54 = .ok (.goto (-16), 3) := by decide +kernel
theorem dX0_begin_57 : decode cX0_begin 57 = .ok (.iconst 0, 1) := by decide +kernel
theorem dX0_begin_58 : decode cX0_begin 58 = .ok (.istore_n 2, 1) := by decide +kernel
theorem dX0_begin_59 : decode cX0_begin 59 = .ok (.iload_n 2, 1) := by decide +kernel
theorem dX0_begin_60 : decode cX0_begin 60 = .ok (.iconst 4, 1) := by decide +kernel
theorem dX0_begin_61 : decode cX0_begin 61 = .ok (.if_icmp .ge 18, 3) := by decide +kernel
theorem dX0_begin_64 : decode cX0_begin 64 = .ok (.aload_n 0, 1) := by decide +kernel
theorem dX0_begin_65 : decode cX0_begin 65 = .ok (.getfield 27, 3) := by decide +kernel
theorem dX0_begin_68 : decode cX0_begin 68 = .ok (.iload_n 2, 1) := by decide +kernel
theorem dX0_begin_69 : decode cX0_begin 69 = .ok (.aaload, 1) := by decide +kernel
theorem dX0_begin_70 : decode cX0_begin 70 = .ok (.invokevirtual 56, 3) := by decide +kernel
theorem dX0_begin_73 : decode cX0_begin 73 = .ok (.iinc 2 1, 3) := by decide +kernel
theorem dX0_begin_76 : decode cX0_begin 76 = .ok (.goto (-17), 3) := by decide +kernel
theorem dX0_begin_79 : decode cX0_begin 79 = .ok (.iconst 0, 1) := by decide +kernel
theorem dX0_begin_80 : decode cX0_begin 80 = .ok (.istore_n 2, 1) := by decide +kernel
theorem dX0_begin_81 : decode cX0_begin 81 = .ok (.iload_n 2, 1) := by decide +kernel
theorem dX0_begin_82 : decode cX0_begin 82 = .ok (.iconst 3, 1) := by decide +kernel
theorem dX0_begin_83 : decode cX0_begin 83 = .ok (.if_icmp .ge 18, 3) := by decide +kernel
theorem dX0_begin_86 : decode cX0_begin 86 = .ok (.aload_n 0, 1) := by decide +kernel
theorem dX0_begin_87 : decode cX0_begin 87 = .ok (.getfield 31, 3) := by decide +kernel
theorem dX0_begin_90 : decode cX0_begin 90 = .ok (.iload_n 2, 1) := by decide +kernel
theorem dX0_begin_91 : decode cX0_begin 91 = .ok (.aaload, 1) := by decide +kernel
theorem dX0_begin_92 : decode cX0_begin 92 = .ok (.invokevirtual 56, 3) := by decide +kernel
theorem dX0_begin_95 : decode cX0_begin 95 = .ok (.iinc 2 1, 3) := by decide +kernel
theorem dX0_begin_98 : decode cX0_begin 98 = .ok (.goto (-17), 3) := by decide +kernel
theorem dX0_begin_101 : decode cX0_begin 101 = .ok (.iconst 0, 1) := by decide +kernel
theorem dX0_begin_102 : decode cX0_begin 102 = .ok (.istore_n 2, 1) := by decide +kernel
theorem dX0_begin_103 : decode cX0_begin 103 = .ok (.iload_n 2, 1) := by decide +kernel
theorem dX0_begin_104 : decode cX0_begin 104 = .ok (.iconst 2, 1) := by decide +kernel
theorem dX0_begin_105 : decode cX0_begin 105 = .ok (.if_icmp .ge 16, 3) := by decide +kernel
theorem dX0_begin_108 : decode cX0_begin 108 = .ok (.aload_n 0, 1) := by decide +kernel
theorem dX0_begin_109 : decode cX0_begin 109 = .ok (.getfield 34, 3) := by decide +kernel
theorem dX0_begin_112 : decode cX0_begin 112 = .ok (.iload_n 2, 1) := by decide +kernel
theorem dX0_begin_113 : decode cX0_begin 113 = .ok (.iconst (-1), 1) := by decide +kernel
theorem dX0_begin_114 : decode cX0_begin 114 = .ok (.iastore, 1) := by decide +kernel
theorem dX0_begin_115 : decode cX0_begin 115 = .ok (.iinc 2 1, 3) := by decide +kernel
theorem dX0_begin_118 : decode cX0_begin 118 = .ok (.goto (-15), 3) := by decide +kernel
theorem dX0_begin_121 : decode cX0_begin 121 = .ok (.iconst 0, 1) := by decide +kernel
theorem dX0_begin_122 : decode cX0_begin 122 = .ok (.istore_n 2, 1) := by decide +kernel
theorem dX0_begin_123 : decode cX0_begin 123 = .ok (.iload_n 2, 1) := by decide +kernel
theorem dX0_begin_124 : decode cX0_begin 124 = .ok (.iconst 3, 1) := by decide +kernel
theorem dX0_begin_125 : decode cX0_begin 125 = .ok (.if_icmp .ge 16, 3) := by decide +kernel
theorem dX0_begin_128 : decode cX0_begin 128 = .ok (.aload_n 0, 1) := by decide +kernel
theorem dX0_begin_129 : decode cX0_begin 129 = .ok (.getfield 40, 3) := by decide +kernel
theorem dX0_begin_132 : decode cX0_begin 132 = .ok (.iload_n 2, 1) := by decide +kernel
theorem dX0_begin_133 : decode cX0_begin 133 = .ok (.iconst 0, 1) := by decide +kernel
theorem dX0_begin_134 : decode cX0_begin 134 = .ok (.bastore, 1) := by decide +kernel
theorem dX0_begin_135 : decode cX0_begin 135 = .ok (.iinc 2 1, 3) := by decide +kernel
theorem dX0_begin_138 : decode cX0_begin 138 = .ok (.goto (-15), 3) := by decide +kernel
theorem dX0_begin_141 : decode cX0_begin 141 = .ok (.return_, 1) := by decide +kernel
theorem dX0_firstPlaceOf_0 : decode cX0_firstPlaceOf 0 = .ok (.iconst 0, 1) := by decide +kernel
theorem dX0_firstPlaceOf_1 : decode cX0_firstPlaceOf 1 = .ok (.istore_n 2, 1) := by decide +kernel
theorem dX0_firstPlaceOf_2 : decode cX0_firstPlaceOf 2 = .ok (.iload_n 2, 1) := by decide +kernel
theorem dX0_firstPlaceOf_3 : decode cX0_firstPlaceOf 3 = .ok (.bipush 8, 2) := by decide +kernel
theorem dX0_firstPlaceOf_5 : decode cX0_firstPlaceOf 5 = .ok (.if_icmp .ge 21, 3) := by decide +kernel
theorem dX0_firstPlaceOf_8 : decode cX0_firstPlaceOf 8 = .ok (.aload_n 0, 1) := by decide +kernel
theorem dX0_firstPlaceOf_9 : decode cX0_firstPlaceOf 9 = .ok (.getfield 15, 3) := by decide +kernel
theorem dX0_firstPlaceOf_12 : decode cX0_firstPlaceOf 12 = .ok (.iload_n 2, 1) := by decide +kernel
theorem dX0_firstPlaceOf_13 : decode cX0_firstPlaceOf 13 = .ok (.iaload, 1) := by decide +kernel
theorem dX0_firstPlaceOf_14 : decode cX0_firstPlaceOf 14 = .ok (.iload_n 1, 1) := by decide +kernel
theorem dX0_firstPlaceOf_15 : decode cX0_firstPlaceOf 15 = .ok (.if_icmp .ne 5, 3) := by decide +kernel
theorem dX0_firstPlaceOf_18 : decode cX0_firstPlaceOf 18 = .ok (.iload_n 2, 1) := by decide +kernel
theorem dX0_firstPlaceOf_19 : decode cX0_firstPlaceOf 19 = .ok (.ireturn, 1) := by decide +kernel
theorem dX0_firstPlaceOf_20 : decode cX0_firstPlaceOf 20 = .ok (.iinc 2 1, 3) := by decide +kernel
theorem dX0_firstPlaceOf_23 : decode cX0_firstPlaceOf 23 = .ok (.goto (-21), 3) := by decide +kernel
theorem dX0_firstPlaceOf_26 : decode cX0_firstPlaceOf 26 = .ok (.iconst (-1), 1) := by decide +kernel
theorem dX0_firstPlaceOf_27 : decode cX0_firstPlaceOf 27 = .ok (.ireturn, 1) := by decide +kernel
theorem dX0_lineBehind_0 : decode cX0_lineBehind 0 = .ok (.iload_n 2, 1) := by decide +kernel
theorem dX0_lineBehind_1 : decode cX0_lineBehind 1 = .ok (.bipush 23, 2) := by decide +kernel
theorem dX0_lineBehind_3 : decode cX0_lineBehind 3 = .ok (.if_icmp .ne 5, 3) := by decide +kernel
theorem dX0_lineBehind_6 : decode cX0_lineBehind 6 = .ok (.iload_n 3, 1) := by decide +kernel
theorem dX0_lineBehind_7 : decode cX0_lineBehind 7 = .ok (.ireturn, 1) := by decide +kernel
theorem dX0_lineBehind_8 : decode cX0_lineBehind 8 = .ok (.iload_n 2, 1) := by decide +kernel
theorem dX0_lineBehind_9 : decode cX0_lineBehind 9 = .ok (.bipush 24, 2) := by decide +kernel
theorem dX0_lineBehind_11 : decode cX0_lineBehind 11 = .ok (.if_icmp .ne 18, 3) := by decide +kernel
theorem dX0_lineBehind_14 : decode cX0_lineBehind 14 = .ok (.aload_n 0, 1) := by decide +kernel
theorem dX0_lineBehind_15 : decode cX0_lineBehind 15 = .ok (.getfield 9, 3) := by decide +kernel
theorem dX0_lineBehind_18 : decode cX0_lineBehind 18 = .ok (.iload_n 3, 1) := by decide +kernel
theorem dX0_lineBehind_19 : decode cX0_lineBehind 19 = .ok (.iaload, 1) := by decide +kernel
theorem dX0_lineBehind_20 : decode cX0_lineBehind 20 = .ok (.iconst 1, 1) := by decide +kernel
theorem dX0_lineBehind_21 : decode cX0_lineBehind 21 = .ok (.if_icmp .ge 8, 3) := by decide +kernel
theorem dX0_lineBehind_24 : decode cX0_lineBehind 24 = .ok (.iload 4, 2) := by decide +kernel
theorem dX0_lineBehind_26 : decode cX0_lineBehind 26 = .ok (.goto 6, 3) := by decide +kernel
theorem dX0_lineBehind_29 : decode cX0_lineBehind 29 = .ok (.iload_n 1, 1) := by decide +kernel
theorem dX0_lineBehind_30 : decode cX0_lineBehind 30 = .ok (.iconst 1, 1) := by decide +kernel
theorem dX0_lineBehind_31 : decode cX0_lineBehind 31 = .ok (.iadd, 1) := by decide +kernel
theorem dX0_lineBehind_32 : decode cX0_lineBehind 32 = .ok (.ireturn, 1) := by decide +kernel
theorem dX0_perform_0 : decode cX0_perform 0 = .ok (.iload_n 1, 1) := by decide +kernel
theorem dX0_perform_1 : decode cX0_perform 1 = .ok (.tableswitch 234 0 22 #[107, 107, 107, 117, 117, 117, 117, 117, 127, 140, 127, 127, 157, 169, 169, 169, 179, 193, 200, 200, 200, 208, 217], 107) := by decide +kernel
theorem dX0_perform_108 : decode cX0_perform 108 = .ok (.aload_n 0, 1) := by decide +kernel
theorem dX0_perform_109 : decode cX0_perform 109 = .ok (.iload_n 1, 1) := by decide +kernel
theorem dX0_perform_110 : decode cX0_perform 110 = .ok (.iload_n 2, 1) := by decide +kernel
theorem dX0_perform_111 : decode cX0_perform 111 = .ok (.iload_n 3, 1) := by decide +kernel
theorem dX0_perform_112 : decode cX0_perform 112 = .ok (.iload 4, 2) := by decide +kernel
theorem dX0_perform_114 : decode cX0_perform 114 = .ok (.invokevirtual 59, 3) := by decide +kernel
theorem dX0_perform_117 : decode cX0_perform 117 = .ok (.ireturn, 1) := by decide +kernel
theorem dX0_perform_118 : decode cX0_perform 118 = .ok (.aload_n 0, 1) := by decide +kernel
theorem dX0_perform_119 : decode cX0_perform 119 = .ok (.iload_n 1, 1) := by decide +kernel
theorem dX0_perform_120 : decode cX0_perform 120 = .ok (.iload_n 2, 1) := by decide +kernel
theorem dX0_perform_121 : decode cX0_perform 121 = .ok (.iload_n 3, 1) := by decide +kernel
theorem dX0_perform_122 : decode cX0_perform 122 = .ok (.iload 4, 2) := by decide +kernel
theorem dX0_perform_124 : decode cX0_perform 124 = .ok (.invokevirtual 63, 3) := by decide +kernel
theorem dX0_perform_127 : decode cX0_perform 127 = .ok (.ireturn, 1) := by decide +kernel
theorem dX0_perform_128 : decode cX0_perform 128 = .ok (.aload_n 0, 1) := by decide +kernel
theorem dX0_perform_129 : decode cX0_perform 129 = .ok (.iload_n 1, 1) := by decide +kernel
theorem dX0_perform_130 : decode cX0_perform 130 = .ok (.iload_n 2, 1) := by decide +kernel
theorem dX0_perform_131 : decode cX0_perform 131 = .ok (.aload_n 0, 1) := by decide +kernel
theorem dX0_perform_132 : decode cX0_perform 132 = .ok (.getfield 15, 3) := by decide +kernel
theorem dX0_perform_135 : decode cX0_perform 135 = .ok (.iload_n 3, 1) := by decide +kernel
theorem dX0_perform_136 : decode cX0_perform 136 = .ok (.iaload, 1) := by decide +kernel
theorem dX0_perform_137 : decode cX0_perform 137 = .ok (.invokevirtual 66, 3) := by decide +kernel
theorem dX0_perform_140 : decode cX0_perform 140 = .ok (.ireturn, 1) := by decide +kernel
theorem dX0_perform_141 : decode cX0_perform 141 = .ok (.aload_n 0, 1) := by decide +kernel
theorem dX0_perform_142 : decode cX0_perform 142 = .ok (.aload_n 0, 1) := by decide +kernel
theorem dX0_perform_143 : decode cX0_perform 143 = .ok (.getfield 15, 3) := by decide +kernel
theorem dX0_perform_146 : decode cX0_perform 146 = .ok (.iload_n 2, 1) := by decide +kernel
theorem dX0_perform_147 : decode cX0_perform 147 = .ok (.iaload, 1) := by decide +kernel
theorem dX0_perform_148 : decode cX0_perform 148 = .ok (.aload_n 0, 1) := by decide +kernel
theorem dX0_perform_149 : decode cX0_perform 149 = .ok (.getfield 9, 3) := by decide +kernel
theorem dX0_perform_152 : decode cX0_perform 152 = .ok (.iload_n 3, 1) := by decide +kernel
theorem dX0_perform_153 : decode cX0_perform 153 = .ok (.iaload, 1) := by decide +kernel
theorem dX0_perform_154 : decode cX0_perform 154 = .ok (.invokevirtual 70, 3) := by decide +kernel
theorem dX0_perform_157 : decode cX0_perform 157 = .ok (.ireturn, 1) := by decide +kernel
theorem dX0_perform_158 : decode cX0_perform 158 = .ok (.aload_n 0, 1) := by decide +kernel
theorem dX0_perform_159 : decode cX0_perform 159 = .ok (.aload_n 0, 1) := by decide +kernel
theorem dX0_perform_160 : decode cX0_perform 160 = .ok (.getfield 15, 3) := by decide +kernel
theorem dX0_perform_163 : decode cX0_perform 163 = .ok (.iload_n 2, 1) := by decide +kernel
theorem dX0_perform_164 : decode cX0_perform 164 = .ok (.iaload, 1) := by decide +kernel
theorem dX0_perform_165 : decode cX0_perform 165 = .ok (.iload_n 3, 1) := by decide +kernel
theorem dX0_perform_166 : decode cX0_perform 166 = .ok (.invokevirtual 74, 3) := by decide +kernel
theorem dX0_perform_169 : decode cX0_perform 169 = .ok (.ireturn, 1) := by decide +kernel
theorem dX0_perform_170 : decode cX0_perform 170 = .ok (.aload_n 0, 1) := by decide +kernel
theorem dX0_perform_171 : decode cX0_perform 171 = .ok (.iload_n 1, 1) := by decide +kernel
theorem dX0_perform_172 : decode cX0_perform 172 = .ok (.iload_n 2, 1) := by decide +kernel
theorem dX0_perform_173 : decode cX0_perform 173 = .ok (.iload_n 3, 1) := by decide +kernel
theorem dX0_perform_174 : decode cX0_perform 174 = .ok (.iload 4, 2) := by decide +kernel
theorem dX0_perform_176 : decode cX0_perform 176 = .ok (.invokevirtual 77, 3) := by decide +kernel
theorem dX0_perform_179 : decode cX0_perform 179 = .ok (.ireturn, 1) := by decide +kernel
theorem dX0_perform_180 : decode cX0_perform 180 = .ok (.aload_n 0, 1) := by decide +kernel
theorem dX0_perform_181 : decode cX0_perform 181 = .ok (.iload_n 2, 1) := by decide +kernel
theorem dX0_perform_182 : decode cX0_perform 182 = .ok (.aload_n 0, 1) := by decide +kernel
theorem dX0_perform_183 : decode cX0_perform 183 = .ok (.getfield 9, 3) := by decide +kernel
theorem dX0_perform_186 : decode cX0_perform 186 = .ok (.iload_n 3, 1) := by decide +kernel
theorem dX0_perform_187 : decode cX0_perform 187 = .ok (.iaload, 1) := by decide +kernel
theorem dX0_perform_188 : decode cX0_perform 188 = .ok (.iload 4, 2) := by decide +kernel
theorem dX0_perform_190 : decode cX0_perform 190 = .ok (.invokevirtual 80, 3) := by decide +kernel
theorem dX0_perform_193 : decode cX0_perform 193 = .ok (.ireturn, 1) := by decide +kernel
theorem dX0_perform_194 : decode cX0_perform 194 = .ok (.aload_n 0, 1) := by decide +kernel
theorem dX0_perform_195 : decode cX0_perform 195 = .ok (.iload_n 2, 1) := by decide +kernel
theorem dX0_perform_196 : decode cX0_perform 196 = .ok (.iload_n 3, 1) := by decide +kernel
theorem dX0_perform_197 : decode cX0_perform 197 = .ok (.invokevirtual 83, 3) := by decide +kernel
theorem dX0_perform_200 : decode cX0_perform 200 = .ok (.ireturn, 1) := by decide +kernel
theorem dX0_perform_201 : decode cX0_perform 201 = .ok (.aload_n 0, 1) := by decide +kernel
theorem dX0_perform_202 : decode cX0_perform 202 = .ok (.iload_n 1, 1) := by decide +kernel
theorem dX0_perform_203 : decode cX0_perform 203 = .ok (.iload_n 2, 1) := by decide +kernel
theorem dX0_perform_204 : decode cX0_perform 204 = .ok (.iload_n 3, 1) := by decide +kernel
theorem dX0_perform_205 : decode cX0_perform 205 = .ok (.invokevirtual 86, 3) := by decide +kernel
theorem dX0_perform_208 : decode cX0_perform 208 = .ok (.ireturn, 1) := by decide +kernel
theorem dX0_perform_209 : decode cX0_perform 209 = .ok (.aload_n 0, 1) := by decide +kernel
theorem dX0_perform_210 : decode cX0_perform 210 = .ok (.getfield 9, 3) := by decide +kernel
theorem dX0_perform_213 : decode cX0_perform 213 = .ok (.iload_n 2, 1) := by decide +kernel
theorem dX0_perform_214 : decode cX0_perform 214 = .ok (.iload_n 3, 1) := by decide +kernel
theorem dX0_perform_215 : decode cX0_perform 215 = .ok (.iastore, 1) := by decide +kernel
theorem dX0_perform_216 : decode cX0_perform 216 = .ok (.iconst 0, 1) := by decide +kernel
theorem dX0_perform_217 : decode cX0_perform 217 = .ok (.ireturn, 1) := by decide +kernel
theorem dX0_perform_218 : decode cX0_perform 218 = .ok (.aload_n 0, 1) := by decide +kernel
theorem dX0_perform_219 : decode cX0_perform 219 = .ok (.getfield 9, 3) := by decide +kernel
theorem dX0_perform_222 : decode cX0_perform 222 = .ok (.iload_n 2, 1) := by decide +kernel
theorem dX0_perform_223 : decode cX0_perform 223 = .ok (.dup2, 1) := by decide +kernel
theorem dX0_perform_224 : decode cX0_perform 224 = .ok (.iaload, 1) := by decide +kernel
theorem dX0_perform_225 : decode cX0_perform 225 = .ok (.aload_n 0, 1) := by decide +kernel
theorem dX0_perform_226 : decode cX0_perform 226 = .ok (.getfield 9, 3) := by decide +kernel
theorem dX0_perform_229 : decode cX0_perform 229 = .ok (.iload_n 3, 1) := by decide +kernel
theorem dX0_perform_230 : decode cX0_perform 230 = .ok (.iaload, 1) := by decide +kernel
theorem dX0_perform_231 : decode cX0_perform 231 = .ok (.iadd, 1) := by decide +kernel
theorem dX0_perform_232 : decode cX0_perform 232 = .ok (.iastore, 1) := by decide +kernel
theorem dX0_perform_233 : decode cX0_perform 233 = .ok (.iconst 0, 1) := by decide +kernel
theorem dX0_perform_234 : decode cX0_perform 234 = .ok (.ireturn, 1) := by decide +kernel
theorem dX0_perform_235 : decode cX0_perform 235 = .ok (.iconst 0, 1) := by decide +kernel
theorem dX0_perform_236 : decode cX0_perform 236 = .ok (.ireturn, 1) := by decide +kernel
theorem dX0_placeAct_0 : decode cX0_placeAct 0 = .ok (.iload_n 1, 1) := by decide +kernel
theorem dX0_placeAct_1 : decode cX0_placeAct 1 = .ok (.ifCond .ne 27, 3) := by decide +kernel
theorem dX0_placeAct_4 : decode cX0_placeAct 4 = .ok (.aload_n 0, 1) := by decide +kernel
theorem dX0_placeAct_5 : decode cX0_placeAct 5 = .ok (.getfield 15, 3) := by decide +kernel
theorem dX0_placeAct_8 : decode cX0_placeAct 8 = .ok (.iload_n 2, 1) := by decide +kernel
theorem dX0_placeAct_9 : decode cX0_placeAct 9 = .ok (.aload_n 0, 1) := by decide +kernel
theorem dX0_placeAct_10 : decode cX0_placeAct 10 = .ok (.getfield 21, 3) := by decide +kernel
theorem dX0_placeAct_13 : decode cX0_placeAct 13 = .ok (.iload_n 3, 1) := by decide +kernel
theorem dX0_placeAct_14 : decode cX0_placeAct 14 = .ok (.aload_n 0, 1) := by decide +kernel
theorem dX0_placeAct_15 : decode cX0_placeAct 15 = .ok (.getfield 9, 3) := by decide +kernel
theorem dX0_placeAct_18 : decode cX0_placeAct 18 = .ok (.iload 4, 2) := by decide +kernel
theorem dX0_placeAct_20 : decode cX0_placeAct 20 = .ok (.iaload, 1) := by decide +kernel
theorem dX0_placeAct_21 : decode cX0_placeAct 21 = .ok (.invokevirtual 89, 3) := by decide +kernel
theorem dX0_placeAct_24 : decode cX0_placeAct 24 = .ok (.iastore, 1) := by decide +kernel
theorem dX0_placeAct_25 : decode cX0_placeAct 25 = .ok (.goto 30, 3) := by decide +kernel
theorem dX0_placeAct_28 : decode cX0_placeAct 28 = .ok (.iload_n 1, 1) := by decide +kernel
theorem dX0_placeAct_29 : decode cX0_placeAct 29 = .ok (.iconst 1, 1) := by decide +kernel
theorem dX0_placeAct_30 : decode cX0_placeAct 30 = .ok (.if_icmp .ne 13, 3) := by decide +kernel
theorem dX0_placeAct_33 : decode cX0_placeAct 33 = .ok (.aload_n 0, 1) := by decide +kernel
theorem dX0_placeAct_34 : decode cX0_placeAct 34 = .ok (.getfield 15, 3) := by decide +kernel
theorem dX0_placeAct_37 : decode cX0_placeAct 37 = .ok (.iload_n 2, 1) := by decide +kernel
theorem dX0_placeAct_38 : decode cX0_placeAct 38 = .ok (.iconst (-1), 1) := by decide +kernel
theorem dX0_placeAct_39 : decode cX0_placeAct 39 = .ok (.iastore, 1) := by decide +kernel
theorem dX0_placeAct_40 : decode cX0_placeAct 40 = .ok (.goto 15, 3) := by decide +kernel
theorem dX0_placeAct_43 : decode cX0_placeAct 43 = .ok (.aload_n 0, 1) := by decide +kernel
theorem dX0_placeAct_44 : decode cX0_placeAct 44 = .ok (.getfield 15, 3) := by decide +kernel
theorem dX0_placeAct_47 : decode cX0_placeAct 47 = .ok (.iload_n 2, 1) := by decide +kernel
theorem dX0_placeAct_48 : decode cX0_placeAct 48 = .ok (.aload_n 0, 1) := by decide +kernel
theorem dX0_placeAct_49 : decode cX0_placeAct 49 = .ok (.getfield 15, 3) := by decide +kernel
theorem dX0_placeAct_52 : decode cX0_placeAct 52 = .ok (.iload_n 3, 1) := by decide +kernel
theorem dX0_placeAct_53 : decode cX0_placeAct 53 = .ok (.iaload, 1) := by decide +kernel
theorem dX0_placeAct_54 : decode cX0_placeAct 54 = .ok (.iastore, 1) := by decide +kernel
theorem dX0_placeAct_55 : decode cX0_placeAct 55 = .ok (.iconst 0, 1) := by decide +kernel
theorem dX0_placeAct_56 : decode cX0_placeAct 56 = .ok (.ireturn, 1) := by decide +kernel
theorem dX0_beltAct_0 : decode cX0_beltAct 0 = .ok (.iload_n 1, 1) := by decide +kernel
theorem dX0_beltAct_1 : decode cX0_beltAct 1 = .ok (.tableswitch 105 3 6 #[31, 50, 74, 93], 31) := by decide +kernel
theorem dX0_beltAct_32 : decode cX0_beltAct 32 = .ok (.aload_n 0, 1) := by decide +kernel
theorem dX0_beltAct_33 : decode cX0_beltAct 33 = .ok (.getfield 27, 3) := by decide +kernel
theorem dX0_beltAct_36 : decode cX0_beltAct 36 = .ok (.iload_n 2, 1) := by decide +kernel
theorem dX0_beltAct_37 : decode cX0_beltAct 37 = .ok (.aaload, 1) := by decide +kernel
theorem dX0_beltAct_38 : decode cX0_beltAct 38 = .ok (.iload_n 3, 1) := by decide +kernel
theorem dX0_beltAct_39 : decode cX0_beltAct 39 = .ok (.aload_n 0, 1) := by decide +kernel
theorem dX0_beltAct_40 : decode cX0_beltAct 40 = .ok (.getfield 9, 3) := by decide +kernel
theorem dX0_beltAct_43 : decode cX0_beltAct 43 = .ok (.iload 4, 2) := by decide +kernel
theorem dX0_beltAct_45 : decode cX0_beltAct 45 = .ok (.iaload, 1) := by decide +kernel
theorem dX0_beltAct_46 : decode cX0_beltAct 46 = .ok (.iconst (-1), 1) := by decide +kernel
theorem dX0_beltAct_47 : decode cX0_beltAct 47 = .ok (.invokevirtual 92, 3) := by decide +kernel
theorem dX0_beltAct_50 : decode cX0_beltAct 50 = .ok (.ireturn, 1) := by decide +kernel
theorem dX0_beltAct_51 : decode cX0_beltAct 51 = .ok (.aload_n 0, 1) := by decide +kernel
theorem dX0_beltAct_52 : decode cX0_beltAct 52 = .ok (.aload_n 0, 1) := by decide +kernel
theorem dX0_beltAct_53 : decode cX0_beltAct 53 = .ok (.getfield 27, 3) := by decide +kernel
theorem dX0_beltAct_56 : decode cX0_beltAct 56 = .ok (.iload_n 2, 1) := by decide +kernel
theorem dX0_beltAct_57 : decode cX0_beltAct 57 = .ok (.aaload, 1) := by decide +kernel
theorem dX0_beltAct_58 : decode cX0_beltAct 58 = .ok (.aload_n 0, 1) := by decide +kernel
theorem dX0_beltAct_59 : decode cX0_beltAct 59 = .ok (.getfield 9, 3) := by decide +kernel
theorem dX0_beltAct_62 : decode cX0_beltAct 62 = .ok (.iload_n 3, 1) := by decide +kernel
theorem dX0_beltAct_63 : decode cX0_beltAct 63 = .ok (.iaload, 1) := by decide +kernel
theorem dX0_beltAct_64 : decode cX0_beltAct 64 = .ok (.aload_n 0, 1) := by decide +kernel
theorem dX0_beltAct_65 : decode cX0_beltAct 65 = .ok (.getfield 15, 3) := by decide +kernel
theorem dX0_beltAct_68 : decode cX0_beltAct 68 = .ok (.iload 4, 2) := by decide +kernel
theorem dX0_beltAct_70 : decode cX0_beltAct 70 = .ok (.iaload, 1) := by decide +kernel
theorem dX0_beltAct_71 : decode cX0_beltAct 71 = .ok (.invokevirtual 95, 3) := by decide +kernel
theorem dX0_beltAct_74 : decode cX0_beltAct 74 = .ok (.ireturn, 1) := by decide +kernel
theorem dX0_beltAct_75 : decode cX0_beltAct 75 = .ok (.aload_n 0, 1) := by decide +kernel
theorem dX0_beltAct_76 : decode cX0_beltAct 76 = .ok (.iload_n 2, 1) := by decide +kernel
theorem dX0_beltAct_77 : decode cX0_beltAct 77 = .ok (.aload_n 0, 1) := by decide +kernel
theorem dX0_beltAct_78 : decode cX0_beltAct 78 = .ok (.getfield 27, 3) := by decide +kernel
theorem dX0_beltAct_81 : decode cX0_beltAct 81 = .ok (.iload_n 3, 1) := by decide +kernel
theorem dX0_beltAct_82 : decode cX0_beltAct 82 = .ok (.aaload, 1) := by decide +kernel
theorem dX0_beltAct_83 : decode cX0_beltAct 83 = .ok (.aload_n 0, 1) := by decide +kernel
theorem dX0_beltAct_84 : decode cX0_beltAct 84 = .ok (.getfield 9, 3) := by decide +kernel
theorem dX0_beltAct_87 : decode cX0_beltAct 87 = .ok (.iload 4, 2) := by decide +kernel
theorem dX0_beltAct_89 : decode cX0_beltAct 89 = .ok (.iaload, 1) := by decide +kernel
theorem dX0_beltAct_90 : decode cX0_beltAct 90 = .ok (.invokevirtual 99, 3) := by decide +kernel
theorem dX0_beltAct_93 : decode cX0_beltAct 93 = .ok (.ireturn, 1) := by decide +kernel
theorem dX0_beltAct_94 : decode cX0_beltAct 94 = .ok (.aload_n 0, 1) := by decide +kernel
theorem dX0_beltAct_95 : decode cX0_beltAct 95 = .ok (.iload_n 2, 1) := by decide +kernel
theorem dX0_beltAct_96 : decode cX0_beltAct 96 = .ok (.aload_n 0, 1) := by decide +kernel
theorem dX0_beltAct_97 : decode cX0_beltAct 97 = .ok (.getfield 27, 3) := by decide +kernel
theorem dX0_beltAct_100 : decode cX0_beltAct 100 = .ok (.iload_n 3, 1) := by decide +kernel
theorem dX0_beltAct_101 : decode cX0_beltAct 101 = .ok (.aaload, 1) := by decide +kernel
theorem dX0_beltAct_102 : decode cX0_beltAct 102 = .ok (.invokevirtual 103, 3) := by decide +kernel
theorem dX0_beltAct_105 : decode cX0_beltAct 105 = .ok (.ireturn, 1) := by decide +kernel
theorem dX0_beltAct_106 : decode cX0_beltAct 106 = .ok (.aload_n 0, 1) := by decide +kernel
theorem dX0_beltAct_107 : decode cX0_beltAct 107 = .ok (.getfield 27, 3) := by decide +kernel
theorem dX0_beltAct_110 : decode cX0_beltAct 110 = .ok (.iload_n 2, 1) := by decide +kernel
theorem dX0_beltAct_111 : decode cX0_beltAct 111 = .ok (.aaload, 1) := by decide +kernel
theorem dX0_beltAct_112 : decode cX0_beltAct 112 = .ok (.invokevirtual 56, 3) := by decide +kernel
theorem dX0_beltAct_115 : decode cX0_beltAct 115 = .ok (.iconst 0, 1) := by decide +kernel
theorem dX0_beltAct_116 : decode cX0_beltAct 116 = .ok (.ireturn, 1) := by decide +kernel
theorem dX0_lay_0 : decode cX0_lay 0 = .ok (.aload_n 1, 1) := by decide +kernel
theorem dX0_lay_1 : decode cX0_lay 1 = .ok (.iload_n 2, 1) := by decide +kernel
theorem dX0_lay_2 : decode cX0_lay 2 = .ok (.invokevirtual 107, 3) := by decide +kernel
theorem dX0_lay_5 : decode cX0_lay 5 = .ok (.istore 4, 2) := by decide +kernel
theorem dX0_lay_7 : decode cX0_lay 7 = .ok (.iload 4, 2) := by decide +kernel
theorem dX0_lay_9 : decode cX0_lay 9 = .ok (.ifCond .eq 6, 3) := by decide +kernel
theorem dX0_lay_12 : decode cX0_lay 12 = .ok (.iload 4, 2) := by decide +kernel
theorem dX0_lay_14 : decode cX0_lay 14 = .ok (.ireturn, 1) := by decide +kernel
theorem dX0_lay_15 : decode cX0_lay 15 = .ok (.aload_n 0, 1) := by decide +kernel
theorem dX0_lay_16 : decode cX0_lay 16 = .ok (.getfield 21, 3) := by decide +kernel
theorem dX0_lay_19 : decode cX0_lay 19 = .ok (.iload_n 3, 1) := by decide +kernel
theorem dX0_lay_20 : decode cX0_lay 20 = .ok (.invokevirtual 111, 3) := by decide +kernel
theorem dX0_lay_23 : decode cX0_lay 23 = .ok (.ifCond .eq 24, 3) := by decide +kernel
theorem dX0_lay_26 : decode cX0_lay 26 = .ok (.aload_n 0, 1) := by decide +kernel
theorem dX0_lay_27 : decode cX0_lay 27 = .ok (.getfield 21, 3) := by decide +kernel
theorem dX0_lay_30 : decode cX0_lay 30 = .ok (.getfield 115, 3) := by decide +kernel
theorem dX0_lay_33 : decode cX0_lay 33 = .ok (.iload_n 3, 1) := by decide +kernel
theorem dX0_lay_34 : decode cX0_lay 34 = .ok (.iaload, 1) := by decide +kernel
theorem dX0_lay_35 : decode cX0_lay 35 = .ok (.aload_n 1, 1) := by decide +kernel
theorem dX0_lay_36 : decode cX0_lay 36 = .ok (.getfield 118, 3) := by decide +kernel
theorem dX0_lay_39 : decode cX0_lay 39 = .ok (.invokestatic 121, 3) := by decide +kernel
theorem dX0_lay_42 : decode cX0_lay 42 = .ok (.ifCond .ne 5, 3) := by decide +kernel
theorem dX0_lay_45 : decode cX0_lay 45 = .ok (.iconst 5, 1) := by decide +kernel
theorem dX0_lay_46 : decode cX0_lay 46 = .ok (.ireturn, 1) := by decide +kernel
theorem dX0_lay_47 : decode cX0_lay 47 = .ok (.aload_n 1, 1) := by decide +kernel
theorem dX0_lay_48 : decode cX0_lay 48 = .ok (.getfield 125, 3) := by decide +kernel
theorem dX0_lay_51 : decode cX0_lay 51 = .ok (.iload_n 2, 1) := by decide +kernel
theorem dX0_lay_52 : decode cX0_lay 52 = .ok (.iload_n 3, 1) := by decide +kernel
theorem dX0_lay_53 : decode cX0_lay 53 = .ok (.iastore, 1) := by decide +kernel
theorem dX0_lay_54 : decode cX0_lay 54 = .ok (.iconst 0, 1) := by decide +kernel
theorem dX0_lay_55 : decode cX0_lay 55 = .ok (.ireturn, 1) := by decide +kernel
theorem dX0_pick_0 : decode cX0_pick 0 = .ok (.aload_n 2, 1) := by decide +kernel
theorem dX0_pick_1 : decode cX0_pick 1 = .ok (.iload_n 3, 1) := by decide +kernel
theorem dX0_pick_2 : decode cX0_pick 2 = .ok (.invokevirtual 107, 3) := by decide +kernel
theorem dX0_pick_5 : decode cX0_pick 5 = .ok (.istore 4, 2) := by decide +kernel
theorem dX0_pick_7 : decode cX0_pick 7 = .ok (.iload 4, 2) := by decide +kernel
theorem dX0_pick_9 : decode cX0_pick 9 = .ok (.ifCond .ne 15, 3) := by decide +kernel
theorem dX0_pick_12 : decode cX0_pick 12 = .ok (.aload_n 0, 1) := by decide +kernel
theorem dX0_pick_13 : decode cX0_pick 13 = .ok (.getfield 15, 3) := by decide +kernel
theorem dX0_pick_16 : decode cX0_pick 16 = .ok (.iload_n 1, 1) := by decide +kernel
theorem dX0_pick_17 : decode cX0_pick 17 = .ok (.aload_n 2, 1) := by decide +kernel
theorem dX0_pick_18 : decode cX0_pick 18 = .ok (.getfield 125, 3) := by decide +kernel
theorem dX0_pick_21 : decode cX0_pick 21 = .ok (.iload_n 3, 1) := by decide +kernel
theorem dX0_pick_22 : decode cX0_pick 22 = .ok (.iaload, 1) := by decide +kernel
theorem dX0_pick_23 : decode cX0_pick 23 = .ok (.iastore, 1) := by decide +kernel
theorem dX0_pick_24 : decode cX0_pick 24 = .ok (.iload 4, 2) := by decide +kernel
theorem dX0_pick_26 : decode cX0_pick 26 = .ok (.ireturn, 1) := by decide +kernel
theorem dX0_measure_0 : decode cX0_measure 0 = .ok (.aload_n 2, 1) := by decide +kernel
theorem dX0_measure_1 : decode cX0_measure 1 = .ok (.invokevirtual 128, 3) := by decide +kernel
theorem dX0_measure_4 : decode cX0_measure 4 = .ok (.ifCond .ne 5, 3) := by decide +kernel
theorem dX0_measure_7 : decode cX0_measure 7 = .ok (.iconst 1, 1) := by decide +kernel
theorem dX0_measure_8 : decode cX0_measure 8 = .ok (.ireturn, 1) := by decide +kernel
theorem dX0_measure_9 : decode cX0_measure 9 = .ok (.aload_n 0, 1) := by decide +kernel
theorem dX0_measure_10 : decode cX0_measure 10 = .ok (.getfield 9, 3) := by decide +kernel
theorem dX0_measure_13 : decode cX0_measure 13 = .ok (.iload_n 1, 1) := by decide +kernel
theorem dX0_measure_14 : decode cX0_measure 14 = .ok (.aload_n 2, 1) := by decide +kernel
theorem dX0_measure_15 : decode cX0_measure 15 = .ok (.getfield 132, 3) := by decide +kernel
theorem dX0_measure_18 : decode cX0_measure 18 = .ok (.iastore, 1) := by decide +kernel
theorem dX0_measure_19 : decode cX0_measure 19 = .ok (.iconst 0, 1) := by decide +kernel
theorem dX0_measure_20 : decode cX0_measure 20 = .ok (.ireturn, 1) := by decide +kernel
theorem dX0_askItem_0 : decode cX0_askItem 0 = .ok (.aload_n 0, 1) := by decide +kernel
theorem dX0_askItem_1 : decode cX0_askItem 1 = .ok (.getfield 21, 3) := by decide +kernel
theorem dX0_askItem_4 : decode cX0_askItem 4 = .ok (.iload_n 3, 1) := by decide +kernel
theorem dX0_askItem_5 : decode cX0_askItem 5 = .ok (.invokevirtual 111, 3) := by decide +kernel
theorem dX0_askItem_8 : decode cX0_askItem 8 = .ok (.ifCond .ne 5, 3) := by decide +kernel
theorem dX0_askItem_11 : decode cX0_askItem 11 = .ok (.iconst 1, 1) := by decide +kernel
theorem dX0_askItem_12 : decode cX0_askItem 12 = .ok (.ireturn, 1) := by decide +kernel
theorem dX0_askItem_13 : decode cX0_askItem 13 = .ok (.iload_n 1, 1) := by decide +kernel
theorem dX0_askItem_14 : decode cX0_askItem 14 = .ok (.bipush 8, 2) := by decide +kernel
theorem dX0_askItem_16 : decode cX0_askItem 16 = .ok (.if_icmp .ne 21, 3) := by decide +kernel
theorem dX0_askItem_19 : decode cX0_askItem 19 = .ok (.aload_n 0, 1) := by decide +kernel
theorem dX0_askItem_20 : decode cX0_askItem 20 = .ok (.getfield 9, 3) := by decide +kernel
theorem dX0_askItem_23 : decode cX0_askItem 23 = .ok (.iload_n 2, 1) := by decide +kernel
theorem dX0_askItem_24 : decode cX0_askItem 24 = .ok (.aload_n 0, 1) := by decide +kernel
theorem dX0_askItem_25 : decode cX0_askItem 25 = .ok (.getfield 21, 3) := by decide +kernel
theorem dX0_askItem_28 : decode cX0_askItem 28 = .ok (.getfield 135, 3) := by decide +kernel
theorem dX0_askItem_31 : decode cX0_askItem 31 = .ok (.iload_n 3, 1) := by decide +kernel
theorem dX0_askItem_32 : decode cX0_askItem 32 = .ok (.iaload, 1) := by decide +kernel
theorem dX0_askItem_33 : decode cX0_askItem 33 = .ok (.iastore, 1) := by decide +kernel
theorem dX0_askItem_34 : decode cX0_askItem 34 = .ok (.goto 56, 3) := by decide +kernel
theorem dX0_askItem_37 : decode cX0_askItem 37 = .ok (.iload_n 1, 1) := by decide +kernel
theorem dX0_askItem_38 : decode cX0_askItem 38 = .ok (.bipush 10, 2) := by decide +kernel
theorem dX0_askItem_40 : decode cX0_askItem 40 = .ok (.if_icmp .ne 20, 3) := by decide +kernel
theorem dX0_askItem_43 : decode cX0_askItem 43 = .ok (.aload_n 0, 1) := by decide +kernel
theorem dX0_askItem_44 : decode cX0_askItem 44 = .ok (.getfield 9, 3) := by decide +kernel
theorem dX0_askItem_47 : decode cX0_askItem 47 = .ok (.iload_n 2, 1) := by decide +kernel
theorem dX0_askItem_48 : decode cX0_askItem 48 = .ok (.aload_n 0, 1) := by decide +kernel
theorem dX0_askItem_49 : decode cX0_askItem 49 = .ok (.getfield 21, 3) := by decide +kernel
theorem dX0_askItem_52 : decode cX0_askItem 52 = .ok (.iload_n 3, 1) := by decide +kernel
theorem dX0_askItem_53 : decode cX0_askItem 53 = .ok (.invokevirtual 138, 3) := by decide +kernel
theorem dX0_askItem_56 : decode cX0_askItem 56 = .ok (.iastore, 1) := by decide +kernel
theorem dX0_askItem_57 : decode cX0_askItem 57 = .ok (.goto 33, 3) := by decide +kernel
theorem dX0_askItem_60 : decode cX0_askItem 60 = .ok (.aload_n 0, 1) := by decide +kernel
theorem dX0_askItem_61 : decode cX0_askItem 61 = .ok (.getfield 21, 3) := by decide +kernel
theorem dX0_askItem_64 : decode cX0_askItem 64 = .ok (.iload_n 3, 1) := by decide +kernel
theorem dX0_askItem_65 : decode cX0_askItem 65 = .ok (.invokevirtual 141, 3) := by decide +kernel
theorem dX0_askItem_68 : decode cX0_askItem 68 = .ok (.ifCond .eq 20, 3) := by decide +kernel
theorem dX0_askItem_71 : decode cX0_askItem 71 = .ok (.aload_n 0, 1) := by decide +kernel
theorem dX0_askItem_72 : decode cX0_askItem 72 = .ok (.getfield 9, 3) := by decide +kernel
theorem dX0_askItem_75 : decode cX0_askItem 75 = .ok (.iload_n 2, 1) := by decide +kernel
theorem dX0_askItem_76 : decode cX0_askItem 76 = .ok (.aload_n 0, 1) := by decide +kernel
theorem dX0_askItem_77 : decode cX0_askItem 77 = .ok (.getfield 21, 3) := by decide +kernel
theorem dX0_askItem_80 : decode cX0_askItem 80 = .ok (.iload_n 3, 1) := by decide +kernel
theorem dX0_askItem_81 : decode cX0_askItem 81 = .ok (.invokevirtual 144, 3) := by decide +kernel
theorem dX0_askItem_84 : decode cX0_askItem 84 = .ok (.iastore, 1) := by decide +kernel
theorem dX0_askItem_85 : decode cX0_askItem 85 = .ok (.goto 5, 3) := by decide +kernel
theorem dX0_askItem_88 : decode cX0_askItem 88 = .ok (.iconst 4, 1) := by decide +kernel
theorem dX0_askItem_89 : decode cX0_askItem 89 = .ok (.ireturn, 1) := by decide +kernel
theorem dX0_askItem_90 : decode cX0_askItem 90 = .ok (.iconst 0, 1) := by decide +kernel
theorem dX0_askItem_91 : decode cX0_askItem 91 = .ok (.ireturn, 1) := by decide +kernel
theorem dX0_load_0 : decode cX0_load 0 = .ok (.aload_n 0, 1) := by decide +kernel
theorem dX0_load_1 : decode cX0_load 1 = .ok (.getfield 21, 3) := by decide +kernel
theorem dX0_load_4 : decode cX0_load 4 = .ok (.iload_n 1, 1) := by decide +kernel
theorem dX0_load_5 : decode cX0_load 5 = .ok (.invokevirtual 111, 3) := by decide +kernel
theorem dX0_load_8 : decode cX0_load 8 = .ok (.ifCond .ne 5, 3) := by decide +kernel
theorem dX0_load_11 : decode cX0_load 11 = .ok (.iconst 1, 1) := by decide +kernel
theorem dX0_load_12 : decode cX0_load 12 = .ok (.ireturn, 1) := by decide +kernel
theorem dX0_load_13 : decode cX0_load 13 = .ok (.aload_n 0, 1) := by decide +kernel
theorem dX0_load_14 : decode cX0_load 14 = .ok (.getfield 21, 3) := by decide +kernel
theorem dX0_load_17 : decode cX0_load 17 = .ok (.getfield 135, 3) := by decide +kernel
theorem dX0_load_20 : decode cX0_load 20 = .ok (.iload_n 1, 1) := by decide +kernel
theorem dX0_load_21 : decode cX0_load 21 = .ok (.iload_n 2, 1) := by decide +kernel
theorem dX0_load_22 : decode cX0_load 22 = .ok (.iastore, 1) := by decide +kernel
theorem dX0_load_23 : decode cX0_load 23 = .ok (.iconst 0, 1) := by decide +kernel
theorem dX0_load_24 : decode cX0_load 24 = .ok (.ireturn, 1) := by decide +kernel
theorem dX0_asKind_0 : decode cX0_asKind 0 = .ok (.aload_n 0, 1) := by decide +kernel
theorem dX0_asKind_1 : decode cX0_asKind 1 = .ok (.getfield 21, 3) := by decide +kernel
theorem dX0_asKind_4 : decode cX0_asKind 4 = .ok (.iload_n 1, 1) := by decide +kernel
theorem dX0_asKind_5 : decode cX0_asKind 5 = .ok (.invokevirtual 111, 3) := by decide +kernel
theorem dX0_asKind_8 : decode cX0_asKind 8 = .ok (.ifCond .eq 19, 3) := by decide +kernel
theorem dX0_asKind_11 : decode cX0_asKind 11 = .ok (.aload_n 0, 1) := by decide +kernel
theorem dX0_asKind_12 : decode cX0_asKind 12 = .ok (.getfield 21, 3) := by decide +kernel
theorem dX0_asKind_15 : decode cX0_asKind 15 = .ok (.getfield 115, 3) := by decide +kernel
theorem dX0_asKind_18 : decode cX0_asKind 18 = .ok (.iload_n 1, 1) := by decide +kernel
theorem dX0_asKind_19 : decode cX0_asKind 19 = .ok (.iaload, 1) := by decide +kernel
theorem dX0_asKind_20 : decode cX0_asKind 20 = .ok (.iload_n 2, 1) := by decide +kernel
theorem dX0_asKind_21 : decode cX0_asKind 21 = .ok (.invokestatic 121, 3) := by decide +kernel
theorem dX0_asKind_24 : decode cX0_asKind 24 = .ok (.ifCond .eq 7, 3) := by decide +kernel
theorem dX0_asKind_27 : decode cX0_asKind 27 = .ok (.iconst 1, 1) := by decide +kernel
theorem dX0_asKind_28 : decode cX0_asKind 28 = .ok (.goto 4, 3) := by decide +kernel
theorem dX0_asKind_31 : decode cX0_asKind 31 = .ok (.iconst 0, 1) := by decide +kernel
theorem dX0_asKind_32 : decode cX0_asKind 32 = .ok (.istore_n 3, 1) := by decide +kernel
theorem dX0_asKind_33 : decode cX0_asKind 33 = .ok (.iload_n 3, 1) := by decide +kernel
theorem dX0_asKind_34 : decode cX0_asKind 34 = .ok (.ifCond .eq 7, 3) := by decide +kernel
theorem dX0_asKind_37 : decode cX0_asKind 37 = .ok (.iconst 0, 1) := by decide +kernel
theorem dX0_asKind_38 : decode cX0_asKind 38 = .ok (.goto 4, 3) := by decide +kernel
theorem dX0_asKind_41 : decode cX0_asKind 41 = .ok (.iconst 4, 1) := by decide +kernel
theorem dX0_asKind_42 : decode cX0_asKind 42 = .ok (.ireturn, 1) := by decide +kernel
theorem dX0_counterAct_0 : decode cX0_counterAct 0 = .ok (.iload_n 1, 1) := by decide +kernel
theorem dX0_counterAct_1 : decode cX0_counterAct 1 = .ok (.bipush 13, 2) := by decide +kernel
theorem dX0_counterAct_3 : decode cX0_counterAct 3 = .ok (.if_icmp .ne 21, 3) := by decide +kernel
theorem dX0_counterAct_6 : decode cX0_counterAct 6 = .ok (.aload_n 0, 1) := by decide +kernel
theorem dX0_counterAct_7 : decode cX0_counterAct 7 = .ok (.getfield 31, 3) := by decide +kernel
theorem dX0_counterAct_10 : decode cX0_counterAct 10 = .ok (.iload_n 2, 1) := by decide +kernel
theorem dX0_counterAct_11 : decode cX0_counterAct 11 = .ok (.aaload, 1) := by decide +kernel
theorem dX0_counterAct_12 : decode cX0_counterAct 12 = .ok (.iconst (-1), 1) := by decide +kernel
theorem dX0_counterAct_13 : decode cX0_counterAct 13 = .ok (.aload_n 0, 1) := by decide +kernel
theorem dX0_counterAct_14 : decode cX0_counterAct 14 = .ok (.getfield 9, 3) := by decide +kernel
theorem dX0_counterAct_17 : decode cX0_counterAct 17 = .ok (.iload_n 3, 1) := by decide +kernel
theorem dX0_counterAct_18 : decode cX0_counterAct 18 = .ok (.iaload, 1) := by decide +kernel
theorem dX0_counterAct_19 : decode cX0_counterAct 19 = .ok (.iconst 0, 1) := by decide +kernel
theorem dX0_counterAct_20 : decode cX0_counterAct 20 = .ok (.invokevirtual 92, 3) := by decide +kernel
theorem dX0_counterAct_23 : decode cX0_counterAct 23 = .ok (.ireturn, 1) := by decide +kernel
theorem dX0_counterAct_24 : decode cX0_counterAct 24 = .ok (.iload_n 1, 1) := by decide +kernel
theorem dX0_counterAct_25 : decode cX0_counterAct 25 = .ok (.bipush 14, 2) := by decide +kernel
theorem dX0_counterAct_27 : decode cX0_counterAct 27 = .ok (.if_icmp .ne 22, 3) := by decide +kernel
theorem dX0_counterAct_30 : decode cX0_counterAct 30 = .ok (.aload_n 0, 1) := by decide +kernel
theorem dX0_counterAct_31 : decode cX0_counterAct 31 = .ok (.aload_n 0, 1) := by decide +kernel
theorem dX0_counterAct_32 : decode cX0_counterAct 32 = .ok (.getfield 31, 3) := by decide +kernel
theorem dX0_counterAct_35 : decode cX0_counterAct 35 = .ok (.iload_n 2, 1) := by decide +kernel
theorem dX0_counterAct_36 : decode cX0_counterAct 36 = .ok (.aaload, 1) := by decide +kernel
theorem dX0_counterAct_37 : decode cX0_counterAct 37 = .ok (.aload_n 0, 1) := by decide +kernel
theorem dX0_counterAct_38 : decode cX0_counterAct 38 = .ok (.getfield 9, 3) := by decide +kernel
theorem dX0_counterAct_41 : decode cX0_counterAct 41 = .ok (.iload_n 3, 1) := by decide +kernel
theorem dX0_counterAct_42 : decode cX0_counterAct 42 = .ok (.iaload, 1) := by decide +kernel
theorem dX0_counterAct_43 : decode cX0_counterAct 43 = .ok (.invokevirtual 147, 3) := by decide +kernel
theorem dX0_counterAct_46 : decode cX0_counterAct 46 = .ok (.goto 21, 3) := by decide +kernel
theorem dX0_counterAct_49 : decode cX0_counterAct 49 = .ok (.aload_n 0, 1) := by decide +kernel
theorem dX0_counterAct_50 : decode cX0_counterAct 50 = .ok (.iload_n 2, 1) := by decide +kernel
theorem dX0_counterAct_51 : decode cX0_counterAct 51 = .ok (.aload_n 0, 1) := by decide +kernel
theorem dX0_counterAct_52 : decode cX0_counterAct 52 = .ok (.getfield 31, 3) := by decide +kernel
theorem dX0_counterAct_55 : decode cX0_counterAct 55 = .ok (.iload_n 3, 1) := by decide +kernel
theorem dX0_counterAct_56 : decode cX0_counterAct 56 = .ok (.aaload, 1) := by decide +kernel
theorem dX0_counterAct_57 : decode cX0_counterAct 57 = .ok (.aload_n 0, 1) := by decide +kernel
theorem dX0_counterAct_58 : decode cX0_counterAct 58 = .ok (.getfield 9, 3) := by decide +kernel
theorem dX0_counterAct_61 : decode cX0_counterAct 61 = .ok (.iload 4, 2) := by decide +kernel
theorem dX0_counterAct_63 : decode cX0_counterAct 63 = .ok (.iaload, 1) := by decide +kernel
theorem dX0_counterAct_64 : decode cX0_counterAct 64 = .ok (.invokevirtual 151, 3) := by decide +kernel
theorem dX0_counterAct_67 : decode cX0_counterAct 67 = .ok (.ireturn, 1) := by decide +kernel
theorem dX0_count_0 : decode cX0_count 0 = .ok (.aload_n 1, 1) := by decide +kernel
theorem dX0_count_1 : decode cX0_count 1 = .ok (.iload_n 2, 1) := by decide +kernel
theorem dX0_count_2 : decode cX0_count 2 = .ok (.invokevirtual 107, 3) := by decide +kernel
theorem dX0_count_5 : decode cX0_count 5 = .ok (.istore_n 3, 1) := by decide +kernel
theorem dX0_count_6 : decode cX0_count 6 = .ok (.iload_n 3, 1) := by decide +kernel
theorem dX0_count_7 : decode cX0_count 7 = .ok (.ifCond .ne 13, 3) := by decide +kernel
theorem dX0_count_10 : decode cX0_count 10 = .ok (.aload_n 1, 1) := by decide +kernel
theorem dX0_count_11 : decode cX0_count 11 = .ok (.getfield 125, 3) := by decide +kernel
theorem dX0_count_14 : decode cX0_count 14 = .ok (.iload_n 2, 1) := by decide +kernel
theorem dX0_count_15 : decode cX0_count 15 = .ok (.dup2, 1) := by decide +kernel
theorem dX0_count_16 : decode cX0_count 16 = .ok (.iaload, 1) := by decide +kernel
theorem dX0_count_17 : decode cX0_count 17 = .ok (.iconst 1, 1) := by decide +kernel
theorem dX0_count_18 : decode cX0_count 18 = .ok (.iadd, 1) := by decide +kernel
theorem dX0_count_19 : decode cX0_count 19 = .ok (.iastore, 1) := by decide +kernel
theorem dX0_count_20 : decode cX0_count 20 = .ok (.iload_n 3, 1) := by decide +kernel
theorem dX0_count_21 : decode cX0_count 21 = .ok (.ireturn, 1) := by decide +kernel
theorem dX0_readCount_0 : decode cX0_readCount 0 = .ok (.aload_n 2, 1) := by decide +kernel
theorem dX0_readCount_1 : decode cX0_readCount 1 = .ok (.iload_n 3, 1) := by decide +kernel
theorem dX0_readCount_2 : decode cX0_readCount 2 = .ok (.invokevirtual 107, 3) := by decide +kernel
theorem dX0_readCount_5 : decode cX0_readCount 5 = .ok (.istore 4, 2) := by decide +kernel
theorem dX0_readCount_7 : decode cX0_readCount 7 = .ok (.iload 4, 2) := by decide +kernel
theorem dX0_readCount_9 : decode cX0_readCount 9 = .ok (.ifCond .ne 15, 3) := by decide +kernel
theorem dX0_readCount_12 : decode cX0_readCount 12 = .ok (.aload_n 0, 1) := by decide +kernel
theorem dX0_readCount_13 : decode cX0_readCount 13 = .ok (.getfield 9, 3) := by decide +kernel
theorem dX0_readCount_16 : decode cX0_readCount 16 = .ok (.iload_n 1, 1) := by decide +kernel
theorem dX0_readCount_17 : decode cX0_readCount 17 = .ok (.aload_n 2, 1) := by decide +kernel
theorem dX0_readCount_18 : decode cX0_readCount 18 = .ok (.getfield 125, 3) := by decide +kernel
theorem dX0_readCount_21 : decode cX0_readCount 21 = .ok (.iload_n 3, 1) := by decide +kernel
theorem dX0_readCount_22 : decode cX0_readCount 22 = .ok (.iaload, 1) := by decide +kernel
theorem dX0_readCount_23 : decode cX0_readCount 23 = .ok (.iastore, 1) := by decide +kernel
theorem dX0_readCount_24 : decode cX0_readCount 24 = .ok (.iload 4, 2) := by decide +kernel
theorem dX0_readCount_26 : decode cX0_readCount 26 = .ok (.ireturn, 1) := by decide +kernel
theorem dX0_newGrid_0 : decode cX0_newGrid 0 = .ok (.iload_n 2, 1) := by decide +kernel
theorem dX0_newGrid_1 : decode cX0_newGrid 1 = .ok (.invokestatic 154, 3) := by decide +kernel
theorem dX0_newGrid_4 : decode cX0_newGrid 4 = .ok (.istore 4, 2) := by decide +kernel
theorem dX0_newGrid_6 : decode cX0_newGrid 6 = .ok (.iload 4, 2) := by decide +kernel
theorem dX0_newGrid_8 : decode cX0_newGrid 8 = .ok (.ifCond .ne 17, 3) := by decide +kernel
theorem dX0_newGrid_11 : decode cX0_newGrid 11 = .ok (.aload_n 0, 1) := by decide +kernel
theorem dX0_newGrid_12 : decode cX0_newGrid 12 = .ok (.getfield 34, 3) := by decide +kernel
theorem dX0_newGrid_15 : decode cX0_newGrid 15 = .ok (.iload_n 1, 1) := by decide +kernel
theorem dX0_newGrid_16 : decode cX0_newGrid 16 = .ok (.iload_n 2, 1) := by decide +kernel
theorem dX0_newGrid_17 : decode cX0_newGrid 17 = .ok (.iastore, 1) := by decide +kernel
theorem dX0_newGrid_18 : decode cX0_newGrid 18 = .ok (.aload_n 0, 1) := by decide +kernel
theorem dX0_newGrid_19 : decode cX0_newGrid 19 = .ok (.getfield 37, 3) := by decide +kernel
theorem dX0_newGrid_22 : decode cX0_newGrid 22 = .ok (.iload_n 1, 1) := by decide +kernel
theorem dX0_newGrid_23 : decode cX0_newGrid 23 = .ok (.iload_n 3, 1) := by decide +kernel
theorem dX0_newGrid_24 : decode cX0_newGrid 24 = .ok (.iastore, 1) := by decide +kernel
theorem dX0_newGrid_25 : decode cX0_newGrid 25 = .ok (.iload 4, 2) := by decide +kernel
theorem dX0_newGrid_27 : decode cX0_newGrid 27 = .ok (.ireturn, 1) := by decide +kernel
theorem dX0_sumGrid_0 : decode cX0_sumGrid 0 = .ok (.aload_n 0, 1) := by decide +kernel
theorem dX0_sumGrid_1 : decode cX0_sumGrid 1 = .ok (.getfield 34, 3) := by decide +kernel
theorem dX0_sumGrid_4 : decode cX0_sumGrid 4 = .ok (.iload_n 2, 1) := by decide +kernel
theorem dX0_sumGrid_5 : decode cX0_sumGrid 5 = .ok (.iaload, 1) := by decide +kernel
theorem dX0_sumGrid_6 : decode cX0_sumGrid 6 = .ok (.iconst (-1), 1) := by decide +kernel
theorem dX0_sumGrid_7 : decode cX0_sumGrid 7 = .ok (.if_icmp .ne 5, 3) := by decide +kernel
theorem dX0_sumGrid_10 : decode cX0_sumGrid 10 = .ok (.iconst 1, 1) := by decide +kernel
theorem dX0_sumGrid_11 : decode cX0_sumGrid 11 = .ok (.ireturn, 1) := by decide +kernel
theorem dX0_sumGrid_12 : decode cX0_sumGrid 12 = .ok (.aload_n 0, 1) := by decide +kernel
theorem dX0_sumGrid_13 : decode cX0_sumGrid 13 = .ok (.getfield 9, 3) := by decide +kernel
theorem dX0_sumGrid_16 : decode cX0_sumGrid 16 = .ok (.iload_n 1, 1) := by decide +kernel
theorem dX0_sumGrid_17 : decode cX0_sumGrid 17 = .ok (.aload_n 0, 1) := by decide +kernel
theorem dX0_sumGrid_18 : decode cX0_sumGrid 18 = .ok (.getfield 34, 3) := by decide +kernel
theorem dX0_sumGrid_21 : decode cX0_sumGrid 21 = .ok (.iload_n 2, 1) := by decide +kernel
theorem dX0_sumGrid_22 : decode cX0_sumGrid 22 = .ok (.iaload, 1) := by decide +kernel
theorem dX0_sumGrid_23 : decode cX0_sumGrid 23 = .ok (.aload_n 0, 1) := by decide +kernel
theorem dX0_sumGrid_24 : decode cX0_sumGrid 24 = .ok (.getfield 37, 3) := by decide +kernel
theorem dX0_sumGrid_27 : decode cX0_sumGrid 27 = .ok (.iload_n 2, 1) := by decide +kernel
theorem dX0_sumGrid_28 : decode cX0_sumGrid 28 = .ok (.iaload, 1) := by decide +kernel
theorem dX0_sumGrid_29 : decode cX0_sumGrid 29 = .ok (.imul, 1) := by decide +kernel
theorem dX0_sumGrid_30 : decode cX0_sumGrid 30 = .ok (.iastore, 1) := by decide +kernel
theorem dX0_sumGrid_31 : decode cX0_sumGrid 31 = .ok (.iconst 0, 1) := by decide +kernel
theorem dX0_sumGrid_32 : decode cX0_sumGrid 32 = .ok (.ireturn, 1) := by decide +kernel
theorem dX0_alarmAct_0 : decode cX0_alarmAct 0 = .ok (.iload_n 1, 1) := by decide +kernel
theorem dX0_alarmAct_1 : decode cX0_alarmAct 1 = .ok (.bipush 20, 2) := by decide +kernel
theorem dX0_alarmAct_3 : decode cX0_alarmAct 3 = .ok (.if_icmp .ne 19, 3) := by decide +kernel
theorem dX0_alarmAct_6 : decode cX0_alarmAct 6 = .ok (.aload_n 0, 1) := by decide +kernel
theorem dX0_alarmAct_7 : decode cX0_alarmAct 7 = .ok (.getfield 40, 3) := by decide +kernel
theorem dX0_alarmAct_10 : decode cX0_alarmAct 10 = .ok (.iload_n 2, 1) := by decide +kernel
theorem dX0_alarmAct_11 : decode cX0_alarmAct 11 = .ok (.baload, 1) := by decide +kernel
theorem dX0_alarmAct_12 : decode cX0_alarmAct 12 = .ok (.ifCond .eq 8, 3) := by decide +kernel
theorem dX0_alarmAct_15 : decode cX0_alarmAct 15 = .ok (.bipush 7, 2) := by decide +kernel
theorem dX0_alarmAct_17 : decode cX0_alarmAct 17 = .ok (.goto 4, 3) := by decide +kernel
theorem dX0_alarmAct_20 : decode cX0_alarmAct 20 = .ok (.iconst 1, 1) := by decide +kernel
theorem dX0_alarmAct_21 : decode cX0_alarmAct 21 = .ok (.ireturn, 1) := by decide +kernel
theorem dX0_alarmAct_22 : decode cX0_alarmAct 22 = .ok (.aload_n 0, 1) := by decide +kernel
theorem dX0_alarmAct_23 : decode cX0_alarmAct 23 = .ok (.getfield 40, 3) := by decide +kernel
theorem dX0_alarmAct_26 : decode cX0_alarmAct 26 = .ok (.iload_n 2, 1) := by decide +kernel
theorem dX0_alarmAct_27 : decode cX0_alarmAct 27 = .ok (.iload_n 1, 1) := by decide +kernel
theorem dX0_alarmAct_28 : decode cX0_alarmAct 28 = .ok (.bipush 18, 2) := by decide +kernel
theorem dX0_alarmAct_30 : decode cX0_alarmAct 30 = .ok (.if_icmp .ne 7, 3) := by decide +kernel
theorem dX0_alarmAct_33 : decode cX0_alarmAct 33 = .ok (.iconst 1, 1) := by decide +kernel
theorem dX0_alarmAct_34 : decode cX0_alarmAct 34 = .ok (.goto 4, 3) := by decide +kernel
theorem dX0_alarmAct_37 : decode cX0_alarmAct 37 = .ok (.iconst 0, 1) := by decide +kernel
theorem dX0_alarmAct_38 : decode cX0_alarmAct 38 = .ok (.bastore, 1) := by decide +kernel
theorem dX0_alarmAct_39 : decode cX0_alarmAct 39 = .ok (.iload_n 1, 1) := by decide +kernel
theorem dX0_alarmAct_40 : decode cX0_alarmAct 40 = .ok (.bipush 18, 2) := by decide +kernel
theorem dX0_alarmAct_42 : decode cX0_alarmAct 42 = .ok (.if_icmp .ne 15, 3) := by decide +kernel
theorem dX0_alarmAct_45 : decode cX0_alarmAct 45 = .ok (.aload_n 0, 1) := by decide +kernel
theorem dX0_alarmAct_46 : decode cX0_alarmAct 46 = .ok (.getfield 44, 3) := by decide +kernel
theorem dX0_alarmAct_49 : decode cX0_alarmAct 49 = .ok (.iload_n 2, 1) := by decide +kernel
theorem dX0_alarmAct_50 : decode cX0_alarmAct 50 = .ok (.aload_n 0, 1) := by decide +kernel
theorem dX0_alarmAct_51 : decode cX0_alarmAct 51 = .ok (.getfield 9, 3) := by decide +kernel
theorem dX0_alarmAct_54 : decode cX0_alarmAct 54 = .ok (.iload_n 3, 1) := by decide +kernel
theorem dX0_alarmAct_55 : decode cX0_alarmAct 55 = .ok (.iaload, 1) := by decide +kernel
theorem dX0_alarmAct_56 : decode cX0_alarmAct 56 = .ok (.iastore, 1) := by decide +kernel
theorem dX0_alarmAct_57 : decode cX0_alarmAct 57 = .ok (.iconst 0, 1) := by decide +kernel
theorem dX0_alarmAct_58 : decode cX0_alarmAct 58 = .ok (.ireturn, 1) := by decide +kernel
theorem dX1_init_0 : decode cX1_init 0 = .ok (.aload_n 0, 1) := by decide +kernel
theorem dX1_init_1 : decode cX1_init 1 = .ok (.invokespecial 3, 3) := by decide +kernel
theorem dX1_init_4 : decode cX1_init 4 = .ok (.aload_n 0, 1) := by decide +kernel
theorem dX1_init_5 : decode cX1_init 5 = .ok (.bipush 64, 2) := by decide +kernel
theorem dX1_init_7 : decode cX1_init 7 = .ok (.newarray .int, 2) := by decide +kernel
theorem dX1_init_9 : decode cX1_init 9 = .ok (.putfield 9, 3) := by decide +kernel
theorem dX1_init_12 : decode cX1_init 12 = .ok (.aload_n 0, 1) := by decide +kernel
theorem dX1_init_13 : decode cX1_init 13 = .ok (.bipush 64, 2) := by decide +kernel
theorem dX1_init_15 : decode cX1_init 15 = .ok (.newarray .int, 2) := by decide +kernel
theorem dX1_init_17 : decode cX1_init 17 = .ok (.putfield 15, 3) := by decide +kernel
theorem dX1_init_20 : decode cX1_init 20 = .ok (.aload_n 0, 1) := by decide +kernel
theorem dX1_init_21 : decode cX1_init 21 = .ok (.bipush 64, 2) := by decide +kernel
theorem dX1_init_23 : decode cX1_init 23 = .ok (.newarray .int, 2) := by decide +kernel
theorem dX1_init_25 : decode cX1_init 25 = .ok (.putfield 18, 3) := by decide +kernel
theorem dX1_init_28 : decode cX1_init 28 = .ok (.aload_n 0, 1) := by decide +kernel
theorem dX1_init_29 : decode cX1_init 29 = .ok (.iconst 0, 1) := by decide +kernel
theorem dX1_init_30 : decode cX1_init 30 = .ok (.putfield 21, 3) := by decide +kernel
theorem dX1_init_33 : decode cX1_init 33 = .ok (.return_, 1) := by decide +kernel
theorem dX1_has_0 : decode cX1_has 0 = .ok (.iload_n 1, 1) := by decide +kernel
theorem dX1_has_1 : decode cX1_has 1 = .ok (.aload_n 0, 1) := by decide +kernel
theorem dX1_has_2 : decode cX1_has 2 = .ok (.getfield 21, 3) := by decide +kernel
theorem dX1_has_5 : decode cX1_has 5 = .ok (.invokestatic 25, 3) := by decide +kernel
theorem dX1_has_8 : decode cX1_has 8 = .ok (.ireturn, 1) := by decide +kernel
theorem dX1_add_0 : decode cX1_add 0 = .ok (.aload_n 0, 1) := by decide +kernel
theorem dX1_add_1 : decode cX1_add 1 = .ok (.getfield 21, 3) := by decide +kernel
theorem dX1_add_4 : decode cX1_add 4 = .ok (.bipush 64, 2) := by decide +kernel
theorem dX1_add_6 : decode cX1_add 6 = .ok (.if_icmp .lt 5, 3) := by decide +kernel
theorem dX1_add_9 : decode cX1_add 9 = .ok (.iconst (-1), 1) := by decide +kernel
theorem dX1_add_10 : decode cX1_add 10 = .ok (.ireturn, 1) := by decide +kernel
theorem dX1_add_11 : decode cX1_add 11 = .ok (.aload_n 0, 1) := by decide +kernel
theorem dX1_add_12 : decode cX1_add 12 = .ok (.getfield 9, 3) := by decide +kernel
theorem dX1_add_15 : decode cX1_add 15 = .ok (.aload_n 0, 1) := by decide +kernel
theorem dX1_add_16 : decode cX1_add 16 = .ok (.getfield 21, 3) := by decide +kernel
theorem dX1_add_19 : decode cX1_add 19 = .ok (.iload_n 1, 1) := by decide +kernel
theorem dX1_add_20 : decode cX1_add 20 = .ok (.iastore, 1) := by decide +kernel
theorem dX1_add_21 : decode cX1_add 21 = .ok (.aload_n 0, 1) := by decide +kernel
theorem dX1_add_22 : decode cX1_add 22 = .ok (.getfield 15, 3) := by decide +kernel
theorem dX1_add_25 : decode cX1_add 25 = .ok (.aload_n 0, 1) := by decide +kernel
theorem dX1_add_26 : decode cX1_add 26 = .ok (.getfield 21, 3) := by decide +kernel
theorem dX1_add_29 : decode cX1_add 29 = .ok (.iload_n 2, 1) := by decide +kernel
theorem dX1_add_30 : decode cX1_add 30 = .ok (.iastore, 1) := by decide +kernel
theorem dX1_add_31 : decode cX1_add 31 = .ok (.aload_n 0, 1) := by decide +kernel
theorem dX1_add_32 : decode cX1_add 32 = .ok (.getfield 18, 3) := by decide +kernel
theorem dX1_add_35 : decode cX1_add 35 = .ok (.aload_n 0, 1) := by decide +kernel
theorem dX1_add_36 : decode cX1_add 36 = .ok (.getfield 21, 3) := by decide +kernel
theorem dX1_add_39 : decode cX1_add 39 = .ok (.iconst 0, 1) := by decide +kernel
theorem dX1_add_40 : decode cX1_add 40 = .ok (.iastore, 1) := by decide +kernel
theorem dX1_add_41 : decode cX1_add 41 = .ok (.aload_n 0, 1) := by decide +kernel
theorem dX1_add_42 : decode cX1_add 42 = .ok (.dup, 1) := by decide +kernel
theorem dX1_add_43 : decode cX1_add 43 = .ok (.getfield 21, 3) := by decide +kernel
theorem dX1_add_46 : decode cX1_add 46 = .ok (.dup_x1, 1) := by decide +kernel
theorem dX1_add_47 : decode cX1_add 47 = .ok (.iconst 1, 1) := by decide +kernel
theorem dX1_add_48 : decode cX1_add 48 = .ok (.iadd, 1) := by decide +kernel
theorem dX1_add_49 : decode cX1_add 49 = .ok (.putfield 21, 3) := by decide +kernel
theorem dX1_add_52 : decode cX1_add 52 = .ok (.ireturn, 1) := by decide +kernel
theorem dX1_stamp_0 : decode cX1_stamp 0 = .ok (.aload_n 0, 1) := by decide +kernel
theorem dX1_stamp_1 : decode cX1_stamp 1 = .ok (.getfield 18, 3) := by decide +kernel
theorem dX1_stamp_4 : decode cX1_stamp 4 = .ok (.iload_n 1, 1) := by decide +kernel
theorem dX1_stamp_5 : decode cX1_stamp 5 = .ok (.dup2, 1) := by decide +kernel
theorem dX1_stamp_6 : decode cX1_stamp 6 = .ok (.iaload, 1) := by decide +kernel
theorem dX1_stamp_7 : decode cX1_stamp 7 = .ok (.iconst 1, 1) := by decide +kernel
theorem dX1_stamp_8 : decode cX1_stamp 8 = .ok (.iadd, 1) := by decide +kernel
theorem dX1_stamp_9 : decode cX1_stamp 9 = .ok (.iastore, 1) := by decide +kernel
theorem dX1_stamp_10 : decode cX1_stamp 10 = .ok (.aload_n 0, 1) := by decide +kernel
theorem dX1_stamp_11 : decode cX1_stamp 11 = .ok (.getfield 15, 3) := by decide +kernel
theorem dX1_stamp_14 : decode cX1_stamp 14 = .ok (.iload_n 1, 1) := by decide +kernel
theorem dX1_stamp_15 : decode cX1_stamp 15 = .ok (.iaload, 1) := by decide +kernel
theorem dX1_stamp_16 : decode cX1_stamp 16 = .ok (.aload_n 0, 1) := by decide +kernel
theorem dX1_stamp_17 : decode cX1_stamp 17 = .ok (.getfield 18, 3) := by decide +kernel
theorem dX1_stamp_20 : decode cX1_stamp 20 = .ok (.iload_n 1, 1) := by decide +kernel
theorem dX1_stamp_21 : decode cX1_stamp 21 = .ok (.iaload, 1) := by decide +kernel
theorem dX1_stamp_22 : decode cX1_stamp 22 = .ok (.iadd, 1) := by decide +kernel
theorem dX1_stamp_23 : decode cX1_stamp 23 = .ok (.istore_n 2, 1) := by decide +kernel
theorem dX1_stamp_24 : decode cX1_stamp 24 = .ok (.aload_n 0, 1) := by decide +kernel
theorem dX1_stamp_25 : decode cX1_stamp 25 = .ok (.getfield 9, 3) := by decide +kernel
theorem dX1_stamp_28 : decode cX1_stamp 28 = .ok (.iload_n 1, 1) := by decide +kernel
theorem dX1_stamp_29 : decode cX1_stamp 29 = .ok (.iaload, 1) := by decide +kernel
theorem dX1_stamp_30 : decode cX1_stamp 30 = .ok (.tableswitch 44 1 4 #[30, 30, 34, 40], 30) := by decide +kernel
theorem dX1_stamp_60 : decode cX1_stamp 60 = .ok (.iconst 2, 1) := by decide +kernel
theorem dX1_stamp_61 : decode cX1_stamp 61 = .ok (.iload_n 2, 1) := by decide +kernel
theorem dX1_stamp_62 : decode cX1_stamp 62 = .ok (.imul, 1) := by decide +kernel
theorem dX1_stamp_63 : decode cX1_stamp 63 = .ok (.ireturn, 1) := by decide +kernel
theorem dX1_stamp_64 : decode cX1_stamp 64 = .ok (.iconst 2, 1) := by decide +kernel
theorem dX1_stamp_65 : decode cX1_stamp 65 = .ok (.iload_n 2, 1) := by decide +kernel
theorem dX1_stamp_66 : decode cX1_stamp 66 = .ok (.imul, 1) := by decide +kernel
theorem dX1_stamp_67 : decode cX1_stamp 67 = .ok (.iconst 1, 1) := by decide +kernel
theorem dX1_stamp_68 : decode cX1_stamp 68 = .ok (.isub, 1) := by decide +kernel
theorem dX1_stamp_69 : decode cX1_stamp 69 = .ok (.ireturn, 1) := by decide +kernel
theorem dX1_stamp_70 : decode cX1_stamp 70 = .ok (.iconst 3, 1) := by decide +kernel
theorem dX1_stamp_71 : decode cX1_stamp 71 = .ok (.iload_n 2, 1) := by decide +kernel
theorem dX1_stamp_72 : decode cX1_stamp 72 = .ok (.imul, 1) := by decide +kernel
theorem dX1_stamp_73 : decode cX1_stamp 73 = .ok (.ireturn, 1) := by decide +kernel
theorem dX1_stamp_74 : decode cX1_stamp 74 = .ok (.iload_n 2, 1) := by decide +kernel
theorem dX1_stamp_75 : decode cX1_stamp 75 = .ok (.ireturn, 1) := by decide +kernel
theorem dX1_isAlive_0 : decode cX1_isAlive 0 = .ok (.aload_n 0, 1) := by decide +kernel
theorem dX1_isAlive_1 : decode cX1_isAlive 1 = .ok (.getfield 9, 3) := by decide +kernel
theorem dX1_isAlive_4 : decode cX1_isAlive 4 = .ok (.iload_n 1, 1) := by decide +kernel
theorem dX1_isAlive_5 : decode cX1_isAlive 5 = .ok (.iaload, 1) := by decide +kernel
theorem dX1_isAlive_6 : decode cX1_isAlive 6 = .ok (.iconst 3, 1) := by decide +kernel
theorem dX1_isAlive_7 : decode cX1_isAlive 7 = .ok (.if_icmp .eq 13, 3) := by decide +kernel
theorem dX1_isAlive_10 : decode cX1_isAlive 10 = .ok (.aload_n 0, 1) := by decide +kernel
theorem dX1_isAlive_11 : decode cX1_isAlive 11 = .ok (.getfield 9, 3) := by decide +kernel
theorem dX1_isAlive_14 : decode cX1_isAlive 14 = .ok (.iload_n 1, 1) := by decide +kernel
theorem dX1_isAlive_15 : decode cX1_isAlive 15 = .ok (.iaload, 1) := by decide +kernel
theorem dX1_isAlive_16 : decode cX1_isAlive 16 = .ok (.iconst 4, 1) := by decide +kernel
theorem dX1_isAlive_17 : decode cX1_isAlive 17 = .ok (.if_icmp .ne 7, 3) := by decide +kernel
theorem dX1_isAlive_20 : decode cX1_isAlive 20 = .ok (.iconst 1, 1) := by decide +kernel
theorem dX1_isAlive_21 : decode cX1_isAlive 21 = .ok (.goto 4, 3) := by decide +kernel
theorem dX1_isAlive_24 : decode cX1_isAlive 24 = .ok (.iconst 0, 1) := by decide +kernel
theorem dX1_isAlive_25 : decode cX1_isAlive 25 = .ok (.ireturn, 1) := by decide +kernel
theorem dX1_feed_0 : decode cX1_feed 0 = .ok (.aload_n 0, 1) := by decide +kernel
theorem dX1_feed_1 : decode cX1_feed 1 = .ok (.getfield 9, 3) := by decide +kernel
theorem dX1_feed_4 : decode cX1_feed 4 = .ok (.iload_n 1, 1) := by decide +kernel
theorem dX1_feed_5 : decode cX1_feed 5 = .ok (.iaload, 1) := by decide +kernel
theorem dX1_feed_6 : decode cX1_feed 6 = .ok (.iconst 3, 1) := by decide +kernel
theorem dX1_feed_7 : decode cX1_feed 7 = .ok (.if_icmp .ne 20, 3) := by decide +kernel
theorem dX1_feed_10 : decode cX1_feed 10 = .ok (.aload_n 0, 1) := by decide +kernel
theorem dX1_feed_11 : decode cX1_feed 11 = .ok (.getfield 15, 3) := by decide +kernel
theorem dX1_feed_14 : decode cX1_feed 14 = .ok (.iload_n 1, 1) := by decide +kernel
theorem dX1_feed_15 : decode cX1_feed 15 = .ok (.dup2, 1) := by decide +kernel
theorem dX1_feed_16 : decode cX1_feed 16 = .ok (.iaload, 1) := by decide +kernel
theorem dX1_feed_17 : decode cX1_feed 17 = .ok (.iconst 5, 1) := by decide +kernel
theorem dX1_feed_18 : decode cX1_feed 18 = .ok (.iadd, 1) := by decide +kernel
theorem dX1_feed_19 : decode cX1_feed 19 = .ok (.iastore, 1) := by decide +kernel
theorem dX1_feed_20 : decode cX1_feed 20 = .ok (.aload_n 0, 1) := by decide +kernel
theorem dX1_feed_21 : decode cX1_feed 21 = .ok (.getfield 15, 3) := by decide +kernel
theorem dX1_feed_24 : decode cX1_feed 24 = .ok (.iload_n 1, 1) := by decide +kernel
theorem dX1_feed_25 : decode cX1_feed 25 = .ok (.iaload, 1) := by decide +kernel
theorem dX1_feed_26 : decode cX1_feed 26 = .ok (.ireturn, 1) := by decide +kernel
theorem dX1_feed_27 : decode cX1_feed 27 = .ok (.aload_n 0, 1) := by decide +kernel
theorem dX1_feed_28 : decode cX1_feed 28 = .ok (.getfield 15, 3) := by decide +kernel
theorem dX1_feed_31 : decode cX1_feed 31 = .ok (.iload_n 1, 1) := by decide +kernel
theorem dX1_feed_32 : decode cX1_feed 32 = .ok (.dup2, 1) := by decide +kernel
theorem dX1_feed_33 : decode cX1_feed 33 = .ok (.iaload, 1) := by decide +kernel
theorem dX1_feed_34 : decode cX1_feed 34 = .ok (.iconst 2, 1) := by decide +kernel
theorem dX1_feed_35 : decode cX1_feed 35 = .ok (.imul, 1) := by decide +kernel
theorem dX1_feed_36 : decode cX1_feed 36 = .ok (.iastore, 1) := by decide +kernel
theorem dX1_feed_37 : decode cX1_feed 37 = .ok (.aload_n 0, 1) := by decide +kernel
theorem dX1_feed_38 : decode cX1_feed 38 = .ok (.getfield 15, 3) := by decide +kernel
theorem dX1_feed_41 : decode cX1_feed 41 = .ok (.iload_n 1, 1) := by decide +kernel
theorem dX1_feed_42 : decode cX1_feed 42 = .ok (.iaload, 1) := by decide +kernel
theorem dX1_feed_43 : decode cX1_feed 43 = .ok (.aload_n 0, 1) := by decide +kernel
theorem dX1_feed_44 : decode cX1_feed 44 = .ok (.getfield 18, 3) := by decide +kernel
theorem dX1_feed_47 : decode cX1_feed 47 = .ok (.iload_n 1, 1) := by decide +kernel
theorem dX1_feed_48 : decode cX1_feed 48 = .ok (.iaload, 1) := by decide +kernel
theorem dX1_feed_49 : decode cX1_feed 49 = .ok (.isub, 1) := by decide +kernel
theorem dX1_feed_50 : decode cX1_feed 50 = .ok (.ireturn, 1) := by decide +kernel
theorem dX2_init_0 : decode cX2_init 0 = .ok (.aload_n 0, 1) := by decide +kernel
theorem dX2_init_1 : decode cX2_init 1 = .ok (.invokespecial 3, 3) := by decide +kernel
theorem dX2_init_4 : decode cX2_init 4 = .ok (.aload_n 0, 1) := by decide +kernel
theorem dX2_init_5 : decode cX2_init 5 = .ok (.bipush 40, 2) := by decide +kernel
theorem dX2_init_7 : decode cX2_init 7 = .ok (.newarray .int, 2) := by decide +kernel
theorem dX2_init_9 : decode cX2_init 9 = .ok (.putfield 9, 3) := by decide +kernel
theorem dX2_init_12 : decode cX2_init 12 = .ok (.aload_n 0, 1) := by decide +kernel
theorem dX2_init_13 : decode cX2_init 13 = .ok (.bipush 40, 2) := by decide +kernel
theorem dX2_init_15 : decode cX2_init 15 = .ok (.newarray .int, 2) := by decide +kernel
theorem dX2_init_17 : decode cX2_init 17 = .ok (.putfield 15, 3) := by decide +kernel
theorem dX2_init_20 : decode cX2_init 20 = .ok (.aload_n 0, 1) := by decide +kernel
theorem dX2_init_21 : decode cX2_init 21 = .ok (.bipush 40, 2) := by decide +kernel
theorem dX2_init_23 : decode cX2_init 23 = .ok (.newarray .int, 2) := by decide +kernel
theorem dX2_init_25 : decode cX2_init 25 = .ok (.putfield 18, 3) := by decide +kernel
theorem dX2_init_28 : decode cX2_init 28 = .ok (.aload_n 0, 1) := by decide +kernel
theorem dX2_init_29 : decode cX2_init 29 = .ok (.bipush 40, 2) := by decide +kernel
theorem dX2_init_31 : decode cX2_init 31 = .ok (.newarray .int, 2) := by decide +kernel
theorem dX2_init_33 : decode cX2_init 33 = .ok (.putfield 21, 3) := by decide +kernel
theorem dX2_init_36 : decode cX2_init 36 = .ok (.aload_n 0, 1) := by decide +kernel
theorem dX2_init_37 : decode cX2_init 37 = .ok (.iconst 0, 1) := by decide +kernel
theorem dX2_init_38 : decode cX2_init 38 = .ok (.putfield 24, 3) := by decide +kernel
theorem dX2_init_41 : decode cX2_init 41 = .ok (.aload_n 0, 1) := by decide +kernel
theorem dX2_init_42 : decode cX2_init 42 = .ok (.iconst 5, 1) := by decide +kernel
theorem dX2_init_43 : decode cX2_init 43 = .ok (.newarray .int, 2) := by decide +kernel
theorem dX2_init_45 : decode cX2_init 45 = .ok (.putfield 28, 3) := by decide +kernel
theorem dX2_init_48 : decode cX2_init 48 = .ok (.aload_n 0, 1) := by decide +kernel
theorem dX2_init_49 : decode cX2_init 49 = .ok (.iconst 5, 1) := by decide +kernel
theorem dX2_init_50 : decode cX2_init 50 = .ok (.newarray .int, 2) := by decide +kernel
theorem dX2_init_52 : decode cX2_init 52 = .ok (.putfield 31, 3) := by decide +kernel
theorem dX2_init_55 : decode cX2_init 55 = .ok (.aload_n 0, 1) := by decide +kernel
theorem dX2_init_56 : decode cX2_init 56 = .ok (.iconst 5, 1) := by decide +kernel
theorem dX2_init_57 : decode cX2_init 57 = .ok (.newarray .int, 2) := by decide +kernel
theorem dX2_init_59 : decode cX2_init 59 = .ok (.putfield 34, 3) := by decide +kernel
theorem dX2_init_62 : decode cX2_init 62 = .ok (.aload_n 0, 1) := by decide +kernel
theorem dX2_init_63 : decode cX2_init 63 = .ok (.iconst 5, 1) := by decide +kernel
theorem dX2_init_64 : decode cX2_init 64 = .ok (.newarray .int, 2) := by decide +kernel
theorem dX2_init_66 : decode cX2_init 66 = .ok (.putfield 37, 3) := by decide +kernel
theorem dX2_init_69 : decode cX2_init 69 = .ok (.aload_n 0, 1) := by decide +kernel
theorem dX2_init_70 : decode cX2_init 70 = .ok (.iconst 0, 1) := by decide +kernel
theorem dX2_init_71 : decode cX2_init 71 = .ok (.putfield 40, 3) := by decide +kernel
theorem dX2_init_74 : decode cX2_init 74 = .ok (.return_, 1) := by decide +kernel
theorem dX2_isAct_0 : decode cX2_isAct 0 = .ok (.iload_n 0, 1) := by decide +kernel
theorem dX2_isAct_1 : decode cX2_isAct 1 = .ok (.bipush 25, 2) := by decide +kernel
theorem dX2_isAct_3 : decode cX2_isAct 3 = .ok (.invokestatic 43, 3) := by decide +kernel
theorem dX2_isAct_6 : decode cX2_isAct 6 = .ok (.ifCond .eq 43, 3) := by decide +kernel
theorem dX2_isAct_9 : decode cX2_isAct 9 = .ok (.iload_n 1, 1) := by decide +kernel
theorem dX2_isAct_10 : decode cX2_isAct 10 = .ok (.getstatic 47, 3) := by decide +kernel
theorem dX2_isAct_13 : decode cX2_isAct 13 = .ok (.iload_n 0, 1) := by decide +kernel
theorem dX2_isAct_14 : decode cX2_isAct 14 = .ok (.iaload, 1) := by decide +kernel
theorem dX2_isAct_15 : decode cX2_isAct 15 = .ok (.invokestatic 50, 3) := by decide +kernel
theorem dX2_isAct_18 : decode cX2_isAct 18 = .ok (.ifCond .eq 31, 3) := by decide +kernel
theorem dX2_isAct_21 : decode cX2_isAct 21 = .ok (.iload_n 2, 1) := by decide +kernel
theorem dX2_isAct_22 : decode cX2_isAct 22 = .ok (.getstatic 53, 3) := by decide +kernel
theorem dX2_isAct_25 : decode cX2_isAct 25 = .ok (.iload_n 0, 1) := by decide +kernel
theorem dX2_isAct_26 : decode cX2_isAct 26 = .ok (.iaload, 1) := by decide +kernel
theorem dX2_isAct_27 : decode cX2_isAct 27 = .ok (.invokestatic 50, 3) := by decide +kernel
theorem dX2_isAct_30 : decode cX2_isAct 30 = .ok (.ifCond .eq 19, 3) := by decide +kernel
theorem dX2_isAct_33 : decode cX2_isAct 33 = .ok (.iload_n 3, 1) := by decide +kernel
theorem dX2_isAct_34 : decode cX2_isAct 34 = .ok (.getstatic 56, 3) := by decide +kernel
theorem dX2_isAct_37 : decode cX2_isAct 37 = .ok (.iload_n 0, 1) := by decide +kernel
theorem dX2_isAct_38 : decode cX2_isAct 38 = .ok (.iaload, 1) := by decide +kernel
theorem dX2_isAct_39 : decode cX2_isAct 39 = .ok (.invokestatic 50, 3) := by decide +kernel
theorem dX2_isAct_42 : decode cX2_isAct 42 = .ok (.ifCond .eq 7, 3) := by decide +kernel
theorem dX2_isAct_45 : decode cX2_isAct 45 = .ok (.iconst 1, 1) := by decide +kernel
theorem dX2_isAct_46 : decode cX2_isAct 46 = .ok (.goto 4, 3) := by decide +kernel
theorem dX2_isAct_49 : decode cX2_isAct 49 = .ok (.iconst 0, 1) := by decide +kernel
theorem dX2_isAct_50 : decode cX2_isAct 50 = .ok (.ireturn, 1) := by decide +kernel
theorem dX2_isGood_0 : decode cX2_isGood 0 = .ok (.iload_n 1, 1) := by decide +kernel
theorem dX2_isGood_1 : decode cX2_isGood 1 = .ok (.ifCond .eq 11, 3) := by decide +kernel
theorem dX2_isGood_4 : decode cX2_isGood 4 = .ok (.iload_n 0, 1) := by decide +kernel
theorem dX2_isGood_5 : decode cX2_isGood 5 = .ok (.iload_n 1, 1) := by decide +kernel
theorem dX2_isGood_6 : decode cX2_isGood 6 = .ok (.invokestatic 43, 3) := by decide +kernel
theorem dX2_isGood_9 : decode cX2_isGood 9 = .ok (.ifCond .eq 7, 3) := by decide +kernel
theorem dX2_isGood_12 : decode cX2_isGood 12 = .ok (.iconst 1, 1) := by decide +kernel
theorem dX2_isGood_13 : decode cX2_isGood 13 = .ok (.goto 4, 3) := by decide +kernel
theorem dX2_isGood_16 : decode cX2_isGood 16 = .ok (.iconst 0, 1) := by decide +kernel
theorem dX2_isGood_17 : decode cX2_isGood 17 = .ok (.ireturn, 1) := by decide +kernel
theorem dX2_addAct_0 : decode cX2_addAct 0 = .ok (.aload_n 0, 1) := by decide +kernel
theorem dX2_addAct_1 : decode cX2_addAct 1 = .ok (.getfield 24, 3) := by decide +kernel
theorem dX2_addAct_4 : decode cX2_addAct 4 = .ok (.bipush 40, 2) := by decide +kernel
theorem dX2_addAct_6 : decode cX2_addAct 6 = .ok (.if_icmp .lt 6, 3) := by decide +kernel
theorem dX2_addAct_9 : decode cX2_addAct 9 = .ok (.bipush (-102), 2) := by decide +kernel
theorem dX2_addAct_11 : decode cX2_addAct 11 = .ok (.ireturn, 1) := by decide +kernel
theorem dX2_addAct_12 : decode cX2_addAct 12 = .ok (.aload_n 0, 1) := by decide +kernel
theorem dX2_addAct_13 : decode cX2_addAct 13 = .ok (.getfield 9, 3) := by decide +kernel
