theorem dX8_letsNow_7 : decode cX8_letsNow 7 = .ok (.ifCond .ne 7, 3) := by decide +kernel
theorem dX8_letsNow_10 : decode cX8_letsNow 10 = .ok (.iconst 0, 1) := by decide +kernel
theorem dX8_letsNow_11 : decode cX8_letsNow 11 = .ok (.goto 17, 3) := by decide +kernel
theorem dX8_letsNow_14 : decode cX8_letsNow 14 = .ok (.aload_n 0, 1) := by decide +kernel
theorem dX8_letsNow_15 : decode cX8_letsNow 15 = .ok (.getfield 24, 3) := by decide +kernel
theorem dX8_letsNow_18 : decode cX8_letsNow 18 = .ok (.iload_n 1, 1) := by decide +kernel
theorem dX8_letsNow_19 : decode cX8_letsNow 19 = .ok (.iaload, 1) := by decide +kernel
theorem dX8_letsNow_20 : decode cX8_letsNow 20 = .ok (.aload_n 0, 1) := by decide +kernel
theorem dX8_letsNow_21 : decode cX8_letsNow 21 = .ok (.getfield 46, 3) := by decide +kernel
theorem dX8_letsNow_24 : decode cX8_letsNow 24 = .ok (.iload_n 2, 1) := by decide +kernel
theorem dX8_letsNow_25 : decode cX8_letsNow 25 = .ok (.invokestatic 69, 3) := by decide +kernel
theorem dX8_letsNow_28 : decode cX8_letsNow 28 = .ok (.ireturn, 1) := by decide +kernel
set_option maxRecDepth 20000 in
theorem ggX8_goneInAll_X8_waits : GoodIn wsX8_goneInAll wsX8_waits := goodIn_r _ [8, 9, 10, 15, 16, 17, 18, 19, 20, 21, 22, 23, 24, 25, 26] rfl (by decide +kernel)
set_option maxRecDepth 20000 in
theorem gX8_goneInAll_X8_waits : GoodIn wsX8_goneInAll (wsV RX8 72 RX8 yX8_waits wsX8_waits) := goodIn_app (goodIn_of _ (by decide +kernel)) ggX8_goneInAll_X8_waits
set_option maxRecDepth 20000 in
theorem ggX8_goneInAll_X1_spikesGone : GoodIn wsX8_goneInAll wsX1_spikesGone := goodIn_r _ [14] rfl (by decide +kernel)
set_option maxRecDepth 20000 in
theorem gX8_goneInAll_X1_spikesGone : GoodIn wsX8_goneInAll (va_wsS RX8 63 yX1_spikesGone wsX1_spikesGone) := goodIn_app (goodIn_of _ (by decide +kernel)) ggX8_goneInAll_X1_spikesGone
theorem dX8_goneInAll_0 : decode cX8_goneInAll 0 = .ok (.iconst 0, 1) := by decide +kernel
theorem dX8_goneInAll_1 : decode cX8_goneInAll 1 = .ok (.istore_n 2, 1) := by decide +kernel
theorem dX8_goneInAll_2 : decode cX8_goneInAll 2 = .ok (.iconst 0, 1) := by decide +kernel
theorem dX8_goneInAll_3 : decode cX8_goneInAll 3 = .ok (.istore_n 3, 1) := by decide +kernel
theorem dX8_goneInAll_4 : decode cX8_goneInAll 4 = .ok (.iload_n 3, 1) := by decide +kernel
theorem dX8_goneInAll_5 : decode cX8_goneInAll 5 = .ok (.aload_n 0, 1) := by decide +kernel
theorem dX8_goneInAll_6 : decode cX8_goneInAll 6 = .ok (.getfield 36, 3) := by decide +kernel
theorem dX8_goneInAll_9 : decode cX8_goneInAll 9 = .ok (.if_icmp .ge 34, 3) := by decide +kernel
theorem dX8_goneInAll_12 : decode cX8_goneInAll 12 = .ok (.aload_n 0, 1) := by decide +kernel
theorem dX8_goneInAll_13 : decode cX8_goneInAll 13 = .ok (.iload_n 3, 1) := by decide +kernel
theorem dX8_goneInAll_14 : decode cX8_goneInAll 14 = .ok (.invokevirtual 72, 3) := by decide +kernel
theorem dX8_goneInAll_17 : decode cX8_goneInAll 17 = .ok (.ifCond .ne 20, 3) := by decide +kernel
theorem dX8_goneInAll_20 : decode cX8_goneInAll 20 = .ok (.iload_n 2, 1) := by decide +kernel
theorem dX8_goneInAll_21 : decode cX8_goneInAll 21 = .ok (.aload_n 0, 1) := by decide +kernel
theorem dX8_goneInAll_22 : decode cX8_goneInAll 22 = .ok (.getfield 15, 3) := by decide +kernel
theorem dX8_goneInAll_25 : decode cX8_goneInAll 25 = .ok (.iload_n 3, 1) := by decide +kernel
theorem dX8_goneInAll_26 : decode cX8_goneInAll 26 = .ok (.iaload, 1) := by decide +kernel
theorem dX8_goneInAll_27 : decode cX8_goneInAll 27 = .ok (.aload_n 0, 1) := by decide +kernel
theorem dX8_goneInAll_28 : decode cX8_goneInAll 28 = .ok (.getfield 46, 3) := by decide +kernel
theorem dX8_goneInAll_31 : decode cX8_goneInAll 31 = .ok (.iload_n 1, 1) := by decide +kernel
theorem dX8_goneInAll_32 : decode cX8_goneInAll 32 = .ok (.invokestatic 63, 3) := by decide +kernel
theorem dX8_goneInAll_35 : decode cX8_goneInAll 35 = .ok (.iadd, 1) := by decide +kernel
theorem dX8_goneInAll_36 : decode cX8_goneInAll 36 = .ok (.istore_n 2, 1) := by decide +kernel
theorem dX8_goneInAll_37 : decode cX8_goneInAll 37 = .ok (.iinc 3 1, 3) := by decide +kernel
theorem dX8_goneInAll_40 : decode cX8_goneInAll 40 = .ok (.goto (-36), 3) := by decide +kernel
theorem dX8_goneInAll_43 : decode cX8_goneInAll 43 = .ok (.iload_n 2, 1) := by decide +kernel
theorem dX8_goneInAll_44 : decode cX8_goneInAll 44 = .ok (.ireturn, 1) := by decide +kernel
set_option maxRecDepth 20000 in
theorem ggX8_pass_X8_passHour : GoodIn wsX8_pass wsX8_passHour := goodIn_r _ [5, 6, 7, 8, 9, 10, 11, 12, 13, 14, 4, 15, 16, 17, 18, 19, 20, 21, 22, 23, 24, 25, 26, 27, 28, 29, 30, 31, 32, 33, 34, 35, 36, 37, 38, 39, 40, 41, 42, 43, 44, 45, 46, 47, 48, 49, 50, 51, 52, 53, 54, 55, 56, 57, 58, 59] rfl (by decide +kernel)
set_option maxRecDepth 20000 in
theorem gX8_pass_X8_passHour : GoodIn wsX8_pass (wsV RX8 76 RX8 yX8_passHour wsX8_passHour) := goodIn_app (goodIn_of _ (by decide +kernel)) ggX8_pass_X8_passHour
theorem dX8_pass_0 : decode cX8_pass 0 = .ok (.iconst 0, 1) := by decide +kernel
theorem dX8_pass_1 : decode cX8_pass 1 = .ok (.istore_n 2, 1) := by decide +kernel
theorem dX8_pass_2 : decode cX8_pass 2 = .ok (.iload_n 2, 1) := by decide +kernel
theorem dX8_pass_3 : decode cX8_pass 3 = .ok (.iload_n 1, 1) := by decide +kernel
theorem dX8_pass_4 : decode cX8_pass 4 = .ok (.if_icmp .ge 13, 3) := by decide +kernel
theorem dX8_pass_7 : decode cX8_pass 7 = .ok (.aload_n 0, 1) := by decide +kernel
theorem dX8_pass_8 : decode cX8_pass 8 = .ok (.invokevirtual 76, 3) := by decide +kernel
theorem dX8_pass_11 : decode cX8_pass 11 = .ok (.iinc 2 1, 3) := by decide +kernel
theorem dX8_pass_14 : decode cX8_pass 14 = .ok (.goto (-12), 3) := by decide +kernel
theorem dX8_pass_17 : decode cX8_pass 17 = .ok (.return_, 1) := by decide +kernel
set_option maxRecDepth 20000 in
theorem ggX8_passHour_X8_shutBit : GoodIn wsX8_passHour wsX8_shutBit := goodIn_r _ [11, 12, 44, 45, 46, 47, 48, 49, 50, 51, 52, 53, 54, 55] rfl (by decide +kernel)
set_option maxRecDepth 20000 in
theorem gX8_passHour_X8_shutBit : GoodIn wsX8_passHour (wsV RX8 79 RX8 yX8_shutBit wsX8_shutBit) := goodIn_app (goodIn_of _ (by decide +kernel)) ggX8_passHour_X8_shutBit
set_option maxRecDepth 20000 in
theorem ggX8_passHour_X8_letsNow : GoodIn wsX8_passHour wsX8_letsNow := goodIn_r _ [16, 17, 6, 18, 19, 20, 10, 21, 3, 5, 22, 23, 24, 25, 26, 44, 45, 46, 47, 48, 49, 50, 51, 52, 53, 54, 55] rfl (by decide +kernel)
set_option maxRecDepth 20000 in
theorem gX8_passHour_X8_letsNow : GoodIn wsX8_passHour (wsV RX8 82 RX8 yX8_letsNow wsX8_letsNow) := goodIn_app (goodIn_of _ (by decide +kernel)) ggX8_passHour_X8_letsNow
set_option maxRecDepth 20000 in
theorem ggX8_passHour_X8_goesNow : GoodIn wsX8_passHour wsX8_goesNow := goodIn_r _ [30, 31, 6, 32, 33, 34, 25, 35, 44, 45, 46, 47, 48, 49, 50, 51, 52, 53, 54, 55] rfl (by decide +kernel)
set_option maxRecDepth 20000 in
theorem gX8_passHour_X8_goesNow : GoodIn wsX8_passHour (wsV RX8 85 RX8 yX8_goesNow wsX8_goesNow) := goodIn_app (goodIn_of _ (by decide +kernel)) ggX8_passHour_X8_goesNow
set_option maxRecDepth 20000 in
theorem ggX8_passHour_X8_walk : GoodIn wsX8_passHour wsX8_walk := goodIn_r _ [39, 5, 40, 41, 42, 10, 43, 4, 44, 45, 46, 47, 48, 49, 50, 51, 52, 53, 54, 55] rfl (by decide +kernel)
set_option maxRecDepth 20000 in
theorem gX8_passHour_X8_walk : GoodIn wsX8_passHour (wsV RX8 88 RX8 yX8_walk wsX8_walk) := goodIn_app (goodIn_of _ (by decide +kernel)) ggX8_passHour_X8_walk
theorem dX8_passHour_0 : decode cX8_passHour 0 = .ok (.iconst 0, 1) := by decide +kernel
theorem dX8_passHour_1 : decode cX8_passHour 1 = .ok (.istore_n 1, 1) := by decide +kernel
theorem dX8_passHour_2 : decode cX8_passHour 2 = .ok (.iload_n 1, 1) := by decide +kernel
theorem dX8_passHour_3 : decode cX8_passHour 3 = .ok (.aload_n 0, 1) := by decide +kernel
theorem dX8_passHour_4 : decode cX8_passHour 4 = .ok (.getfield 40, 3) := by decide +kernel
theorem dX8_passHour_7 : decode cX8_passHour 7 = .ok (.if_icmp .ge 33, 3) := by decide +kernel
theorem dX8_passHour_10 : decode cX8_passHour 10 = .ok (.aload_n 0, 1) := by decide +kernel
theorem dX8_passHour_11 : decode cX8_passHour 11 = .ok (.getfield 33, 3) := by decide +kernel
theorem dX8_passHour_14 : decode cX8_passHour 14 = .ok (.iload_n 1, 1) := by decide +kernel
theorem dX8_passHour_15 : decode cX8_passHour 15 = .ok (.aload_n 0, 1) := by decide +kernel
theorem dX8_passHour_16 : decode cX8_passHour 16 = .ok (.iload_n 1, 1) := by decide +kernel
theorem dX8_passHour_17 : decode cX8_passHour 17 = .ok (.invokevirtual 79, 3) := by decide +kernel
theorem dX8_passHour_20 : decode cX8_passHour 20 = .ok (.iconst 1, 1) := by decide +kernel
theorem dX8_passHour_21 : decode cX8_passHour 21 = .ok (.if_icmp .ne 7, 3) := by decide +kernel
theorem dX8_passHour_24 : decode cX8_passHour 24 = .ok (.iconst 0, 1) := by decide +kernel
theorem dX8_passHour_25 : decode cX8_passHour 25 = .ok (.goto 8, 3) := by decide +kernel
theorem dX8_passHour_28 : decode cX8_passHour 28 = .ok (.aload_n 0, 1) := by decide +kernel
theorem dX8_passHour_29 : decode cX8_passHour 29 = .ok (.iload_n 1, 1) := by decide +kernel
theorem dX8_passHour_30 : decode cX8_passHour 30 = .ok (.invokevirtual 82, 3) := by decide +kernel
theorem dX8_passHour_33 : decode cX8_passHour 33 = .ok (.iastore, 1) := by decide +kernel
theorem dX8_passHour_34 : decode cX8_passHour 34 = .ok (.iinc 1 1, 3) := by decide +kernel
theorem dX8_passHour_37 : decode cX8_passHour 37 = .ok (.goto (-35), 3) := by decide +kernel
theorem dX8_passHour_40 : decode cX8_passHour 40 = .ok (.iconst 0, 1) := by decide +kernel
theorem dX8_passHour_41 : decode cX8_passHour 41 = .ok (.istore_n 1, 1) := by decide +kernel
theorem dX8_passHour_42 : decode cX8_passHour 42 = .ok (.iload_n 1, 1) := by decide +kernel
theorem dX8_passHour_43 : decode cX8_passHour 43 = .ok (.aload_n 0, 1) := by decide +kernel
theorem dX8_passHour_44 : decode cX8_passHour 44 = .ok (.getfield 36, 3) := by decide +kernel
theorem dX8_passHour_47 : decode cX8_passHour 47 = .ok (.if_icmp .ge 70, 3) := by decide +kernel
theorem dX8_passHour_50 : decode cX8_passHour 50 = .ok (.aload_n 0, 1) := by decide +kernel
theorem dX8_passHour_51 : decode cX8_passHour 51 = .ok (.getfield 30, 3) := by decide +kernel
theorem dX8_passHour_54 : decode cX8_passHour 54 = .ok (.aload_n 0, 1) := by decide +kernel
theorem dX8_passHour_55 : decode cX8_passHour 55 = .ok (.getfield 21, 3) := by decide +kernel
theorem dX8_passHour_58 : decode cX8_passHour 58 = .ok (.iload_n 1, 1) := by decide +kernel
theorem dX8_passHour_59 : decode cX8_passHour 59 = .ok (.iaload, 1) := by decide +kernel
theorem dX8_passHour_60 : decode cX8_passHour 60 = .ok (.iaload, 1) := by decide +kernel
theorem dX8_passHour_61 : decode cX8_passHour 61 = .ok (.iconst 1, 1) := by decide +kernel
theorem dX8_passHour_62 : decode cX8_passHour 62 = .ok (.isub, 1) := by decide +kernel
theorem dX8_passHour_63 : decode cX8_passHour 63 = .ok (.istore_n 2, 1) := by decide +kernel
theorem dX8_passHour_64 : decode cX8_passHour 64 = .ok (.iload_n 2, 1) := by decide +kernel
theorem dX8_passHour_65 : decode cX8_passHour 65 = .ok (.iconst (-1), 1) := by decide +kernel
theorem dX8_passHour_66 : decode cX8_passHour 66 = .ok (.if_icmp .ne 16, 3) := by decide +kernel
theorem dX8_passHour_69 : decode cX8_passHour 69 = .ok (.aload_n 0, 1) := by decide +kernel
theorem dX8_passHour_70 : decode cX8_passHour 70 = .ok (.iload_n 1, 1) := by decide +kernel
theorem dX8_passHour_71 : decode cX8_passHour 71 = .ok (.aload_n 0, 1) := by decide +kernel
theorem dX8_passHour_72 : decode cX8_passHour 72 = .ok (.iload_n 1, 1) := by decide +kernel
theorem dX8_passHour_73 : decode cX8_passHour 73 = .ok (.invokevirtual 85, 3) := by decide +kernel
theorem dX8_passHour_76 : decode cX8_passHour 76 = .ok (.invokevirtual 88, 3) := by decide +kernel
theorem dX8_passHour_79 : decode cX8_passHour 79 = .ok (.goto 32, 3) := by decide +kernel
theorem dX8_passHour_82 : decode cX8_passHour 82 = .ok (.aload_n 0, 1) := by decide +kernel
theorem dX8_passHour_83 : decode cX8_passHour 83 = .ok (.getfield 33, 3) := by decide +kernel
theorem dX8_passHour_86 : decode cX8_passHour 86 = .ok (.iload_n 2, 1) := by decide +kernel
theorem dX8_passHour_87 : decode cX8_passHour 87 = .ok (.iaload, 1) := by decide +kernel
theorem dX8_passHour_88 : decode cX8_passHour 88 = .ok (.ifCond .le 23, 3) := by decide +kernel
theorem dX8_passHour_91 : decode cX8_passHour 91 = .ok (.aload_n 0, 1) := by decide +kernel
theorem dX8_passHour_92 : decode cX8_passHour 92 = .ok (.getfield 33, 3) := by decide +kernel
theorem dX8_passHour_95 : decode cX8_passHour 95 = .ok (.iload_n 2, 1) := by decide +kernel
theorem dX8_passHour_96 : decode cX8_passHour 96 = .ok (.dup2, 1) := by decide +kernel
theorem dX8_passHour_97 : decode cX8_passHour 97 = .ok (.iaload, 1) := by decide +kernel
theorem dX8_passHour_98 : decode cX8_passHour 98 = .ok (.iconst 1, 1) := by decide +kernel
theorem dX8_passHour_99 : decode cX8_passHour 99 = .ok (.isub, 1) := by decide +kernel
theorem dX8_passHour_100 : decode cX8_passHour 100 = .ok (.iastore, 1) := by decide +kernel
theorem dX8_passHour_101 : decode cX8_passHour 101 = .ok (.aload_n 0, 1) := by decide +kernel
theorem dX8_passHour_102 : decode cX8_passHour 102 = .ok (.getfield 21, 3) := by decide +kernel
theorem dX8_passHour_105 : decode cX8_passHour 105 = .ok (.iload_n 1, 1) := by decide +kernel
theorem dX8_passHour_106 : decode cX8_passHour 106 = .ok (.dup2, 1) := by decide +kernel
theorem dX8_passHour_107 : decode cX8_passHour 107 = .ok (.iaload, 1) := by decide +kernel
theorem dX8_passHour_108 : decode cX8_passHour 108 = .ok (.iconst 1, 1) := by decide +kernel
theorem dX8_passHour_109 : decode cX8_passHour 109 = .ok (.iadd, 1) := by decide +kernel
theorem dX8_passHour_110 : decode cX8_passHour 110 = .ok (.iastore, 1) := by decide +kernel
theorem dX8_passHour_111 : decode cX8_passHour 111 = .ok (.iinc 1 1, 3) := by decide +kernel
theorem dX8_passHour_114 : decode cX8_passHour 114 = .ok (.goto (-72), 3) := by decide +kernel
theorem dX8_passHour_117 : decode cX8_passHour 117 = .ok (.aload_n 0, 1) := by decide +kernel
theorem dX8_passHour_118 : decode cX8_passHour 118 = .ok (.dup, 1) := by decide +kernel
theorem dX8_passHour_119 : decode cX8_passHour 119 = .ok (.getfield 46, 3) := by decide +kernel
theorem dX8_passHour_122 : decode cX8_passHour 122 = .ok (.iconst 1, 1) := by decide +kernel
theorem dX8_passHour_123 : decode cX8_passHour 123 = .ok (.iadd, 1) := by decide +kernel
theorem dX8_passHour_124 : decode cX8_passHour 124 = .ok (.putfield 46, 3) := by decide +kernel
theorem dX8_passHour_127 : decode cX8_passHour 127 = .ok (.return_, 1) := by decide +kernel
set_option maxRecDepth 20000 in
theorem ggX8_walk_X8_waits : GoodIn wsX8_walk wsX8_waits := goodIn_r _ [6, 7, 1, 8, 9, 10, 11, 12, 13, 14, 15, 16, 17, 18, 19] rfl (by decide +kernel)
set_option maxRecDepth 20000 in
theorem gX8_walk_X8_waits : GoodIn wsX8_walk (wsV RX8 72 RX8 yX8_waits wsX8_waits) := goodIn_app (goodIn_of _ (by decide +kernel)) ggX8_walk_X8_waits
theorem dX8_walk_0 : decode cX8_walk 0 = .ok (.iconst 0, 1) := by decide +kernel
theorem dX8_walk_1 : decode cX8_walk 1 = .ok (.istore_n 3, 1) := by decide +kernel
theorem dX8_walk_2 : decode cX8_walk 2 = .ok (.iload_n 3, 1) := by decide +kernel
theorem dX8_walk_3 : decode cX8_walk 3 = .ok (.iload_n 2, 1) := by decide +kernel
theorem dX8_walk_4 : decode cX8_walk 4 = .ok (.if_icmp .ge 38, 3) := by decide +kernel
theorem dX8_walk_7 : decode cX8_walk 7 = .ok (.aload_n 0, 1) := by decide +kernel
theorem dX8_walk_8 : decode cX8_walk 8 = .ok (.getfield 21, 3) := by decide +kernel
theorem dX8_walk_11 : decode cX8_walk 11 = .ok (.iload_n 1, 1) := by decide +kernel
theorem dX8_walk_12 : decode cX8_walk 12 = .ok (.iaload, 1) := by decide +kernel
theorem dX8_walk_13 : decode cX8_walk 13 = .ok (.bipush 23, 2) := by decide +kernel
theorem dX8_walk_15 : decode cX8_walk 15 = .ok (.if_icmp .ge 27, 3) := by decide +kernel
theorem dX8_walk_18 : decode cX8_walk 18 = .ok (.aload_n 0, 1) := by decide +kernel
theorem dX8_walk_19 : decode cX8_walk 19 = .ok (.iload_n 1, 1) := by decide +kernel
theorem dX8_walk_20 : decode cX8_walk 20 = .ok (.invokevirtual 72, 3) := by decide +kernel
theorem dX8_walk_23 : decode cX8_walk 23 = .ok (.ifCond .ne 19, 3) := by decide +kernel
theorem dX8_walk_26 : decode cX8_walk 26 = .ok (.aload_n 0, 1) := by decide +kernel
theorem dX8_walk_27 : decode cX8_walk 27 = .ok (.getfield 21, 3) := by decide +kernel
theorem dX8_walk_30 : decode cX8_walk 30 = .ok (.iload_n 1, 1) := by decide +kernel
theorem dX8_walk_31 : decode cX8_walk 31 = .ok (.dup2, 1) := by decide +kernel
theorem dX8_walk_32 : decode cX8_walk 32 = .ok (.iaload, 1) := by decide +kernel
theorem dX8_walk_33 : decode cX8_walk 33 = .ok (.iconst 1, 1) := by decide +kernel
theorem dX8_walk_34 : decode cX8_walk 34 = .ok (.iadd, 1) := by decide +kernel
theorem dX8_walk_35 : decode cX8_walk 35 = .ok (.iastore, 1) := by decide +kernel
theorem dX8_walk_36 : decode cX8_walk 36 = .ok (.iinc 3 1, 3) := by decide +kernel
theorem dX8_walk_39 : decode cX8_walk 39 = .ok (.goto (-37), 3) := by decide +kernel
theorem dX8_walk_42 : decode cX8_walk 42 = .ok (.return_, 1) := by decide +kernel
set_option maxRecDepth 20000 in
theorem ggX8_folded_X8_shutBit : GoodIn wsX8_folded wsX8_shutBit := goodIn_r _ [14, 15, 16, 17, 18, 19, 20, 21, 22, 23, 24, 25, 26, 27] rfl (by decide +kernel)
set_option maxRecDepth 20000 in
theorem gX8_folded_X8_shutBit : GoodIn wsX8_folded (wsV RX8 79 RX8 yX8_shutBit wsX8_shutBit) := goodIn_app (goodIn_of _ (by decide +kernel)) ggX8_folded_X8_shutBit
theorem dX8_folded_0 : decode cX8_folded 0 = .ok (.lload_n 1, 1) := by decide +kernel
theorem dX8_folded_1 : decode cX8_folded 1 = .ok (.lstore_n 3, 1) := by decide +kernel
theorem dX8_folded_2 : decode cX8_folded 2 = .ok (.iconst 0, 1) := by decide +kernel
theorem dX8_folded_3 : decode cX8_folded 3 = .ok (.istore 5, 2) := by decide +kernel
theorem dX8_folded_5 : decode cX8_folded 5 = .ok (.iload 5, 2) := by decide +kernel
theorem dX8_folded_7 : decode cX8_folded 7 = .ok (.bipush 6, 2) := by decide +kernel
theorem dX8_folded_9 : decode cX8_folded 9 = .ok (.if_icmp .ge 24, 3) := by decide +kernel
theorem dX8_folded_12 : decode cX8_folded 12 = .ok (.ldc2_w 92, 3) := by decide +kernel
theorem dX8_folded_15 : decode cX8_folded 15 = .ok (.lload_n 3, 1) := by decide +kernel
theorem dX8_folded_16 : decode cX8_folded 16 = .ok (.lmul, 1) := by decide +kernel
theorem dX8_folded_17 : decode cX8_folded 17 = .ok (.aload_n 0, 1) := by decide +kernel
theorem dX8_folded_18 : decode cX8_folded 18 = .ok (.getfield 11, 3) := by decide +kernel
theorem dX8_folded_21 : decode cX8_folded 21 = .ok (.iload 5, 2) := by decide +kernel
theorem dX8_folded_23 : decode cX8_folded 23 = .ok (.iaload, 1) := by decide +kernel
theorem dX8_folded_24 : decode cX8_folded 24 = .ok (.i2l, 1) := by decide +kernel
theorem dX8_folded_25 : decode cX8_folded 25 = .ok (.ladd, 1) := by decide +kernel
theorem dX8_folded_26 : decode cX8_folded 26 = .ok (.lstore_n 3, 1) := by decide +kernel
theorem dX8_folded_27 : decode cX8_folded 27 = .ok (.iinc 5 1, 3) := by decide +kernel
theorem dX8_folded_30 : decode cX8_folded 30 = .ok (.goto (-25), 3) := by decide +kernel
theorem dX8_folded_33 : decode cX8_folded 33 = .ok (.iconst 0, 1) := by decide +kernel
theorem dX8_folded_34 : decode cX8_folded 34 = .ok (.istore 5, 2) := by decide +kernel
theorem dX8_folded_36 : decode cX8_folded 36 = .ok (.iload 5, 2) := by decide +kernel
theorem dX8_folded_38 : decode cX8_folded 38 = .ok (.aload_n 0, 1) := by decide +kernel
theorem dX8_folded_39 : decode cX8_folded 39 = .ok (.getfield 36, 3) := by decide +kernel
theorem dX8_folded_42 : decode cX8_folded 42 = .ok (.if_icmp .ge 54, 3) := by decide +kernel
theorem dX8_folded_45 : decode cX8_folded 45 = .ok (.ldc2_w 92, 3) := by decide +kernel
theorem dX8_folded_48 : decode cX8_folded 48 = .ok (.lload_n 3, 1) := by decide +kernel
theorem dX8_folded_49 : decode cX8_folded 49 = .ok (.lmul, 1) := by decide +kernel
theorem dX8_folded_50 : decode cX8_folded 50 = .ok (.aload_n 0, 1) := by decide +kernel
theorem dX8_folded_51 : decode cX8_folded 51 = .ok (.getfield 15, 3) := by decide +kernel
theorem dX8_folded_54 : decode cX8_folded 54 = .ok (.iload 5, 2) := by decide +kernel
theorem dX8_folded_56 : decode cX8_folded 56 = .ok (.iaload, 1) := by decide +kernel
theorem dX8_folded_57 : decode cX8_folded 57 = .ok (.i2l, 1) := by decide +kernel
theorem dX8_folded_58 : decode cX8_folded 58 = .ok (.ladd, 1) := by decide +kernel
theorem dX8_folded_59 : decode cX8_folded 59 = .ok (.lstore_n 3, 1) := by decide +kernel
theorem dX8_folded_60 : decode cX8_folded 60 = .ok (.ldc2_w 92, 3) := by decide +kernel
theorem dX8_folded_63 : decode cX8_folded 63 = .ok (.lload_n 3, 1) := by decide +kernel
theorem dX8_folded_64 : decode cX8_folded 64 = .ok (.lmul, 1) := by decide +kernel
theorem dX8_folded_65 : decode cX8_folded 65 = .ok (.aload_n 0, 1) := by decide +kernel
theorem dX8_folded_66 : decode cX8_folded 66 = .ok (.getfield 18, 3) := by decide +kernel
theorem dX8_folded_69 : decode cX8_folded 69 = .ok (.iload 5, 2) := by decide +kernel
theorem dX8_folded_71 : decode cX8_folded 71 = .ok (.iaload, 1) := by decide +kernel
theorem dX8_folded_72 : decode cX8_folded 72 = .ok (.i2l, 1) := by decide +kernel
theorem dX8_folded_73 : decode cX8_folded 73 = .ok (.ladd, 1) := by decide +kernel
theorem dX8_folded_74 : decode cX8_folded 74 = .ok (.lstore_n 3, 1) := by decide +kernel
theorem dX8_folded_75 : decode cX8_folded 75 = .ok (.ldc2_w 92, 3) := by decide +kernel
theorem dX8_folded_78 : decode cX8_folded 78 = .ok (.lload_n 3, 1) := by decide +kernel
theorem dX8_folded_79 : decode cX8_folded 79 = .ok (.lmul, 1) := by decide +kernel
theorem dX8_folded_80 : decode cX8_folded 80 = .ok (.aload_n 0, 1) := by decide +kernel
theorem dX8_folded_81 : decode cX8_folded 81 = .ok (.getfield 21, 3) := by decide +kernel
theorem dX8_folded_84 : decode cX8_folded 84 = .ok (.iload 5, 2) := by decide +kernel
theorem dX8_folded_86 : decode cX8_folded 86 = .ok (.iaload, 1) := by decide +kernel
theorem dX8_folded_87 : decode cX8_folded 87 = .ok (.i2l, 1) := by decide +kernel
theorem dX8_folded_88 : decode cX8_folded 88 = .ok (.ladd, 1) := by decide +kernel
theorem dX8_folded_89 : decode cX8_folded 89 = .ok (.lstore_n 3, 1) := by decide +kernel
theorem dX8_folded_90 : decode cX8_folded 90 = .ok (.iinc 5 1, 3) := by decide +kernel
theorem dX8_folded_93 : decode cX8_folded 93 = .ok (.goto (-57), 3) := by decide +kernel
theorem dX8_folded_96 : decode cX8_folded 96 = .ok (.iconst 0, 1) := by decide +kernel
theorem dX8_folded_97 : decode cX8_folded 97 = .ok (.istore 5, 2) := by decide +kernel
theorem dX8_folded_99 : decode cX8_folded 99 = .ok (.iload 5, 2) := by decide +kernel
theorem dX8_folded_101 : decode cX8_folded 101 = .ok (.aload_n 0, 1) := by decide +kernel
theorem dX8_folded_102 : decode cX8_folded 102 = .ok (.getfield 40, 3) := by decide +kernel
theorem dX8_folded_105 : decode cX8_folded 105 = .ok (.if_icmp .ge 53, 3) := by decide +kernel
theorem dX8_folded_108 : decode cX8_folded 108 = .ok (.ldc2_w 92, 3) := by decide +kernel
theorem dX8_folded_111 : decode cX8_folded 111 = .ok (.lload_n 3, 1) := by decide +kernel
theorem dX8_folded_112 : decode cX8_folded 112 = .ok (.lmul, 1) := by decide +kernel
theorem dX8_folded_113 : decode cX8_folded 113 = .ok (.aload_n 0, 1) := by decide +kernel
theorem dX8_folded_114 : decode cX8_folded 114 = .ok (.getfield 24, 3) := by decide +kernel
theorem dX8_folded_117 : decode cX8_folded 117 = .ok (.iload 5, 2) := by decide +kernel
theorem dX8_folded_119 : decode cX8_folded 119 = .ok (.iaload, 1) := by decide +kernel
theorem dX8_folded_120 : decode cX8_folded 120 = .ok (.i2l, 1) := by decide +kernel
theorem dX8_folded_121 : decode cX8_folded 121 = .ok (.ladd, 1) := by decide +kernel
theorem dX8_folded_122 : decode cX8_folded 122 = .ok (.lstore_n 3, 1) := by decide +kernel
theorem dX8_folded_123 : decode cX8_folded 123 = .ok (.ldc2_w 92, 3) := by decide +kernel
theorem dX8_folded_126 : decode cX8_folded 126 = .ok (.lload_n 3, 1) := by decide +kernel
theorem dX8_folded_127 : decode cX8_folded 127 = .ok (.lmul, 1) := by decide +kernel
theorem dX8_folded_128 : decode cX8_folded 128 = .ok (.aload_n 0, 1) := by decide +kernel
theorem dX8_folded_129 : decode cX8_folded 129 = .ok (.getfield 27, 3) := by decide +kernel
theorem dX8_folded_132 : decode cX8_folded 132 = .ok (.iload 5, 2) := by decide +kernel
theorem dX8_folded_134 : decode cX8_folded 134 = .ok (.iaload, 1) := by decide +kernel
theorem dX8_folded_135 : decode cX8_folded 135 = .ok (.i2l, 1) := by decide +kernel
theorem dX8_folded_136 : decode cX8_folded 136 = .ok (.ladd, 1) := by decide +kernel
theorem dX8_folded_137 : decode cX8_folded 137 = .ok (.lstore_n 3, 1) := by decide +kernel
theorem dX8_folded_138 : decode cX8_folded 138 = .ok (.ldc2_w 92, 3) := by decide +kernel
theorem dX8_folded_141 : decode cX8_folded 141 = .ok (.lload_n 3, 1) := by decide +kernel
theorem dX8_folded_142 : decode cX8_folded 142 = .ok (.lmul, 1) := by decide +kernel
theorem dX8_folded_143 : decode cX8_folded 143 = .ok (.aload_n 0, 1) := by decide +kernel
theorem dX8_folded_144 : decode cX8_folded 144 = .ok (.iload 5, 2) := by decide +kernel
theorem dX8_folded_146 : decode cX8_folded 146 = .ok (.invokevirtual 79, 3) := by decide +kernel
theorem dX8_folded_149 : decode cX8_folded 149 = .ok (.i2l, 1) := by decide +kernel
theorem dX8_folded_150 : decode cX8_folded 150 = .ok (.ladd, 1) := by decide +kernel
theorem dX8_folded_151 : decode cX8_folded 151 = .ok (.lstore_n 3, 1) := by decide +kernel
theorem dX8_folded_152 : decode cX8_folded 152 = .ok (.iinc 5 1, 3) := by decide +kernel
theorem dX8_folded_155 : decode cX8_folded 155 = .ok (.goto (-56), 3) := by decide +kernel
theorem dX8_folded_158 : decode cX8_folded 158 = .ok (.lload_n 3, 1) := by decide +kernel
theorem dX8_folded_159 : decode cX8_folded 159 = .ok (.lreturn, 1) := by decide +kernel
theorem dX9_init_0 : decode cX9_init 0 = .ok (.aload_n 0, 1) := by decide +kernel
theorem dX9_init_1 : decode cX9_init 1 = .ok (.invokespecial 3, 3) := by decide +kernel
theorem dX9_init_4 : decode cX9_init 4 = .ok (.aload_n 0, 1) := by decide +kernel
theorem dX9_init_5 : decode cX9_init 5 = .ok (.sipush 150, 3) := by decide +kernel
theorem dX9_init_8 : decode cX9_init 8 = .ok (.newarray .int, 2) := by decide +kernel
theorem dX9_init_10 : decode cX9_init 10 = .ok (.putfield 11, 3) := by decide +kernel
theorem dX9_init_13 : decode cX9_init 13 = .ok (.return_, 1) := by decide +kernel
theorem dX9_append_0 : decode cX9_append 0 = .ok (.aload_n 0, 1) := by decide +kernel
theorem dX9_append_1 : decode cX9_append 1 = .ok (.getfield 15, 3) := by decide +kernel
theorem dX9_append_4 : decode cX9_append 4 = .ok (.sipush 150, 3) := by decide +kernel
theorem dX9_append_7 : decode cX9_append 7 = .ok (.if_icmp .ge 23, 3) := by decide +kernel
theorem dX9_append_10 : decode cX9_append 10 = .ok (.aload_n 0, 1) := by decide +kernel
theorem dX9_append_11 : decode cX9_append 11 = .ok (.getfield 11, 3) := by decide +kernel
theorem dX9_append_14 : decode cX9_append 14 = .ok (.aload_n 0, 1) := by decide +kernel
theorem dX9_append_15 : decode cX9_append 15 = .ok (.getfield 15, 3) := by decide +kernel
theorem dX9_append_18 : decode cX9_append 18 = .ok (.iload_n 1, 1) := by decide +kernel
theorem dX9_append_19 : decode cX9_append 19 = .ok (.iastore, 1) := by decide +kernel
theorem dX9_append_20 : decode cX9_append 20 = .ok (.aload_n 0, 1) := by decide +kernel
theorem dX9_append_21 : decode cX9_append 21 = .ok (.dup, 1) := by decide +kernel
theorem dX9_append_22 : decode cX9_append 22 = .ok (.getfield 15, 3) := by decide +kernel
theorem dX9_append_25 : decode cX9_append 25 = .ok (.iconst 1, 1) := by decide +kernel
theorem dX9_append_26 : decode cX9_append 26 = .ok (.iadd, 1) := by decide +kernel
theorem dX9_append_27 : decode cX9_append 27 = .ok (.putfield 15, 3) := by decide +kernel
theorem dX9_append_30 : decode cX9_append 30 = .ok (.return_, 1) := by decide +kernel
set_option maxRecDepth 20000 in
theorem ggX9_begin_X9_advance : GoodIn wsX9_begin wsX9_advance := goodIn_r _ [6, 1, 7, 8, 9, 10, 11, 12, 13, 5, 14, 15, 16, 17, 18, 19, 20] rfl (by decide +kernel)
set_option maxRecDepth 20000 in
theorem gX9_begin_X9_advance : GoodIn wsX9_begin (wsV RX9 22 RX9 yX9_advance wsX9_advance) := goodIn_app (goodIn_of _ (by decide +kernel)) ggX9_begin_X9_advance
theorem dX9_begin_0 : decode cX9_begin 0 = .ok (.aload_n 0, 1) := by decide +kernel
theorem dX9_begin_1 : decode cX9_begin 1 = .ok (.iconst 0, 1) := by decide +kernel
theorem dX9_begin_2 : decode cX9_begin 2 = .ok (.putfield 19, 3) := by decide +kernel
theorem dX9_begin_5 : decode cX9_begin 5 = .ok (.aload_n 0, 1) := by decide +kernel
theorem dX9_begin_6 : decode cX9_begin 6 = .ok (.invokevirtual 22, 3) := by decide +kernel
theorem dX9_begin_9 : decode cX9_begin 9 = .ok (.return_, 1) := by decide +kernel
set_option maxRecDepth 20000 in
theorem ggX9_advance_X9_kindOf : GoodIn wsX9_advance wsX9_kindOf := goodIn_r _ [10] rfl (by decide +kernel)
set_option maxRecDepth 20000 in
theorem gX9_advance_X9_kindOf : GoodIn wsX9_advance (va_wsS RX9 31 yX9_kindOf wsX9_kindOf) := goodIn_app (goodIn_of _ (by decide +kernel)) ggX9_advance_X9_kindOf
theorem dX9_advance_0 : decode cX9_advance 0 = .ok (.aload_n 0, 1) := by decide +kernel
theorem dX9_advance_1 : decode cX9_advance 1 = .ok (.aload_n 0, 1) := by decide +kernel
theorem dX9_advance_2 : decode cX9_advance 2 = .ok (.getfield 19, 3) := by decide +kernel
theorem dX9_advance_5 : decode cX9_advance 5 = .ok (.putfield 25, 3) := by decide +kernel
theorem dX9_advance_8 : decode cX9_advance 8 = .ok (.aload_n 0, 1) := by decide +kernel
theorem dX9_advance_9 : decode cX9_advance 9 = .ok (.getfield 25, 3) := by decide +kernel
theorem dX9_advance_12 : decode cX9_advance 12 = .ok (.aload_n 0, 1) := by decide +kernel
theorem dX9_advance_13 : decode cX9_advance 13 = .ok (.getfield 15, 3) := by decide +kernel
theorem dX9_advance_16 : decode cX9_advance 16 = .ok (.if_icmp .ge 30, 3) := by decide +kernel
theorem dX9_advance_19 : decode cX9_advance 19 = .ok (.aload_n 0, 1) := by decide +kernel
theorem dX9_advance_20 : decode cX9_advance 20 = .ok (.getfield 11, 3) := by decide +kernel
theorem dX9_advance_23 : decode cX9_advance 23 = .ok (.aload_n 0, 1) := by decide +kernel
theorem dX9_advance_24 : decode cX9_advance 24 = .ok (.getfield 25, 3) := by decide +kernel
theorem dX9_advance_27 : decode cX9_advance 27 = .ok (.iaload, 1) := by decide +kernel
theorem dX9_advance_28 : decode cX9_advance 28 = .ok (.bipush 32, 2) := by decide +kernel
theorem dX9_advance_30 : decode cX9_advance 30 = .ok (.if_icmp .ne 16, 3) := by decide +kernel
theorem dX9_advance_33 : decode cX9_advance 33 = .ok (.aload_n 0, 1) := by decide +kernel
theorem dX9_advance_34 : decode cX9_advance 34 = .ok (.dup, 1) := by decide +kernel
theorem dX9_advance_35 : decode cX9_advance 35 = .ok (.getfield 25, 3) := by decide +kernel
theorem dX9_advance_38 : decode cX9_advance 38 = .ok (.iconst 1, 1) := by decide +kernel
theorem dX9_advance_39 : decode cX9_advance 39 = .ok (.iadd, 1) := by decide +kernel
theorem dX9_advance_40 : decode cX9_advance 40 = .ok (.putfield 25, 3) := by decide +kernel
theorem dX9_advance_43 : decode cX9_advance 43 = .ok (.goto (-35), 3) := by decide +kernel
theorem dX9_advance_46 : decode cX9_advance 46 = .ok (.aload_n 0, 1) := by decide +kernel
theorem dX9_advance_47 : decode cX9_advance 47 = .ok (.aload_n 0, 1) := by decide +kernel
theorem dX9_advance_48 : decode cX9_advance 48 = .ok (.getfield 25, 3) := by decide +kernel
theorem dX9_advance_51 : decode cX9_advance 51 = .ok (.putfield 19, 3) := by decide +kernel
theorem dX9_advance_54 : decode cX9_advance 54 = .ok (.aload_n 0, 1) := by decide +kernel
theorem dX9_advance_55 : decode cX9_advance 55 = .ok (.iconst (-1), 1) := by decide +kernel
theorem dX9_advance_56 : decode cX9_advance 56 = .ok (.putfield 28, 3) := by decide +kernel
theorem dX9_advance_59 : decode cX9_advance 59 = .ok (.aload_n 0, 1) := by decide +kernel
theorem dX9_advance_60 : decode cX9_advance 60 = .ok (.aload_n 0, 1) := by decide +kernel
theorem dX9_advance_61 : decode cX9_advance 61 = .ok (.getfield 25, 3) := by decide +kernel
theorem dX9_advance_64 : decode cX9_advance 64 = .ok (.aload_n 0, 1) := by decide +kernel
theorem dX9_advance_65 : decode cX9_advance 65 = .ok (.getfield 15, 3) := by decide +kernel
theorem dX9_advance_68 : decode cX9_advance 68 = .ok (.if_icmp .ge 18, 3) := by decide +kernel
theorem dX9_advance_71 : decode cX9_advance 71 = .ok (.aload_n 0, 1) := by decide +kernel
theorem dX9_advance_72 : decode cX9_advance 72 = .ok (.getfield 11, 3) := by decide +kernel
theorem dX9_advance_75 : decode cX9_advance 75 = .ok (.aload_n 0, 1) := by decide +kernel
theorem dX9_advance_76 : decode cX9_advance 76 = .ok (.getfield 25, 3) := by decide +kernel
theorem dX9_advance_79 : decode cX9_advance 79 = .ok (.iaload, 1) := by decide +kernel
theorem dX9_advance_80 : decode cX9_advance 80 = .ok (.invokestatic 31, 3) := by decide +kernel
theorem dX9_advance_83 : decode cX9_advance 83 = .ok (.goto 4, 3) := by decide +kernel
theorem dX9_advance_86 : decode cX9_advance 86 = .ok (.iconst 0, 1) := by decide +kernel
theorem dX9_advance_87 : decode cX9_advance 87 = .ok (.putfield 35, 3) := by decide +kernel
theorem dX9_advance_90 : decode cX9_advance 90 = .ok (.aload_n 0, 1) := by decide +kernel
theorem dX9_advance_91 : decode cX9_advance 91 = .ok (.getfield 35, 3) := by decide +kernel
theorem dX9_advance_94 : decode cX9_advance 94 = .ok (.iconst 3, 1) := by decide +kernel
theorem dX9_advance_95 : decode cX9_advance 95 = .ok (.if_icmp .eq 11, 3) := by decide +kernel
theorem dX9_advance_98 : decode cX9_advance 98 = .ok (.aload_n 0, 1) := by decide +kernel
theorem dX9_advance_99 : decode cX9_advance 99 = .ok (.getfield 35, 3) := by decide +kernel
theorem dX9_advance_102 : decode cX9_advance 102 = .ok (.iconst 4, 1) := by decide +kernel
theorem dX9_advance_103 : decode cX9_advance 103 = .ok (.if_icmp .ne 14, 3) := by decide +kernel
theorem dX9_advance_106 : decode cX9_advance 106 = .ok (.aload_n 0, 1) := by decide +kernel
theorem dX9_advance_107 : decode cX9_advance 107 = .ok (.dup, 1) := by decide +kernel
theorem dX9_advance_108 : decode cX9_advance 108 = .ok (.getfield 19, 3) := by decide +kernel
theorem dX9_advance_111 : decode cX9_advance 111 = .ok (.iconst 1, 1) := by decide +kernel
theorem dX9_advance_112 : decode cX9_advance 112 = .ok (.iadd, 1) := by decide +kernel
theorem dX9_advance_113 : decode cX9_advance 113 = .ok (.putfield 19, 3) := by decide +kernel
theorem dX9_advance_116 : decode cX9_advance 116 = .ok (.return_, 1) := by decide +kernel
theorem dX9_advance_117 : decode cX9_advance 117 = .ok (.aload_n 0, 1) := by decide +kernel
theorem dX9_advance_118 : decode cX9_advance 118 = .ok (.getfield 19, 3) := by decide +kernel
theorem dX9_advance_121 : decode cX9_advance 121 = .ok (.aload_n 0, 1) := by decide +kernel
theorem dX9_advance_122 : decode cX9_advance 122 = .ok (.getfield 15, 3) := by decide +kernel
theorem dX9_advance_125 : decode cX9_advance 125 = .ok (.if_icmp .ge 35, 3) := by decide +kernel
theorem dX9_advance_128 : decode cX9_advance 128 = .ok (.aload_n 0, 1) := by decide +kernel
theorem dX9_advance_129 : decode cX9_advance 129 = .ok (.getfield 11, 3) := by decide +kernel
theorem dX9_advance_132 : decode cX9_advance 132 = .ok (.aload_n 0, 1) := by decide +kernel
theorem dX9_advance_133 : decode cX9_advance 133 = .ok (.getfield 19, 3) := by decide +kernel
theorem dX9_advance_136 : decode cX9_advance 136 = .ok (.iaload, 1) := by decide +kernel
theorem dX9_advance_137 : decode cX9_advance 137 = .ok (.invokestatic 31, 3) := by decide +kernel
theorem dX9_advance_140 : decode cX9_advance 140 = .ok (.aload_n 0, 1) := by decide +kernel
theorem dX9_advance_141 : decode cX9_advance 141 = .ok (.getfield 35, 3) := by decide +kernel
theorem dX9_advance_144 : decode cX9_advance 144 = .ok (.if_icmp .ne 16, 3) := by decide +kernel
theorem dX9_advance_147 : decode cX9_advance 147 = .ok (.aload_n 0, 1) := by decide +kernel
theorem dX9_advance_148 : decode cX9_advance 148 = .ok (.dup, 1) := by decide +kernel
theorem dX9_advance_149 : decode cX9_advance 149 = .ok (.getfield 19, 3) := by decide +kernel
theorem dX9_advance_152 : decode cX9_advance 152 = .ok (.iconst 1, 1) := by decide +kernel
theorem dX9_advance_153 : decode cX9_advance 153 = .ok (.iadd, 1) := by decide +kernel
theorem dX9_advance_154 : decode cX9_advance 154 = .ok (.putfield 19, 3) := by decide +kernel
theorem dX9_advance_157 : decode cX9_advance 157 = .ok (.goto (-40), 3) := by decide +kernel
theorem dX9_advance_160 : decode cX9_advance 160 = .ok (.aload_n 0, 1) := by decide +kernel
theorem dX9_advance_161 : decode cX9_advance 161 = .ok (.getfield 35, 3) := by decide +kernel
theorem dX9_advance_164 : decode cX9_advance 164 = .ok (.iconst 2, 1) := by decide +kernel
theorem dX9_advance_165 : decode cX9_advance 165 = .ok (.if_icmp .ne 69, 3) := by decide +kernel
theorem dX9_advance_168 : decode cX9_advance 168 = .ok (.aload_n 0, 1) := by decide +kernel
theorem dX9_advance_169 : decode cX9_advance 169 = .ok (.getfield 19, 3) := by decide +kernel
theorem dX9_advance_172 : decode cX9_advance 172 = .ok (.aload_n 0, 1) := by decide +kernel
theorem dX9_advance_173 : decode cX9_advance 173 = .ok (.getfield 25, 3) := by decide +kernel
theorem dX9_advance_176 : decode cX9_advance 176 = .ok (.isub, 1) := by decide +kernel
theorem dX9_advance_177 : decode cX9_advance 177 = .ok (.iconst 2, 1) := by decide +kernel
theorem dX9_advance_178 : decode cX9_advance 178 = .ok (.if_icmp .gt 56, 3) := by decide +kernel
theorem dX9_advance_181 : decode cX9_advance 181 = .ok (.aload_n 0, 1) := by decide +kernel
theorem dX9_advance_182 : decode cX9_advance 182 = .ok (.getfield 11, 3) := by decide +kernel
theorem dX9_advance_185 : decode cX9_advance 185 = .ok (.aload_n 0, 1) := by decide +kernel
theorem dX9_advance_186 : decode cX9_advance 186 = .ok (.getfield 19, 3) := by decide +kernel
theorem dX9_advance_189 : decode cX9_advance 189 = .ok (.iconst 1, 1) := by decide +kernel
theorem dX9_advance_190 : decode cX9_advance 190 = .ok (.isub, 1) := by decide +kernel
theorem dX9_advance_191 : decode cX9_advance 191 = .ok (.iaload, 1) := by decide +kernel
theorem dX9_advance_192 : decode cX9_advance 192 = .ok (.bipush 48, 2) := by decide +kernel
theorem dX9_advance_194 : decode cX9_advance 194 = .ok (.isub, 1) := by decide +kernel
theorem dX9_advance_195 : decode cX9_advance 195 = .ok (.istore_n 1, 1) := by decide +kernel
theorem dX9_advance_196 : decode cX9_advance 196 = .ok (.aload_n 0, 1) := by decide +kernel
theorem dX9_advance_197 : decode cX9_advance 197 = .ok (.aload_n 0, 1) := by decide +kernel
theorem dX9_advance_198 : decode cX9_advance 198 = .ok (.getfield 19, 3) := by decide +kernel
theorem dX9_advance_201 : decode cX9_advance 201 = .ok (.aload_n 0, 1) := by decide +kernel
theorem dX9_advance_202 : decode cX9_advance 202 = .ok (.getfield 25, 3) := by decide +kernel
theorem dX9_advance_205 : decode cX9_advance 205 = .ok (.isub, 1) := by decide +kernel
theorem dX9_advance_206 : decode cX9_advance 206 = .ok (.iconst 2, 1) := by decide +kernel
theorem dX9_advance_207 : decode cX9_advance 207 = .ok (.if_icmp .ne 23, 3) := by decide +kernel
theorem dX9_advance_210 : decode cX9_advance 210 = .ok (.bipush 10, 2) := by decide +kernel
theorem dX9_advance_212 : decode cX9_advance 212 = .ok (.aload_n 0, 1) := by decide +kernel
theorem dX9_advance_213 : decode cX9_advance 213 = .ok (.getfield 11, 3) := by decide +kernel
theorem dX9_advance_216 : decode cX9_advance 216 = .ok (.aload_n 0, 1) := by decide +kernel
theorem dX9_advance_217 : decode cX9_advance 217 = .ok (.getfield 25, 3) := by decide +kernel
theorem dX9_advance_220 : decode cX9_advance 220 = .ok (.iaload, 1) := by decide +kernel
theorem dX9_advance_221 : decode cX9_advance 221 = .ok (.bipush 48, 2) := by decide +kernel
theorem dX9_advance_223 : decode cX9_advance 223 = .ok (.isub, 1) := by decide +kernel
theorem dX9_advance_224 : decode cX9_advance 224 = .ok (.imul, 1) := by decide +kernel
theorem dX9_advance_225 : decode cX9_advance 225 = .ok (.iload_n 1, 1) := by decide +kernel
theorem dX9_advance_226 : decode cX9_advance 226 = .ok (.iadd, 1) := by decide +kernel
theorem dX9_advance_227 : decode cX9_advance 227 = .ok (.goto 4, 3) := by decide +kernel
theorem dX9_advance_230 : decode cX9_advance 230 = .ok (.iload_n 1, 1) := by decide +kernel
theorem dX9_advance_231 : decode cX9_advance 231 = .ok (.putfield 28, 3) := by decide +kernel
theorem dX9_advance_234 : decode cX9_advance 234 = .ok (.return_, 1) := by decide +kernel
theorem dX9_kindOf_0 : decode cX9_kindOf 0 = .ok (.iload_n 0, 1) := by decide +kernel
theorem dX9_kindOf_1 : decode cX9_kindOf 1 = .ok (.bipush 97, 2) := by decide +kernel
theorem dX9_kindOf_3 : decode cX9_kindOf 3 = .ok (.if_icmp .lt 11, 3) := by decide +kernel
theorem dX9_kindOf_6 : decode cX9_kindOf 6 = .ok (.iload_n 0, 1) := by decide +kernel
theorem dX9_kindOf_7 : decode cX9_kindOf 7 = .ok (.bipush 122, 2) := by decide +kernel
theorem dX9_kindOf_9 : decode cX9_kindOf 9 = .ok (.if_icmp .gt 5, 3) := by decide +kernel
theorem dX9_kindOf_12 : decode cX9_kindOf 12 = .ok (.iconst 1, 1) := by decide +kernel
theorem dX9_kindOf_13 : decode cX9_kindOf 13 = .ok (.ireturn, 1) := by decide +kernel
theorem dX9_kindOf_14 : decode cX9_kindOf 14 = .ok (.iload_n 0, 1) := by decide +kernel
theorem dX9_kindOf_15 : decode cX9_kindOf 15 = .ok (.bipush 48, 2) := by decide +kernel
theorem dX9_kindOf_17 : decode cX9_kindOf 17 = .ok (.if_icmp .lt 11, 3) := by decide +kernel
theorem dX9_kindOf_20 : decode cX9_kindOf 20 = .ok (.iload_n 0, 1) := by decide +kernel
theorem dX9_kindOf_21 : decode cX9_kindOf 21 = .ok (.bipush 57, 2) := by decide +kernel
theorem dX9_kindOf_23 : decode cX9_kindOf 23 = .ok (.if_icmp .gt 5, 3) := by decide +kernel
theorem dX9_kindOf_26 : decode cX9_kindOf 26 = .ok (.iconst 2, 1) := by decide +kernel
theorem dX9_kindOf_27 : decode cX9_kindOf 27 = .ok (.ireturn, 1) := by decide +kernel
theorem dX9_kindOf_28 : decode cX9_kindOf 28 = .ok (.iload_n 0, 1) := by decide +kernel
theorem dX9_kindOf_29 : decode cX9_kindOf 29 = .ok (.bipush 59, 2) := by decide +kernel
theorem dX9_kindOf_31 : decode cX9_kindOf 31 = .ok (.if_icmp .ne 7, 3) := by decide +kernel
theorem dX9_kindOf_34 : decode cX9_kindOf 34 = .ok (.iconst 3, 1) := by decide +kernel
theorem dX9_kindOf_35 : decode cX9_kindOf 35 = .ok (.goto 4, 3) := by decide +kernel
theorem dX9_kindOf_38 : decode cX9_kindOf 38 = .ok (.iconst 4, 1) := by decide +kernel
theorem dX9_kindOf_39 : decode cX9_kindOf 39 = .ok (.ireturn, 1) := by decide +kernel
set_option maxRecDepth 20000 in
theorem ggX9_isWord_J0_length_8abf5 : GoodIn wsX9_isWord wsJ0_length_8abf5 := goodIn_r _ [9, 10, 11, 12, 13, 8, 14, 15, 16] rfl (by decide +kernel)
set_option maxRecDepth 20000 in
theorem gX9_isWord_J0_length_8abf5 : GoodIn wsX9_isWord (wsV RX9 38 RJ0 yJ0_length_8abf5 wsJ0_length_8abf5) := goodIn_app (goodIn_of _ (by decide +kernel)) ggX9_isWord_J0_length_8abf5
set_option maxRecDepth 20000 in
theorem ggX9_isWord_J0_charAt_5068e : GoodIn wsX9_isWord wsJ0_charAt_5068e := goodIn_r _ [20, 10, 21, 22, 23, 8, 24, 15, 16, 25, 26, 27, 28, 29, 30, 31, 32, 33, 34, 35, 36, 37, 38, 39, 40, 41, 42, 43, 44, 45, 46, 47, 48, 49, 50, 51, 52, 53] rfl (by decide +kernel)
set_option maxRecDepth 20000 in
theorem gX9_isWord_J0_charAt_5068e : GoodIn wsX9_isWord (wsV RX9 43 RJ0 yJ0_charAt_5068e wsJ0_charAt_5068e) := goodIn_app (goodIn_of _ (by decide +kernel)) ggX9_isWord_J0_charAt_5068e
theorem dX9_isWord_0 : decode cX9_isWord 0 = .ok (.aload_n 0, 1) := by decide +kernel
theorem dX9_isWord_1 : decode cX9_isWord 1 = .ok (.getfield 35, 3) := by decide +kernel
theorem dX9_isWord_4 : decode cX9_isWord 4 = .ok (.iconst 1, 1) := by decide +kernel
theorem dX9_isWord_5 : decode cX9_isWord 5 = .ok (.if_icmp .ne 19, 3) := by decide +kernel
theorem dX9_isWord_8 : decode cX9_isWord 8 = .ok (.aload_n 0, 1) := by decide +kernel
theorem dX9_isWord_9 : decode cX9_isWord 9 = .ok (.getfield 19, 3) := by decide +kernel
theorem dX9_isWord_12 : decode cX9_isWord 12 = .ok (.aload_n 0, 1) := by decide +kernel
theorem dX9_isWord_13 : decode cX9_isWord 13 = .ok (.getfield 25, 3) := by decide +kernel
theorem dX9_isWord_16 : decode cX9_isWord 16 = .ok (.isub, 1) := by decide +kernel
theorem dX9_isWord_17 : decode cX9_isWord 17 = .ok (.aload_n 1, 1) := by decide +kernel
theorem dX9_isWord_18 : decode cX9_isWord 18 = .ok (.invokevirtual 38, 3) := by decide +kernel
theorem dX9_isWord_21 : decode cX9_isWord 21 = .ok (.if_icmp .eq 5, 3) := by decide +kernel
theorem dX9_isWord_24 : decode cX9_isWord 24 = .ok (.iconst 0, 1) := by decide +kernel
theorem dX9_isWord_25 : decode cX9_isWord 25 = .ok (.ireturn, 1) := by decide +kernel
theorem dX9_isWord_26 : decode cX9_isWord 26 = .ok (.iconst 0, 1) := by decide +kernel
theorem dX9_isWord_27 : decode cX9_isWord 27 = .ok (.istore_n 2, 1) := by decide +kernel
theorem dX9_isWord_28 : decode cX9_isWord 28 = .ok (.iload_n 2, 1) := by decide +kernel
theorem dX9_isWord_29 : decode cX9_isWord 29 = .ok (.aload_n 1, 1) := by decide +kernel
theorem dX9_isWord_30 : decode cX9_isWord 30 = .ok (.invokevirtual 38, 3) := by decide +kernel
theorem dX9_isWord_33 : decode cX9_isWord 33 = .ok (.if_icmp .ge 30, 3) := by decide +kernel
theorem dX9_isWord_36 : decode cX9_isWord 36 = .ok (.aload_n 0, 1) := by decide +kernel
theorem dX9_isWord_37 : decode cX9_isWord 37 = .ok (.getfield 11, 3) := by decide +kernel
theorem dX9_isWord_40 : decode cX9_isWord 40 = .ok (.aload_n 0, 1) := by decide +kernel
theorem dX9_isWord_41 : decode cX9_isWord 41 = .ok (.getfield 25, 3) := by decide +kernel
theorem dX9_isWord_44 : decode cX9_isWord 44 = .ok (.iload_n 2, 1) := by decide +kernel
theorem dX9_isWord_45 : decode cX9_isWord 45 = .ok (.iadd, 1) := by decide +kernel
theorem dX9_isWord_46 : decode cX9_isWord 46 = .ok (.iaload, 1) := by decide +kernel
theorem dX9_isWord_47 : decode cX9_isWord 47 = .ok (.aload_n 1, 1) := by decide +kernel
theorem dX9_isWord_48 : decode cX9_isWord 48 = .ok (.iload_n 2, 1) := by decide +kernel
theorem dX9_isWord_49 : decode cX9_isWord 49 = .ok (.invokevirtual 43, 3) := by decide +kernel
theorem dX9_isWord_52 : decode cX9_isWord 52 = .ok (.if_icmp .eq 5, 3) := by decide +kernel
theorem dX9_isWord_55 : decode cX9_isWord 55 = .ok (.iconst 0, 1) := by decide +kernel
theorem dX9_isWord_56 : decode cX9_isWord 56 = .ok (.ireturn, 1) := by decide +kernel
theorem dX9_isWord_57 : decode cX9_isWord 57 = .ok (.iinc 2 1, 3) := by decide +kernel
theorem dX9_isWord_60 : decode cX9_isWord 60 = .ok (.goto (-32), 3) := by decide +kernel
theorem dX9_isWord_63 : decode cX9_isWord 63 = .ok (.iconst 1, 1) := by decide +kernel
theorem dX9_isWord_64 : decode cX9_isWord 64 = .ok (.ireturn, 1) := by decide +kernel
set_option maxRecDepth 20000 in
theorem ggX10_init_X7_init : GoodIn wsX10_init wsX7_init := goodIn_r _ [29, 30, 2, 3, 31, 32, 33, 34, 35, 36, 37, 38, 39, 40, 41, 42, 43, 44, 45, 46, 47, 48, 49, 50, 51, 52, 53, 54, 55, 56, 57, 58, 59, 60, 61, 62, 63, 64, 65, 66, 67, 68, 69, 70, 71, 128, 129, 130, 131, 132, 133, 134, 135, 136, 137, 138, 139, 98, 99, 100, 101, 102, 140, 141, 142, 143, 144, 145] rfl (by decide +kernel)
set_option maxRecDepth 20000 in
theorem gX10_init_X7_init_n9 : GoodIn wsX10_init (wsX7_init) := ggX10_init_X7_init
set_option maxRecDepth 20000 in
theorem ggX10_init_X0_init : GoodIn wsX10_init wsX0_init := goodIn_r _ [73, 74, 2, 3, 75, 32, 33, 76, 45, 46, 47, 48, 49, 50, 51, 52, 53, 54, 55, 56, 128, 129, 130, 131, 132, 133, 134, 135, 136, 137, 138, 139, 116, 117, 118, 119] rfl (by decide +kernel)
set_option maxRecDepth 20000 in
theorem gX10_init_X0_init_n24 : GoodIn wsX10_init (wsX0_init) := ggX10_init_X0_init
set_option maxRecDepth 20000 in
theorem ggX10_init_X2_init : GoodIn wsX10_init wsX2_init := goodIn_r _ [78, 79, 2, 3, 48, 80, 120, 121] rfl (by decide +kernel)
set_option maxRecDepth 20000 in
theorem gX10_init_X2_init_n31 : GoodIn wsX10_init (wsX2_init) := ggX10_init_X2_init
set_option maxRecDepth 20000 in
theorem ggX10_init_X3_init : GoodIn wsX10_init wsX3_init := goodIn_r _ [82, 83, 2, 3, 48, 84, 122, 123, 124, 125] rfl (by decide +kernel)
set_option maxRecDepth 20000 in
theorem gX10_init_X3_init_n38 : GoodIn wsX10_init (wsX3_init) := ggX10_init_X3_init
set_option maxRecDepth 20000 in
theorem ggX10_init_X5_init : GoodIn wsX10_init wsX5_init := goodIn_r _ [86, 87, 2, 3, 88, 89, 90, 91, 92, 32, 33, 93, 94, 95, 96, 48, 97, 45, 46, 47, 49, 50, 51, 52, 53, 54, 55, 56, 146, 147, 148, 149, 150, 151, 126, 127, 128, 129, 130, 131, 132, 133, 134, 135, 136, 137, 138, 139] rfl (by decide +kernel)
set_option maxRecDepth 20000 in
theorem gX10_init_X5_init_n45 : GoodIn wsX10_init (wsX5_init) := ggX10_init_X5_init
theorem dX10_init_0 : decode cX10_init 0 = .ok (.aload_n 0, 1) := by decide +kernel
theorem dX10_init_1 : decode cX10_init 1 = .ok (.invokespecial 1, 3) := by decide +kernel
theorem dX10_init_4 : decode cX10_init 4 = .ok (.aload_n 0, 1) := by decide +kernel
theorem dX10_init_5 : decode cX10_init 5 = .ok (.new 7, 3) := by decide +kernel
theorem dX10_init_8 : decode cX10_init 8 = .ok (.dup, 1) := by decide +kernel
theorem dX10_init_9 : decode cX10_init 9 = .ok (.invokespecial 9, 3) := by decide +kernel
theorem dX10_init_12 : decode cX10_init 12 = .ok (.putfield 10, 3) := by decide +kernel
theorem dX10_init_15 : decode cX10_init 15 = .ok (.aload_n 0, 1) := by decide +kernel
theorem dX10_init_16 : decode cX10_init 16 = .ok (.new 7, 3) := by decide +kernel
theorem dX10_init_19 : decode cX10_init 19 = .ok (.dup, 1) := by decide +kernel
theorem dX10_init_20 : decode cX10_init 20 = .ok (.invokespecial 9, 3) := by decide +kernel
theorem dX10_init_23 : decode cX10_init 23 = .ok (.putfield 16, 3) := by decide +kernel
theorem dX10_init_26 : decode cX10_init 26 = .ok (.aload_n 0, 1) := by decide +kernel
theorem dX10_init_27 : decode cX10_init 27 = .ok (.new 7, 3) := by decide +kernel
theorem dX10_init_30 : decode cX10_init 30 = .ok (.dup, 1) := by decide +kernel
theorem dX10_init_31 : decode cX10_init 31 = .ok (.invokespecial 9, 3) := by decide +kernel
theorem dX10_init_34 : decode cX10_init 34 = .ok (.putfield 19, 3) := by decide +kernel
theorem dX10_init_37 : decode cX10_init 37 = .ok (.aload_n 0, 1) := by decide +kernel
theorem dX10_init_38 : decode cX10_init 38 = .ok (.new 22, 3) := by decide +kernel
theorem dX10_init_41 : decode cX10_init 41 = .ok (.dup, 1) := by decide +kernel
theorem dX10_init_42 : decode cX10_init 42 = .ok (.invokespecial 24, 3) := by decide +kernel
theorem dX10_init_45 : decode cX10_init 45 = .ok (.putfield 25, 3) := by decide +kernel
theorem dX10_init_48 : decode cX10_init 48 = .ok (.aload_n 0, 1) := by decide +kernel
theorem dX10_init_49 : decode cX10_init 49 = .ok (.new 29, 3) := by decide +kernel
theorem dX10_init_52 : decode cX10_init 52 = .ok (.dup, 1) := by decide +kernel
theorem dX10_init_53 : decode cX10_init 53 = .ok (.invokespecial 31, 3) := by decide +kernel
theorem dX10_init_56 : decode cX10_init 56 = .ok (.putfield 32, 3) := by decide +kernel
theorem dX10_init_59 : decode cX10_init 59 = .ok (.aload_n 0, 1) := by decide +kernel
theorem dX10_init_60 : decode cX10_init 60 = .ok (.new 36, 3) := by decide +kernel
theorem dX10_init_63 : decode cX10_init 63 = .ok (.dup, 1) := by decide +kernel
theorem dX10_init_64 : decode cX10_init 64 = .ok (.invokespecial 38, 3) := by decide +kernel
theorem dX10_init_67 : decode cX10_init 67 = .ok (.putfield 39, 3) := by decide +kernel
theorem dX10_init_70 : decode cX10_init 70 = .ok (.aload_n 0, 1) := by decide +kernel
theorem dX10_init_71 : decode cX10_init 71 = .ok (.new 43, 3) := by decide +kernel
theorem dX10_init_74 : decode cX10_init 74 = .ok (.dup, 1) := by decide +kernel
theorem dX10_init_75 : decode cX10_init 75 = .ok (.invokespecial 45, 3) := by decide +kernel
theorem dX10_init_78 : decode cX10_init 78 = .ok (.putfield 46, 3) := by decide +kernel
theorem dX10_init_81 : decode cX10_init 81 = .ok (.aload_n 0, 1) := by decide +kernel
theorem dX10_init_82 : decode cX10_init 82 = .ok (.iconst 0, 1) := by decide +kernel
theorem dX10_init_83 : decode cX10_init 83 = .ok (.putfield 50, 3) := by decide +kernel
theorem dX10_init_86 : decode cX10_init 86 = .ok (.aload_n 0, 1) := by decide +kernel
theorem dX10_init_87 : decode cX10_init 87 = .ok (.iconst 1, 1) := by decide +kernel
theorem dX10_init_88 : decode cX10_init 88 = .ok (.putfield 54, 3) := by decide +kernel
theorem dX10_init_91 : decode cX10_init 91 = .ok (.return_, 1) := by decide +kernel
set_option maxRecDepth 20000 in
theorem ggX10_street_X7_empty : GoodIn wsX10_street wsX7_empty := goodIn_r _ [8, 9, 10, 11, 12, 13, 14, 15, 16, 17, 18, 19, 20, 21, 22, 23, 24, 25, 26, 27, 28, 29, 30, 31, 45, 46, 47, 48, 49, 62, 63, 50, 51, 52, 53, 54, 55, 56, 57, 58, 59, 60, 61, 64, 65, 66, 67] rfl (by decide +kernel)
set_option maxRecDepth 20000 in
theorem gX10_street_X7_empty : GoodIn wsX10_street (wsV RX10 66 RX7 yX7_empty wsX7_empty) := goodIn_app (goodIn_of _ (by decide +kernel)) ggX10_street_X7_empty
theorem dX10_street_0 : decode cX10_street 0 = .ok (.aload_n 0, 1) := by decide +kernel
theorem dX10_street_1 : decode cX10_street 1 = .ok (.getfield 10, 3) := by decide +kernel
theorem dX10_street_4 : decode cX10_street 4 = .ok (.getfield 57, 3) := by decide +kernel
theorem dX10_street_7 : decode cX10_street 7 = .ok (.getfield 61, 3) := by decide +kernel
theorem dX10_street_10 : decode cX10_street 10 = .ok (.istore_n 1, 1) := by decide +kernel
theorem dX10_street_11 : decode cX10_street 11 = .ok (.aload_n 0, 1) := by decide +kernel
theorem dX10_street_12 : decode cX10_street 12 = .ok (.getfield 10, 3) := by decide +kernel
theorem dX10_street_15 : decode cX10_street 15 = .ok (.invokevirtual 66, 3) := by decide +kernel
theorem dX10_street_18 : decode cX10_street 18 = .ok (.iload_n 1, 1) := by decide +kernel
theorem dX10_street_19 : decode cX10_street 19 = .ok (.ireturn, 1) := by decide +kernel
set_option maxRecDepth 20000 in
theorem ggX10_wet_X10_within : GoodIn wsX10_wet wsX10_within := goodIn_r _ [9] rfl (by decide +kernel)
set_option maxRecDepth 20000 in
theorem gX10_wet_X10_within : GoodIn wsX10_wet (va_wsS RX10 69 yX10_within wsX10_within) := goodIn_app (goodIn_of _ (by decide +kernel)) ggX10_wet_X10_within
set_option maxRecDepth 20000 in
theorem ggX10_wet_X10_bad : GoodIn wsX10_wet wsX10_bad := goodIn_r _ [13, 14, 15, 16, 17, 18, 19, 20, 21, 22, 23, 24, 25, 26, 27] rfl (by decide +kernel)
set_option maxRecDepth 20000 in
theorem gX10_wet_X10_bad : GoodIn wsX10_wet (wsV RX10 73 RX10 yX10_bad wsX10_bad) := goodIn_app (goodIn_of _ (by decide +kernel)) ggX10_wet_X10_bad
theorem dX10_wet_0 : decode cX10_wet 0 = .ok (.iload_n 1, 1) := by decide +kernel
theorem dX10_wet_1 : decode cX10_wet 1 = .ok (.iconst 0, 1) := by decide +kernel
theorem dX10_wet_2 : decode cX10_wet 2 = .ok (.iconst 5, 1) := by decide +kernel
theorem dX10_wet_3 : decode cX10_wet 3 = .ok (.invokestatic 69, 3) := by decide +kernel
theorem dX10_wet_6 : decode cX10_wet 6 = .ok (.ifCond .eq 12, 3) := by decide +kernel
theorem dX10_wet_9 : decode cX10_wet 9 = .ok (.iload_n 2, 1) := by decide +kernel
theorem dX10_wet_10 : decode cX10_wet 10 = .ok (.iconst 0, 1) := by decide +kernel
theorem dX10_wet_11 : decode cX10_wet 11 = .ok (.iconst 4, 1) := by decide +kernel
theorem dX10_wet_12 : decode cX10_wet 12 = .ok (.invokestatic 69, 3) := by decide +kernel
theorem dX10_wet_15 : decode cX10_wet 15 = .ok (.ifCond .ne 8, 3) := by decide +kernel
theorem dX10_wet_18 : decode cX10_wet 18 = .ok (.aload_n 0, 1) := by decide +kernel
theorem dX10_wet_19 : decode cX10_wet 19 = .ok (.invokevirtual 73, 3) := by decide +kernel
theorem dX10_wet_22 : decode cX10_wet 22 = .ok (.ireturn, 1) := by decide +kernel
theorem dX10_wet_23 : decode cX10_wet 23 = .ok (.aload_n 0, 1) := by decide +kernel
theorem dX10_wet_24 : decode cX10_wet 24 = .ok (.getfield 10, 3) := by decide +kernel
theorem dX10_wet_27 : decode cX10_wet 27 = .ok (.getfield 57, 3) := by decide +kernel
theorem dX10_wet_30 : decode cX10_wet 30 = .ok (.getfield 77, 3) := by decide +kernel
theorem dX10_wet_33 : decode cX10_wet 33 = .ok (.iload_n 1, 1) := by decide +kernel
theorem dX10_wet_34 : decode cX10_wet 34 = .ok (.iaload, 1) := by decide +kernel
theorem dX10_wet_35 : decode cX10_wet 35 = .ok (.istore_n 3, 1) := by decide +kernel
theorem dX10_wet_36 : decode cX10_wet 36 = .ok (.aload_n 0, 1) := by decide +kernel
theorem dX10_wet_37 : decode cX10_wet 37 = .ok (.getfield 10, 3) := by decide +kernel
theorem dX10_wet_40 : decode cX10_wet 40 = .ok (.getfield 57, 3) := by decide +kernel
theorem dX10_wet_43 : decode cX10_wet 43 = .ok (.getfield 77, 3) := by decide +kernel
theorem dX10_wet_46 : decode cX10_wet 46 = .ok (.iload_n 1, 1) := by decide +kernel
theorem dX10_wet_47 : decode cX10_wet 47 = .ok (.iload_n 2, 1) := by decide +kernel
theorem dX10_wet_48 : decode cX10_wet 48 = .ok (.iastore, 1) := by decide +kernel
theorem dX10_wet_49 : decode cX10_wet 49 = .ok (.aload_n 0, 1) := by decide +kernel
theorem dX10_wet_50 : decode cX10_wet 50 = .ok (.getfield 10, 3) := by decide +kernel
theorem dX10_wet_53 : decode cX10_wet 53 = .ok (.getfield 81, 3) := by decide +kernel
theorem dX10_wet_56 : decode cX10_wet 56 = .ok (.iconst 0, 1) := by decide +kernel
theorem dX10_wet_57 : decode cX10_wet 57 = .ok (.putfield 85, 3) := by decide +kernel
theorem dX10_wet_60 : decode cX10_wet 60 = .ok (.iload_n 3, 1) := by decide +kernel
theorem dX10_wet_61 : decode cX10_wet 61 = .ok (.ireturn, 1) := by decide +kernel
set_option maxRecDepth 20000 in
theorem ggX10_glove_X10_isKind : GoodIn wsX10_glove wsX10_isKind := goodIn_r _ [9, 10, 11, 8, 12] rfl (by decide +kernel)
set_option maxRecDepth 20000 in
theorem gX10_glove_X10_isKind : GoodIn wsX10_glove (va_wsS RX10 90 yX10_isKind wsX10_isKind) := goodIn_app (goodIn_of _ (by decide +kernel)) ggX10_glove_X10_isKind
set_option maxRecDepth 20000 in
theorem ggX10_glove_X10_within : GoodIn wsX10_glove wsX10_within := goodIn_r _ [12] rfl (by decide +kernel)
set_option maxRecDepth 20000 in
theorem gX10_glove_X10_within : GoodIn wsX10_glove (va_wsS RX10 69 yX10_within wsX10_within) := goodIn_app (goodIn_of _ (by decide +kernel)) ggX10_glove_X10_within
set_option maxRecDepth 20000 in
theorem ggX10_glove_X10_bad : GoodIn wsX10_glove wsX10_bad := goodIn_r _ [16, 17, 32, 33, 34, 35, 36, 37, 38, 39, 40, 41, 42, 43, 44] rfl (by decide +kernel)
set_option maxRecDepth 20000 in
theorem gX10_glove_X10_bad : GoodIn wsX10_glove (wsV RX10 73 RX10 yX10_bad wsX10_bad) := goodIn_app (goodIn_of _ (by decide +kernel)) ggX10_glove_X10_bad
set_option maxRecDepth 20000 in
theorem ggX10_glove_X10_full : GoodIn wsX10_glove wsX10_full := goodIn_r _ [21, 22, 32, 33, 34, 35, 36, 37, 38, 39, 40, 41, 42, 43, 44] rfl (by decide +kernel)
set_option maxRecDepth 20000 in
theorem gX10_glove_X10_full : GoodIn wsX10_glove (wsV RX10 94 RX10 yX10_full wsX10_full) := goodIn_app (goodIn_of _ (by decide +kernel)) ggX10_glove_X10_full
set_option maxRecDepth 20000 in
theorem ggX10_glove_X8_addGlove : GoodIn wsX10_glove wsX8_addGlove := goodIn_r _ [27, 28, 29, 30, 31, 50, 51, 52, 53, 54, 55, 56, 57, 58, 59, 60, 61] rfl (by decide +kernel)
set_option maxRecDepth 20000 in
theorem gX10_glove_X8_addGlove : GoodIn wsX10_glove (wsV RX10 97 RX8 yX8_addGlove wsX8_addGlove) := goodIn_app (goodIn_of _ (by decide +kernel)) ggX10_glove_X8_addGlove
theorem dX10_glove_0 : decode cX10_glove 0 = .ok (.iload_n 1, 1) := by decide +kernel
theorem dX10_glove_1 : decode cX10_glove 1 = .ok (.invokestatic 90, 3) := by decide +kernel
theorem dX10_glove_4 : decode cX10_glove 4 = .ok (.ifCond .eq 23, 3) := by decide +kernel
theorem dX10_glove_7 : decode cX10_glove 7 = .ok (.iload_n 2, 1) := by decide +kernel
theorem dX10_glove_8 : decode cX10_glove 8 = .ok (.iconst 1, 1) := by decide +kernel
theorem dX10_glove_9 : decode cX10_glove 9 = .ok (.bipush 9, 2) := by decide +kernel
theorem dX10_glove_11 : decode cX10_glove 11 = .ok (.invokestatic 69, 3) := by decide +kernel
theorem dX10_glove_14 : decode cX10_glove 14 = .ok (.ifCond .eq 13, 3) := by decide +kernel
theorem dX10_glove_17 : decode cX10_glove 17 = .ok (.iload_n 3, 1) := by decide +kernel
theorem dX10_glove_18 : decode cX10_glove 18 = .ok (.iconst 0, 1) := by decide +kernel
theorem dX10_glove_19 : decode cX10_glove 19 = .ok (.bipush 23, 2) := by decide +kernel
theorem dX10_glove_21 : decode cX10_glove 21 = .ok (.invokestatic 69, 3) := by decide +kernel
theorem dX10_glove_24 : decode cX10_glove 24 = .ok (.ifCond .ne 8, 3) := by decide +kernel
theorem dX10_glove_27 : decode cX10_glove 27 = .ok (.aload_n 0, 1) := by decide +kernel
theorem dX10_glove_28 : decode cX10_glove 28 = .ok (.invokevirtual 73, 3) := by decide +kernel
theorem dX10_glove_31 : decode cX10_glove 31 = .ok (.ireturn, 1) := by decide +kernel
theorem dX10_glove_32 : decode cX10_glove 32 = .ok (.aload_n 0, 1) := by decide +kernel
theorem dX10_glove_33 : decode cX10_glove 33 = .ok (.getfield 10, 3) := by decide +kernel
theorem dX10_glove_36 : decode cX10_glove 36 = .ok (.getfield 57, 3) := by decide +kernel
theorem dX10_glove_39 : decode cX10_glove 39 = .ok (.getfield 61, 3) := by decide +kernel
theorem dX10_glove_42 : decode cX10_glove 42 = .ok (.bipush 7, 2) := by decide +kernel
theorem dX10_glove_44 : decode cX10_glove 44 = .ok (.if_icmp .lt 8, 3) := by decide +kernel
theorem dX10_glove_47 : decode cX10_glove 47 = .ok (.aload_n 0, 1) := by decide +kernel
theorem dX10_glove_48 : decode cX10_glove 48 = .ok (.invokevirtual 94, 3) := by decide +kernel
theorem dX10_glove_51 : decode cX10_glove 51 = .ok (.ireturn, 1) := by decide +kernel
theorem dX10_glove_52 : decode cX10_glove 52 = .ok (.aload_n 0, 1) := by decide +kernel
theorem dX10_glove_53 : decode cX10_glove 53 = .ok (.getfield 10, 3) := by decide +kernel
theorem dX10_glove_56 : decode cX10_glove 56 = .ok (.getfield 81, 3) := by decide +kernel
theorem dX10_glove_59 : decode cX10_glove 59 = .ok (.iconst 0, 1) := by decide +kernel
theorem dX10_glove_60 : decode cX10_glove 60 = .ok (.putfield 85, 3) := by decide +kernel
theorem dX10_glove_63 : decode cX10_glove 63 = .ok (.aload_n 0, 1) := by decide +kernel
theorem dX10_glove_64 : decode cX10_glove 64 = .ok (.getfield 10, 3) := by decide +kernel
theorem dX10_glove_67 : decode cX10_glove 67 = .ok (.getfield 57, 3) := by decide +kernel
theorem dX10_glove_70 : decode cX10_glove 70 = .ok (.iload_n 1, 1) := by decide +kernel
theorem dX10_glove_71 : decode cX10_glove 71 = .ok (.iload_n 2, 1) := by decide +kernel
theorem dX10_glove_72 : decode cX10_glove 72 = .ok (.iload_n 3, 1) := by decide +kernel
theorem dX10_glove_73 : decode cX10_glove 73 = .ok (.invokevirtual 97, 3) := by decide +kernel
theorem dX10_glove_76 : decode cX10_glove 76 = .ok (.ireturn, 1) := by decide +kernel
set_option maxRecDepth 20000 in
theorem ggX10_crossing_X10_isKind : GoodIn wsX10_crossing wsX10_isKind := goodIn_r _ [9, 10, 11, 8, 12] rfl (by decide +kernel)
set_option maxRecDepth 20000 in
theorem gX10_crossing_X10_isKind : GoodIn wsX10_crossing (va_wsS RX10 90 yX10_isKind wsX10_isKind) := goodIn_app (goodIn_of _ (by decide +kernel)) ggX10_crossing_X10_isKind
set_option maxRecDepth 20000 in
theorem ggX10_crossing_X10_within : GoodIn wsX10_crossing wsX10_within := goodIn_r _ [12] rfl (by decide +kernel)
set_option maxRecDepth 20000 in
theorem gX10_crossing_X10_within : GoodIn wsX10_crossing (va_wsS RX10 69 yX10_within wsX10_within) := goodIn_app (goodIn_of _ (by decide +kernel)) ggX10_crossing_X10_within
set_option maxRecDepth 20000 in
theorem ggX10_crossing_X8_hasCrossing : GoodIn wsX10_crossing wsX8_hasCrossing := goodIn_r _ [17, 18, 11, 8, 12, 54, 55, 56, 57, 58, 59, 60, 61, 62, 63, 64, 65] rfl (by decide +kernel)
set_option maxRecDepth 20000 in
theorem gX10_crossing_X8_hasCrossing : GoodIn wsX10_crossing (wsV RX10 101 RX8 yX8_hasCrossing wsX8_hasCrossing) := goodIn_app (goodIn_of _ (by decide +kernel)) ggX10_crossing_X8_hasCrossing
set_option maxRecDepth 20000 in
theorem ggX10_crossing_X10_bad : GoodIn wsX10_crossing wsX10_bad := goodIn_r _ [22, 23, 36, 37, 38, 39, 40, 41, 42, 43, 44, 45, 46, 47, 48] rfl (by decide +kernel)
set_option maxRecDepth 20000 in
theorem gX10_crossing_X10_bad : GoodIn wsX10_crossing (wsV RX10 73 RX10 yX10_bad wsX10_bad) := goodIn_app (goodIn_of _ (by decide +kernel)) ggX10_crossing_X10_bad
set_option maxRecDepth 20000 in
theorem ggX10_crossing_X10_full : GoodIn wsX10_crossing wsX10_full := goodIn_r _ [27, 28, 36, 37, 38, 39, 40, 41, 42, 43, 44, 45, 46, 47, 48] rfl (by decide +kernel)
set_option maxRecDepth 20000 in
theorem gX10_crossing_X10_full : GoodIn wsX10_crossing (wsV RX10 94 RX10 yX10_full wsX10_full) := goodIn_app (goodIn_of _ (by decide +kernel)) ggX10_crossing_X10_full
set_option maxRecDepth 20000 in
theorem ggX10_crossing_X8_addCrossing : GoodIn wsX10_crossing wsX8_addCrossing := goodIn_r _ [32, 33, 34, 35, 18, 54, 55, 56, 57, 58, 59, 60, 61, 62, 63, 64, 65] rfl (by decide +kernel)
set_option maxRecDepth 20000 in
theorem gX10_crossing_X8_addCrossing : GoodIn wsX10_crossing (wsV RX10 107 RX8 yX8_addCrossing wsX8_addCrossing) := goodIn_app (goodIn_of _ (by decide +kernel)) ggX10_crossing_X8_addCrossing
theorem dX10_crossing_0 : decode cX10_crossing 0 = .ok (.iload_n 1, 1) := by decide +kernel
theorem dX10_crossing_1 : decode cX10_crossing 1 = .ok (.invokestatic 90, 3) := by decide +kernel
theorem dX10_crossing_4 : decode cX10_crossing 4 = .ok (.ifCond .eq 27, 3) := by decide +kernel
theorem dX10_crossing_7 : decode cX10_crossing 7 = .ok (.iload_n 2, 1) := by decide +kernel
theorem dX10_crossing_8 : decode cX10_crossing 8 = .ok (.iconst 0, 1) := by decide +kernel
theorem dX10_crossing_9 : decode cX10_crossing 9 = .ok (.bipush 22, 2) := by decide +kernel
theorem dX10_crossing_11 : decode cX10_crossing 11 = .ok (.invokestatic 69, 3) := by decide +kernel
theorem dX10_crossing_14 : decode cX10_crossing 14 = .ok (.ifCond .eq 17, 3) := by decide +kernel
theorem dX10_crossing_17 : decode cX10_crossing 17 = .ok (.aload_n 0, 1) := by decide +kernel
theorem dX10_crossing_18 : decode cX10_crossing 18 = .ok (.getfield 10, 3) := by decide +kernel
theorem dX10_crossing_21 : decode cX10_crossing 21 = .ok (.getfield 57, 3) := by decide +kernel
theorem dX10_crossing_24 : decode cX10_crossing 24 = .ok (.iload_n 2, 1) := by decide +kernel
theorem dX10_crossing_25 : decode cX10_crossing 25 = .ok (.invokevirtual 101, 3) := by decide +kernel
theorem dX10_crossing_28 : decode cX10_crossing 28 = .ok (.ifCond .eq 8, 3) := by decide +kernel
theorem dX10_crossing_31 : decode cX10_crossing 31 = .ok (.aload_n 0, 1) := by decide +kernel
theorem dX10_crossing_32 : decode cX10_crossing 32 = .ok (.invokevirtual 73, 3) := by decide +kernel
theorem dX10_crossing_35 : decode cX10_crossing 35 = .ok (.ireturn, 1) := by decide +kernel
theorem dX10_crossing_36 : decode cX10_crossing 36 = .ok (.aload_n 0, 1) := by decide +kernel
theorem dX10_crossing_37 : decode cX10_crossing 37 = .ok (.getfield 10, 3) := by decide +kernel
theorem dX10_crossing_40 : decode cX10_crossing 40 = .ok (.getfield 57, 3) := by decide +kernel
theorem dX10_crossing_43 : decode cX10_crossing 43 = .ok (.getfield 104, 3) := by decide +kernel
theorem dX10_crossing_46 : decode cX10_crossing 46 = .ok (.iconst 3, 1) := by decide +kernel
theorem dX10_crossing_47 : decode cX10_crossing 47 = .ok (.if_icmp .lt 8, 3) := by decide +kernel
theorem dX10_crossing_50 : decode cX10_crossing 50 = .ok (.aload_n 0, 1) := by decide +kernel
theorem dX10_crossing_51 : decode cX10_crossing 51 = .ok (.invokevirtual 94, 3) := by decide +kernel
theorem dX10_crossing_54 : decode cX10_crossing 54 = .ok (.ireturn, 1) := by decide +kernel
theorem dX10_crossing_55 : decode cX10_crossing 55 = .ok (.aload_n 0, 1) := by decide +kernel
theorem dX10_crossing_56 : decode cX10_crossing 56 = .ok (.getfield 10, 3) := by decide +kernel
theorem dX10_crossing_59 : decode cX10_crossing 59 = .ok (.getfield 81, 3) := by decide +kernel
theorem dX10_crossing_62 : decode cX10_crossing 62 = .ok (.iconst 0, 1) := by decide +kernel
theorem dX10_crossing_63 : decode cX10_crossing 63 = .ok (.putfield 85, 3) := by decide +kernel
theorem dX10_crossing_66 : decode cX10_crossing 66 = .ok (.aload_n 0, 1) := by decide +kernel
theorem dX10_crossing_67 : decode cX10_crossing 67 = .ok (.getfield 10, 3) := by decide +kernel
theorem dX10_crossing_70 : decode cX10_crossing 70 = .ok (.getfield 57, 3) := by decide +kernel
theorem dX10_crossing_73 : decode cX10_crossing 73 = .ok (.iload_n 1, 1) := by decide +kernel
theorem dX10_crossing_74 : decode cX10_crossing 74 = .ok (.iload_n 2, 1) := by decide +kernel
theorem dX10_crossing_75 : decode cX10_crossing 75 = .ok (.invokevirtual 107, 3) := by decide +kernel
theorem dX10_crossing_78 : decode cX10_crossing 78 = .ok (.ireturn, 1) := by decide +kernel
set_option maxRecDepth 20000 in
theorem ggX10_type_X10_within : GoodIn wsX10_type wsX10_within := goodIn_r _ [7] rfl (by decide +kernel)
set_option maxRecDepth 20000 in
theorem gX10_type_X10_within : GoodIn wsX10_type (va_wsS RX10 69 yX10_within wsX10_within) := goodIn_app (goodIn_of _ (by decide +kernel)) ggX10_type_X10_within
set_option maxRecDepth 20000 in
theorem ggX10_type_X10_bad : GoodIn wsX10_type wsX10_bad := goodIn_r _ [11, 12, 25, 26, 27, 28, 29, 30, 31, 32, 33, 34, 35, 36, 37] rfl (by decide +kernel)
set_option maxRecDepth 20000 in
theorem gX10_type_X10_bad : GoodIn wsX10_type (wsV RX10 73 RX10 yX10_bad wsX10_bad) := goodIn_app (goodIn_of _ (by decide +kernel)) ggX10_type_X10_bad
set_option maxRecDepth 20000 in
theorem ggX10_type_X10_full : GoodIn wsX10_type wsX10_full := goodIn_r _ [16, 17, 25, 26, 27, 28, 29, 30, 31, 32, 33, 34, 35, 36, 37] rfl (by decide +kernel)
set_option maxRecDepth 20000 in
theorem gX10_type_X10_full : GoodIn wsX10_type (wsV RX10 94 RX10 yX10_full wsX10_full) := goodIn_app (goodIn_of _ (by decide +kernel)) ggX10_type_X10_full
set_option maxRecDepth 20000 in
theorem ggX10_type_X9_append : GoodIn wsX10_type wsX9_append := goodIn_r _ [22, 23, 24, 40, 41, 42, 43, 44, 45] rfl (by decide +kernel)
set_option maxRecDepth 20000 in
theorem gX10_type_X9_append : GoodIn wsX10_type (wsV RX10 120 RX9 yX9_append wsX9_append) := goodIn_app (goodIn_of _ (by decide +kernel)) ggX10_type_X9_append
theorem dX10_type_0 : decode cX10_type 0 = .ok (.iload_n 1, 1) := by decide +kernel
theorem dX10_type_1 : decode cX10_type 1 = .ok (.iconst 0, 1) := by decide +kernel
theorem dX10_type_2 : decode cX10_type 2 = .ok (.bipush 127, 2) := by decide +kernel
theorem dX10_type_4 : decode cX10_type 4 = .ok (.invokestatic 69, 3) := by decide +kernel
theorem dX10_type_7 : decode cX10_type 7 = .ok (.ifCond .ne 8, 3) := by decide +kernel
theorem dX10_type_10 : decode cX10_type 10 = .ok (.aload_n 0, 1) := by decide +kernel
theorem dX10_type_11 : decode cX10_type 11 = .ok (.invokevirtual 73, 3) := by decide +kernel
theorem dX10_type_14 : decode cX10_type 14 = .ok (.ireturn, 1) := by decide +kernel
theorem dX10_type_15 : decode cX10_type 15 = .ok (.aload_n 0, 1) := by decide +kernel
theorem dX10_type_16 : decode cX10_type 16 = .ok (.getfield 46, 3) := by decide +kernel
theorem dX10_type_19 : decode cX10_type 19 = .ok (.getfield 113, 3) := by decide +kernel
theorem dX10_type_22 : decode cX10_type 22 = .ok (.getfield 117, 3) := by decide +kernel
theorem dX10_type_25 : decode cX10_type 25 = .ok (.sipush 150, 3) := by decide +kernel
theorem dX10_type_28 : decode cX10_type 28 = .ok (.if_icmp .lt 8, 3) := by decide +kernel
theorem dX10_type_31 : decode cX10_type 31 = .ok (.aload_n 0, 1) := by decide +kernel
theorem dX10_type_32 : decode cX10_type 32 = .ok (.invokevirtual 94, 3) := by decide +kernel
theorem dX10_type_35 : decode cX10_type 35 = .ok (.ireturn, 1) := by decide +kernel
theorem dX10_type_36 : decode cX10_type 36 = .ok (.aload_n 0, 1) := by decide +kernel
theorem dX10_type_37 : decode cX10_type 37 = .ok (.getfield 46, 3) := by decide +kernel
theorem dX10_type_40 : decode cX10_type 40 = .ok (.getfield 113, 3) := by decide +kernel
theorem dX10_type_43 : decode cX10_type 43 = .ok (.iload_n 1, 1) := by decide +kernel
theorem dX10_type_44 : decode cX10_type 44 = .ok (.invokevirtual 120, 3) := by decide +kernel
theorem dX10_type_47 : decode cX10_type 47 = .ok (.aload_n 0, 1) := by decide +kernel
theorem dX10_type_48 : decode cX10_type 48 = .ok (.getfield 46, 3) := by decide +kernel
theorem dX10_type_51 : decode cX10_type 51 = .ok (.getfield 113, 3) := by decide +kernel
theorem dX10_type_54 : decode cX10_type 54 = .ok (.getfield 117, 3) := by decide +kernel
theorem dX10_type_57 : decode cX10_type 57 = .ok (.ireturn, 1) := by decide +kernel
theorem dX10_clear_0 : decode cX10_clear 0 = .ok (.aload_n 0, 1) := by decide +kernel
theorem dX10_clear_1 : decode cX10_clear 1 = .ok (.getfield 46, 3) := by decide +kernel
theorem dX10_clear_4 : decode cX10_clear 4 = .ok (.getfield 113, 3) := by decide +kernel
theorem dX10_clear_7 : decode cX10_clear 7 = .ok (.getfield 117, 3) := by decide +kernel
theorem dX10_clear_10 : decode cX10_clear 10 = .ok (.istore_n 1, 1) := by decide +kernel
theorem dX10_clear_11 : decode cX10_clear 11 = .ok (.aload_n 0, 1) := by decide +kernel
theorem dX10_clear_12 : decode cX10_clear 12 = .ok (.getfield 46, 3) := by decide +kernel
theorem dX10_clear_15 : decode cX10_clear 15 = .ok (.getfield 113, 3) := by decide +kernel
theorem dX10_clear_18 : decode cX10_clear 18 = .ok (.iconst 0, 1) := by decide +kernel
theorem dX10_clear_19 : decode cX10_clear 19 = .ok (.putfield 117, 3) := by decide +kernel
theorem dX10_clear_22 : decode cX10_clear 22 = .ok (.iload_n 1, 1) := by decide +kernel
theorem dX10_clear_23 : decode cX10_clear 23 = .ok (.ireturn, 1) := by decide +kernel
set_option maxRecDepth 20000 in
theorem ggX10_read_X5_readStreet : GoodIn wsX10_read wsX5_readStreet := goodIn_r _ [9, 10, 11, 12, 13, 14, 15, 16, 17, 18, 19, 20, 21, 22, 23, 24, 25, 26, 27, 28, 29, 30, 31, 32, 33, 34, 35, 36, 37, 38, 39, 40, 41, 42, 43, 44, 45, 46, 47, 48, 49, 50, 51, 52, 53, 54, 55, 56, 57, 58, 59, 60, 61, 62, 63, 64, 65, 66, 67, 68, 69, 70, 71, 72, 73, 74, 75, 76, 77, 78, 79, 80, 81, 82, 83, 84, 85, 86, 87, 88, 89, 90, 91, 92, 93, 94, 95, 96, 97, 8, 98, 99, 100, 101, 102, 103, 104, 105, 106, 107, 108, 109, 110, 111, 112, 113, 114, 115, 116, 117, 118, 119, 120, 121, 122, 123, 124, 125, 126, 127, 128, 129, 130, 131, 132, 133, 134, 135, 136, 137, 138, 139, 140, 141, 142, 143, 144, 145, 146, 147, 148, 149, 150, 151, 152, 153, 154, 155, 156, 157, 158, 159, 160, 161, 162, 163, 164, 165, 166, 167, 168, 169, 170, 171, 172, 173, 174, 175, 176, 177, 178, 179, 180, 181, 182, 183, 184, 185, 186, 187, 188, 189, 190, 191, 192, 193, 194, 195, 196, 241, 242, 243, 244, 245, 246, 247, 248, 249, 250, 251, 252, 253, 254, 255, 256, 257, 258, 259, 260] rfl (by decide +kernel)
set_option maxRecDepth 20000 in
theorem gX10_read_X5_readStreet : GoodIn wsX10_read (wsV RX10 124 RX5 yX5_readStreet wsX5_readStreet) := goodIn_app (goodIn_of _ (by decide +kernel)) ggX10_read_X5_readStreet
set_option maxRecDepth 20000 in
theorem ggX10_read_X7_empty : GoodIn wsX10_read wsX7_empty := goodIn_r _ [201, 202, 203, 204, 205, 206, 207, 208, 14, 15, 16, 17, 18, 19, 20, 21, 22, 23, 209, 210, 211, 212, 213, 214, 236, 237, 238, 239, 240, 261, 262, 249, 250, 251, 252, 253, 254, 255, 256, 257, 258, 259, 260, 263, 264, 265, 266] rfl (by decide +kernel)
set_option maxRecDepth 20000 in
theorem gX10_read_X7_empty : GoodIn wsX10_read (wsV RX10 66 RX7 yX7_empty wsX7_empty) := goodIn_app (goodIn_of _ (by decide +kernel)) ggX10_read_X7_empty
set_option maxRecDepth 20000 in
theorem ggX10_read_X8_copy : GoodIn wsX10_read wsX8_copy := goodIn_r _ [218, 18, 219, 220, 221, 222, 131, 132, 133, 147, 148, 19, 20, 21, 22, 23, 249, 250, 251, 252, 253, 254, 255, 256, 257, 258, 259, 260] rfl (by decide +kernel)
set_option maxRecDepth 20000 in
theorem gX10_read_X8_copy : GoodIn wsX10_read (wsV RX10 130 RX8 yX8_copy wsX8_copy) := goodIn_app (goodIn_of _ (by decide +kernel)) ggX10_read_X8_copy
theorem dX10_read_0 : decode cX10_read 0 = .ok (.aload_n 0, 1) := by decide +kernel
theorem dX10_read_1 : decode cX10_read 1 = .ok (.getfield 46, 3) := by decide +kernel
theorem dX10_read_4 : decode cX10_read 4 = .ok (.invokevirtual 124, 3) := by decide +kernel
theorem dX10_read_7 : decode cX10_read 7 = .ok (.istore_n 1, 1) := by decide +kernel
theorem dX10_read_8 : decode cX10_read 8 = .ok (.iload_n 1, 1) := by decide +kernel
theorem dX10_read_9 : decode cX10_read 9 = .ok (.ifCond .ge 5, 3) := by decide +kernel
theorem dX10_read_12 : decode cX10_read 12 = .ok (.iload_n 1, 1) := by decide +kernel
theorem dX10_read_13 : decode cX10_read 13 = .ok (.ireturn, 1) := by decide +kernel
theorem dX10_read_14 : decode cX10_read 14 = .ok (.aload_n 0, 1) := by decide +kernel
theorem dX10_read_15 : decode cX10_read 15 = .ok (.getfield 10, 3) := by decide +kernel
theorem dX10_read_18 : decode cX10_read 18 = .ok (.invokevirtual 66, 3) := by decide +kernel
theorem dX10_read_21 : decode cX10_read 21 = .ok (.aload_n 0, 1) := by decide +kernel
theorem dX10_read_22 : decode cX10_read 22 = .ok (.getfield 10, 3) := by decide +kernel
theorem dX10_read_25 : decode cX10_read 25 = .ok (.getfield 57, 3) := by decide +kernel
theorem dX10_read_28 : decode cX10_read 28 = .ok (.aload_n 0, 1) := by decide +kernel
theorem dX10_read_29 : decode cX10_read 29 = .ok (.getfield 46, 3) := by decide +kernel
theorem dX10_read_32 : decode cX10_read 32 = .ok (.getfield 127, 3) := by decide +kernel
theorem dX10_read_35 : decode cX10_read 35 = .ok (.invokevirtual 130, 3) := by decide +kernel
theorem dX10_read_38 : decode cX10_read 38 = .ok (.iload_n 1, 1) := by decide +kernel
theorem dX10_read_39 : decode cX10_read 39 = .ok (.ireturn, 1) := by decide +kernel
set_option maxRecDepth 20000 in
theorem ggX10_hours_X10_within : GoodIn wsX10_hours wsX10_within := goodIn_r _ [12] rfl (by decide +kernel)
set_option maxRecDepth 20000 in
theorem gX10_hours_X10_within : GoodIn wsX10_hours (va_wsS RX10 69 yX10_within wsX10_within) := goodIn_app (goodIn_of _ (by decide +kernel)) ggX10_hours_X10_within
set_option maxRecDepth 20000 in
theorem ggX10_hours_X10_bad : GoodIn wsX10_hours wsX10_bad := goodIn_r _ [16, 17, 87, 88, 89, 90, 91, 92, 93, 94, 95, 96, 97, 98, 99] rfl (by decide +kernel)
set_option maxRecDepth 20000 in
theorem gX10_hours_X10_bad : GoodIn wsX10_hours (wsV RX10 73 RX10 yX10_bad wsX10_bad) := goodIn_app (goodIn_of _ (by decide +kernel)) ggX10_hours_X10_bad
set_option maxRecDepth 20000 in
theorem ggX10_hours_X4_keep : GoodIn wsX10_hours wsX4_keep := goodIn_r _ [22, 23, 24, 25, 26, 27, 28, 29, 30, 31, 117, 118, 105, 106, 107, 108, 109, 110, 111, 112, 113, 114, 115, 116] rfl (by decide +kernel)
set_option maxRecDepth 20000 in
theorem gX10_hours_X4_keep : GoodIn wsX10_hours (wsV RX10 134 RX4 yX4_keep wsX4_keep) := goodIn_app (goodIn_of _ (by decide +kernel)) ggX10_hours_X4_keep
set_option maxRecDepth 20000 in
theorem ggX10_hours_X8_pass : GoodIn wsX10_hours wsX8_pass := goodIn_r _ [36, 37, 38, 39, 35, 40, 41, 42, 43, 44, 45, 46, 47, 48, 49, 50, 51, 52, 53, 54, 55, 56, 57, 58, 59, 60, 61, 62, 63, 64, 65, 66, 67, 68, 69, 70, 71, 72, 73, 74, 75, 76, 77, 78, 79, 80, 81, 82, 105, 106, 107, 108, 109, 110, 111, 112, 113, 114, 115, 116] rfl (by decide +kernel)
set_option maxRecDepth 20000 in
theorem gX10_hours_X8_pass : GoodIn wsX10_hours (wsV RX10 145 RX8 yX8_pass wsX8_pass) := goodIn_app (goodIn_of _ (by decide +kernel)) ggX10_hours_X8_pass
set_option maxRecDepth 20000 in
theorem ggX10_hours_X8_over : GoodIn wsX10_hours wsX8_over := goodIn_r _ [86, 43, 45, 105, 106, 107, 108, 109, 110, 111, 112, 113, 114, 115, 116] rfl (by decide +kernel)
set_option maxRecDepth 20000 in
theorem gX10_hours_X8_over : GoodIn wsX10_hours (wsV RX10 148 RX8 yX8_over wsX8_over) := goodIn_app (goodIn_of _ (by decide +kernel)) ggX10_hours_X8_over
theorem dX10_hours_0 : decode cX10_hours 0 = .ok (.iload_n 1, 1) := by decide +kernel
theorem dX10_hours_1 : decode cX10_hours 1 = .ok (.iconst 1, 1) := by decide +kernel
theorem dX10_hours_2 : decode cX10_hours 2 = .ok (.bipush 60, 2) := by decide +kernel
theorem dX10_hours_4 : decode cX10_hours 4 = .ok (.invokestatic 69, 3) := by decide +kernel
theorem dX10_hours_7 : decode cX10_hours 7 = .ok (.ifCond .ne 8, 3) := by decide +kernel
theorem dX10_hours_10 : decode cX10_hours 10 = .ok (.aload_n 0, 1) := by decide +kernel
theorem dX10_hours_11 : decode cX10_hours 11 = .ok (.invokevirtual 73, 3) := by decide +kernel
theorem dX10_hours_14 : decode cX10_hours 14 = .ok (.ireturn, 1) := by decide +kernel
theorem dX10_hours_15 : decode cX10_hours 15 = .ok (.aload_n 0, 1) := by decide +kernel
theorem dX10_hours_16 : decode cX10_hours 16 = .ok (.getfield 10, 3) := by decide +kernel
theorem dX10_hours_19 : decode cX10_hours 19 = .ok (.getfield 81, 3) := by decide +kernel
theorem dX10_hours_22 : decode cX10_hours 22 = .ok (.aload_n 0, 1) := by decide +kernel
theorem dX10_hours_23 : decode cX10_hours 23 = .ok (.getfield 10, 3) := by decide +kernel
theorem dX10_hours_26 : decode cX10_hours 26 = .ok (.getfield 57, 3) := by decide +kernel
theorem dX10_hours_29 : decode cX10_hours 29 = .ok (.invokevirtual 134, 3) := by decide +kernel
theorem dX10_hours_32 : decode cX10_hours 32 = .ok (.aload_n 0, 1) := by decide +kernel
theorem dX10_hours_33 : decode cX10_hours 33 = .ok (.getfield 10, 3) := by decide +kernel
theorem dX10_hours_36 : decode cX10_hours 36 = .ok (.getfield 57, 3) := by decide +kernel
theorem dX10_hours_39 : decode cX10_hours 39 = .ok (.iload_n 1, 1) := by decide +kernel
theorem dX10_hours_40 : decode cX10_hours 40 = .ok (.sipush 9999, 3) := by decide +kernel
theorem dX10_hours_43 : decode cX10_hours 43 = .ok (.aload_n 0, 1) := by decide +kernel
theorem dX10_hours_44 : decode cX10_hours 44 = .ok (.getfield 10, 3) := by decide +kernel
theorem dX10_hours_47 : decode cX10_hours 47 = .ok (.getfield 57, 3) := by decide +kernel
theorem dX10_hours_50 : decode cX10_hours 50 = .ok (.getfield 137, 3) := by decide +kernel
theorem dX10_hours_53 : decode cX10_hours 53 = .ok (.isub, 1) := by decide +kernel
theorem dX10_hours_54 : decode cX10_hours 54 = .ok (.invokestatic 140, 3) := by decide +kernel
theorem dX10_hours_57 : decode cX10_hours 57 = .ok (.invokevirtual 145, 3) := by decide +kernel
theorem dX10_hours_60 : decode cX10_hours 60 = .ok (.aload_n 0, 1) := by decide +kernel
theorem dX10_hours_61 : decode cX10_hours 61 = .ok (.getfield 10, 3) := by decide +kernel
theorem dX10_hours_64 : decode cX10_hours 64 = .ok (.getfield 57, 3) := by decide +kernel
theorem dX10_hours_67 : decode cX10_hours 67 = .ok (.invokevirtual 148, 3) := by decide +kernel
theorem dX10_hours_70 : decode cX10_hours 70 = .ok (.ireturn, 1) := by decide +kernel
set_option maxRecDepth 20000 in
theorem ggX10_shuts_X10_isCrossing : GoodIn wsX10_shuts wsX10_isCrossing := goodIn_r _ [8, 1, 3, 9, 10, 11, 7, 12, 42, 43, 44, 45, 46, 47, 48, 49, 50, 51, 52, 53, 54, 55, 56, 57, 58, 59, 60, 61, 62, 63, 64, 65, 66, 67, 68, 69, 70, 71] rfl (by decide +kernel)
set_option maxRecDepth 20000 in
theorem gX10_shuts_X10_isCrossing : GoodIn wsX10_shuts (wsV RX10 151 RX10 yX10_isCrossing wsX10_isCrossing) := goodIn_app (goodIn_of _ (by decide +kernel)) ggX10_shuts_X10_isCrossing
set_option maxRecDepth 20000 in
theorem ggX10_shuts_X10_bad : GoodIn wsX10_shuts wsX10_bad := goodIn_r _ [16, 17, 42, 43, 44, 45, 46, 47, 48, 49, 50, 51, 52, 53, 54] rfl (by decide +kernel)
set_option maxRecDepth 20000 in
theorem gX10_shuts_X10_bad : GoodIn wsX10_shuts (wsV RX10 73 RX10 yX10_bad wsX10_bad) := goodIn_app (goodIn_of _ (by decide +kernel)) ggX10_shuts_X10_bad
set_option maxRecDepth 20000 in
theorem ggX10_shuts_X4_keep : GoodIn wsX10_shuts wsX4_keep := goodIn_r _ [22, 23, 24, 25, 26, 27, 28, 29, 30, 31, 72, 73, 60, 61, 62, 63, 64, 65, 66, 67, 68, 69, 70, 71] rfl (by decide +kernel)
set_option maxRecDepth 20000 in
theorem gX10_shuts_X4_keep : GoodIn wsX10_shuts (wsV RX10 134 RX4 yX4_keep wsX4_keep) := goodIn_app (goodIn_of _ (by decide +kernel)) ggX10_shuts_X4_keep
set_option maxRecDepth 20000 in
theorem ggX10_shuts_X8_turn : GoodIn wsX10_shuts wsX8_turn := goodIn_r _ [36, 37, 60, 61, 62, 63, 64, 65, 66, 67, 68, 69, 70, 71] rfl (by decide +kernel)
set_option maxRecDepth 20000 in
theorem gX10_shuts_X8_turn : GoodIn wsX10_shuts (wsV RX10 154 RX8 yX8_turn wsX8_turn) := goodIn_app (goodIn_of _ (by decide +kernel)) ggX10_shuts_X8_turn
set_option maxRecDepth 20000 in
theorem ggX10_shuts_X8_shutBit : GoodIn wsX10_shuts wsX8_shutBit := goodIn_r _ [41, 37, 60, 61, 62, 63, 64, 65, 66, 67, 68, 69, 70, 71] rfl (by decide +kernel)
set_option maxRecDepth 20000 in
theorem gX10_shuts_X8_shutBit : GoodIn wsX10_shuts (wsV RX10 157 RX8 yX8_shutBit wsX8_shutBit) := goodIn_app (goodIn_of _ (by decide +kernel)) ggX10_shuts_X8_shutBit
theorem dX10_shuts_0 : decode cX10_shuts 0 = .ok (.aload_n 0, 1) := by decide +kernel
theorem dX10_shuts_1 : decode cX10_shuts 1 = .ok (.iload_n 1, 1) := by decide +kernel
theorem dX10_shuts_2 : decode cX10_shuts 2 = .ok (.invokevirtual 151, 3) := by decide +kernel
theorem dX10_shuts_5 : decode cX10_shuts 5 = .ok (.ifCond .ne 8, 3) := by decide +kernel
theorem dX10_shuts_8 : decode cX10_shuts 8 = .ok (.aload_n 0, 1) := by decide +kernel
theorem dX10_shuts_9 : decode cX10_shuts 9 = .ok (.invokevirtual 73, 3) := by decide +kernel
theorem dX10_shuts_12 : decode cX10_shuts 12 = .ok (.ireturn, 1) := by decide +kernel
theorem dX10_shuts_13 : decode cX10_shuts 13 = .ok (.aload_n 0, 1) := by decide +kernel
theorem dX10_shuts_14 : decode cX10_shuts 14 = .ok (.getfield 10, 3) := by decide +kernel
theorem dX10_shuts_17 : decode cX10_shuts 17 = .ok (.getfield 81, 3) := by decide +kernel
theorem dX10_shuts_20 : decode cX10_shuts 20 = .ok (.aload_n 0, 1) := by decide +kernel
theorem dX10_shuts_21 : decode cX10_shuts 21 = .ok (.getfield 10, 3) := by decide +kernel
theorem dX10_shuts_24 : decode cX10_shuts 24 = .ok (.getfield 57, 3) := by decide +kernel
theorem dX10_shuts_27 : decode cX10_shuts 27 = .ok (.invokevirtual 134, 3) := by decide +kernel
theorem dX10_shuts_30 : decode cX10_shuts 30 = .ok (.aload_n 0, 1) := by decide +kernel
theorem dX10_shuts_31 : decode cX10_shuts 31 = .ok (.getfield 10, 3) := by decide +kernel
theorem dX10_shuts_34 : decode cX10_shuts 34 = .ok (.getfield 57, 3) := by decide +kernel
theorem dX10_shuts_37 : decode cX10_shuts 37 = .ok (.iload_n 1, 1) := by decide +kernel
theorem dX10_shuts_38 : decode cX10_shuts 38 = .ok (.invokevirtual 154, 3) := by decide +kernel
theorem dX10_shuts_41 : decode cX10_shuts 41 = .ok (.aload_n 0, 1) := by decide +kernel
theorem dX10_shuts_42 : decode cX10_shuts 42 = .ok (.getfield 10, 3) := by decide +kernel
theorem dX10_shuts_45 : decode cX10_shuts 45 = .ok (.getfield 57, 3) := by decide +kernel
theorem dX10_shuts_48 : decode cX10_shuts 48 = .ok (.iload_n 1, 1) := by decide +kernel
theorem dX10_shuts_49 : decode cX10_shuts 49 = .ok (.invokevirtual 157, 3) := by decide +kernel
theorem dX10_shuts_52 : decode cX10_shuts 52 = .ok (.ireturn, 1) := by decide +kernel
set_option maxRecDepth 20000 in
theorem ggX10_undo_X10_no : GoodIn wsX10_undo wsX10_no := goodIn_r _ [10, 11, 26, 27, 28, 29, 30, 31, 32, 33, 34, 35, 36, 37, 38] rfl (by decide +kernel)
set_option maxRecDepth 20000 in
theorem gX10_undo_X10_no : GoodIn wsX10_undo (wsV RX10 161 RX10 yX10_no wsX10_no) := goodIn_app (goodIn_of _ (by decide +kernel)) ggX10_undo_X10_no
set_option maxRecDepth 20000 in
theorem ggX10_undo_X4_bringBack : GoodIn wsX10_undo wsX4_bringBack := goodIn_r _ [16, 17, 18, 19, 20, 21, 22, 23, 24, 25, 44, 45, 46, 47, 48, 49, 50, 51, 52, 53, 54, 55, 56, 57] rfl (by decide +kernel)
set_option maxRecDepth 20000 in
theorem gX10_undo_X4_bringBack : GoodIn wsX10_undo (wsV RX10 164 RX4 yX4_bringBack wsX4_bringBack) := goodIn_app (goodIn_of _ (by decide +kernel)) ggX10_undo_X4_bringBack
theorem dX10_undo_0 : decode cX10_undo 0 = .ok (.aload_n 0, 1) := by decide +kernel
theorem dX10_undo_1 : decode cX10_undo 1 = .ok (.getfield 10, 3) := by decide +kernel
theorem dX10_undo_4 : decode cX10_undo 4 = .ok (.getfield 81, 3) := by decide +kernel
theorem dX10_undo_7 : decode cX10_undo 7 = .ok (.getfield 85, 3) := by decide +kernel
theorem dX10_undo_10 : decode cX10_undo 10 = .ok (.ifCond .ne 8, 3) := by decide +kernel
theorem dX10_undo_13 : decode cX10_undo 13 = .ok (.aload_n 0, 1) := by decide +kernel
theorem dX10_undo_14 : decode cX10_undo 14 = .ok (.invokevirtual 161, 3) := by decide +kernel
theorem dX10_undo_17 : decode cX10_undo 17 = .ok (.ireturn, 1) := by decide +kernel
theorem dX10_undo_18 : decode cX10_undo 18 = .ok (.aload_n 0, 1) := by decide +kernel
theorem dX10_undo_19 : decode cX10_undo 19 = .ok (.getfield 10, 3) := by decide +kernel
theorem dX10_undo_22 : decode cX10_undo 22 = .ok (.getfield 81, 3) := by decide +kernel
theorem dX10_undo_25 : decode cX10_undo 25 = .ok (.aload_n 0, 1) := by decide +kernel
theorem dX10_undo_26 : decode cX10_undo 26 = .ok (.getfield 10, 3) := by decide +kernel
theorem dX10_undo_29 : decode cX10_undo 29 = .ok (.getfield 57, 3) := by decide +kernel
theorem dX10_undo_32 : decode cX10_undo 32 = .ok (.invokevirtual 164, 3) := by decide +kernel
theorem dX10_undo_35 : decode cX10_undo 35 = .ok (.aload_n 0, 1) := by decide +kernel
theorem dX10_undo_36 : decode cX10_undo 36 = .ok (.getfield 10, 3) := by decide +kernel
theorem dX10_undo_39 : decode cX10_undo 39 = .ok (.getfield 57, 3) := by decide +kernel
theorem dX10_undo_42 : decode cX10_undo 42 = .ok (.getfield 137, 3) := by decide +kernel
theorem dX10_undo_45 : decode cX10_undo 45 = .ok (.ireturn, 1) := by decide +kernel
set_option maxRecDepth 20000 in
theorem ggX10_of_X10_isGlove : GoodIn wsX10_of wsX10_isGlove := goodIn_r _ [10, 1, 2, 11, 12, 13, 9, 14, 38, 39, 40, 41, 42, 43, 44, 45, 46, 47, 48, 49, 50, 51, 52, 53, 54, 55, 56, 57, 58, 59, 60, 61, 62, 63, 64, 65, 66, 67] rfl (by decide +kernel)
set_option maxRecDepth 20000 in
theorem gX10_of_X10_isGlove : GoodIn wsX10_of (wsV RX10 167 RX10 yX10_isGlove wsX10_isGlove) := goodIn_app (goodIn_of _ (by decide +kernel)) ggX10_of_X10_isGlove
set_option maxRecDepth 20000 in
theorem ggX10_of_X10_bad : GoodIn wsX10_of wsX10_bad := goodIn_r _ [18, 19, 38, 39, 40, 41, 42, 43, 44, 45, 46, 47, 48, 49, 50] rfl (by decide +kernel)
set_option maxRecDepth 20000 in
theorem gX10_of_X10_bad : GoodIn wsX10_of (wsV RX10 73 RX10 yX10_bad wsX10_bad) := goodIn_app (goodIn_of _ (by decide +kernel)) ggX10_of_X10_bad
set_option maxRecDepth 20000 in
theorem ggX10_of_X8_waits : GoodIn wsX10_of wsX8_waits := goodIn_r _ [24, 25, 26, 56, 57, 58, 59, 60, 61, 62, 63, 64, 65, 66, 67] rfl (by decide +kernel)
set_option maxRecDepth 20000 in
theorem gX10_of_X8_waits : GoodIn wsX10_of (wsV RX10 179 RX8 yX8_waits wsX8_waits) := goodIn_app (goodIn_of _ (by decide +kernel)) ggX10_of_X8_waits
set_option maxRecDepth 20000 in
theorem ggX10_of_X8_goesNow : GoodIn wsX10_of wsX8_goesNow := goodIn_r _ [30, 31, 32, 33, 34, 35, 36, 37, 56, 57, 58, 59, 60, 61, 62, 63, 64, 65, 66, 67] rfl (by decide +kernel)
set_option maxRecDepth 20000 in
theorem gX10_of_X8_goesNow : GoodIn wsX10_of (wsV RX10 182 RX8 yX8_goesNow wsX8_goesNow) := goodIn_app (goodIn_of _ (by decide +kernel)) ggX10_of_X8_goesNow
theorem dX10_of_0 : decode cX10_of 0 = .ok (.aload_n 0, 1) := by decide +kernel
theorem dX10_of_1 : decode cX10_of 1 = .ok (.iload_n 1, 1) := by decide +kernel
theorem dX10_of_2 : decode cX10_of 2 = .ok (.invokevirtual 167, 3) := by decide +kernel
theorem dX10_of_5 : decode cX10_of 5 = .ok (.ifCond .ne 8, 3) := by decide +kernel
theorem dX10_of_8 : decode cX10_of 8 = .ok (.aload_n 0, 1) := by decide +kernel
theorem dX10_of_9 : decode cX10_of 9 = .ok (.invokevirtual 73, 3) := by decide +kernel
theorem dX10_of_12 : decode cX10_of 12 = .ok (.ireturn, 1) := by decide +kernel
theorem dX10_of_13 : decode cX10_of 13 = .ok (.aload_n 0, 1) := by decide +kernel
theorem dX10_of_14 : decode cX10_of 14 = .ok (.getfield 10, 3) := by decide +kernel
theorem dX10_of_17 : decode cX10_of 17 = .ok (.getfield 57, 3) := by decide +kernel
theorem dX10_of_20 : decode cX10_of 20 = .ok (.astore_n 3, 1) := by decide +kernel
theorem dX10_of_21 : decode cX10_of 21 = .ok (.iload_n 2, 1) := by decide +kernel
theorem dX10_of_22 : decode cX10_of 22 = .ok (.tableswitch 75 0 4 #[34, 41, 48, 55, 69], 34) := by decide +kernel
theorem dX10_of_56 : decode cX10_of 56 = .ok (.aload_n 3, 1) := by decide +kernel
theorem dX10_of_57 : decode cX10_of 57 = .ok (.getfield 170, 3) := by decide +kernel
theorem dX10_of_60 : decode cX10_of 60 = .ok (.iload_n 1, 1) := by decide +kernel
theorem dX10_of_61 : decode cX10_of 61 = .ok (.iaload, 1) := by decide +kernel
theorem dX10_of_62 : decode cX10_of 62 = .ok (.ireturn, 1) := by decide +kernel
theorem dX10_of_63 : decode cX10_of 63 = .ok (.aload_n 3, 1) := by decide +kernel
theorem dX10_of_64 : decode cX10_of 64 = .ok (.getfield 173, 3) := by decide +kernel
theorem dX10_of_67 : decode cX10_of 67 = .ok (.iload_n 1, 1) := by decide +kernel
theorem dX10_of_68 : decode cX10_of 68 = .ok (.iaload, 1) := by decide +kernel
theorem dX10_of_69 : decode cX10_of 69 = .ok (.ireturn, 1) := by decide +kernel
theorem dX10_of_70 : decode cX10_of 70 = .ok (.aload_n 3, 1) := by decide +kernel
theorem dX10_of_71 : decode cX10_of 71 = .ok (.getfield 176, 3) := by decide +kernel
theorem dX10_of_74 : decode cX10_of 74 = .ok (.iload_n 1, 1) := by decide +kernel
theorem dX10_of_75 : decode cX10_of 75 = .ok (.iaload, 1) := by decide +kernel
theorem dX10_of_76 : decode cX10_of 76 = .ok (.ireturn, 1) := by decide +kernel
theorem dX10_of_77 : decode cX10_of 77 = .ok (.aload_n 3, 1) := by decide +kernel
theorem dX10_of_78 : decode cX10_of 78 = .ok (.iload_n 1, 1) := by decide +kernel
theorem dX10_of_79 : decode cX10_of 79 = .ok (.invokevirtual 179, 3) := by decide +kernel
theorem dX10_of_82 : decode cX10_of 82 = .ok (.ifCond .eq 7, 3) := by decide +kernel
theorem dX10_of_85 : decode cX10_of 85 = .ok (.iconst 1, 1) := by decide +kernel
theorem dX10_of_86 : decode cX10_of 86 = .ok (.goto 4, 3) := by decide +kernel
theorem dX10_of_89 : decode cX10_of 89 = .ok (.iconst 0, 1) := by decide +kernel
theorem dX10_of_90 : decode cX10_of 90 = .ok (.ireturn, 1) := by decide +kernel
theorem dX10_of_91 : decode cX10_of 91 = .ok (.aload_n 3, 1) := by decide +kernel
theorem dX10_of_92 : decode cX10_of 92 = .ok (.iload_n 1, 1) := by decide +kernel
theorem dX10_of_93 : decode cX10_of 93 = .ok (.invokevirtual 182, 3) := by decide +kernel
theorem dX10_of_96 : decode cX10_of 96 = .ok (.ireturn, 1) := by decide +kernel
theorem dX10_of_97 : decode cX10_of 97 = .ok (.aload_n 0, 1) := by decide +kernel
theorem dX10_of_98 : decode cX10_of 98 = .ok (.invokevirtual 73, 3) := by decide +kernel
theorem dX10_of_101 : decode cX10_of 101 = .ok (.ireturn, 1) := by decide +kernel
set_option maxRecDepth 20000 in
theorem ggX10_about_X10_isCrossing : GoodIn wsX10_about wsX10_isCrossing := goodIn_r _ [9, 1, 2, 10, 11, 12, 8, 13, 43, 44, 45, 46, 47, 48, 49, 50, 51, 52, 53, 54, 55, 56, 57, 58, 59, 60, 61, 62, 63, 64, 65, 66, 67, 68, 69, 70, 71, 72] rfl (by decide +kernel)
set_option maxRecDepth 20000 in
theorem gX10_about_X10_isCrossing : GoodIn wsX10_about (wsV RX10 151 RX10 yX10_isCrossing wsX10_isCrossing) := goodIn_app (goodIn_of _ (by decide +kernel)) ggX10_about_X10_isCrossing
set_option maxRecDepth 20000 in
theorem ggX10_about_X10_bad : GoodIn wsX10_about wsX10_bad := goodIn_r _ [17, 18, 43, 44, 45, 46, 47, 48, 49, 50, 51, 52, 53, 54, 55] rfl (by decide +kernel)
set_option maxRecDepth 20000 in
theorem gX10_about_X10_bad : GoodIn wsX10_about (wsV RX10 73 RX10 yX10_bad wsX10_bad) := goodIn_app (goodIn_of _ (by decide +kernel)) ggX10_about_X10_bad
set_option maxRecDepth 20000 in
theorem ggX10_about_X8_shutBit : GoodIn wsX10_about wsX8_shutBit := goodIn_r _ [23, 24, 61, 62, 63, 64, 65, 66, 67, 68, 69, 70, 71, 72] rfl (by decide +kernel)
set_option maxRecDepth 20000 in
theorem gX10_about_X8_shutBit : GoodIn wsX10_about (wsV RX10 157 RX8 yX8_shutBit wsX8_shutBit) := goodIn_app (goodIn_of _ (by decide +kernel)) ggX10_about_X8_shutBit
set_option maxRecDepth 20000 in
theorem ggX10_about_X8_waitingBehind : GoodIn wsX10_about wsX8_waitingBehind := goodIn_r _ [28, 29, 30, 31, 61, 62, 63, 64, 65, 66, 67, 68, 69, 70, 71, 72] rfl (by decide +kernel)
set_option maxRecDepth 20000 in
theorem gX10_about_X8_waitingBehind : GoodIn wsX10_about (wsV RX10 191 RX8 yX8_waitingBehind wsX8_waitingBehind) := goodIn_app (goodIn_of _ (by decide +kernel)) ggX10_about_X8_waitingBehind
set_option maxRecDepth 20000 in
theorem ggX10_about_X8_letsNow : GoodIn wsX10_about wsX8_letsNow := goodIn_r _ [35, 36, 37, 38, 26, 27, 22, 28, 29, 30, 31, 39, 40, 41, 42, 61, 62, 63, 64, 65, 66, 67, 68, 69, 70, 71, 72] rfl (by decide +kernel)
set_option maxRecDepth 20000 in
theorem gX10_about_X8_letsNow : GoodIn wsX10_about (wsV RX10 194 RX8 yX8_letsNow wsX8_letsNow) := goodIn_app (goodIn_of _ (by decide +kernel)) ggX10_about_X8_letsNow
theorem dX10_about_0 : decode cX10_about 0 = .ok (.aload_n 0, 1) := by decide +kernel
theorem dX10_about_1 : decode cX10_about 1 = .ok (.iload_n 1, 1) := by decide +kernel
theorem dX10_about_2 : decode cX10_about 2 = .ok (.invokevirtual 151, 3) := by decide +kernel
theorem dX10_about_5 : decode cX10_about 5 = .ok (.ifCond .ne 8, 3) := by decide +kernel
theorem dX10_about_8 : decode cX10_about 8 = .ok (.aload_n 0, 1) := by decide +kernel
theorem dX10_about_9 : decode cX10_about 9 = .ok (.invokevirtual 73, 3) := by decide +kernel
theorem dX10_about_12 : decode cX10_about 12 = .ok (.ireturn, 1) := by decide +kernel
theorem dX10_about_13 : decode cX10_about 13 = .ok (.aload_n 0, 1) := by decide +kernel
theorem dX10_about_14 : decode cX10_about 14 = .ok (.getfield 10, 3) := by decide +kernel
theorem dX10_about_17 : decode cX10_about 17 = .ok (.getfield 57, 3) := by decide +kernel
theorem dX10_about_20 : decode cX10_about 20 = .ok (.astore_n 3, 1) := by decide +kernel
theorem dX10_about_21 : decode cX10_about 21 = .ok (.iload_n 2, 1) := by decide +kernel
theorem dX10_about_22 : decode cX10_about 22 = .ok (.tableswitch 66 0 4 #[34, 41, 48, 54, 60], 34) := by decide +kernel
theorem dX10_about_56 : decode cX10_about 56 = .ok (.aload_n 3, 1) := by decide +kernel
theorem dX10_about_57 : decode cX10_about 57 = .ok (.getfield 185, 3) := by decide +kernel
theorem dX10_about_60 : decode cX10_about 60 = .ok (.iload_n 1, 1) := by decide +kernel
theorem dX10_about_61 : decode cX10_about 61 = .ok (.iaload, 1) := by decide +kernel
theorem dX10_about_62 : decode cX10_about 62 = .ok (.ireturn, 1) := by decide +kernel
theorem dX10_about_63 : decode cX10_about 63 = .ok (.aload_n 3, 1) := by decide +kernel
theorem dX10_about_64 : decode cX10_about 64 = .ok (.getfield 188, 3) := by decide +kernel
theorem dX10_about_67 : decode cX10_about 67 = .ok (.iload_n 1, 1) := by decide +kernel
theorem dX10_about_68 : decode cX10_about 68 = .ok (.iaload, 1) := by decide +kernel
theorem dX10_about_69 : decode cX10_about 69 = .ok (.ireturn, 1) := by decide +kernel
theorem dX10_about_70 : decode cX10_about 70 = .ok (.aload_n 3, 1) := by decide +kernel
theorem dX10_about_71 : decode cX10_about 71 = .ok (.iload_n 1, 1) := by decide +kernel
theorem dX10_about_72 : decode cX10_about 72 = .ok (.invokevirtual 157, 3) := by decide +kernel
theorem dX10_about_75 : decode cX10_about 75 = .ok (.ireturn, 1) := by decide +kernel
theorem dX10_about_76 : decode cX10_about 76 = .ok (.aload_n 3, 1) := by decide +kernel
theorem dX10_about_77 : decode cX10_about 77 = .ok (.iload_n 1, 1) := by decide +kernel
theorem dX10_about_78 : decode cX10_about 78 = .ok (.invokevirtual 191, 3) := by decide +kernel
theorem dX10_about_81 : decode cX10_about 81 = .ok (.ireturn, 1) := by decide +kernel
theorem dX10_about_82 : decode cX10_about 82 = .ok (.aload_n 3, 1) := by decide +kernel
theorem dX10_about_83 : decode cX10_about 83 = .ok (.iload_n 1, 1) := by decide +kernel
theorem dX10_about_84 : decode cX10_about 84 = .ok (.invokevirtual 194, 3) := by decide +kernel
theorem dX10_about_87 : decode cX10_about 87 = .ok (.ireturn, 1) := by decide +kernel
theorem dX10_about_88 : decode cX10_about 88 = .ok (.aload_n 0, 1) := by decide +kernel
theorem dX10_about_89 : decode cX10_about 89 = .ok (.invokevirtual 73, 3) := by decide +kernel
theorem dX10_about_92 : decode cX10_about 92 = .ok (.ireturn, 1) := by decide +kernel
set_option maxRecDepth 20000 in
theorem ggX10_where_X10_isGlove : GoodIn wsX10_where wsX10_isGlove := goodIn_r _ [8, 2, 3, 9, 10, 11, 7, 12, 85, 86, 87, 88, 89, 90, 91, 92, 93, 94, 95, 96, 97, 98, 99, 100, 101, 102, 103, 104, 105, 106, 107, 108, 109, 110, 111, 112, 113, 114] rfl (by decide +kernel)
set_option maxRecDepth 20000 in
theorem gX10_where_X10_isGlove : GoodIn wsX10_where (wsV RX10 167 RX10 yX10_isGlove wsX10_isGlove) := goodIn_app (goodIn_of _ (by decide +kernel)) ggX10_where_X10_isGlove
set_option maxRecDepth 20000 in
theorem ggX10_where_X10_within : GoodIn wsX10_where wsX10_within := goodIn_r _ [12] rfl (by decide +kernel)
set_option maxRecDepth 20000 in
theorem gX10_where_X10_within : GoodIn wsX10_where (va_wsS RX10 69 yX10_within wsX10_within) := goodIn_app (goodIn_of _ (by decide +kernel)) ggX10_where_X10_within
set_option maxRecDepth 20000 in
theorem ggX10_where_X10_bad : GoodIn wsX10_where wsX10_bad := goodIn_r _ [16, 17, 85, 86, 87, 88, 89, 90, 91, 92, 93, 94, 95, 96, 97] rfl (by decide +kernel)
set_option maxRecDepth 20000 in
theorem gX10_where_X10_bad : GoodIn wsX10_where (wsV RX10 73 RX10 yX10_bad wsX10_bad) := goodIn_app (goodIn_of _ (by decide +kernel)) ggX10_where_X10_bad
set_option maxRecDepth 20000 in
theorem ggX10_where_X0_spikeThen : GoodIn wsX10_where wsX0_spikeThen := goodIn_r _ [22, 23, 24, 25, 26, 27, 28, 29, 30, 31, 32, 33, 34, 35, 36, 37, 38, 39, 40, 41, 42, 43, 44, 45, 46, 47, 48, 49, 50, 51, 52, 53, 54, 55, 56, 57, 58, 59, 60, 61, 62, 63, 64, 65, 66, 67, 68, 69, 70, 71, 72, 73, 74, 75, 76, 77, 78, 79, 80, 81, 82, 83, 84, 115, 116, 117, 118, 103, 104, 105, 106, 107, 108, 109, 110, 111, 112, 113, 114] rfl (by decide +kernel)
set_option maxRecDepth 20000 in
theorem gX10_where_X0_spikeThen : GoodIn wsX10_where (wsV RX10 197 RX0 yX0_spikeThen wsX0_spikeThen) := goodIn_app (goodIn_of _ (by decide +kernel)) ggX10_where_X0_spikeThen
theorem dX10_where_0 : decode cX10_where 0 = .ok (.aload_n 0, 1) := by decide +kernel
theorem dX10_where_1 : decode cX10_where 1 = .ok (.iload_n 1, 1) := by decide +kernel
theorem dX10_where_2 : decode cX10_where 2 = .ok (.invokevirtual 167, 3) := by decide +kernel
theorem dX10_where_5 : decode cX10_where 5 = .ok (.ifCond .eq 13, 3) := by decide +kernel
theorem dX10_where_8 : decode cX10_where 8 = .ok (.iload_n 2, 1) := by decide +kernel
theorem dX10_where_9 : decode cX10_where 9 = .ok (.iconst 0, 1) := by decide +kernel
theorem dX10_where_10 : decode cX10_where 10 = .ok (.bipush 60, 2) := by decide +kernel
theorem dX10_where_12 : decode cX10_where 12 = .ok (.invokestatic 69, 3) := by decide +kernel
theorem dX10_where_15 : decode cX10_where 15 = .ok (.ifCond .ne 8, 3) := by decide +kernel
theorem dX10_where_18 : decode cX10_where 18 = .ok (.aload_n 0, 1) := by decide +kernel
theorem dX10_where_19 : decode cX10_where 19 = .ok (.invokevirtual 73, 3) := by decide +kernel
theorem dX10_where_22 : decode cX10_where 22 = .ok (.ireturn, 1) := by decide +kernel
theorem dX10_where_23 : decode cX10_where 23 = .ok (.aload_n 0, 1) := by decide +kernel
theorem dX10_where_24 : decode cX10_where 24 = .ok (.getfield 25, 3) := by decide +kernel
theorem dX10_where_27 : decode cX10_where 27 = .ok (.aload_n 0, 1) := by decide +kernel
theorem dX10_where_28 : decode cX10_where 28 = .ok (.getfield 10, 3) := by decide +kernel
theorem dX10_where_31 : decode cX10_where 31 = .ok (.getfield 57, 3) := by decide +kernel
theorem dX10_where_34 : decode cX10_where 34 = .ok (.iload_n 1, 1) := by decide +kernel
theorem dX10_where_35 : decode cX10_where 35 = .ok (.iload_n 2, 1) := by decide +kernel
theorem dX10_where_36 : decode cX10_where 36 = .ok (.invokevirtual 197, 3) := by decide +kernel
theorem dX10_where_39 : decode cX10_where 39 = .ok (.ireturn, 1) := by decide +kernel
set_option maxRecDepth 20000 in
theorem ggX10_when_X0_hoursTillAllOver : GoodIn wsX10_when wsX0_hoursTillAllOver := goodIn_r _ [8, 9, 10, 11, 12, 13, 14, 15, 16, 17, 18, 19, 20, 21, 22, 23, 24, 25, 26, 27, 28, 29, 30, 31, 32, 33, 34, 35, 36, 37, 38, 39, 40, 41, 42, 43, 44, 45, 46, 47, 48, 49, 50, 51, 52, 53, 54, 55, 56, 57, 58, 59, 60, 61, 62, 63, 64, 65, 66, 67, 68, 69, 70, 108, 109, 110, 111, 112, 113, 114, 115, 116, 117, 118, 119, 120, 121, 122, 123] rfl (by decide +kernel)
set_option maxRecDepth 20000 in
theorem gX10_when_X0_hoursTillAllOver : GoodIn wsX10_when (wsV RX10 201 RX0 yX0_hoursTillAllOver wsX0_hoursTillAllOver) := goodIn_app (goodIn_of _ (by decide +kernel)) ggX10_when_X0_hoursTillAllOver
set_option maxRecDepth 20000 in
theorem ggX10_when_X10_isGlove : GoodIn wsX10_when wsX10_isGlove := goodIn_r _ [75, 2, 3, 76, 77, 78, 74, 79, 90, 91, 92, 93, 94, 95, 96, 97, 98, 99, 100, 101, 102, 103, 104, 105, 106, 107, 112, 113, 114, 115, 116, 117, 118, 119, 120, 121, 122, 123] rfl (by decide +kernel)
set_option maxRecDepth 20000 in
theorem gX10_when_X10_isGlove : GoodIn wsX10_when (wsV RX10 167 RX10 yX10_isGlove wsX10_isGlove) := goodIn_app (goodIn_of _ (by decide +kernel)) ggX10_when_X10_isGlove
set_option maxRecDepth 20000 in
theorem ggX10_when_X0_hoursTillOver : GoodIn wsX10_when wsX0_hoursTillOver := goodIn_r _ [83, 9, 84, 11, 12, 13, 14, 15, 16, 17, 18, 19, 20, 21, 22, 23, 24, 25, 26, 27, 28, 29, 30, 35, 36, 37, 38, 39, 40, 41, 42, 43, 44, 45, 46, 47, 48, 49, 50, 51, 52, 53, 54, 55, 56, 57, 58, 59, 60, 61, 62, 63, 64, 65, 66, 67, 68, 69, 70, 108, 109, 110, 111, 112, 113, 114, 115, 116, 117, 118, 119, 120, 121, 122, 123] rfl (by decide +kernel)
set_option maxRecDepth 20000 in
theorem gX10_when_X0_hoursTillOver : GoodIn wsX10_when (wsV RX10 205 RX0 yX0_hoursTillOver wsX0_hoursTillOver) := goodIn_app (goodIn_of _ (by decide +kernel)) ggX10_when_X0_hoursTillOver
set_option maxRecDepth 20000 in
theorem ggX10_when_X10_badAsTen : GoodIn wsX10_when wsX10_badAsTen := goodIn_r _ [88, 89, 90, 91, 92, 93, 94, 95, 96, 97, 98, 99, 100, 101, 102] rfl (by decide +kernel)
set_option maxRecDepth 20000 in
theorem gX10_when_X10_badAsTen : GoodIn wsX10_when (wsV RX10 209 RX10 yX10_badAsTen wsX10_badAsTen) := goodIn_app (goodIn_of _ (by decide +kernel)) ggX10_when_X10_badAsTen
theorem dX10_when_0 : decode cX10_when 0 = .ok (.iload_n 1, 1) := by decide +kernel
theorem dX10_when_1 : decode cX10_when 1 = .ok (.iconst (-1), 1) := by decide +kernel
theorem dX10_when_2 : decode cX10_when 2 = .ok (.if_icmp .ne 18, 3) := by decide +kernel
theorem dX10_when_5 : decode cX10_when 5 = .ok (.aload_n 0, 1) := by decide +kernel
theorem dX10_when_6 : decode cX10_when 6 = .ok (.getfield 25, 3) := by decide +kernel
theorem dX10_when_9 : decode cX10_when 9 = .ok (.aload_n 0, 1) := by decide +kernel
theorem dX10_when_10 : decode cX10_when 10 = .ok (.getfield 10, 3) := by decide +kernel
theorem dX10_when_13 : decode cX10_when 13 = .ok (.getfield 57, 3) := by decide +kernel
theorem dX10_when_16 : decode cX10_when 16 = .ok (.invokevirtual 201, 3) := by decide +kernel
theorem dX10_when_19 : decode cX10_when 19 = .ok (.ireturn, 1) := by decide +kernel
theorem dX10_when_20 : decode cX10_when 20 = .ok (.aload_n 0, 1) := by decide +kernel
theorem dX10_when_21 : decode cX10_when 21 = .ok (.iload_n 1, 1) := by decide +kernel
theorem dX10_when_22 : decode cX10_when 22 = .ok (.invokevirtual 167, 3) := by decide +kernel
theorem dX10_when_25 : decode cX10_when 25 = .ok (.ifCond .eq 21, 3) := by decide +kernel
theorem dX10_when_28 : decode cX10_when 28 = .ok (.aload_n 0, 1) := by decide +kernel
theorem dX10_when_29 : decode cX10_when 29 = .ok (.getfield 25, 3) := by decide +kernel
theorem dX10_when_32 : decode cX10_when 32 = .ok (.aload_n 0, 1) := by decide +kernel
theorem dX10_when_33 : decode cX10_when 33 = .ok (.getfield 10, 3) := by decide +kernel
theorem dX10_when_36 : decode cX10_when 36 = .ok (.getfield 57, 3) := by decide +kernel
theorem dX10_when_39 : decode cX10_when 39 = .ok (.iload_n 1, 1) := by decide +kernel
theorem dX10_when_40 : decode cX10_when 40 = .ok (.invokevirtual 205, 3) := by decide +kernel
theorem dX10_when_43 : decode cX10_when 43 = .ok (.goto 7, 3) := by decide +kernel
theorem dX10_when_46 : decode cX10_when 46 = .ok (.aload_n 0, 1) := by decide +kernel
theorem dX10_when_47 : decode cX10_when 47 = .ok (.invokevirtual 209, 3) := by decide +kernel
theorem dX10_when_50 : decode cX10_when 50 = .ok (.ireturn, 1) := by decide +kernel
set_option maxRecDepth 20000 in
theorem ggX10_pairs_X10_isGlove : GoodIn wsX10_pairs wsX10_isGlove := goodIn_r _ [8, 2, 3, 9, 10, 11, 7, 12, 58, 59, 60, 61, 62, 63, 64, 65, 66, 67, 68, 69, 70, 71, 72, 73, 74, 75, 76, 77, 78, 79, 80, 81, 82, 83, 84, 85, 86, 87] rfl (by decide +kernel)
set_option maxRecDepth 20000 in
theorem gX10_pairs_X10_isGlove : GoodIn wsX10_pairs (wsV RX10 167 RX10 yX10_isGlove wsX10_isGlove) := goodIn_app (goodIn_of _ (by decide +kernel)) ggX10_pairs_X10_isGlove
set_option maxRecDepth 20000 in
theorem ggX10_pairs_X10_badAsTen : GoodIn wsX10_pairs wsX10_badAsTen := goodIn_r _ [16, 17, 58, 59, 60, 61, 62, 63, 64, 65, 66, 67, 68, 69, 70] rfl (by decide +kernel)
set_option maxRecDepth 20000 in
theorem gX10_pairs_X10_badAsTen : GoodIn wsX10_pairs (wsV RX10 209 RX10 yX10_badAsTen wsX10_badAsTen) := goodIn_app (goodIn_of _ (by decide +kernel)) ggX10_pairs_X10_badAsTen
set_option maxRecDepth 20000 in
theorem ggX10_pairs_X2_countAll : GoodIn wsX10_pairs wsX2_countAll := goodIn_r _ [22, 23, 24, 25, 26, 27, 28, 29, 30, 31, 32, 33, 34, 35, 36, 21, 37, 38, 39, 40, 41, 42, 76, 77, 78, 79, 80, 81, 82, 83, 84, 85, 86, 87, 88, 89] rfl (by decide +kernel)
set_option maxRecDepth 20000 in
theorem gX10_pairs_X2_countAll : GoodIn wsX10_pairs (wsV RX10 212 RX2 yX2_countAll wsX2_countAll) := goodIn_app (goodIn_of _ (by decide +kernel)) ggX10_pairs_X2_countAll
set_option maxRecDepth 20000 in
theorem ggX10_pairs_X2_most : GoodIn wsX10_pairs wsX2_most := goodIn_r _ [46, 25, 24, 88, 89] rfl (by decide +kernel)
set_option maxRecDepth 20000 in
theorem gX10_pairs_X2_most : GoodIn wsX10_pairs (wsV RX10 215 RX2 yX2_most wsX2_most) := goodIn_app (goodIn_of _ (by decide +kernel)) ggX10_pairs_X2_most
set_option maxRecDepth 20000 in
theorem ggX10_pairs_X2_partner : GoodIn wsX10_pairs wsX2_partner := goodIn_r _ [50, 24, 23, 51, 52, 53, 21, 54, 25, 35, 36, 37, 38, 39, 40, 41, 28, 42, 55, 56, 57, 88, 89, 76, 77, 78, 79, 80, 81, 82, 83, 84, 85, 86, 87] rfl (by decide +kernel)
set_option maxRecDepth 20000 in
theorem gX10_pairs_X2_partner : GoodIn wsX10_pairs (wsV RX10 218 RX2 yX2_partner wsX2_partner) := goodIn_app (goodIn_of _ (by decide +kernel)) ggX10_pairs_X2_partner
theorem dX10_pairs_0 : decode cX10_pairs 0 = .ok (.iload_n 1, 1) := by decide +kernel
theorem dX10_pairs_1 : decode cX10_pairs 1 = .ok (.iconst (-1), 1) := by decide +kernel
theorem dX10_pairs_2 : decode cX10_pairs 2 = .ok (.if_icmp .eq 16, 3) := by decide +kernel
theorem dX10_pairs_5 : decode cX10_pairs 5 = .ok (.aload_n 0, 1) := by decide +kernel
theorem dX10_pairs_6 : decode cX10_pairs 6 = .ok (.iload_n 1, 1) := by decide +kernel
theorem dX10_pairs_7 : decode cX10_pairs 7 = .ok (.invokevirtual 167, 3) := by decide +kernel
theorem dX10_pairs_10 : decode cX10_pairs 10 = .ok (.ifCond .ne 8, 3) := by decide +kernel
theorem dX10_pairs_13 : decode cX10_pairs 13 = .ok (.aload_n 0, 1) := by decide +kernel
theorem dX10_pairs_14 : decode cX10_pairs 14 = .ok (.invokevirtual 209, 3) := by decide +kernel
theorem dX10_pairs_17 : decode cX10_pairs 17 = .ok (.ireturn, 1) := by decide +kernel
theorem dX10_pairs_18 : decode cX10_pairs 18 = .ok (.aload_n 0, 1) := by decide +kernel
theorem dX10_pairs_19 : decode cX10_pairs 19 = .ok (.getfield 32, 3) := by decide +kernel
theorem dX10_pairs_22 : decode cX10_pairs 22 = .ok (.aload_n 0, 1) := by decide +kernel
theorem dX10_pairs_23 : decode cX10_pairs 23 = .ok (.getfield 10, 3) := by decide +kernel
theorem dX10_pairs_26 : decode cX10_pairs 26 = .ok (.getfield 57, 3) := by decide +kernel
theorem dX10_pairs_29 : decode cX10_pairs 29 = .ok (.invokevirtual 212, 3) := by decide +kernel
theorem dX10_pairs_32 : decode cX10_pairs 32 = .ok (.iload_n 1, 1) := by decide +kernel
theorem dX10_pairs_33 : decode cX10_pairs 33 = .ok (.iconst (-1), 1) := by decide +kernel
theorem dX10_pairs_34 : decode cX10_pairs 34 = .ok (.if_icmp .ne 13, 3) := by decide +kernel
theorem dX10_pairs_37 : decode cX10_pairs 37 = .ok (.aload_n 0, 1) := by decide +kernel
theorem dX10_pairs_38 : decode cX10_pairs 38 = .ok (.getfield 32, 3) := by decide +kernel
theorem dX10_pairs_41 : decode cX10_pairs 41 = .ok (.invokevirtual 215, 3) := by decide +kernel
theorem dX10_pairs_44 : decode cX10_pairs 44 = .ok (.goto 18, 3) := by decide +kernel
theorem dX10_pairs_47 : decode cX10_pairs 47 = .ok (.aload_n 0, 1) := by decide +kernel
theorem dX10_pairs_48 : decode cX10_pairs 48 = .ok (.getfield 32, 3) := by decide +kernel
theorem dX10_pairs_51 : decode cX10_pairs 51 = .ok (.aload_n 0, 1) := by decide +kernel
theorem dX10_pairs_52 : decode cX10_pairs 52 = .ok (.getfield 10, 3) := by decide +kernel
theorem dX10_pairs_55 : decode cX10_pairs 55 = .ok (.getfield 57, 3) := by decide +kernel
theorem dX10_pairs_58 : decode cX10_pairs 58 = .ok (.iload_n 1, 1) := by decide +kernel
theorem dX10_pairs_59 : decode cX10_pairs 59 = .ok (.invokevirtual 218, 3) := by decide +kernel
theorem dX10_pairs_62 : decode cX10_pairs 62 = .ok (.ireturn, 1) := by decide +kernel
set_option maxRecDepth 20000 in
theorem ggX10_heap_X10_within : GoodIn wsX10_heap wsX10_within := goodIn_r _ [10] rfl (by decide +kernel)
set_option maxRecDepth 20000 in
theorem gX10_heap_X10_within : GoodIn wsX10_heap (va_wsS RX10 69 yX10_within wsX10_within) := goodIn_app (goodIn_of _ (by decide +kernel)) ggX10_heap_X10_within
set_option maxRecDepth 20000 in
theorem ggX10_heap_X10_bad : GoodIn wsX10_heap wsX10_bad := goodIn_r _ [14, 15, 88, 89, 90, 91, 92, 93, 94, 95, 96, 97, 98, 99, 100] rfl (by decide +kernel)
set_option maxRecDepth 20000 in
theorem gX10_heap_X10_bad : GoodIn wsX10_heap (wsV RX10 73 RX10 yX10_bad wsX10_bad) := goodIn_app (goodIn_of _ (by decide +kernel)) ggX10_heap_X10_bad
set_option maxRecDepth 20000 in
theorem ggX10_heap_X0_findHeap : GoodIn wsX10_heap wsX0_findHeap := goodIn_r _ [20, 21, 22, 23, 24, 25, 26, 27, 28, 29, 30, 31, 32, 33, 34, 35, 36, 37, 38, 39, 40, 41, 42, 43, 44, 45, 46, 47, 48, 49, 50, 51, 52, 53, 19, 54, 55, 56, 57, 58, 59, 60, 61, 62, 63, 64, 65, 66, 67, 68, 69, 70, 71, 72, 73, 74, 75, 76, 77, 78, 79, 80, 81, 82, 83, 84, 85, 86, 87, 106, 107, 108, 109, 110, 111, 112, 113, 114, 115, 116, 117, 118, 119, 120, 121] rfl (by decide +kernel)
set_option maxRecDepth 20000 in
theorem gX10_heap_X0_findHeap : GoodIn wsX10_heap (wsV RX10 221 RX0 yX0_findHeap wsX0_findHeap) := goodIn_app (goodIn_of _ (by decide +kernel)) ggX10_heap_X0_findHeap
theorem dX10_heap_0 : decode cX10_heap 0 = .ok (.iload_n 1, 1) := by decide +kernel
theorem dX10_heap_1 : decode cX10_heap 1 = .ok (.iconst 0, 1) := by decide +kernel
theorem dX10_heap_2 : decode cX10_heap 2 = .ok (.iconst 2, 1) := by decide +kernel
theorem dX10_heap_3 : decode cX10_heap 3 = .ok (.invokestatic 69, 3) := by decide +kernel
theorem dX10_heap_6 : decode cX10_heap 6 = .ok (.ifCond .ne 8, 3) := by decide +kernel
theorem dX10_heap_9 : decode cX10_heap 9 = .ok (.aload_n 0, 1) := by decide +kernel
theorem dX10_heap_10 : decode cX10_heap 10 = .ok (.invokevirtual 73, 3) := by decide +kernel
theorem dX10_heap_13 : decode cX10_heap 13 = .ok (.ireturn, 1) := by decide +kernel
theorem dX10_heap_14 : decode cX10_heap 14 = .ok (.aload_n 0, 1) := by decide +kernel
theorem dX10_heap_15 : decode cX10_heap 15 = .ok (.getfield 25, 3) := by decide +kernel
theorem dX10_heap_18 : decode cX10_heap 18 = .ok (.aload_n 0, 1) := by decide +kernel
theorem dX10_heap_19 : decode cX10_heap 19 = .ok (.getfield 10, 3) := by decide +kernel
theorem dX10_heap_22 : decode cX10_heap 22 = .ok (.getfield 57, 3) := by decide +kernel
theorem dX10_heap_25 : decode cX10_heap 25 = .ok (.invokevirtual 221, 3) := by decide +kernel
theorem dX10_heap_28 : decode cX10_heap 28 = .ok (.iload_n 1, 1) := by decide +kernel
theorem dX10_heap_29 : decode cX10_heap 29 = .ok (.lookupswitch 43 #[(0, 27), (1, 35)], 27) := by decide +kernel
theorem dX10_heap_56 : decode cX10_heap 56 = .ok (.aload_n 0, 1) := by decide +kernel
theorem dX10_heap_57 : decode cX10_heap 57 = .ok (.getfield 25, 3) := by decide +kernel
theorem dX10_heap_60 : decode cX10_heap 60 = .ok (.getfield 224, 3) := by decide +kernel
theorem dX10_heap_63 : decode cX10_heap 63 = .ok (.ireturn, 1) := by decide +kernel
theorem dX10_heap_64 : decode cX10_heap 64 = .ok (.aload_n 0, 1) := by decide +kernel
theorem dX10_heap_65 : decode cX10_heap 65 = .ok (.getfield 25, 3) := by decide +kernel
theorem dX10_heap_68 : decode cX10_heap 68 = .ok (.getfield 227, 3) := by decide +kernel
theorem dX10_heap_71 : decode cX10_heap 71 = .ok (.ireturn, 1) := by decide +kernel
theorem dX10_heap_72 : decode cX10_heap 72 = .ok (.aload_n 0, 1) := by decide +kernel
theorem dX10_heap_73 : decode cX10_heap 73 = .ok (.getfield 25, 3) := by decide +kernel
theorem dX10_heap_76 : decode cX10_heap 76 = .ok (.getfield 230, 3) := by decide +kernel
theorem dX10_heap_79 : decode cX10_heap 79 = .ok (.ireturn, 1) := by decide +kernel
set_option maxRecDepth 20000 in
theorem ggX10_hold_X10_within : GoodIn wsX10_hold wsX10_within := goodIn_r _ [7] rfl (by decide +kernel)
set_option maxRecDepth 20000 in
theorem gX10_hold_X10_within : GoodIn wsX10_hold (va_wsS RX10 69 yX10_within wsX10_within) := goodIn_app (goodIn_of _ (by decide +kernel)) ggX10_hold_X10_within
set_option maxRecDepth 20000 in
theorem ggX10_hold_X0_fewestThatHold : GoodIn wsX10_hold wsX0_fewestThatHold := goodIn_r _ [12, 13, 14, 15, 16, 17, 18, 19, 20, 21, 22, 23, 11, 24, 25, 26, 27, 28, 29, 30, 31, 32, 33, 34, 35, 36, 37, 38, 39, 40, 41, 42, 43, 44, 45, 46, 47, 48, 49, 50, 51, 52, 53, 54, 55, 56, 57, 58, 59, 60, 61, 62, 63, 64, 65, 66, 67, 68, 69, 70, 71, 72, 73, 74, 75, 76, 77, 78, 79, 80, 81, 82, 83, 84, 85, 86, 87, 88, 89, 90, 114, 115, 116, 117, 118, 119, 120, 121, 122, 123, 124, 125, 126, 127, 128, 129] rfl (by decide +kernel)
set_option maxRecDepth 20000 in
theorem gX10_hold_X0_fewestThatHold : GoodIn wsX10_hold (wsV RX10 233 RX0 yX0_fewestThatHold wsX0_fewestThatHold) := goodIn_app (goodIn_of _ (by decide +kernel)) ggX10_hold_X0_fewestThatHold
set_option maxRecDepth 20000 in
theorem ggX10_hold_X10_bad : GoodIn wsX10_hold wsX10_bad := goodIn_r _ [94, 95, 96, 97, 98, 99, 100, 101, 102, 103, 104, 105, 106, 107, 108] rfl (by decide +kernel)
set_option maxRecDepth 20000 in
theorem gX10_hold_X10_bad : GoodIn wsX10_hold (wsV RX10 73 RX10 yX10_bad wsX10_bad) := goodIn_app (goodIn_of _ (by decide +kernel)) ggX10_hold_X10_bad
theorem dX10_hold_0 : decode cX10_hold 0 = .ok (.iload_n 1, 1) := by decide +kernel
theorem dX10_hold_1 : decode cX10_hold 1 = .ok (.iconst 1, 1) := by decide +kernel
theorem dX10_hold_2 : decode cX10_hold 2 = .ok (.bipush 60, 2) := by decide +kernel
theorem dX10_hold_4 : decode cX10_hold 4 = .ok (.invokestatic 69, 3) := by decide +kernel
theorem dX10_hold_7 : decode cX10_hold 7 = .ok (.ifCond .eq 21, 3) := by decide +kernel
theorem dX10_hold_10 : decode cX10_hold 10 = .ok (.aload_n 0, 1) := by decide +kernel
theorem dX10_hold_11 : decode cX10_hold 11 = .ok (.getfield 25, 3) := by decide +kernel
theorem dX10_hold_14 : decode cX10_hold 14 = .ok (.aload_n 0, 1) := by decide +kernel
theorem dX10_hold_15 : decode cX10_hold 15 = .ok (.getfield 10, 3) := by decide +kernel
theorem dX10_hold_18 : decode cX10_hold 18 = .ok (.getfield 57, 3) := by decide +kernel
theorem dX10_hold_21 : decode cX10_hold 21 = .ok (.iload_n 1, 1) := by decide +kernel
theorem dX10_hold_22 : decode cX10_hold 22 = .ok (.invokevirtual 233, 3) := by decide +kernel
theorem dX10_hold_25 : decode cX10_hold 25 = .ok (.goto 7, 3) := by decide +kernel
theorem dX10_hold_28 : decode cX10_hold 28 = .ok (.aload_n 0, 1) := by decide +kernel
theorem dX10_hold_29 : decode cX10_hold 29 = .ok (.invokevirtual 73, 3) := by decide +kernel
theorem dX10_hold_32 : decode cX10_hold 32 = .ok (.ireturn, 1) := by decide +kernel
set_option maxRecDepth 20000 in
theorem ggX10_drop_X10_isKind : GoodIn wsX10_drop wsX10_isKind := goodIn_r _ [7, 8, 9, 6, 10] rfl (by decide +kernel)
set_option maxRecDepth 20000 in
theorem gX10_drop_X10_isKind : GoodIn wsX10_drop (va_wsS RX10 90 yX10_isKind wsX10_isKind) := goodIn_app (goodIn_of _ (by decide +kernel)) ggX10_drop_X10_isKind
set_option maxRecDepth 20000 in
theorem ggX10_drop_X10_isGlove : GoodIn wsX10_drop wsX10_isGlove := goodIn_r _ [14, 2, 3, 15, 8, 9, 6, 10, 93, 94, 95, 96, 97, 98, 99, 100, 101, 102, 103, 104, 105, 106, 107, 108, 109, 110, 111, 112, 113, 114, 115, 116, 117, 118, 119, 120, 121, 122] rfl (by decide +kernel)
set_option maxRecDepth 20000 in
theorem gX10_drop_X10_isGlove : GoodIn wsX10_drop (wsV RX10 167 RX10 yX10_isGlove wsX10_isGlove) := goodIn_app (goodIn_of _ (by decide +kernel)) ggX10_drop_X10_isGlove
set_option maxRecDepth 20000 in
theorem ggX10_drop_X10_within : GoodIn wsX10_drop wsX10_within := goodIn_r _ [10] rfl (by decide +kernel)
set_option maxRecDepth 20000 in
theorem gX10_drop_X10_within : GoodIn wsX10_drop (va_wsS RX10 69 yX10_within wsX10_within) := goodIn_app (goodIn_of _ (by decide +kernel)) ggX10_drop_X10_within
set_option maxRecDepth 20000 in
theorem ggX10_drop_X10_bad : GoodIn wsX10_drop wsX10_bad := goodIn_r _ [19, 20, 93, 94, 95, 96, 97, 98, 99, 100, 101, 102, 103, 104, 105] rfl (by decide +kernel)
set_option maxRecDepth 20000 in
theorem gX10_drop_X10_bad : GoodIn wsX10_drop (wsV RX10 73 RX10 yX10_bad wsX10_bad) := goodIn_app (goodIn_of _ (by decide +kernel)) ggX10_drop_X10_bad
set_option maxRecDepth 20000 in
theorem ggX10_drop_X0_meetings : GoodIn wsX10_drop wsX0_meetings := goodIn_r _ [25, 26, 27, 28, 29, 30, 31, 32, 33, 34, 35, 36, 37, 38, 39, 40, 41, 42, 43, 44, 45, 46, 47, 48, 49, 50, 51, 52, 53, 54, 55, 56, 57, 58, 59, 60, 61, 62, 63, 64, 65, 66, 67, 68, 69, 70, 71, 72, 73, 74, 75, 76, 77, 78, 79, 80, 81, 82, 83, 84, 85, 86, 87, 88, 89, 90, 91, 92, 123, 124, 125, 126, 111, 112, 113, 114, 115, 116, 117, 118, 119, 120, 121, 122] rfl (by decide +kernel)
set_option maxRecDepth 20000 in
theorem gX10_drop_X0_meetings : GoodIn wsX10_drop (wsV RX10 236 RX0 yX0_meetings wsX0_meetings) := goodIn_app (goodIn_of _ (by decide +kernel)) ggX10_drop_X0_meetings
theorem dX10_drop_0 : decode cX10_drop 0 = .ok (.iload_n 1, 1) := by decide +kernel
theorem dX10_drop_1 : decode cX10_drop 1 = .ok (.invokestatic 90, 3) := by decide +kernel
theorem dX10_drop_4 : decode cX10_drop 4 = .ok (.ifCond .eq 21, 3) := by decide +kernel
theorem dX10_drop_7 : decode cX10_drop 7 = .ok (.aload_n 0, 1) := by decide +kernel
theorem dX10_drop_8 : decode cX10_drop 8 = .ok (.iload_n 2, 1) := by decide +kernel
theorem dX10_drop_9 : decode cX10_drop 9 = .ok (.invokevirtual 167, 3) := by decide +kernel
theorem dX10_drop_12 : decode cX10_drop 12 = .ok (.ifCond .eq 13, 3) := by decide +kernel
theorem dX10_drop_15 : decode cX10_drop 15 = .ok (.iload_n 3, 1) := by decide +kernel
theorem dX10_drop_16 : decode cX10_drop 16 = .ok (.iconst 1, 1) := by decide +kernel
theorem dX10_drop_17 : decode cX10_drop 17 = .ok (.bipush 30, 2) := by decide +kernel
theorem dX10_drop_19 : decode cX10_drop 19 = .ok (.invokestatic 69, 3) := by decide +kernel
theorem dX10_drop_22 : decode cX10_drop 22 = .ok (.ifCond .ne 8, 3) := by decide +kernel
theorem dX10_drop_25 : decode cX10_drop 25 = .ok (.aload_n 0, 1) := by decide +kernel
theorem dX10_drop_26 : decode cX10_drop 26 = .ok (.invokevirtual 73, 3) := by decide +kernel
theorem dX10_drop_29 : decode cX10_drop 29 = .ok (.ireturn, 1) := by decide +kernel
theorem dX10_drop_30 : decode cX10_drop 30 = .ok (.aload_n 0, 1) := by decide +kernel
theorem dX10_drop_31 : decode cX10_drop 31 = .ok (.getfield 25, 3) := by decide +kernel
theorem dX10_drop_34 : decode cX10_drop 34 = .ok (.aload_n 0, 1) := by decide +kernel
theorem dX10_drop_35 : decode cX10_drop 35 = .ok (.getfield 10, 3) := by decide +kernel
theorem dX10_drop_38 : decode cX10_drop 38 = .ok (.getfield 57, 3) := by decide +kernel
theorem dX10_drop_41 : decode cX10_drop 41 = .ok (.iload_n 1, 1) := by decide +kernel
theorem dX10_drop_42 : decode cX10_drop 42 = .ok (.iload_n 2, 1) := by decide +kernel
theorem dX10_drop_43 : decode cX10_drop 43 = .ok (.iload_n 3, 1) := by decide +kernel
theorem dX10_drop_44 : decode cX10_drop 44 = .ok (.invokevirtual 236, 3) := by decide +kernel
theorem dX10_drop_47 : decode cX10_drop 47 = .ok (.ireturn, 1) := by decide +kernel
set_option maxRecDepth 20000 in
theorem ggX10_seen_X10_within : GoodIn wsX10_seen wsX10_within := goodIn_r _ [6] rfl (by decide +kernel)
set_option maxRecDepth 20000 in
theorem gX10_seen_X10_within : GoodIn wsX10_seen (va_wsS RX10 69 yX10_within wsX10_within) := goodIn_app (goodIn_of _ (by decide +kernel)) ggX10_seen_X10_within
set_option maxRecDepth 20000 in
theorem ggX10_seen_X10_bad : GoodIn wsX10_seen wsX10_bad := goodIn_r _ [10, 11, 30, 31, 32, 33, 34, 35, 36, 37, 38, 39, 40, 41, 42] rfl (by decide +kernel)
set_option maxRecDepth 20000 in
theorem gX10_seen_X10_bad : GoodIn wsX10_seen (wsV RX10 73 RX10 yX10_bad wsX10_bad) := goodIn_app (goodIn_of _ (by decide +kernel)) ggX10_seen_X10_bad
set_option maxRecDepth 20000 in
theorem ggX10_seen_X6_add : GoodIn wsX10_seen wsX6_add := goodIn_r _ [16, 17, 18, 19, 48, 49, 50, 51] rfl (by decide +kernel)
set_option maxRecDepth 20000 in
theorem gX10_seen_X6_add : GoodIn wsX10_seen (wsV RX10 244 RX6 yX6_add wsX6_add) := goodIn_app (goodIn_of _ (by decide +kernel)) ggX10_seen_X6_add
set_option maxRecDepth 20000 in
theorem ggX10_seen_X10_told : GoodIn wsX10_seen wsX10_told := goodIn_r _ [23, 24, 25, 26, 27, 5, 28, 29, 48, 49, 50, 51, 30, 31, 32, 33, 34, 35, 36, 37, 38, 39, 40, 41, 42] rfl (by decide +kernel)
set_option maxRecDepth 20000 in
theorem gX10_seen_X10_told : GoodIn wsX10_seen (wsV RX10 250 RX10 yX10_told wsX10_told) := goodIn_app (goodIn_of _ (by decide +kernel)) ggX10_seen_X10_told
theorem dX10_seen_0 : decode cX10_seen 0 = .ok (.iload_n 1, 1) := by decide +kernel
theorem dX10_seen_1 : decode cX10_seen 1 = .ok (.iconst 0, 1) := by decide +kernel
theorem dX10_seen_2 : decode cX10_seen 2 = .ok (.bipush 60, 2) := by decide +kernel
theorem dX10_seen_4 : decode cX10_seen 4 = .ok (.invokestatic 69, 3) := by decide +kernel
theorem dX10_seen_7 : decode cX10_seen 7 = .ok (.ifCond .eq 13, 3) := by decide +kernel
theorem dX10_seen_10 : decode cX10_seen 10 = .ok (.iload_n 2, 1) := by decide +kernel
theorem dX10_seen_11 : decode cX10_seen 11 = .ok (.iconst 0, 1) := by decide +kernel
theorem dX10_seen_12 : decode cX10_seen 12 = .ok (.bipush 23, 2) := by decide +kernel
theorem dX10_seen_14 : decode cX10_seen 14 = .ok (.invokestatic 69, 3) := by decide +kernel
theorem dX10_seen_17 : decode cX10_seen 17 = .ok (.ifCond .ne 8, 3) := by decide +kernel
theorem dX10_seen_20 : decode cX10_seen 20 = .ok (.aload_n 0, 1) := by decide +kernel
theorem dX10_seen_21 : decode cX10_seen 21 = .ok (.invokevirtual 73, 3) := by decide +kernel
theorem dX10_seen_24 : decode cX10_seen 24 = .ok (.ireturn, 1) := by decide +kernel
theorem dX10_seen_25 : decode cX10_seen 25 = .ok (.aload_n 0, 1) := by decide +kernel
theorem dX10_seen_26 : decode cX10_seen 26 = .ok (.aload_n 0, 1) := by decide +kernel
theorem dX10_seen_27 : decode cX10_seen 27 = .ok (.getfield 10, 3) := by decide +kernel
theorem dX10_seen_30 : decode cX10_seen 30 = .ok (.getfield 240, 3) := by decide +kernel
theorem dX10_seen_33 : decode cX10_seen 33 = .ok (.aload_n 0, 1) := by decide +kernel
theorem dX10_seen_34 : decode cX10_seen 34 = .ok (.getfield 10, 3) := by decide +kernel
theorem dX10_seen_37 : decode cX10_seen 37 = .ok (.getfield 240, 3) := by decide +kernel
theorem dX10_seen_40 : decode cX10_seen 40 = .ok (.iload_n 1, 1) := by decide +kernel
theorem dX10_seen_41 : decode cX10_seen 41 = .ok (.iload_n 2, 1) := by decide +kernel
theorem dX10_seen_42 : decode cX10_seen 42 = .ok (.iconst 0, 1) := by decide +kernel
theorem dX10_seen_43 : decode cX10_seen 43 = .ok (.iconst 0, 1) := by decide +kernel
theorem dX10_seen_44 : decode cX10_seen 44 = .ok (.invokevirtual 244, 3) := by decide +kernel
theorem dX10_seen_47 : decode cX10_seen 47 = .ok (.invokevirtual 250, 3) := by decide +kernel
theorem dX10_seen_50 : decode cX10_seen 50 = .ok (.ireturn, 1) := by decide +kernel
set_option maxRecDepth 20000 in
theorem ggX10_which_X0_seenThere : GoodIn wsX10_which wsX0_seenThere := goodIn_r _ [9, 10, 11, 12, 13, 14, 15, 16, 17, 18, 19, 20, 21, 22, 23, 24, 25, 26, 27, 28, 29, 30, 31, 32, 33, 34, 35, 36, 37, 38, 39, 40, 41, 8, 42, 43, 44, 45, 46, 47, 48, 49, 50, 51, 52, 53, 54, 55, 56, 57, 58, 59, 60, 61, 62, 63, 64, 65, 66, 67, 68, 69, 70, 71, 72, 73, 74, 75, 76, 77, 78, 79, 98, 99, 100, 101, 102, 103, 104, 105, 106, 107, 108, 109, 110, 111, 112, 113, 114, 115, 116, 117] rfl (by decide +kernel)
set_option maxRecDepth 20000 in
theorem gX10_which_X0_seenThere : GoodIn wsX10_which (wsV RX10 254 RX0 yX0_seenThere wsX0_seenThere) := goodIn_app (goodIn_of _ (by decide +kernel)) ggX10_which_X0_seenThere
theorem dX10_which_0 : decode cX10_which 0 = .ok (.aload_n 0, 1) := by decide +kernel
theorem dX10_which_1 : decode cX10_which 1 = .ok (.getfield 25, 3) := by decide +kernel
theorem dX10_which_4 : decode cX10_which 4 = .ok (.aload_n 0, 1) := by decide +kernel
theorem dX10_which_5 : decode cX10_which 5 = .ok (.getfield 10, 3) := by decide +kernel
theorem dX10_which_8 : decode cX10_which 8 = .ok (.getfield 57, 3) := by decide +kernel
theorem dX10_which_11 : decode cX10_which 11 = .ok (.aload_n 0, 1) := by decide +kernel
theorem dX10_which_12 : decode cX10_which 12 = .ok (.getfield 10, 3) := by decide +kernel
theorem dX10_which_15 : decode cX10_which 15 = .ok (.getfield 240, 3) := by decide +kernel
theorem dX10_which_18 : decode cX10_which 18 = .ok (.invokevirtual 254, 3) := by decide +kernel
theorem dX10_which_21 : decode cX10_which 21 = .ok (.ireturn, 1) := by decide +kernel
set_option maxRecDepth 20000 in
theorem ggX10_tell_X10_which : GoodIn wsX10_tell wsX10_which := goodIn_r _ [9, 1, 2, 3, 10, 11, 12, 13, 14, 15, 16, 17, 18, 19, 20, 21, 22, 23, 24, 25, 26, 27, 28, 29, 30, 31, 32, 33, 34, 35, 36, 37, 38, 39, 40, 41, 42, 43, 44, 45, 46, 47, 48, 49, 50, 51, 52, 53, 54, 55, 56, 57, 58, 59, 60, 61, 62, 63, 64, 65, 66, 67, 68, 69, 70, 71, 72, 73, 74, 75, 76, 77, 78, 79, 80, 81, 82, 83, 84, 85, 116, 117, 118, 119, 120, 121, 122, 123, 124, 125, 126, 127, 128, 129, 130, 131, 132, 133, 134, 135, 136, 137, 138, 139, 140, 141, 142, 143, 144, 145, 146, 147, 148, 149, 150, 151, 152, 153] rfl (by decide +kernel)
set_option maxRecDepth 20000 in
theorem gX10_tell_X10_which : GoodIn wsX10_tell (wsV RX10 258 RX10 yX10_which wsX10_which) := goodIn_app (goodIn_of _ (by decide +kernel)) ggX10_tell_X10_which
set_option maxRecDepth 20000 in
theorem ggX10_tell_X0_hoursThatPart : GoodIn wsX10_tell wsX0_hoursThatPart := goodIn_r _ [89, 17, 16, 49, 90, 19, 20, 21, 22, 23, 24, 25, 26, 27, 28, 29, 30, 31, 32, 33, 34, 35, 36, 37, 38, 91, 92, 93, 94, 95, 96, 97, 98, 99, 100, 101, 102, 103, 104, 105, 106, 107, 108, 109, 110, 111, 112, 113, 114, 115, 50, 51, 52, 53, 54, 55, 56, 57, 58, 59, 60, 61, 62, 63, 64, 65, 66, 67, 68, 69, 70, 71, 72, 73, 74, 75, 76, 77, 78, 79, 80, 81, 82, 83, 84, 85, 146, 147, 148, 149, 134, 135, 136, 137, 138, 139, 140, 141, 142, 143, 144, 145, 154, 155, 156, 157] rfl (by decide +kernel)
set_option maxRecDepth 20000 in
theorem gX10_tell_X0_hoursThatPart : GoodIn wsX10_tell (wsV RX10 261 RX0 yX0_hoursThatPart wsX0_hoursThatPart) := goodIn_app (goodIn_of _ (by decide +kernel)) ggX10_tell_X0_hoursThatPart
theorem dX10_tell_0 : decode cX10_tell 0 = .ok (.aload_n 0, 1) := by decide +kernel
theorem dX10_tell_1 : decode cX10_tell 1 = .ok (.getfield 25, 3) := by decide +kernel
theorem dX10_tell_4 : decode cX10_tell 4 = .ok (.aload_n 0, 1) := by decide +kernel
theorem dX10_tell_5 : decode cX10_tell 5 = .ok (.getfield 10, 3) := by decide +kernel
theorem dX10_tell_8 : decode cX10_tell 8 = .ok (.getfield 57, 3) := by decide +kernel
theorem dX10_tell_11 : decode cX10_tell 11 = .ok (.aload_n 0, 1) := by decide +kernel
theorem dX10_tell_12 : decode cX10_tell 12 = .ok (.invokevirtual 258, 3) := by decide +kernel
theorem dX10_tell_15 : decode cX10_tell 15 = .ok (.aload_n 0, 1) := by decide +kernel
theorem dX10_tell_16 : decode cX10_tell 16 = .ok (.getfield 39, 3) := by decide +kernel
theorem dX10_tell_19 : decode cX10_tell 19 = .ok (.invokevirtual 261, 3) := by decide +kernel
theorem dX10_tell_22 : decode cX10_tell 22 = .ok (.ireturn, 1) := by decide +kernel
set_option maxRecDepth 20000 in
theorem ggX10_note_X10_isGlove : GoodIn wsX10_note wsX10_isGlove := goodIn_r _ [7, 1, 8, 9, 10, 11, 6, 12, 39, 40, 41, 42, 43, 44, 45, 46, 47, 48, 49, 50, 51, 52, 53, 54, 55, 56, 57, 58, 59, 60, 61, 62, 63, 64, 65, 66, 67, 68] rfl (by decide +kernel)
set_option maxRecDepth 20000 in
theorem gX10_note_X10_isGlove : GoodIn wsX10_note (wsV RX10 167 RX10 yX10_isGlove wsX10_isGlove) := goodIn_app (goodIn_of _ (by decide +kernel)) ggX10_note_X10_isGlove
set_option maxRecDepth 20000 in
theorem ggX10_note_X10_within : GoodIn wsX10_note wsX10_within := goodIn_r _ [12] rfl (by decide +kernel)
set_option maxRecDepth 20000 in
theorem gX10_note_X10_within : GoodIn wsX10_note (va_wsS RX10 69 yX10_within wsX10_within) := goodIn_app (goodIn_of _ (by decide +kernel)) ggX10_note_X10_within
set_option maxRecDepth 20000 in
theorem ggX10_note_X10_isTold : GoodIn wsX10_note wsX10_isTold := goodIn_r _ [15, 10, 11, 6, 12] rfl (by decide +kernel)
set_option maxRecDepth 20000 in
theorem gX10_note_X10_isTold : GoodIn wsX10_note (va_wsS RX10 265 yX10_isTold wsX10_isTold) := goodIn_app (goodIn_of _ (by decide +kernel)) ggX10_note_X10_isTold
set_option maxRecDepth 20000 in
theorem ggX10_note_X10_bad : GoodIn wsX10_note wsX10_bad := goodIn_r _ [19, 20, 39, 40, 41, 42, 43, 44, 45, 46, 47, 48, 49, 50, 51] rfl (by decide +kernel)
set_option maxRecDepth 20000 in
theorem gX10_note_X10_bad : GoodIn wsX10_note (wsV RX10 73 RX10 yX10_bad wsX10_bad) := goodIn_app (goodIn_of _ (by decide +kernel)) ggX10_note_X10_bad
set_option maxRecDepth 20000 in
theorem ggX10_note_X6_add : GoodIn wsX10_note wsX6_add := goodIn_r _ [25, 26, 27, 28, 69, 70, 71, 72] rfl (by decide +kernel)
set_option maxRecDepth 20000 in
theorem gX10_note_X6_add : GoodIn wsX10_note (wsV RX10 244 RX6 yX6_add wsX6_add) := goodIn_app (goodIn_of _ (by decide +kernel)) ggX10_note_X6_add
set_option maxRecDepth 20000 in
theorem ggX10_note_X10_told : GoodIn wsX10_note wsX10_told := goodIn_r _ [32, 33, 34, 35, 36, 6, 37, 38, 69, 70, 71, 72, 39, 40, 41, 42, 43, 44, 45, 46, 47, 48, 49, 50, 51] rfl (by decide +kernel)
set_option maxRecDepth 20000 in
theorem gX10_note_X10_told : GoodIn wsX10_note (wsV RX10 250 RX10 yX10_told wsX10_told) := goodIn_app (goodIn_of _ (by decide +kernel)) ggX10_note_X10_told
theorem dX10_note_0 : decode cX10_note 0 = .ok (.aload_n 0, 1) := by decide +kernel
theorem dX10_note_1 : decode cX10_note 1 = .ok (.iload_n 1, 1) := by decide +kernel
theorem dX10_note_2 : decode cX10_note 2 = .ok (.invokevirtual 167, 3) := by decide +kernel
theorem dX10_note_5 : decode cX10_note 5 = .ok (.ifCond .eq 21, 3) := by decide +kernel
theorem dX10_note_8 : decode cX10_note 8 = .ok (.iload_n 3, 1) := by decide +kernel
theorem dX10_note_9 : decode cX10_note 9 = .ok (.iconst 0, 1) := by decide +kernel
theorem dX10_note_10 : decode cX10_note 10 = .ok (.iconst 4, 1) := by decide +kernel
theorem dX10_note_11 : decode cX10_note 11 = .ok (.invokestatic 69, 3) := by decide +kernel
theorem dX10_note_14 : decode cX10_note 14 = .ok (.ifCond .eq 12, 3) := by decide +kernel
theorem dX10_note_17 : decode cX10_note 17 = .ok (.iload_n 2, 1) := by decide +kernel
theorem dX10_note_18 : decode cX10_note 18 = .ok (.iload 4, 2) := by decide +kernel
theorem dX10_note_20 : decode cX10_note 20 = .ok (.invokestatic 265, 3) := by decide +kernel
theorem dX10_note_23 : decode cX10_note 23 = .ok (.ifCond .ne 8, 3) := by decide +kernel
theorem dX10_note_26 : decode cX10_note 26 = .ok (.aload_n 0, 1) := by decide +kernel
theorem dX10_note_27 : decode cX10_note 27 = .ok (.invokevirtual 73, 3) := by decide +kernel
theorem dX10_note_30 : decode cX10_note 30 = .ok (.ireturn, 1) := by decide +kernel
theorem dX10_note_31 : decode cX10_note 31 = .ok (.aload_n 0, 1) := by decide +kernel
theorem dX10_note_32 : decode cX10_note 32 = .ok (.aload_n 0, 1) := by decide +kernel
theorem dX10_note_33 : decode cX10_note 33 = .ok (.getfield 10, 3) := by decide +kernel
theorem dX10_note_36 : decode cX10_note 36 = .ok (.getfield 269, 3) := by decide +kernel
theorem dX10_note_39 : decode cX10_note 39 = .ok (.aload_n 0, 1) := by decide +kernel
theorem dX10_note_40 : decode cX10_note 40 = .ok (.getfield 10, 3) := by decide +kernel
theorem dX10_note_43 : decode cX10_note 43 = .ok (.getfield 269, 3) := by decide +kernel
theorem dX10_note_46 : decode cX10_note 46 = .ok (.iload_n 1, 1) := by decide +kernel
theorem dX10_note_47 : decode cX10_note 47 = .ok (.iload_n 2, 1) := by decide +kernel
theorem dX10_note_48 : decode cX10_note 48 = .ok (.iload_n 3, 1) := by decide +kernel
theorem dX10_note_49 : decode cX10_note 49 = .ok (.iload 4, 2) := by decide +kernel
theorem dX10_note_51 : decode cX10_note 51 = .ok (.invokevirtual 244, 3) := by decide +kernel
theorem dX10_note_54 : decode cX10_note 54 = .ok (.invokevirtual 250, 3) := by decide +kernel
theorem dX10_note_57 : decode cX10_note 57 = .ok (.ireturn, 1) := by decide +kernel
set_option maxRecDepth 20000 in
theorem ggX10_mark_X10_isCrossing : GoodIn wsX10_mark wsX10_isCrossing := goodIn_r _ [7, 1, 8, 9, 10, 11, 6, 12, 39, 40, 41, 42, 43, 44, 45, 46, 47, 48, 49, 50, 51, 52, 53, 54, 55, 56, 57, 58, 59, 60, 61, 62, 63, 64, 65, 66, 67, 68] rfl (by decide +kernel)
set_option maxRecDepth 20000 in
theorem gX10_mark_X10_isCrossing : GoodIn wsX10_mark (wsV RX10 151 RX10 yX10_isCrossing wsX10_isCrossing) := goodIn_app (goodIn_of _ (by decide +kernel)) ggX10_mark_X10_isCrossing
set_option maxRecDepth 20000 in
theorem ggX10_mark_X10_within : GoodIn wsX10_mark wsX10_within := goodIn_r _ [12] rfl (by decide +kernel)
set_option maxRecDepth 20000 in
theorem gX10_mark_X10_within : GoodIn wsX10_mark (va_wsS RX10 69 yX10_within wsX10_within) := goodIn_app (goodIn_of _ (by decide +kernel)) ggX10_mark_X10_within
set_option maxRecDepth 20000 in
theorem ggX10_mark_X10_isTold : GoodIn wsX10_mark wsX10_isTold := goodIn_r _ [15, 10, 11, 6, 12] rfl (by decide +kernel)
set_option maxRecDepth 20000 in
theorem gX10_mark_X10_isTold : GoodIn wsX10_mark (va_wsS RX10 265 yX10_isTold wsX10_isTold) := goodIn_app (goodIn_of _ (by decide +kernel)) ggX10_mark_X10_isTold
set_option maxRecDepth 20000 in
theorem ggX10_mark_X10_bad : GoodIn wsX10_mark wsX10_bad := goodIn_r _ [19, 20, 39, 40, 41, 42, 43, 44, 45, 46, 47, 48, 49, 50, 51] rfl (by decide +kernel)
set_option maxRecDepth 20000 in
theorem gX10_mark_X10_bad : GoodIn wsX10_mark (wsV RX10 73 RX10 yX10_bad wsX10_bad) := goodIn_app (goodIn_of _ (by decide +kernel)) ggX10_mark_X10_bad
set_option maxRecDepth 20000 in
theorem ggX10_mark_X6_add : GoodIn wsX10_mark wsX6_add := goodIn_r _ [25, 26, 27, 28, 69, 70, 71, 72] rfl (by decide +kernel)
set_option maxRecDepth 20000 in
theorem gX10_mark_X6_add : GoodIn wsX10_mark (wsV RX10 244 RX6 yX6_add wsX6_add) := goodIn_app (goodIn_of _ (by decide +kernel)) ggX10_mark_X6_add
set_option maxRecDepth 20000 in
theorem ggX10_mark_X10_told : GoodIn wsX10_mark wsX10_told := goodIn_r _ [32, 33, 34, 35, 36, 6, 37, 38, 69, 70, 71, 72, 39, 40, 41, 42, 43, 44, 45, 46, 47, 48, 49, 50, 51] rfl (by decide +kernel)
set_option maxRecDepth 20000 in
theorem gX10_mark_X10_told : GoodIn wsX10_mark (wsV RX10 250 RX10 yX10_told wsX10_told) := goodIn_app (goodIn_of _ (by decide +kernel)) ggX10_mark_X10_told
theorem dX10_mark_0 : decode cX10_mark 0 = .ok (.aload_n 0, 1) := by decide +kernel
theorem dX10_mark_1 : decode cX10_mark 1 = .ok (.iload_n 1, 1) := by decide +kernel
theorem dX10_mark_2 : decode cX10_mark 2 = .ok (.invokevirtual 151, 3) := by decide +kernel
theorem dX10_mark_5 : decode cX10_mark 5 = .ok (.ifCond .eq 22, 3) := by decide +kernel
theorem dX10_mark_8 : decode cX10_mark 8 = .ok (.iload_n 3, 1) := by decide +kernel
theorem dX10_mark_9 : decode cX10_mark 9 = .ok (.iconst 1, 1) := by decide +kernel
theorem dX10_mark_10 : decode cX10_mark 10 = .ok (.bipush 7, 2) := by decide +kernel
theorem dX10_mark_12 : decode cX10_mark 12 = .ok (.invokestatic 69, 3) := by decide +kernel
theorem dX10_mark_15 : decode cX10_mark 15 = .ok (.ifCond .eq 12, 3) := by decide +kernel
theorem dX10_mark_18 : decode cX10_mark 18 = .ok (.iload_n 2, 1) := by decide +kernel
theorem dX10_mark_19 : decode cX10_mark 19 = .ok (.iload 4, 2) := by decide +kernel
theorem dX10_mark_21 : decode cX10_mark 21 = .ok (.invokestatic 265, 3) := by decide +kernel
theorem dX10_mark_24 : decode cX10_mark 24 = .ok (.ifCond .ne 8, 3) := by decide +kernel
theorem dX10_mark_27 : decode cX10_mark 27 = .ok (.aload_n 0, 1) := by decide +kernel
theorem dX10_mark_28 : decode cX10_mark 28 = .ok (.invokevirtual 73, 3) := by decide +kernel
theorem dX10_mark_31 : decode cX10_mark 31 = .ok (.ireturn, 1) := by decide +kernel
theorem dX10_mark_32 : decode cX10_mark 32 = .ok (.aload_n 0, 1) := by decide +kernel
theorem dX10_mark_33 : decode cX10_mark 33 = .ok (.aload_n 0, 1) := by decide +kernel
theorem dX10_mark_34 : decode cX10_mark 34 = .ok (.getfield 10, 3) := by decide +kernel
theorem dX10_mark_37 : decode cX10_mark 37 = .ok (.getfield 272, 3) := by decide +kernel
theorem dX10_mark_40 : decode cX10_mark 40 = .ok (.aload_n 0, 1) := by decide +kernel
theorem dX10_mark_41 : decode cX10_mark 41 = .ok (.getfield 10, 3) := by decide +kernel
theorem dX10_mark_44 : decode cX10_mark 44 = .ok (.getfield 272, 3) := by decide +kernel
theorem dX10_mark_47 : decode cX10_mark 47 = .ok (.iload_n 1, 1) := by decide +kernel
theorem dX10_mark_48 : decode cX10_mark 48 = .ok (.iload_n 2, 1) := by decide +kernel
theorem dX10_mark_49 : decode cX10_mark 49 = .ok (.iload_n 3, 1) := by decide +kernel
theorem dX10_mark_50 : decode cX10_mark 50 = .ok (.iload 4, 2) := by decide +kernel
theorem dX10_mark_52 : decode cX10_mark 52 = .ok (.invokevirtual 244, 3) := by decide +kernel
theorem dX10_mark_55 : decode cX10_mark 55 = .ok (.invokevirtual 250, 3) := by decide +kernel
theorem dX10_mark_58 : decode cX10_mark 58 = .ok (.ireturn, 1) := by decide +kernel
set_option maxRecDepth 20000 in
theorem ggX10_forget_X6_empty : GoodIn wsX10_forget wsX6_empty := goodIn_r _ [9, 10, 35, 36, 37, 38] rfl (by decide +kernel)
set_option maxRecDepth 20000 in
theorem gX10_forget_X6_empty : GoodIn wsX10_forget (wsV RX10 274 RX6 yX6_empty wsX6_empty) := goodIn_app (goodIn_of _ (by decide +kernel)) ggX10_forget_X6_empty
set_option maxRecDepth 20000 in
theorem ggX10_forget_X10_bad : GoodIn wsX10_forget wsX10_bad := goodIn_r _ [15, 16, 17, 18, 19, 20, 21, 22, 23, 24, 25, 26, 27, 28, 29] rfl (by decide +kernel)
set_option maxRecDepth 20000 in
theorem gX10_forget_X10_bad : GoodIn wsX10_forget (wsV RX10 73 RX10 yX10_bad wsX10_bad) := goodIn_app (goodIn_of _ (by decide +kernel)) ggX10_forget_X10_bad
theorem dX10_forget_0 : decode cX10_forget 0 = .ok (.iload_n 1, 1) := by decide +kernel
theorem dX10_forget_1 : decode cX10_forget 1 = .ok (.tableswitch 60 0 2 #[27, 38, 49], 27) := by decide +kernel
theorem dX10_forget_28 : decode cX10_forget 28 = .ok (.aload_n 0, 1) := by decide +kernel
theorem dX10_forget_29 : decode cX10_forget 29 = .ok (.getfield 10, 3) := by decide +kernel
theorem dX10_forget_32 : decode cX10_forget 32 = .ok (.getfield 240, 3) := by decide +kernel
theorem dX10_forget_35 : decode cX10_forget 35 = .ok (.invokevirtual 274, 3) := by decide +kernel
theorem dX10_forget_38 : decode cX10_forget 38 = .ok (.ireturn, 1) := by decide +kernel
theorem dX10_forget_39 : decode cX10_forget 39 = .ok (.aload_n 0, 1) := by decide +kernel
theorem dX10_forget_40 : decode cX10_forget 40 = .ok (.getfield 10, 3) := by decide +kernel
theorem dX10_forget_43 : decode cX10_forget 43 = .ok (.getfield 269, 3) := by decide +kernel
theorem dX10_forget_46 : decode cX10_forget 46 = .ok (.invokevirtual 274, 3) := by decide +kernel
theorem dX10_forget_49 : decode cX10_forget 49 = .ok (.ireturn, 1) := by decide +kernel
theorem dX10_forget_50 : decode cX10_forget 50 = .ok (.aload_n 0, 1) := by decide +kernel
theorem dX10_forget_51 : decode cX10_forget 51 = .ok (.getfield 10, 3) := by decide +kernel
theorem dX10_forget_54 : decode cX10_forget 54 = .ok (.getfield 272, 3) := by decide +kernel
theorem dX10_forget_57 : decode cX10_forget 57 = .ok (.invokevirtual 274, 3) := by decide +kernel
theorem dX10_forget_60 : decode cX10_forget 60 = .ok (.ireturn, 1) := by decide +kernel
theorem dX10_forget_61 : decode cX10_forget 61 = .ok (.aload_n 0, 1) := by decide +kernel
theorem dX10_forget_62 : decode cX10_forget 62 = .ok (.invokevirtual 73, 3) := by decide +kernel
theorem dX10_forget_65 : decode cX10_forget 65 = .ok (.ireturn, 1) := by decide +kernel
set_option maxRecDepth 20000 in
theorem ggX10_is_X10_isGlove : GoodIn wsX10_is wsX10_isGlove := goodIn_r _ [7, 1, 8, 9, 10, 11, 6, 12, 38, 39, 40, 41, 42, 43, 44, 45, 46, 47, 48, 49, 50, 51, 52, 53, 54, 55, 56, 57, 58, 59, 60, 61, 62, 63, 64, 65, 66, 67] rfl (by decide +kernel)
set_option maxRecDepth 20000 in
theorem gX10_is_X10_isGlove : GoodIn wsX10_is (wsV RX10 167 RX10 yX10_isGlove wsX10_isGlove) := goodIn_app (goodIn_of _ (by decide +kernel)) ggX10_is_X10_isGlove
set_option maxRecDepth 20000 in
theorem ggX10_is_X10_kindsThatFit : GoodIn wsX10_is wsX10_kindsThatFit := goodIn_r _ [15, 16, 17, 18, 19, 20, 21, 22, 23, 24, 25, 26, 27, 28, 29, 30, 31, 32, 68, 69, 70, 71] rfl (by decide +kernel)
set_option maxRecDepth 20000 in
theorem gX10_is_X10_kindsThatFit : GoodIn wsX10_is (va_wsS RX10 276 yX10_kindsThatFit wsX10_kindsThatFit) := goodIn_app (goodIn_of _ (by decide +kernel)) ggX10_is_X10_kindsThatFit
set_option maxRecDepth 20000 in
theorem ggX10_is_X10_bad : GoodIn wsX10_is wsX10_bad := goodIn_r _ [36, 37, 38, 39, 40, 41, 42, 43, 44, 45, 46, 47, 48, 49, 50] rfl (by decide +kernel)
set_option maxRecDepth 20000 in
theorem gX10_is_X10_bad : GoodIn wsX10_is (wsV RX10 73 RX10 yX10_bad wsX10_bad) := goodIn_app (goodIn_of _ (by decide +kernel)) ggX10_is_X10_bad
theorem dX10_is_0 : decode cX10_is 0 = .ok (.aload_n 0, 1) := by decide +kernel
theorem dX10_is_1 : decode cX10_is 1 = .ok (.iload_n 1, 1) := by decide +kernel
theorem dX10_is_2 : decode cX10_is 2 = .ok (.invokevirtual 167, 3) := by decide +kernel
theorem dX10_is_5 : decode cX10_is 5 = .ok (.ifCond .eq 18, 3) := by decide +kernel
theorem dX10_is_8 : decode cX10_is 8 = .ok (.aload_n 0, 1) := by decide +kernel
theorem dX10_is_9 : decode cX10_is 9 = .ok (.getfield 10, 3) := by decide +kernel
theorem dX10_is_12 : decode cX10_is 12 = .ok (.getfield 269, 3) := by decide +kernel
theorem dX10_is_15 : decode cX10_is 15 = .ok (.iload_n 1, 1) := by decide +kernel
theorem dX10_is_16 : decode cX10_is 16 = .ok (.iconst 1, 1) := by decide +kernel
theorem dX10_is_17 : decode cX10_is 17 = .ok (.invokestatic 276, 3) := by decide +kernel
theorem dX10_is_20 : decode cX10_is 20 = .ok (.goto 7, 3) := by decide +kernel
theorem dX10_is_23 : decode cX10_is 23 = .ok (.aload_n 0, 1) := by decide +kernel
theorem dX10_is_24 : decode cX10_is 24 = .ok (.invokevirtual 73, 3) := by decide +kernel
theorem dX10_is_27 : decode cX10_is 27 = .ok (.ireturn, 1) := by decide +kernel
set_option maxRecDepth 20000 in
theorem ggX10_look_X10_isGlove : GoodIn wsX10_look wsX10_isGlove := goodIn_r _ [7, 1, 8, 9, 10, 11, 6, 12, 69, 70, 71, 72, 73, 74, 75, 76, 77, 78, 79, 80, 81, 82, 83, 84, 85, 86, 87, 88, 89, 90, 91, 92, 93, 94, 95, 96, 97, 98] rfl (by decide +kernel)
set_option maxRecDepth 20000 in
theorem gX10_look_X10_isGlove : GoodIn wsX10_look (wsV RX10 167 RX10 yX10_isGlove wsX10_isGlove) := goodIn_app (goodIn_of _ (by decide +kernel)) ggX10_look_X10_isGlove
set_option maxRecDepth 20000 in
theorem ggX10_look_X10_bad : GoodIn wsX10_look wsX10_bad := goodIn_r _ [16, 17, 69, 70, 71, 72, 73, 74, 75, 76, 77, 78, 79, 80, 81] rfl (by decide +kernel)
set_option maxRecDepth 20000 in
theorem gX10_look_X10_bad : GoodIn wsX10_look (wsV RX10 73 RX10 yX10_bad wsX10_bad) := goodIn_app (goodIn_of _ (by decide +kernel)) ggX10_look_X10_bad
set_option maxRecDepth 20000 in
theorem ggX10_look_X10_kindsThatFit : GoodIn wsX10_look wsX10_kindsThatFit := goodIn_r _ [20, 21, 22, 23, 24, 25, 26, 27, 28, 29, 30, 31, 32, 33, 34, 35, 36, 37, 99, 100, 101, 102] rfl (by decide +kernel)
set_option maxRecDepth 20000 in
theorem gX10_look_X10_kindsThatFit : GoodIn wsX10_look (va_wsS RX10 276 yX10_kindsThatFit wsX10_kindsThatFit) := goodIn_app (goodIn_of _ (by decide +kernel)) ggX10_look_X10_kindsThatFit
set_option maxRecDepth 20000 in
theorem ggX10_look_X10_nextLook : GoodIn wsX10_look wsX10_nextLook := goodIn_r _ [41, 42, 43, 44, 45, 46, 47, 48, 49, 50, 51, 52, 53, 54, 55, 56, 28, 29, 30, 31, 32, 33, 34, 35, 36, 37, 57, 58, 59, 60, 61, 62, 63, 64, 65, 66, 67, 68, 69, 70, 71, 72, 73, 74, 75, 76, 77, 78, 79, 80, 81, 103, 104, 105, 106] rfl (by decide +kernel)
set_option maxRecDepth 20000 in
theorem gX10_look_X10_nextLook : GoodIn wsX10_look (wsV RX10 280 RX10 yX10_nextLook wsX10_nextLook) := goodIn_app (goodIn_of _ (by decide +kernel)) ggX10_look_X10_nextLook
theorem dX10_look_0 : decode cX10_look 0 = .ok (.aload_n 0, 1) := by decide +kernel
theorem dX10_look_1 : decode cX10_look 1 = .ok (.iload_n 1, 1) := by decide +kernel
theorem dX10_look_2 : decode cX10_look 2 = .ok (.invokevirtual 167, 3) := by decide +kernel
theorem dX10_look_5 : decode cX10_look 5 = .ok (.ifCond .ne 8, 3) := by decide +kernel
theorem dX10_look_8 : decode cX10_look 8 = .ok (.aload_n 0, 1) := by decide +kernel
theorem dX10_look_9 : decode cX10_look 9 = .ok (.invokevirtual 73, 3) := by decide +kernel
theorem dX10_look_12 : decode cX10_look 12 = .ok (.ireturn, 1) := by decide +kernel
theorem dX10_look_13 : decode cX10_look 13 = .ok (.aload_n 0, 1) := by decide +kernel
theorem dX10_look_14 : decode cX10_look 14 = .ok (.aload_n 0, 1) := by decide +kernel
theorem dX10_look_15 : decode cX10_look 15 = .ok (.getfield 10, 3) := by decide +kernel
theorem dX10_look_18 : decode cX10_look 18 = .ok (.getfield 269, 3) := by decide +kernel
theorem dX10_look_21 : decode cX10_look 21 = .ok (.iload_n 1, 1) := by decide +kernel
theorem dX10_look_22 : decode cX10_look 22 = .ok (.iconst 1, 1) := by decide +kernel
theorem dX10_look_23 : decode cX10_look 23 = .ok (.invokestatic 276, 3) := by decide +kernel
theorem dX10_look_26 : decode cX10_look 26 = .ok (.iconst 1, 1) := by decide +kernel
theorem dX10_look_27 : decode cX10_look 27 = .ok (.invokevirtual 280, 3) := by decide +kernel
theorem dX10_look_30 : decode cX10_look 30 = .ok (.ireturn, 1) := by decide +kernel
set_option maxRecDepth 20000 in
theorem ggX10_kinds_X10_isCrossing : GoodIn wsX10_kinds wsX10_isCrossing := goodIn_r _ [7, 1, 8, 9, 10, 11, 6, 12, 38, 39, 40, 41, 42, 43, 44, 45, 46, 47, 48, 49, 50, 51, 52, 53, 54, 55, 56, 57, 58, 59, 60, 61, 62, 63, 64, 65, 66, 67] rfl (by decide +kernel)
set_option maxRecDepth 20000 in
theorem gX10_kinds_X10_isCrossing : GoodIn wsX10_kinds (wsV RX10 151 RX10 yX10_isCrossing wsX10_isCrossing) := goodIn_app (goodIn_of _ (by decide +kernel)) ggX10_kinds_X10_isCrossing
set_option maxRecDepth 20000 in
theorem ggX10_kinds_X10_kindsThatFit : GoodIn wsX10_kinds wsX10_kindsThatFit := goodIn_r _ [15, 16, 17, 18, 19, 20, 21, 22, 23, 24, 25, 26, 27, 28, 29, 30, 31, 32, 68, 69, 70, 71] rfl (by decide +kernel)
set_option maxRecDepth 20000 in
theorem gX10_kinds_X10_kindsThatFit : GoodIn wsX10_kinds (va_wsS RX10 276 yX10_kindsThatFit wsX10_kindsThatFit) := goodIn_app (goodIn_of _ (by decide +kernel)) ggX10_kinds_X10_kindsThatFit
set_option maxRecDepth 20000 in
theorem ggX10_kinds_X10_bad : GoodIn wsX10_kinds wsX10_bad := goodIn_r _ [36, 37, 38, 39, 40, 41, 42, 43, 44, 45, 46, 47, 48, 49, 50] rfl (by decide +kernel)
set_option maxRecDepth 20000 in
theorem gX10_kinds_X10_bad : GoodIn wsX10_kinds (wsV RX10 73 RX10 yX10_bad wsX10_bad) := goodIn_app (goodIn_of _ (by decide +kernel)) ggX10_kinds_X10_bad
theorem dX10_kinds_0 : decode cX10_kinds 0 = .ok (.aload_n 0, 1) := by decide +kernel
theorem dX10_kinds_1 : decode cX10_kinds 1 = .ok (.iload_n 1, 1) := by decide +kernel
theorem dX10_kinds_2 : decode cX10_kinds 2 = .ok (.invokevirtual 151, 3) := by decide +kernel
theorem dX10_kinds_5 : decode cX10_kinds 5 = .ok (.ifCond .eq 18, 3) := by decide +kernel
theorem dX10_kinds_8 : decode cX10_kinds 8 = .ok (.aload_n 0, 1) := by decide +kernel
theorem dX10_kinds_9 : decode cX10_kinds 9 = .ok (.getfield 10, 3) := by decide +kernel
theorem dX10_kinds_12 : decode cX10_kinds 12 = .ok (.getfield 272, 3) := by decide +kernel
theorem dX10_kinds_15 : decode cX10_kinds 15 = .ok (.iload_n 1, 1) := by decide +kernel
theorem dX10_kinds_16 : decode cX10_kinds 16 = .ok (.iconst 0, 1) := by decide +kernel
theorem dX10_kinds_17 : decode cX10_kinds 17 = .ok (.invokestatic 276, 3) := by decide +kernel
theorem dX10_kinds_20 : decode cX10_kinds 20 = .ok (.goto 7, 3) := by decide +kernel
theorem dX10_kinds_23 : decode cX10_kinds 23 = .ok (.aload_n 0, 1) := by decide +kernel
theorem dX10_kinds_24 : decode cX10_kinds 24 = .ok (.invokevirtual 73, 3) := by decide +kernel
theorem dX10_kinds_27 : decode cX10_kinds 27 = .ok (.ireturn, 1) := by decide +kernel
set_option maxRecDepth 20000 in
theorem ggX10_ask_X10_isCrossing : GoodIn wsX10_ask wsX10_isCrossing := goodIn_r _ [7, 1, 8, 9, 10, 11, 6, 12, 69, 70, 71, 72, 73, 74, 75, 76, 77, 78, 79, 80, 81, 82, 83, 84, 85, 86, 87, 88, 89, 90, 91, 92, 93, 94, 95, 96, 97, 98] rfl (by decide +kernel)
set_option maxRecDepth 20000 in
theorem gX10_ask_X10_isCrossing : GoodIn wsX10_ask (wsV RX10 151 RX10 yX10_isCrossing wsX10_isCrossing) := goodIn_app (goodIn_of _ (by decide +kernel)) ggX10_ask_X10_isCrossing
set_option maxRecDepth 20000 in
theorem ggX10_ask_X10_bad : GoodIn wsX10_ask wsX10_bad := goodIn_r _ [16, 17, 69, 70, 71, 72, 73, 74, 75, 76, 77, 78, 79, 80, 81] rfl (by decide +kernel)
set_option maxRecDepth 20000 in
theorem gX10_ask_X10_bad : GoodIn wsX10_ask (wsV RX10 73 RX10 yX10_bad wsX10_bad) := goodIn_app (goodIn_of _ (by decide +kernel)) ggX10_ask_X10_bad
set_option maxRecDepth 20000 in
theorem ggX10_ask_X10_kindsThatFit : GoodIn wsX10_ask wsX10_kindsThatFit := goodIn_r _ [20, 21, 22, 23, 24, 25, 26, 27, 28, 29, 30, 31, 32, 33, 34, 35, 36, 37, 99, 100, 101, 102] rfl (by decide +kernel)
set_option maxRecDepth 20000 in
theorem gX10_ask_X10_kindsThatFit : GoodIn wsX10_ask (va_wsS RX10 276 yX10_kindsThatFit wsX10_kindsThatFit) := goodIn_app (goodIn_of _ (by decide +kernel)) ggX10_ask_X10_kindsThatFit
set_option maxRecDepth 20000 in
theorem ggX10_ask_X10_nextLook : GoodIn wsX10_ask wsX10_nextLook := goodIn_r _ [41, 42, 43, 44, 45, 46, 47, 48, 49, 50, 51, 52, 53, 54, 55, 56, 28, 29, 30, 31, 32, 33, 34, 35, 36, 37, 57, 58, 59, 60, 61, 62, 63, 64, 65, 66, 67, 68, 69, 70, 71, 72, 73, 74, 75, 76, 77, 78, 79, 80, 81, 103, 104, 105, 106] rfl (by decide +kernel)
set_option maxRecDepth 20000 in
theorem gX10_ask_X10_nextLook : GoodIn wsX10_ask (wsV RX10 280 RX10 yX10_nextLook wsX10_nextLook) := goodIn_app (goodIn_of _ (by decide +kernel)) ggX10_ask_X10_nextLook
theorem dX10_ask_0 : decode cX10_ask 0 = .ok (.aload_n 0, 1) := by decide +kernel
theorem dX10_ask_1 : decode cX10_ask 1 = .ok (.iload_n 1, 1) := by decide +kernel
theorem dX10_ask_2 : decode cX10_ask 2 = .ok (.invokevirtual 151, 3) := by decide +kernel
theorem dX10_ask_5 : decode cX10_ask 5 = .ok (.ifCond .ne 8, 3) := by decide +kernel
theorem dX10_ask_8 : decode cX10_ask 8 = .ok (.aload_n 0, 1) := by decide +kernel
theorem dX10_ask_9 : decode cX10_ask 9 = .ok (.invokevirtual 73, 3) := by decide +kernel
theorem dX10_ask_12 : decode cX10_ask 12 = .ok (.ireturn, 1) := by decide +kernel
theorem dX10_ask_13 : decode cX10_ask 13 = .ok (.aload_n 0, 1) := by decide +kernel
theorem dX10_ask_14 : decode cX10_ask 14 = .ok (.aload_n 0, 1) := by decide +kernel
theorem dX10_ask_15 : decode cX10_ask 15 = .ok (.getfield 10, 3) := by decide +kernel
theorem dX10_ask_18 : decode cX10_ask 18 = .ok (.getfield 272, 3) := by decide +kernel
theorem dX10_ask_21 : decode cX10_ask 21 = .ok (.iload_n 1, 1) := by decide +kernel
theorem dX10_ask_22 : decode cX10_ask 22 = .ok (.iconst 0, 1) := by decide +kernel
theorem dX10_ask_23 : decode cX10_ask 23 = .ok (.invokestatic 276, 3) := by decide +kernel
theorem dX10_ask_26 : decode cX10_ask 26 = .ok (.iconst 0, 1) := by decide +kernel
theorem dX10_ask_27 : decode cX10_ask 27 = .ok (.invokevirtual 280, 3) := by decide +kernel
theorem dX10_ask_30 : decode cX10_ask 30 = .ok (.ireturn, 1) := by decide +kernel
set_option maxRecDepth 20000 in
theorem ggX10_lady_X10_isGlove : GoodIn wsX10_lady wsX10_isGlove := goodIn_r _ [8, 2, 3, 9, 10, 11, 7, 12, 90, 91, 92, 93, 94, 95, 96, 97, 98, 99, 100, 101, 102, 103, 104, 105, 106, 107, 108, 109, 110, 111, 112, 113, 114, 115, 116, 117, 118, 119] rfl (by decide +kernel)
set_option maxRecDepth 20000 in
theorem gX10_lady_X10_isGlove : GoodIn wsX10_lady (wsV RX10 167 RX10 yX10_isGlove wsX10_isGlove) := goodIn_app (goodIn_of _ (by decide +kernel)) ggX10_lady_X10_isGlove
set_option maxRecDepth 20000 in
theorem ggX10_lady_X10_badAsTen : GoodIn wsX10_lady wsX10_badAsTen := goodIn_r _ [16, 17, 90, 91, 92, 93, 94, 95, 96, 97, 98, 99, 100, 101, 102] rfl (by decide +kernel)
set_option maxRecDepth 20000 in
theorem gX10_lady_X10_badAsTen : GoodIn wsX10_lady (wsV RX10 209 RX10 yX10_badAsTen wsX10_badAsTen) := goodIn_app (goodIn_of _ (by decide +kernel)) ggX10_lady_X10_badAsTen
set_option maxRecDepth 20000 in
theorem ggX10_lady_X0_visited : GoodIn wsX10_lady wsX0_visited := goodIn_r _ [22, 23, 24, 25, 26, 27, 28, 29, 30, 31, 32, 33, 34, 35, 36, 37, 38, 39, 40, 41, 42, 43, 44, 45, 46, 47, 48, 49, 50, 51, 52, 53, 54, 55, 56, 57, 58, 59, 60, 61, 62, 63, 64, 65, 66, 67, 68, 69, 70, 71, 72, 73, 74, 75, 76, 77, 78, 79, 80, 120, 121, 122, 123, 108, 109, 110, 111, 112, 113, 114, 115, 116, 117, 118, 119] rfl (by decide +kernel)
set_option maxRecDepth 20000 in
theorem gX10_lady_X0_visited : GoodIn wsX10_lady (wsV RX10 284 RX0 yX0_visited wsX0_visited) := goodIn_app (goodIn_of _ (by decide +kernel)) ggX10_lady_X0_visited
set_option maxRecDepth 20000 in
theorem ggX10_lady_X10_rests : GoodIn wsX10_lady wsX10_rests := goodIn_r _ [83, 84, 85, 7, 86, 87, 88, 89] rfl (by decide +kernel)
set_option maxRecDepth 20000 in
theorem gX10_lady_X10_rests : GoodIn wsX10_lady (va_wsS RX10 287 yX10_rests wsX10_rests) := goodIn_app (goodIn_of _ (by decide +kernel)) ggX10_lady_X10_rests
theorem dX10_lady_0 : decode cX10_lady 0 = .ok (.aload_n 0, 1) := by decide +kernel
theorem dX10_lady_1 : decode cX10_lady 1 = .ok (.iload_n 1, 1) := by decide +kernel
theorem dX10_lady_2 : decode cX10_lady 2 = .ok (.invokevirtual 167, 3) := by decide +kernel
theorem dX10_lady_5 : decode cX10_lady 5 = .ok (.ifCond .eq 8, 3) := by decide +kernel
theorem dX10_lady_8 : decode cX10_lady 8 = .ok (.iload_n 2, 1) := by decide +kernel
theorem dX10_lady_9 : decode cX10_lady 9 = .ok (.iconst (-1), 1) := by decide +kernel
theorem dX10_lady_10 : decode cX10_lady 10 = .ok (.if_icmp .ge 8, 3) := by decide +kernel
theorem dX10_lady_13 : decode cX10_lady 13 = .ok (.aload_n 0, 1) := by decide +kernel
theorem dX10_lady_14 : decode cX10_lady 14 = .ok (.invokevirtual 209, 3) := by decide +kernel
theorem dX10_lady_17 : decode cX10_lady 17 = .ok (.ireturn, 1) := by decide +kernel
theorem dX10_lady_18 : decode cX10_lady 18 = .ok (.aload_n 0, 1) := by decide +kernel
theorem dX10_lady_19 : decode cX10_lady 19 = .ok (.getfield 25, 3) := by decide +kernel
theorem dX10_lady_22 : decode cX10_lady 22 = .ok (.aload_n 0, 1) := by decide +kernel
theorem dX10_lady_23 : decode cX10_lady 23 = .ok (.getfield 10, 3) := by decide +kernel
theorem dX10_lady_26 : decode cX10_lady 26 = .ok (.getfield 57, 3) := by decide +kernel
theorem dX10_lady_29 : decode cX10_lady 29 = .ok (.iload_n 1, 1) := by decide +kernel
theorem dX10_lady_30 : decode cX10_lady 30 = .ok (.invokevirtual 284, 3) := by decide +kernel
theorem dX10_lady_33 : decode cX10_lady 33 = .ok (.istore_n 3, 1) := by decide +kernel
theorem dX10_lady_34 : decode cX10_lady 34 = .ok (.iconst 0, 1) := by decide +kernel
theorem dX10_lady_35 : decode cX10_lady 35 = .ok (.istore 4, 2) := by decide +kernel
theorem dX10_lady_37 : decode cX10_lady 37 = .ok (.iconst 0, 1) := by decide +kernel
theorem dX10_lady_38 : decode cX10_lady 38 = .ok (.istore 5, 2) := by decide +kernel
theorem dX10_lady_40 : decode cX10_lady 40 = .ok (.iload 5, 2) := by decide +kernel
theorem dX10_lady_42 : decode cX10_lady 42 = .ok (.bipush 100, 2) := by decide +kernel
theorem dX10_lady_44 : decode cX10_lady 44 = .ok (.if_icmp .ge 38, 3) := by decide +kernel
theorem dX10_lady_47 : decode cX10_lady 47 = .ok (.iload 5, 2) := by decide +kernel
theorem dX10_lady_49 : decode cX10_lady 49 = .ok (.bipush 10, 2) := by decide +kernel
theorem dX10_lady_51 : decode cX10_lady 51 = .ok (.idiv, 1) := by decide +kernel
theorem dX10_lady_52 : decode cX10_lady 52 = .ok (.iload 5, 2) := by decide +kernel
theorem dX10_lady_54 : decode cX10_lady 54 = .ok (.bipush 10, 2) := by decide +kernel
theorem dX10_lady_56 : decode cX10_lady 56 = .ok (.irem, 1) := by decide +kernel
theorem dX10_lady_57 : decode cX10_lady 57 = .ok (.iload_n 3, 1) := by decide +kernel
theorem dX10_lady_58 : decode cX10_lady 58 = .ok (.invokestatic 287, 3) := by decide +kernel
theorem dX10_lady_61 : decode cX10_lady 61 = .ok (.ifCond .eq 15, 3) := by decide +kernel
theorem dX10_lady_64 : decode cX10_lady 64 = .ok (.iload 4, 2) := by decide +kernel
theorem dX10_lady_66 : decode cX10_lady 66 = .ok (.iload_n 2, 1) := by decide +kernel
theorem dX10_lady_67 : decode cX10_lady 67 = .ok (.if_icmp .ne 6, 3) := by decide +kernel
theorem dX10_lady_70 : decode cX10_lady 70 = .ok (.iload 5, 2) := by decide +kernel
theorem dX10_lady_72 : decode cX10_lady 72 = .ok (.ireturn, 1) := by decide +kernel
theorem dX10_lady_73 : decode cX10_lady 73 = .ok (.iinc 4 1, 3) := by decide +kernel
theorem dX10_lady_76 : decode cX10_lady 76 = .ok (.iinc 5 1, 3) := by decide +kernel
theorem dX10_lady_79 : decode cX10_lady 79 = .ok (.goto (-39), 3) := by decide +kernel
theorem dX10_lady_82 : decode cX10_lady 82 = .ok (.iload_n 2, 1) := by decide +kernel
theorem dX10_lady_83 : decode cX10_lady 83 = .ok (.iconst (-1), 1) := by decide +kernel
theorem dX10_lady_84 : decode cX10_lady 84 = .ok (.if_icmp .ne 8, 3) := by decide +kernel
theorem dX10_lady_87 : decode cX10_lady 87 = .ok (.iload 4, 2) := by decide +kernel
theorem dX10_lady_89 : decode cX10_lady 89 = .ok (.goto 5, 3) := by decide +kernel
theorem dX10_lady_92 : decode cX10_lady 92 = .ok (.bipush (-5), 2) := by decide +kernel
theorem dX10_lady_94 : decode cX10_lady 94 = .ok (.ireturn, 1) := by decide +kernel
set_option maxRecDepth 20000 in
theorem ggX10_rain_X10_within : GoodIn wsX10_rain wsX10_within := goodIn_r _ [6] rfl (by decide +kernel)
set_option maxRecDepth 20000 in
theorem gX10_rain_X10_within : GoodIn wsX10_rain (va_wsS RX10 69 yX10_within wsX10_within) := goodIn_app (goodIn_of _ (by decide +kernel)) ggX10_rain_X10_within
set_option maxRecDepth 20000 in
theorem ggX10_rain_X10_bad : GoodIn wsX10_rain wsX10_bad := goodIn_r _ [10, 11, 36, 37, 38, 39, 40, 41, 42, 43, 44, 45, 46, 47, 48] rfl (by decide +kernel)
set_option maxRecDepth 20000 in
theorem gX10_rain_X10_bad : GoodIn wsX10_rain (wsV RX10 73 RX10 yX10_bad wsX10_bad) := goodIn_app (goodIn_of _ (by decide +kernel)) ggX10_rain_X10_bad
set_option maxRecDepth 20000 in
theorem ggX10_rain_X8_goneInAll : GoodIn wsX10_rain wsX8_goneInAll := goodIn_r _ [16, 17, 18, 19, 20, 21, 22, 15, 23, 24, 25, 26, 27, 28, 29, 54, 55, 56, 57, 58, 59, 60, 61, 62, 63, 64, 65] rfl (by decide +kernel)
set_option maxRecDepth 20000 in
theorem gX10_rain_X8_goneInAll : GoodIn wsX10_rain (wsV RX10 290 RX8 yX8_goneInAll wsX8_goneInAll) := goodIn_app (goodIn_of _ (by decide +kernel)) ggX10_rain_X8_goneInAll
set_option maxRecDepth 20000 in
theorem ggX10_rain_X10_keepFraction : GoodIn wsX10_rain wsX10_keepFraction := goodIn_r _ [33, 34, 35, 36, 37, 38, 39, 40, 41, 42, 43, 44, 45, 46, 47, 48] rfl (by decide +kernel)
set_option maxRecDepth 20000 in
theorem gX10_rain_X10_keepFraction : GoodIn wsX10_rain (wsV RX10 293 RX10 yX10_keepFraction wsX10_keepFraction) := goodIn_app (goodIn_of _ (by decide +kernel)) ggX10_rain_X10_keepFraction
theorem dX10_rain_0 : decode cX10_rain 0 = .ok (.iload_n 1, 1) := by decide +kernel
theorem dX10_rain_1 : decode cX10_rain 1 = .ok (.iconst 0, 1) := by decide +kernel
theorem dX10_rain_2 : decode cX10_rain 2 = .ok (.bipush 10, 2) := by decide +kernel
theorem dX10_rain_4 : decode cX10_rain 4 = .ok (.invokestatic 69, 3) := by decide +kernel
theorem dX10_rain_7 : decode cX10_rain 7 = .ok (.ifCond .ne 8, 3) := by decide +kernel
theorem dX10_rain_10 : decode cX10_rain 10 = .ok (.aload_n 0, 1) := by decide +kernel
theorem dX10_rain_11 : decode cX10_rain 11 = .ok (.invokevirtual 73, 3) := by decide +kernel
theorem dX10_rain_14 : decode cX10_rain 14 = .ok (.ireturn, 1) := by decide +kernel
theorem dX10_rain_15 : decode cX10_rain 15 = .ok (.aload_n 0, 1) := by decide +kernel
theorem dX10_rain_16 : decode cX10_rain 16 = .ok (.getfield 10, 3) := by decide +kernel
theorem dX10_rain_19 : decode cX10_rain 19 = .ok (.getfield 57, 3) := by decide +kernel
theorem dX10_rain_22 : decode cX10_rain 22 = .ok (.iconst 0, 1) := by decide +kernel
theorem dX10_rain_23 : decode cX10_rain 23 = .ok (.invokevirtual 290, 3) := by decide +kernel
theorem dX10_rain_26 : decode cX10_rain 26 = .ok (.istore_n 2, 1) := by decide +kernel
theorem dX10_rain_27 : decode cX10_rain 27 = .ok (.aload_n 0, 1) := by decide +kernel
theorem dX10_rain_28 : decode cX10_rain 28 = .ok (.getfield 10, 3) := by decide +kernel
theorem dX10_rain_31 : decode cX10_rain 31 = .ok (.getfield 57, 3) := by decide +kernel
theorem dX10_rain_34 : decode cX10_rain 34 = .ok (.iconst 4, 1) := by decide +kernel
theorem dX10_rain_35 : decode cX10_rain 35 = .ok (.invokevirtual 290, 3) := by decide +kernel
theorem dX10_rain_38 : decode cX10_rain 38 = .ok (.istore_n 3, 1) := by decide +kernel
theorem dX10_rain_39 : decode cX10_rain 39 = .ok (.aload_n 0, 1) := by decide +kernel
theorem dX10_rain_40 : decode cX10_rain 40 = .ok (.iload_n 1, 1) := by decide +kernel
theorem dX10_rain_41 : decode cX10_rain 41 = .ok (.iload_n 3, 1) := by decide +kernel
theorem dX10_rain_42 : decode cX10_rain 42 = .ok (.imul, 1) := by decide +kernel
theorem dX10_rain_43 : decode cX10_rain 43 = .ok (.bipush 10, 2) := by decide +kernel
theorem dX10_rain_45 : decode cX10_rain 45 = .ok (.iload_n 1, 1) := by decide +kernel
theorem dX10_rain_46 : decode cX10_rain 46 = .ok (.isub, 1) := by decide +kernel
theorem dX10_rain_47 : decode cX10_rain 47 = .ok (.iload_n 2, 1) := by decide +kernel
theorem dX10_rain_48 : decode cX10_rain 48 = .ok (.imul, 1) := by decide +kernel
theorem dX10_rain_49 : decode cX10_rain 49 = .ok (.iadd, 1) := by decide +kernel
theorem dX10_rain_50 : decode cX10_rain 50 = .ok (.bipush 10, 2) := by decide +kernel
theorem dX10_rain_52 : decode cX10_rain 52 = .ok (.invokevirtual 293, 3) := by decide +kernel
theorem dX10_rain_55 : decode cX10_rain 55 = .ok (.iconst 1, 1) := by decide +kernel
theorem dX10_rain_56 : decode cX10_rain 56 = .ok (.ireturn, 1) := by decide +kernel
set_option maxRecDepth 20000 in
theorem ggX10_winters_X10_within : GoodIn wsX10_winters wsX10_within := goodIn_r _ [8] rfl (by decide +kernel)
set_option maxRecDepth 20000 in
theorem gX10_winters_X10_within : GoodIn wsX10_winters (va_wsS RX10 69 yX10_within wsX10_within) := goodIn_app (goodIn_of _ (by decide +kernel)) ggX10_winters_X10_within
set_option maxRecDepth 20000 in
theorem ggX10_winters_X10_bad : GoodIn wsX10_winters wsX10_bad := goodIn_r _ [12, 13, 90, 91, 92, 93, 94, 95, 96, 97, 98, 99, 100, 101, 102] rfl (by decide +kernel)
set_option maxRecDepth 20000 in
theorem gX10_winters_X10_bad : GoodIn wsX10_winters (wsV RX10 73 RX10 yX10_bad wsX10_bad) := goodIn_app (goodIn_of _ (by decide +kernel)) ggX10_winters_X10_bad
set_option maxRecDepth 20000 in
theorem ggX10_winters_X0_overBehindWinter : GoodIn wsX10_winters wsX0_overBehindWinter := goodIn_r _ [18, 19, 20, 21, 22, 23, 24, 25, 26, 27, 28, 29, 30, 31, 32, 33, 34, 35, 36, 37, 38, 39, 40, 41, 42, 43, 44, 45, 46, 47, 48, 49, 50, 51, 52, 53, 54, 55, 56, 57, 58, 59, 60, 61, 62, 63, 64, 65, 66, 67, 68, 69, 70, 71, 72, 73, 74, 75, 76, 77, 78, 79, 80, 81, 82, 83, 84, 85, 86, 87, 88, 89, 108, 109, 110, 111, 112, 113, 114, 115, 116, 117, 118, 119, 120, 121, 122, 123] rfl (by decide +kernel)
set_option maxRecDepth 20000 in
theorem gX10_winters_X0_overBehindWinter : GoodIn wsX10_winters (wsV RX10 298 RX0 yX0_overBehindWinter wsX0_overBehindWinter) := goodIn_app (goodIn_of _ (by decide +kernel)) ggX10_winters_X0_overBehindWinter
theorem dX10_winters_0 : decode cX10_winters 0 = .ok (.iload_n 1, 1) := by decide +kernel
theorem dX10_winters_1 : decode cX10_winters 1 = .ok (.iconst 0, 1) := by decide +kernel
theorem dX10_winters_2 : decode cX10_winters 2 = .ok (.ldc_w 297, 3) := by decide +kernel
theorem dX10_winters_5 : decode cX10_winters 5 = .ok (.invokestatic 69, 3) := by decide +kernel
theorem dX10_winters_8 : decode cX10_winters 8 = .ok (.ifCond .eq 13, 3) := by decide +kernel
theorem dX10_winters_11 : decode cX10_winters 11 = .ok (.iload_n 2, 1) := by decide +kernel
theorem dX10_winters_12 : decode cX10_winters 12 = .ok (.iconst 0, 1) := by decide +kernel
theorem dX10_winters_13 : decode cX10_winters 13 = .ok (.bipush 60, 2) := by decide +kernel
theorem dX10_winters_15 : decode cX10_winters 15 = .ok (.invokestatic 69, 3) := by decide +kernel
theorem dX10_winters_18 : decode cX10_winters 18 = .ok (.ifCond .ne 8, 3) := by decide +kernel
theorem dX10_winters_21 : decode cX10_winters 21 = .ok (.aload_n 0, 1) := by decide +kernel
theorem dX10_winters_22 : decode cX10_winters 22 = .ok (.invokevirtual 73, 3) := by decide +kernel
theorem dX10_winters_25 : decode cX10_winters 25 = .ok (.ireturn, 1) := by decide +kernel
theorem dX10_winters_26 : decode cX10_winters 26 = .ok (.aload_n 0, 1) := by decide +kernel
theorem dX10_winters_27 : decode cX10_winters 27 = .ok (.getfield 25, 3) := by decide +kernel
theorem dX10_winters_30 : decode cX10_winters 30 = .ok (.aload_n 0, 1) := by decide +kernel
theorem dX10_winters_31 : decode cX10_winters 31 = .ok (.getfield 10, 3) := by decide +kernel
theorem dX10_winters_34 : decode cX10_winters 34 = .ok (.getfield 57, 3) := by decide +kernel
theorem dX10_winters_37 : decode cX10_winters 37 = .ok (.iload_n 1, 1) := by decide +kernel
theorem dX10_winters_38 : decode cX10_winters 38 = .ok (.iload_n 2, 1) := by decide +kernel
theorem dX10_winters_39 : decode cX10_winters 39 = .ok (.invokevirtual 298, 3) := by decide +kernel
theorem dX10_winters_42 : decode cX10_winters 42 = .ok (.ireturn, 1) := by decide +kernel
set_option maxRecDepth 20000 in
theorem ggX10_part_X10_bad : GoodIn wsX10_part wsX10_bad := goodIn_r _ [7, 8, 9, 10, 11, 12, 13, 14, 15, 16, 17, 18, 19, 20, 21] rfl (by decide +kernel)
set_option maxRecDepth 20000 in
theorem gX10_part_X10_bad : GoodIn wsX10_part (wsV RX10 73 RX10 yX10_bad wsX10_bad) := goodIn_app (goodIn_of _ (by decide +kernel)) ggX10_part_X10_bad
theorem dX10_part_0 : decode cX10_part 0 = .ok (.iload_n 1, 1) := by decide +kernel
theorem dX10_part_1 : decode cX10_part 1 = .ok (.lookupswitch 39 #[(0, 27), (1, 33)], 27) := by decide +kernel
theorem dX10_part_28 : decode cX10_part 28 = .ok (.aload_n 0, 1) := by decide +kernel
theorem dX10_part_29 : decode cX10_part 29 = .ok (.getfield 50, 3) := by decide +kernel
theorem dX10_part_32 : decode cX10_part 32 = .ok (.i2l, 1) := by decide +kernel
theorem dX10_part_33 : decode cX10_part 33 = .ok (.lreturn, 1) := by decide +kernel
theorem dX10_part_34 : decode cX10_part 34 = .ok (.aload_n 0, 1) := by decide +kernel
theorem dX10_part_35 : decode cX10_part 35 = .ok (.getfield 54, 3) := by decide +kernel
theorem dX10_part_38 : decode cX10_part 38 = .ok (.i2l, 1) := by decide +kernel
theorem dX10_part_39 : decode cX10_part 39 = .ok (.lreturn, 1) := by decide +kernel
theorem dX10_part_40 : decode cX10_part 40 = .ok (.aload_n 0, 1) := by decide +kernel
theorem dX10_part_41 : decode cX10_part 41 = .ok (.invokevirtual 73, 3) := by decide +kernel
theorem dX10_part_44 : decode cX10_part 44 = .ok (.i2l, 1) := by decide +kernel
theorem dX10_part_45 : decode cX10_part 45 = .ok (.lreturn, 1) := by decide +kernel
set_option maxRecDepth 20000 in
theorem ggX10_image_X10_within : GoodIn wsX10_image wsX10_within := goodIn_r _ [6] rfl (by decide +kernel)
set_option maxRecDepth 20000 in
theorem gX10_image_X10_within : GoodIn wsX10_image (va_wsS RX10 69 yX10_within wsX10_within) := goodIn_app (goodIn_of _ (by decide +kernel)) ggX10_image_X10_within
set_option maxRecDepth 20000 in
theorem ggX10_image_X10_bad : GoodIn wsX10_image wsX10_bad := goodIn_r _ [10, 11, 64, 65, 66, 67, 68, 69, 70, 71, 72, 73, 74, 75, 76] rfl (by decide +kernel)
set_option maxRecDepth 20000 in
theorem gX10_image_X10_bad : GoodIn wsX10_image (wsV RX10 73 RX10 yX10_bad wsX10_bad) := goodIn_app (goodIn_of _ (by decide +kernel)) ggX10_image_X10_bad
set_option maxRecDepth 20000 in
theorem ggX10_image_X10_imageOf : GoodIn wsX10_image wsX10_imageOf := goodIn_r _ [15, 16, 17, 64, 65, 66, 67, 68, 69, 70, 71, 72, 73, 74, 75, 76] rfl (by decide +kernel)
set_option maxRecDepth 20000 in
theorem gX10_image_X10_imageOf : GoodIn wsX10_image (wsV RX10 301 RX10 yX10_imageOf wsX10_imageOf) := goodIn_app (goodIn_of _ (by decide +kernel)) ggX10_image_X10_imageOf
set_option maxRecDepth 20000 in
theorem ggX10_image_X7_copy : GoodIn wsX10_image wsX7_copy := goodIn_r _ [22, 23, 24, 25, 26, 27, 28, 29, 30, 31, 32, 33, 34, 35, 36, 37, 38, 39, 40, 41, 42, 43, 44, 45, 46, 47, 48, 49, 50, 51, 52, 53, 54, 55, 56, 57, 58, 59, 60, 61, 62, 63, 77, 78, 79, 80, 81, 82, 83, 84, 85, 86, 87, 88, 89, 90, 91, 92, 93, 94, 95, 96, 97, 98, 99] rfl (by decide +kernel)
set_option maxRecDepth 20000 in
theorem gX10_image_X7_copy : GoodIn wsX10_image (wsV RX10 305 RX7 yX7_copy wsX7_copy) := goodIn_app (goodIn_of _ (by decide +kernel)) ggX10_image_X7_copy
theorem dX10_image_0 : decode cX10_image 0 = .ok (.iload_n 1, 1) := by decide +kernel
theorem dX10_image_1 : decode cX10_image 1 = .ok (.iconst 0, 1) := by decide +kernel
theorem dX10_image_2 : decode cX10_image 2 = .ok (.iconst 1, 1) := by decide +kernel
theorem dX10_image_3 : decode cX10_image 3 = .ok (.invokestatic 69, 3) := by decide +kernel
theorem dX10_image_6 : decode cX10_image 6 = .ok (.ifCond .ne 8, 3) := by decide +kernel
theorem dX10_image_9 : decode cX10_image 9 = .ok (.aload_n 0, 1) := by decide +kernel
theorem dX10_image_10 : decode cX10_image 10 = .ok (.invokevirtual 73, 3) := by decide +kernel
theorem dX10_image_13 : decode cX10_image 13 = .ok (.ireturn, 1) := by decide +kernel
theorem dX10_image_14 : decode cX10_image 14 = .ok (.aload_n 0, 1) := by decide +kernel
theorem dX10_image_15 : decode cX10_image 15 = .ok (.iload_n 1, 1) := by decide +kernel
theorem dX10_image_16 : decode cX10_image 16 = .ok (.invokevirtual 301, 3) := by decide +kernel
theorem dX10_image_19 : decode cX10_image 19 = .ok (.aload_n 0, 1) := by decide +kernel
theorem dX10_image_20 : decode cX10_image 20 = .ok (.getfield 10, 3) := by decide +kernel
theorem dX10_image_23 : decode cX10_image 23 = .ok (.invokevirtual 305, 3) := by decide +kernel
theorem dX10_image_26 : decode cX10_image 26 = .ok (.aload_n 0, 1) := by decide +kernel
theorem dX10_image_27 : decode cX10_image 27 = .ok (.dup, 1) := by decide +kernel
theorem dX10_image_28 : decode cX10_image 28 = .ok (.getfield 308, 3) := by decide +kernel
theorem dX10_image_31 : decode cX10_image 31 = .ok (.iconst 1, 1) := by decide +kernel
theorem dX10_image_32 : decode cX10_image 32 = .ok (.iload_n 1, 1) := by decide +kernel
theorem dX10_image_33 : decode cX10_image 33 = .ok (.ishl, 1) := by decide +kernel
theorem dX10_image_34 : decode cX10_image 34 = .ok (.ior, 1) := by decide +kernel
theorem dX10_image_35 : decode cX10_image 35 = .ok (.putfield 308, 3) := by decide +kernel
theorem dX10_image_38 : decode cX10_image 38 = .ok (.iconst 1, 1) := by decide +kernel
theorem dX10_image_39 : decode cX10_image 39 = .ok (.ireturn, 1) := by decide +kernel
set_option maxRecDepth 20000 in
theorem ggX10_from_X10_within : GoodIn wsX10_from wsX10_within := goodIn_r _ [6] rfl (by decide +kernel)
set_option maxRecDepth 20000 in
theorem gX10_from_X10_within : GoodIn wsX10_from (va_wsS RX10 69 yX10_within wsX10_within) := goodIn_app (goodIn_of _ (by decide +kernel)) ggX10_from_X10_within
set_option maxRecDepth 20000 in
theorem ggX10_from_X10_bad : GoodIn wsX10_from wsX10_bad := goodIn_r _ [10, 11, 69, 70, 71, 72, 73, 74, 75, 76, 77, 78, 79, 80, 81] rfl (by decide +kernel)
set_option maxRecDepth 20000 in
theorem gX10_from_X10_bad : GoodIn wsX10_from (wsV RX10 73 RX10 yX10_bad wsX10_bad) := goodIn_app (goodIn_of _ (by decide +kernel)) ggX10_from_X10_bad
set_option maxRecDepth 20000 in
theorem ggX10_from_X10_no : GoodIn wsX10_from wsX10_no := goodIn_r _ [15, 16, 69, 70, 71, 72, 73, 74, 75, 76, 77, 78, 79, 80, 81] rfl (by decide +kernel)
set_option maxRecDepth 20000 in
theorem gX10_from_X10_no : GoodIn wsX10_from (wsV RX10 161 RX10 yX10_no wsX10_no) := goodIn_app (goodIn_of _ (by decide +kernel)) ggX10_from_X10_no
set_option maxRecDepth 20000 in
theorem ggX10_from_X10_imageOf : GoodIn wsX10_from wsX10_imageOf := goodIn_r _ [20, 21, 22, 69, 70, 71, 72, 73, 74, 75, 76, 77, 78, 79, 80, 81] rfl (by decide +kernel)
set_option maxRecDepth 20000 in
theorem gX10_from_X10_imageOf : GoodIn wsX10_from (wsV RX10 301 RX10 yX10_imageOf wsX10_imageOf) := goodIn_app (goodIn_of _ (by decide +kernel)) ggX10_from_X10_imageOf
set_option maxRecDepth 20000 in
theorem ggX10_from_X7_copy : GoodIn wsX10_from wsX7_copy := goodIn_r _ [27, 28, 29, 30, 31, 32, 33, 34, 35, 36, 37, 38, 39, 40, 41, 42, 43, 44, 45, 46, 47, 48, 49, 50, 51, 52, 53, 54, 55, 56, 57, 58, 59, 60, 61, 62, 63, 64, 65, 66, 67, 68, 82, 83, 84, 85, 86, 87, 88, 89, 90, 91, 92, 93, 94, 95, 96, 97, 98, 99, 100, 101, 102, 103, 104] rfl (by decide +kernel)
set_option maxRecDepth 20000 in
theorem gX10_from_X7_copy : GoodIn wsX10_from (wsV RX10 305 RX7 yX7_copy wsX7_copy) := goodIn_app (goodIn_of _ (by decide +kernel)) ggX10_from_X7_copy
theorem dX10_from_0 : decode cX10_from 0 = .ok (.iload_n 1, 1) := by decide +kernel
theorem dX10_from_1 : decode cX10_from 1 = .ok (.iconst 0, 1) := by decide +kernel
theorem dX10_from_2 : decode cX10_from 2 = .ok (.iconst 1, 1) := by decide +kernel
theorem dX10_from_3 : decode cX10_from 3 = .ok (.invokestatic 69, 3) := by decide +kernel
theorem dX10_from_6 : decode cX10_from 6 = .ok (.ifCond .ne 8, 3) := by decide +kernel
theorem dX10_from_9 : decode cX10_from 9 = .ok (.aload_n 0, 1) := by decide +kernel
theorem dX10_from_10 : decode cX10_from 10 = .ok (.invokevirtual 73, 3) := by decide +kernel
theorem dX10_from_13 : decode cX10_from 13 = .ok (.ireturn, 1) := by decide +kernel
theorem dX10_from_14 : decode cX10_from 14 = .ok (.aload_n 0, 1) := by decide +kernel
theorem dX10_from_15 : decode cX10_from 15 = .ok (.getfield 308, 3) := by decide +kernel
theorem dX10_from_18 : decode cX10_from 18 = .ok (.iload_n 1, 1) := by decide +kernel
theorem dX10_from_19 : decode cX10_from 19 = .ok (.ishr, 1) := by decide +kernel
theorem dX10_from_20 : decode cX10_from 20 = .ok (.iconst 1, 1) := by decide +kernel
theorem dX10_from_21 : decode cX10_from 21 = .ok (.iand, 1) := by decide +kernel
theorem dX10_from_22 : decode cX10_from 22 = .ok (.ifCond .ne 8, 3) := by decide +kernel
theorem dX10_from_25 : decode cX10_from 25 = .ok (.aload_n 0, 1) := by decide +kernel
theorem dX10_from_26 : decode cX10_from 26 = .ok (.invokevirtual 161, 3) := by decide +kernel
theorem dX10_from_29 : decode cX10_from 29 = .ok (.ireturn, 1) := by decide +kernel
theorem dX10_from_30 : decode cX10_from 30 = .ok (.aload_n 0, 1) := by decide +kernel
theorem dX10_from_31 : decode cX10_from 31 = .ok (.getfield 10, 3) := by decide +kernel
theorem dX10_from_34 : decode cX10_from 34 = .ok (.aload_n 0, 1) := by decide +kernel
theorem dX10_from_35 : decode cX10_from 35 = .ok (.iload_n 1, 1) := by decide +kernel
theorem dX10_from_36 : decode cX10_from 36 = .ok (.invokevirtual 301, 3) := by decide +kernel
theorem dX10_from_39 : decode cX10_from 39 = .ok (.invokevirtual 305, 3) := by decide +kernel
theorem dX10_from_42 : decode cX10_from 42 = .ok (.iconst 1, 1) := by decide +kernel
theorem dX10_from_43 : decode cX10_from 43 = .ok (.ireturn, 1) := by decide +kernel
theorem dX10_status_0 : decode cX10_status 0 = .ok (.iload_n 1, 1) := by decide +kernel
theorem dX10_status_1 : decode cX10_status 1 = .ok (.tableswitch 42 0 2 #[27, 32, 37], 27) := by decide +kernel
theorem dX10_status_28 : decode cX10_status 28 = .ok (.aload_n 0, 1) := by decide +kernel
theorem dX10_status_29 : decode cX10_status 29 = .ok (.getfield 311, 3) := by decide +kernel
theorem dX10_status_32 : decode cX10_status 32 = .ok (.ireturn, 1) := by decide +kernel
theorem dX10_status_33 : decode cX10_status 33 = .ok (.aload_n 0, 1) := by decide +kernel
theorem dX10_status_34 : decode cX10_status 34 = .ok (.getfield 314, 3) := by decide +kernel
theorem dX10_status_37 : decode cX10_status 37 = .ok (.ireturn, 1) := by decide +kernel
theorem dX10_status_38 : decode cX10_status 38 = .ok (.aload_n 0, 1) := by decide +kernel
theorem dX10_status_39 : decode cX10_status 39 = .ok (.getfield 317, 3) := by decide +kernel
theorem dX10_status_42 : decode cX10_status 42 = .ok (.ireturn, 1) := by decide +kernel
theorem dX10_status_43 : decode cX10_status 43 = .ok (.aload_n 0, 1) := by decide +kernel
theorem dX10_status_44 : decode cX10_status 44 = .ok (.dup, 1) := by decide +kernel
theorem dX10_status_45 : decode cX10_status 45 = .ok (.getfield 311, 3) := by decide +kernel
theorem dX10_status_48 : decode cX10_status 48 = .ok (.iconst 1, 1) := by decide +kernel
theorem dX10_status_49 : decode cX10_status 49 = .ok (.iadd, 1) := by decide +kernel
theorem dX10_status_50 : decode cX10_status 50 = .ok (.putfield 311, 3) := by decide +kernel
theorem dX10_status_53 : decode cX10_status 53 = .ok (.iconst (-1), 1) := by decide +kernel
theorem dX10_status_54 : decode cX10_status 54 = .ok (.ireturn, 1) := by decide +kernel
set_option maxRecDepth 20000 in
theorem ggX10_count_X10_within : GoodIn wsX10_count wsX10_within := goodIn_r _ [4] rfl (by decide +kernel)
set_option maxRecDepth 20000 in
theorem gX10_count_X10_within : GoodIn wsX10_count (va_wsS RX10 69 yX10_within wsX10_within) := goodIn_app (goodIn_of _ (by decide +kernel)) ggX10_count_X10_within
set_option maxRecDepth 20000 in
theorem ggX10_count_X10_counted : GoodIn wsX10_count wsX10_counted := goodIn_r _ [8, 9, 10, 11, 12, 13, 14, 15, 16, 17, 18, 19, 20, 21, 22, 23, 24, 25, 26, 27, 28, 29, 30, 31, 32, 33, 34, 35, 36, 37, 38, 39, 40, 41, 42, 43, 44, 45, 46, 47, 53, 54, 55, 56, 57, 58, 59, 60, 61, 62, 63, 64, 65, 66, 67, 68, 69, 70, 71, 72, 73, 74, 75, 76, 77, 78, 79, 80, 81, 82, 83, 84, 85, 86, 87, 88, 89, 90, 91, 92, 93, 94, 95, 96] rfl (by decide +kernel)
set_option maxRecDepth 20000 in
theorem gX10_count_X10_counted : GoodIn wsX10_count (wsV RX10 320 RX10 yX10_counted wsX10_counted) := goodIn_app (goodIn_of _ (by decide +kernel)) ggX10_count_X10_counted
set_option maxRecDepth 20000 in
theorem ggX10_count_X10_bad : GoodIn wsX10_count wsX10_bad := goodIn_r _ [51, 52, 53, 54, 55, 56, 57, 58, 59, 60, 61, 62, 63, 64, 65] rfl (by decide +kernel)
set_option maxRecDepth 20000 in
theorem gX10_count_X10_bad : GoodIn wsX10_count (wsV RX10 73 RX10 yX10_bad wsX10_bad) := goodIn_app (goodIn_of _ (by decide +kernel)) ggX10_count_X10_bad
theorem dX10_count_0 : decode cX10_count 0 = .ok (.iload_n 1, 1) := by decide +kernel
theorem dX10_count_1 : decode cX10_count 1 = .ok (.iconst 0, 1) := by decide +kernel
theorem dX10_count_2 : decode cX10_count 2 = .ok (.bipush 10, 2) := by decide +kernel
theorem dX10_count_4 : decode cX10_count 4 = .ok (.invokestatic 69, 3) := by decide +kernel
theorem dX10_count_7 : decode cX10_count 7 = .ok (.ifCond .eq 11, 3) := by decide +kernel
theorem dX10_count_10 : decode cX10_count 10 = .ok (.aload_n 0, 1) := by decide +kernel
theorem dX10_count_11 : decode cX10_count 11 = .ok (.iload_n 1, 1) := by decide +kernel
theorem dX10_count_12 : decode cX10_count 12 = .ok (.invokevirtual 320, 3) := by decide +kernel
theorem dX10_count_15 : decode cX10_count 15 = .ok (.goto 7, 3) := by decide +kernel
theorem dX10_count_18 : decode cX10_count 18 = .ok (.aload_n 0, 1) := by decide +kernel
theorem dX10_count_19 : decode cX10_count 19 = .ok (.invokevirtual 73, 3) := by decide +kernel
theorem dX10_count_22 : decode cX10_count 22 = .ok (.ireturn, 1) := by decide +kernel
set_option maxRecDepth 20000 in
theorem ggX10_digest_X10_counted : GoodIn wsX10_digest wsX10_counted := goodIn_r _ [14, 3, 4, 15, 16, 17, 18, 5, 19, 6, 7, 20, 21, 22, 23, 24, 25, 26, 27, 28, 29, 30, 31, 32, 33, 34, 35, 36, 37, 38, 39, 40, 41, 42, 43, 44, 45, 46, 47, 48, 76, 77, 78, 79, 80, 81, 82, 83, 84, 85, 86, 87, 88, 89, 90, 91, 92, 93, 94, 95, 96, 97, 98, 99, 100, 101, 102, 103, 104, 105, 106, 107, 108, 109, 110, 111, 112, 113, 114, 115, 116, 117, 118, 119] rfl (by decide +kernel)
set_option maxRecDepth 20000 in
theorem gX10_digest_X10_counted : GoodIn wsX10_digest (wsV RX10 320 RX10 yX10_counted wsX10_counted) := goodIn_app (goodIn_of _ (by decide +kernel)) ggX10_digest_X10_counted
set_option maxRecDepth 20000 in
theorem ggX10_digest_X8_folded : GoodIn wsX10_digest wsX8_folded := goodIn_r _ [52, 53, 54, 30, 55, 56, 31, 36, 57, 41, 58, 59, 60, 28, 61, 62, 94, 95, 96, 97, 98, 99, 100, 101, 102, 103, 104, 105] rfl (by decide +kernel)
set_option maxRecDepth 20000 in
theorem gX10_digest_X8_folded : GoodIn wsX10_digest (wsV RX10 327 RX8 yX8_folded wsX8_folded) := goodIn_app (goodIn_of _ (by decide +kernel)) ggX10_digest_X8_folded
set_option maxRecDepth 20000 in
theorem ggX10_digest_X6_folded : GoodIn wsX10_digest wsX6_folded := goodIn_r _ [67, 68, 69, 70, 71, 72, 73, 66, 74, 75, 106, 107, 108, 109] rfl (by decide +kernel)
set_option maxRecDepth 20000 in
theorem gX10_digest_X6_folded : GoodIn wsX10_digest (wsV RX10 331 RX6 yX6_folded wsX6_folded) := goodIn_app (goodIn_of _ (by decide +kernel)) ggX10_digest_X6_folded
theorem dX10_digest_0 : decode cX10_digest 0 = .ok (.ldc2_w 323, 3) := by decide +kernel
theorem dX10_digest_3 : decode cX10_digest 3 = .ok (.lstore_n 1, 1) := by decide +kernel
theorem dX10_digest_4 : decode cX10_digest 4 = .ok (.iconst 0, 1) := by decide +kernel
theorem dX10_digest_5 : decode cX10_digest 5 = .ok (.istore_n 3, 1) := by decide +kernel
theorem dX10_digest_6 : decode cX10_digest 6 = .ok (.iload_n 3, 1) := by decide +kernel
theorem dX10_digest_7 : decode cX10_digest 7 = .ok (.bipush 11, 2) := by decide +kernel
theorem dX10_digest_9 : decode cX10_digest 9 = .ok (.if_icmp .ge 22, 3) := by decide +kernel
theorem dX10_digest_12 : decode cX10_digest 12 = .ok (.ldc2_w 325, 3) := by decide +kernel
theorem dX10_digest_15 : decode cX10_digest 15 = .ok (.lload_n 1, 1) := by decide +kernel
theorem dX10_digest_16 : decode cX10_digest 16 = .ok (.lmul, 1) := by decide +kernel
theorem dX10_digest_17 : decode cX10_digest 17 = .ok (.aload_n 0, 1) := by decide +kernel
theorem dX10_digest_18 : decode cX10_digest 18 = .ok (.iload_n 3, 1) := by decide +kernel
theorem dX10_digest_19 : decode cX10_digest 19 = .ok (.invokevirtual 320, 3) := by decide +kernel
theorem dX10_digest_22 : decode cX10_digest 22 = .ok (.i2l, 1) := by decide +kernel
theorem dX10_digest_23 : decode cX10_digest 23 = .ok (.ladd, 1) := by decide +kernel
theorem dX10_digest_24 : decode cX10_digest 24 = .ok (.lstore_n 1, 1) := by decide +kernel
theorem dX10_digest_25 : decode cX10_digest 25 = .ok (.iinc 3 1, 3) := by decide +kernel
theorem dX10_digest_28 : decode cX10_digest 28 = .ok (.goto (-22), 3) := by decide +kernel
theorem dX10_digest_31 : decode cX10_digest 31 = .ok (.aload_n 0, 1) := by decide +kernel
theorem dX10_digest_32 : decode cX10_digest 32 = .ok (.getfield 10, 3) := by decide +kernel
theorem dX10_digest_35 : decode cX10_digest 35 = .ok (.getfield 57, 3) := by decide +kernel
theorem dX10_digest_38 : decode cX10_digest 38 = .ok (.lload_n 1, 1) := by decide +kernel
theorem dX10_digest_39 : decode cX10_digest 39 = .ok (.invokevirtual 327, 3) := by decide +kernel
theorem dX10_digest_42 : decode cX10_digest 42 = .ok (.lstore_n 1, 1) := by decide +kernel
theorem dX10_digest_43 : decode cX10_digest 43 = .ok (.aload_n 0, 1) := by decide +kernel
theorem dX10_digest_44 : decode cX10_digest 44 = .ok (.getfield 10, 3) := by decide +kernel
theorem dX10_digest_47 : decode cX10_digest 47 = .ok (.getfield 240, 3) := by decide +kernel
theorem dX10_digest_50 : decode cX10_digest 50 = .ok (.lload_n 1, 1) := by decide +kernel
theorem dX10_digest_51 : decode cX10_digest 51 = .ok (.invokevirtual 331, 3) := by decide +kernel
theorem dX10_digest_54 : decode cX10_digest 54 = .ok (.lstore_n 1, 1) := by decide +kernel
theorem dX10_digest_55 : decode cX10_digest 55 = .ok (.aload_n 0, 1) := by decide +kernel
theorem dX10_digest_56 : decode cX10_digest 56 = .ok (.getfield 10, 3) := by decide +kernel
theorem dX10_digest_59 : decode cX10_digest 59 = .ok (.getfield 269, 3) := by decide +kernel
theorem dX10_digest_62 : decode cX10_digest 62 = .ok (.lload_n 1, 1) := by decide +kernel
theorem dX10_digest_63 : decode cX10_digest 63 = .ok (.invokevirtual 331, 3) := by decide +kernel
theorem dX10_digest_66 : decode cX10_digest 66 = .ok (.lstore_n 1, 1) := by decide +kernel
theorem dX10_digest_67 : decode cX10_digest 67 = .ok (.aload_n 0, 1) := by decide +kernel
theorem dX10_digest_68 : decode cX10_digest 68 = .ok (.getfield 10, 3) := by decide +kernel
theorem dX10_digest_71 : decode cX10_digest 71 = .ok (.getfield 272, 3) := by decide +kernel
theorem dX10_digest_74 : decode cX10_digest 74 = .ok (.lload_n 1, 1) := by decide +kernel
theorem dX10_digest_75 : decode cX10_digest 75 = .ok (.invokevirtual 331, 3) := by decide +kernel
theorem dX10_digest_78 : decode cX10_digest 78 = .ok (.lstore_n 1, 1) := by decide +kernel
theorem dX10_digest_79 : decode cX10_digest 79 = .ok (.ldc2_w 325, 3) := by decide +kernel
theorem dX10_digest_82 : decode cX10_digest 82 = .ok (.lload_n 1, 1) := by decide +kernel
theorem dX10_digest_83 : decode cX10_digest 83 = .ok (.lmul, 1) := by decide +kernel
theorem dX10_digest_84 : decode cX10_digest 84 = .ok (.aload_n 0, 1) := by decide +kernel
theorem dX10_digest_85 : decode cX10_digest 85 = .ok (.getfield 50, 3) := by decide +kernel
theorem dX10_digest_88 : decode cX10_digest 88 = .ok (.i2l, 1) := by decide +kernel
theorem dX10_digest_89 : decode cX10_digest 89 = .ok (.ladd, 1) := by decide +kernel
theorem dX10_digest_90 : decode cX10_digest 90 = .ok (.lstore_n 1, 1) := by decide +kernel
theorem dX10_digest_91 : decode cX10_digest 91 = .ok (.ldc2_w 325, 3) := by decide +kernel
theorem dX10_digest_94 : decode cX10_digest 94 = .ok (.lload_n 1, 1) := by decide +kernel
theorem dX10_digest_95 : decode cX10_digest 95 = .ok (.lmul, 1) := by decide +kernel
theorem dX10_digest_96 : decode cX10_digest 96 = .ok (.aload_n 0, 1) := by decide +kernel
theorem dX10_digest_97 : decode cX10_digest 97 = .ok (.getfield 54, 3) := by decide +kernel
theorem dX10_digest_100 : decode cX10_digest 100 = .ok (.i2l, 1) := by decide +kernel
theorem dX10_digest_101 : decode cX10_digest 101 = .ok (.ladd, 1) := by decide +kernel
theorem dX10_digest_102 : decode cX10_digest 102 = .ok (.lreturn, 1) := by decide +kernel
theorem dX10_within_0 : decode cX10_within 0 = .ok (.iload_n 0, 1) := by decide +kernel
theorem dX10_within_1 : decode cX10_within 1 = .ok (.iload_n 1, 1) := by decide +kernel
theorem dX10_within_2 : decode cX10_within 2 = .ok (.if_icmp .lt 12, 3) := by decide +kernel
theorem dX10_within_5 : decode cX10_within 5 = .ok (.iload_n 0, 1) := by decide +kernel
theorem dX10_within_6 : decode cX10_within 6 = .ok (.iload_n 2, 1) := by decide +kernel
theorem dX10_within_7 : decode cX10_within 7 = .ok (.if_icmp .gt 7, 3) := by decide +kernel
theorem dX10_within_10 : decode cX10_within 10 = .ok (.iconst 1, 1) := by decide +kernel
theorem dX10_within_11 : decode cX10_within 11 = .ok (.goto 4, 3) := by decide +kernel
theorem dX10_within_14 : decode cX10_within 14 = .ok (.iconst 0, 1) := by decide +kernel
theorem dX10_within_15 : decode cX10_within 15 = .ok (.ireturn, 1) := by decide +kernel
set_option maxRecDepth 20000 in
theorem ggX10_isKind_X10_within : GoodIn wsX10_isKind wsX10_within := goodIn_r _ [4] rfl (by decide +kernel)
set_option maxRecDepth 20000 in
theorem gX10_isKind_X10_within : GoodIn wsX10_isKind (va_wsS RX10 69 yX10_within wsX10_within) := goodIn_app (goodIn_of _ (by decide +kernel)) ggX10_isKind_X10_within
theorem dX10_isKind_0 : decode cX10_isKind 0 = .ok (.iload_n 0, 1) := by decide +kernel
theorem dX10_isKind_1 : decode cX10_isKind 1 = .ok (.iconst 0, 1) := by decide +kernel
theorem dX10_isKind_2 : decode cX10_isKind 2 = .ok (.iconst 5, 1) := by decide +kernel
theorem dX10_isKind_3 : decode cX10_isKind 3 = .ok (.invokestatic 69, 3) := by decide +kernel
theorem dX10_isKind_6 : decode cX10_isKind 6 = .ok (.ireturn, 1) := by decide +kernel
set_option maxRecDepth 20000 in
theorem ggX10_isTold_X10_within : GoodIn wsX10_isTold wsX10_within := goodIn_r _ [4] rfl (by decide +kernel)
set_option maxRecDepth 20000 in
theorem gX10_isTold_X10_within : GoodIn wsX10_isTold (va_wsS RX10 69 yX10_within wsX10_within) := goodIn_app (goodIn_of _ (by decide +kernel)) ggX10_isTold_X10_within
theorem dX10_isTold_0 : decode cX10_isTold 0 = .ok (.iload_n 0, 1) := by decide +kernel
theorem dX10_isTold_1 : decode cX10_isTold 1 = .ok (.iconst 0, 1) := by decide +kernel
theorem dX10_isTold_2 : decode cX10_isTold 2 = .ok (.bipush 99, 2) := by decide +kernel
theorem dX10_isTold_4 : decode cX10_isTold 4 = .ok (.invokestatic 69, 3) := by decide +kernel
theorem dX10_isTold_7 : decode cX10_isTold 7 = .ok (.ifCond .eq 17, 3) := by decide +kernel
theorem dX10_isTold_10 : decode cX10_isTold 10 = .ok (.iload_n 1, 1) := by decide +kernel
theorem dX10_isTold_11 : decode cX10_isTold 11 = .ok (.iconst 0, 1) := by decide +kernel
theorem dX10_isTold_12 : decode cX10_isTold 12 = .ok (.bipush 20, 2) := by decide +kernel
theorem dX10_isTold_14 : decode cX10_isTold 14 = .ok (.invokestatic 69, 3) := by decide +kernel
theorem dX10_isTold_17 : decode cX10_isTold 17 = .ok (.ifCond .eq 7, 3) := by decide +kernel
theorem dX10_isTold_20 : decode cX10_isTold 20 = .ok (.iconst 1, 1) := by decide +kernel
theorem dX10_isTold_21 : decode cX10_isTold 21 = .ok (.goto 4, 3) := by decide +kernel
theorem dX10_isTold_24 : decode cX10_isTold 24 = .ok (.iconst 0, 1) := by decide +kernel
theorem dX10_isTold_25 : decode cX10_isTold 25 = .ok (.ireturn, 1) := by decide +kernel
set_option maxRecDepth 20000 in
theorem ggX10_isGlove_X10_within : GoodIn wsX10_isGlove wsX10_within := goodIn_r _ [7] rfl (by decide +kernel)
set_option maxRecDepth 20000 in
theorem gX10_isGlove_X10_within : GoodIn wsX10_isGlove (va_wsS RX10 69 yX10_within wsX10_within) := goodIn_app (goodIn_of _ (by decide +kernel)) ggX10_isGlove_X10_within
theorem dX10_isGlove_0 : decode cX10_isGlove 0 = .ok (.iload_n 1, 1) := by decide +kernel
theorem dX10_isGlove_1 : decode cX10_isGlove 1 = .ok (.iconst 0, 1) := by decide +kernel
theorem dX10_isGlove_2 : decode cX10_isGlove 2 = .ok (.aload_n 0, 1) := by decide +kernel
theorem dX10_isGlove_3 : decode cX10_isGlove 3 = .ok (.getfield 10, 3) := by decide +kernel
theorem dX10_isGlove_6 : decode cX10_isGlove 6 = .ok (.getfield 57, 3) := by decide +kernel
theorem dX10_isGlove_9 : decode cX10_isGlove 9 = .ok (.getfield 61, 3) := by decide +kernel
theorem dX10_isGlove_12 : decode cX10_isGlove 12 = .ok (.iconst 1, 1) := by decide +kernel
theorem dX10_isGlove_13 : decode cX10_isGlove 13 = .ok (.isub, 1) := by decide +kernel
theorem dX10_isGlove_14 : decode cX10_isGlove 14 = .ok (.invokestatic 69, 3) := by decide +kernel
theorem dX10_isGlove_17 : decode cX10_isGlove 17 = .ok (.ireturn, 1) := by decide +kernel
set_option maxRecDepth 20000 in
theorem ggX10_isCrossing_X10_within : GoodIn wsX10_isCrossing wsX10_within := goodIn_r _ [7] rfl (by decide +kernel)
set_option maxRecDepth 20000 in
theorem gX10_isCrossing_X10_within : GoodIn wsX10_isCrossing (va_wsS RX10 69 yX10_within wsX10_within) := goodIn_app (goodIn_of _ (by decide +kernel)) ggX10_isCrossing_X10_within
theorem dX10_isCrossing_0 : decode cX10_isCrossing 0 = .ok (.iload_n 1, 1) := by decide +kernel
theorem dX10_isCrossing_1 : decode cX10_isCrossing 1 = .ok (.iconst 0, 1) := by decide +kernel
theorem dX10_isCrossing_2 : decode cX10_isCrossing 2 = .ok (.aload_n 0, 1) := by decide +kernel
theorem dX10_isCrossing_3 : decode cX10_isCrossing 3 = .ok (.getfield 10, 3) := by decide +kernel
theorem dX10_isCrossing_6 : decode cX10_isCrossing 6 = .ok (.getfield 57, 3) := by decide +kernel
theorem dX10_isCrossing_9 : decode cX10_isCrossing 9 = .ok (.getfield 104, 3) := by decide +kernel
theorem dX10_isCrossing_12 : decode cX10_isCrossing 12 = .ok (.iconst 1, 1) := by decide +kernel
theorem dX10_isCrossing_13 : decode cX10_isCrossing 13 = .ok (.isub, 1) := by decide +kernel
theorem dX10_isCrossing_14 : decode cX10_isCrossing 14 = .ok (.invokestatic 69, 3) := by decide +kernel
theorem dX10_isCrossing_17 : decode cX10_isCrossing 17 = .ok (.ireturn, 1) := by decide +kernel
theorem dX10_imageOf_0 : decode cX10_imageOf 0 = .ok (.iload_n 1, 1) := by decide +kernel
theorem dX10_imageOf_1 : decode cX10_imageOf 1 = .ok (.ifCond .ne 10, 3) := by decide +kernel
theorem dX10_imageOf_4 : decode cX10_imageOf 4 = .ok (.aload_n 0, 1) := by decide +kernel
theorem dX10_imageOf_5 : decode cX10_imageOf 5 = .ok (.getfield 16, 3) := by decide +kernel
theorem dX10_imageOf_8 : decode cX10_imageOf 8 = .ok (.goto 7, 3) := by decide +kernel
theorem dX10_imageOf_11 : decode cX10_imageOf 11 = .ok (.aload_n 0, 1) := by decide +kernel
theorem dX10_imageOf_12 : decode cX10_imageOf 12 = .ok (.getfield 19, 3) := by decide +kernel
theorem dX10_imageOf_15 : decode cX10_imageOf 15 = .ok (.areturn, 1) := by decide +kernel
theorem dX10_bad_0 : decode cX10_bad 0 = .ok (.aload_n 0, 1) := by decide +kernel
theorem dX10_bad_1 : decode cX10_bad 1 = .ok (.dup, 1) := by decide +kernel
theorem dX10_bad_2 : decode cX10_bad 2 = .ok (.getfield 311, 3) := by decide +kernel
theorem dX10_bad_5 : decode cX10_bad 5 = .ok (.iconst 1, 1) := by decide +kernel
theorem dX10_bad_6 : decode cX10_bad 6 = .ok (.iadd, 1) := by decide +kernel
theorem dX10_bad_7 : decode cX10_bad 7 = .ok (.putfield 311, 3) := by decide +kernel
theorem dX10_bad_10 : decode cX10_bad 10 = .ok (.bipush (-2), 2) := by decide +kernel
theorem dX10_bad_12 : decode cX10_bad 12 = .ok (.ireturn, 1) := by decide +kernel
theorem dX10_badAsTen_0 : decode cX10_badAsTen 0 = .ok (.aload_n 0, 1) := by decide +kernel
theorem dX10_badAsTen_1 : decode cX10_badAsTen 1 = .ok (.dup, 1) := by decide +kernel
theorem dX10_badAsTen_2 : decode cX10_badAsTen 2 = .ok (.getfield 311, 3) := by decide +kernel
theorem dX10_badAsTen_5 : decode cX10_badAsTen 5 = .ok (.iconst 1, 1) := by decide +kernel
theorem dX10_badAsTen_6 : decode cX10_badAsTen 6 = .ok (.iadd, 1) := by decide +kernel
theorem dX10_badAsTen_7 : decode cX10_badAsTen 7 = .ok (.putfield 311, 3) := by decide +kernel
theorem dX10_badAsTen_10 : decode cX10_badAsTen 10 = .ok (.bipush (-10), 2) := by decide +kernel
theorem dX10_badAsTen_12 : decode cX10_badAsTen 12 = .ok (.ireturn, 1) := by decide +kernel
theorem dX10_no_0 : decode cX10_no 0 = .ok (.aload_n 0, 1) := by decide +kernel
theorem dX10_no_1 : decode cX10_no 1 = .ok (.dup, 1) := by decide +kernel
theorem dX10_no_2 : decode cX10_no 2 = .ok (.getfield 314, 3) := by decide +kernel
theorem dX10_no_5 : decode cX10_no 5 = .ok (.iconst 1, 1) := by decide +kernel
theorem dX10_no_6 : decode cX10_no 6 = .ok (.iadd, 1) := by decide +kernel
theorem dX10_no_7 : decode cX10_no 7 = .ok (.putfield 314, 3) := by decide +kernel
theorem dX10_no_10 : decode cX10_no 10 = .ok (.bipush (-3), 2) := by decide +kernel
theorem dX10_no_12 : decode cX10_no 12 = .ok (.ireturn, 1) := by decide +kernel
theorem dX10_full_0 : decode cX10_full 0 = .ok (.aload_n 0, 1) := by decide +kernel
theorem dX10_full_1 : decode cX10_full 1 = .ok (.dup, 1) := by decide +kernel
theorem dX10_full_2 : decode cX10_full 2 = .ok (.getfield 317, 3) := by decide +kernel
theorem dX10_full_5 : decode cX10_full 5 = .ok (.iconst 1, 1) := by decide +kernel
theorem dX10_full_6 : decode cX10_full 6 = .ok (.iadd, 1) := by decide +kernel
theorem dX10_full_7 : decode cX10_full 7 = .ok (.putfield 317, 3) := by decide +kernel
theorem dX10_full_10 : decode cX10_full 10 = .ok (.bipush (-4), 2) := by decide +kernel
theorem dX10_full_12 : decode cX10_full 12 = .ok (.ireturn, 1) := by decide +kernel
set_option maxRecDepth 20000 in
theorem ggX10_told_X10_full : GoodIn wsX10_told wsX10_full := goodIn_r _ [6, 7, 12, 13, 14, 15, 16, 17, 18, 19, 20, 21, 22, 23, 24] rfl (by decide +kernel)
set_option maxRecDepth 20000 in
theorem gX10_told_X10_full : GoodIn wsX10_told (wsV RX10 94 RX10 yX10_full wsX10_full) := goodIn_app (goodIn_of _ (by decide +kernel)) ggX10_told_X10_full
theorem dX10_told_0 : decode cX10_told 0 = .ok (.iload_n 2, 1) := by decide +kernel
theorem dX10_told_1 : decode cX10_told 1 = .ok (.ifCond .eq 10, 3) := by decide +kernel
theorem dX10_told_4 : decode cX10_told 4 = .ok (.aload_n 1, 1) := by decide +kernel
theorem dX10_told_5 : decode cX10_told 5 = .ok (.getfield 334, 3) := by decide +kernel
theorem dX10_told_8 : decode cX10_told 8 = .ok (.goto 7, 3) := by decide +kernel
theorem dX10_told_11 : decode cX10_told 11 = .ok (.aload_n 0, 1) := by decide +kernel
theorem dX10_told_12 : decode cX10_told 12 = .ok (.invokevirtual 94, 3) := by decide +kernel
theorem dX10_told_15 : decode cX10_told 15 = .ok (.ireturn, 1) := by decide +kernel
set_option maxRecDepth 20000 in
theorem ggX10_counted_X8_over : GoodIn wsX10_counted wsX8_over := goodIn_r _ [20, 21, 22, 58, 59, 60, 61, 62, 63, 64, 65, 66, 67, 68, 69] rfl (by decide +kernel)
set_option maxRecDepth 20000 in
theorem gX10_counted_X8_over : GoodIn wsX10_counted (wsV RX10 148 RX8 yX8_over wsX8_over) := goodIn_app (goodIn_of _ (by decide +kernel)) ggX10_counted_X8_over
set_option maxRecDepth 20000 in
theorem ggX10_counted_X8_waitingInAll : GoodIn wsX10_counted wsX8_waitingInAll := goodIn_r _ [26, 27, 28, 29, 30, 19, 31, 21, 22, 32, 58, 59, 60, 61, 62, 63, 64, 65, 66, 67, 68, 69] rfl (by decide +kernel)
set_option maxRecDepth 20000 in
theorem gX10_counted_X8_waitingInAll : GoodIn wsX10_counted (wsV RX10 335 RX8 yX8_waitingInAll wsX8_waitingInAll) := goodIn_app (goodIn_of _ (by decide +kernel)) ggX10_counted_X8_waitingInAll
set_option maxRecDepth 20000 in
theorem ggX10_counted_J6_bitCount_0f7a4 : GoodIn wsX10_counted wsJ6_bitCount_0f7a4 := goodIn_r _ [36, 37, 38, 39] rfl (by decide +kernel)
set_option maxRecDepth 20000 in
theorem gX10_counted_J6_bitCount_0f7a4 : GoodIn wsX10_counted (va_wsS RX10 341 yJ6_bitCount_0f7a4 wsJ6_bitCount_0f7a4) := goodIn_app (goodIn_of _ (by decide +kernel)) ggX10_counted_J6_bitCount_0f7a4
theorem dX10_counted_0 : decode cX10_counted 0 = .ok (.aload_n 0, 1) := by decide +kernel
theorem dX10_counted_1 : decode cX10_counted 1 = .ok (.getfield 10, 3) := by decide +kernel
theorem dX10_counted_4 : decode cX10_counted 4 = .ok (.getfield 57, 3) := by decide +kernel
theorem dX10_counted_7 : decode cX10_counted 7 = .ok (.astore_n 2, 1) := by decide +kernel
theorem dX10_counted_8 : decode cX10_counted 8 = .ok (.iload_n 1, 1) := by decide +kernel
theorem dX10_counted_9 : decode cX10_counted 9 = .ok (.tableswitch 132 0 9 #[55, 60, 65, 70, 75, 80, 88, 99, 110, 121], 55) := by decide +kernel
theorem dX10_counted_64 : decode cX10_counted 64 = .ok (.aload_n 2, 1) := by decide +kernel
theorem dX10_counted_65 : decode cX10_counted 65 = .ok (.getfield 61, 3) := by decide +kernel
theorem dX10_counted_68 : decode cX10_counted 68 = .ok (.ireturn, 1) := by decide +kernel
theorem dX10_counted_69 : decode cX10_counted 69 = .ok (.aload_n 2, 1) := by decide +kernel
theorem dX10_counted_70 : decode cX10_counted 70 = .ok (.getfield 104, 3) := by decide +kernel
theorem dX10_counted_73 : decode cX10_counted 73 = .ok (.ireturn, 1) := by decide +kernel
theorem dX10_counted_74 : decode cX10_counted 74 = .ok (.aload_n 2, 1) := by decide +kernel
theorem dX10_counted_75 : decode cX10_counted 75 = .ok (.getfield 137, 3) := by decide +kernel
theorem dX10_counted_78 : decode cX10_counted 78 = .ok (.ireturn, 1) := by decide +kernel
theorem dX10_counted_79 : decode cX10_counted 79 = .ok (.aload_n 2, 1) := by decide +kernel
theorem dX10_counted_80 : decode cX10_counted 80 = .ok (.invokevirtual 148, 3) := by decide +kernel
theorem dX10_counted_83 : decode cX10_counted 83 = .ok (.ireturn, 1) := by decide +kernel
theorem dX10_counted_84 : decode cX10_counted 84 = .ok (.aload_n 2, 1) := by decide +kernel
theorem dX10_counted_85 : decode cX10_counted 85 = .ok (.invokevirtual 335, 3) := by decide +kernel
theorem dX10_counted_88 : decode cX10_counted 88 = .ok (.ireturn, 1) := by decide +kernel
theorem dX10_counted_89 : decode cX10_counted 89 = .ok (.aload_n 2, 1) := by decide +kernel
theorem dX10_counted_90 : decode cX10_counted 90 = .ok (.getfield 338, 3) := by decide +kernel
theorem dX10_counted_93 : decode cX10_counted 93 = .ok (.invokestatic 341, 3) := by decide +kernel
theorem dX10_counted_96 : decode cX10_counted 96 = .ok (.ireturn, 1) := by decide +kernel
theorem dX10_counted_97 : decode cX10_counted 97 = .ok (.aload_n 0, 1) := by decide +kernel
theorem dX10_counted_98 : decode cX10_counted 98 = .ok (.getfield 10, 3) := by decide +kernel
theorem dX10_counted_101 : decode cX10_counted 101 = .ok (.getfield 240, 3) := by decide +kernel
theorem dX10_counted_104 : decode cX10_counted 104 = .ok (.getfield 334, 3) := by decide +kernel
theorem dX10_counted_107 : decode cX10_counted 107 = .ok (.ireturn, 1) := by decide +kernel
theorem dX10_counted_108 : decode cX10_counted 108 = .ok (.aload_n 0, 1) := by decide +kernel
theorem dX10_counted_109 : decode cX10_counted 109 = .ok (.getfield 10, 3) := by decide +kernel
theorem dX10_counted_112 : decode cX10_counted 112 = .ok (.getfield 269, 3) := by decide +kernel
theorem dX10_counted_115 : decode cX10_counted 115 = .ok (.getfield 334, 3) := by decide +kernel
theorem dX10_counted_118 : decode cX10_counted 118 = .ok (.ireturn, 1) := by decide +kernel
theorem dX10_counted_119 : decode cX10_counted 119 = .ok (.aload_n 0, 1) := by decide +kernel
theorem dX10_counted_120 : decode cX10_counted 120 = .ok (.getfield 10, 3) := by decide +kernel
theorem dX10_counted_123 : decode cX10_counted 123 = .ok (.getfield 272, 3) := by decide +kernel
theorem dX10_counted_126 : decode cX10_counted 126 = .ok (.getfield 334, 3) := by decide +kernel
theorem dX10_counted_129 : decode cX10_counted 129 = .ok (.ireturn, 1) := by decide +kernel
theorem dX10_counted_130 : decode cX10_counted 130 = .ok (.aload_n 0, 1) := by decide +kernel
theorem dX10_counted_131 : decode cX10_counted 131 = .ok (.getfield 10, 3) := by decide +kernel
theorem dX10_counted_134 : decode cX10_counted 134 = .ok (.getfield 81, 3) := by decide +kernel
theorem dX10_counted_137 : decode cX10_counted 137 = .ok (.getfield 85, 3) := by decide +kernel
theorem dX10_counted_140 : decode cX10_counted 140 = .ok (.ireturn, 1) := by decide +kernel
theorem dX10_counted_141 : decode cX10_counted 141 = .ok (.aload_n 0, 1) := by decide +kernel
theorem dX10_counted_142 : decode cX10_counted 142 = .ok (.getfield 46, 3) := by decide +kernel
theorem dX10_counted_145 : decode cX10_counted 145 = .ok (.getfield 113, 3) := by decide +kernel
