theorem dX10_hours_4 : decode cX10_hours 4 = .ok (.invokestatic 69, 3) := by decide +kernel
theorem dX10_hours_7 : decode cX10_hours 7 = .ok (.ifCond .ne 8, 3) := by decide +kernel
theorem dX10_hours_10 : decode cX10_hours 10 = .ok (.aload_n 0, 1) := by decide +kernel
theorem dX10_hours_11 : decode cX10_hours 11 = .ok (.invokevirtual 73, 3) := by decide +kernel
theorem dX10_hours_14 : decode cX10_hours 14 = .ok (.ireturn, 1) := by decide +kernel
theorem dX10_hours_15 : decode cX10_hours 15 = .ok (.aload_n 0, 1) := by decide +kernel
theorem dX10_hours_16 : decode cX10_hours 16 = .ok (.getfield 10, 3) := by decide +kernel
theorem dX10_hours_19 : decode cX10_hours 19 = .ok (.getfield 81, 3) := by decide +kernel
theorem dX10_hours_22 : decode cX10_hours 22 = .ok (.aload_n 0, 1) := by decide +kernel
theorem dX10_hours_23 : decode cX10_hours 23 = .ok (.getfield 10, 3) := by decide +kernel
theorem dX10_hours_26 : decode cX10_hours 26 = .ok (.getfield 57, 3) := by decide +kernel
theorem dX10_hours_29 : decode cX10_hours 29 = .ok (.invokevirtual 134, 3) := by decide +kernel
theorem dX10_hours_32 : decode cX10_hours 32 = .ok (.aload_n 0, 1) := by decide +kernel
theorem dX10_hours_33 : decode cX10_hours 33 = .ok (.getfield 10, 3) := by decide +kernel
theorem dX10_hours_36 : decode cX10_hours 36 = .ok (.getfield 57, 3) := by decide +kernel
theorem dX10_hours_39 : decode cX10_hours 39 = .ok (.iload_n 1, 1) := by decide +kernel
theorem dX10_hours_40 : decode cX10_hours 40 = .ok (.sipush 9999, 3) := by decide +kernel
theorem dX10_hours_43 : decode cX10_hours 43 = .ok (.aload_n 0, 1) := by decide +kernel
theorem dX10_hours_44 : decode cX10_hours 44 = .ok (.getfield 10, 3) := by decide +kernel
theorem dX10_hours_47 : decode cX10_hours 47 = .ok (.getfield 57, 3) := by decide +kernel
theorem dX10_hours_50 : decode cX10_hours 50 = .ok (.getfield 137, 3) := by decide +kernel
theorem dX10_hours_53 : decode cX10_hours 53 = .ok (.isub, 1) := by decide +kernel
theorem dX10_hours_54 : decode cX10_hours 54 = .ok (.invokestatic 140, 3) := by decide +kernel
theorem dX10_hours_57 : decode cX10_hours 57 = .ok (.invokevirtual 145, 3) := by decide +kernel
theorem dX10_hours_60 : decode cX10_hours 60 = .ok (.aload_n 0, 1) := by decide +kernel
theorem dX10_hours_61 : decode cX10_hours 61 = .ok (.getfield 10, 3) := by decide +kernel
theorem dX10_hours_64 : decode cX10_hours 64 = .ok (.getfield 57, 3) := by decide +kernel
theorem dX10_hours_67 : decode cX10_hours 67 = .ok (.invokevirtual 148, 3) := by decide +kernel
theorem dX10_hours_70 : decode cX10_hours 70 = .ok (.ireturn, 1) := by decide +kernel
set_option maxRecDepth 20000 in
theorem ggX10_shuts_X10_isCrossing : GoodIn wsX10_shuts wsX10_isCrossing := goodIn_r _ [8, 1, 3, 9, 10, 11, 7, 12, 42, 43, 44, 45, 46, 47, 48, 49, 50, 51, 52, 53, 54, 55, 56, 57, 58, 59, 60, 61, 62, 63, 64, 65, 66, 67, 68, 69, 70, 71] rfl (by decide +kernel)
set_option maxRecDepth 20000 in
theorem gX10_shuts_X10_isCrossing : GoodIn wsX10_shuts (wsV RX10 151 RX10 yX10_isCrossing wsX10_isCrossing) := goodIn_app (goodIn_of _ (by decide +kernel)) ggX10_shuts_X10_isCrossing
set_option maxRecDepth 20000 in
theorem ggX10_shuts_X10_bad : GoodIn wsX10_shuts wsX10_bad := goodIn_r _ [16, 17, 42, 43, 44, 45, 46, 47, 48, 49, 50, 51, 52, 53, 54] rfl (by decide +kernel)
set_option maxRecDepth 20000 in
theorem gX10_shuts_X10_bad : GoodIn wsX10_shuts (wsV RX10 73 RX10 yX10_bad wsX10_bad) := goodIn_app (goodIn_of _ (by decide +kernel)) ggX10_shuts_X10_bad
set_option maxRecDepth 20000 in
theorem ggX10_shuts_X4_keep : GoodIn wsX10_shuts wsX4_keep := goodIn_r _ [22, 23, 24, 25, 26, 27, 28, 29, 30, 31, 72, 73, 60, 61, 62, 63, 64, 65, 66, 67, 68, 69, 70, 71] rfl (by decide +kernel)
set_option maxRecDepth 20000 in
theorem gX10_shuts_X4_keep : GoodIn wsX10_shuts (wsV RX10 134 RX4 yX4_keep wsX4_keep) := goodIn_app (goodIn_of _ (by decide +kernel)) ggX10_shuts_X4_keep
set_option maxRecDepth 20000 in
theorem ggX10_shuts_X8_turn : GoodIn wsX10_shuts wsX8_turn := goodIn_r _ [36, 37, 60, 61, 62, 63, 64, 65, 66, 67, 68, 69, 70, 71] rfl (by decide +kernel)
set_option maxRecDepth 20000 in
theorem gX10_shuts_X8_turn : GoodIn wsX10_shuts (wsV RX10 154 RX8 yX8_turn wsX8_turn) := goodIn_app (goodIn_of _ (by decide +kernel)) ggX10_shuts_X8_turn
set_option maxRecDepth 20000 in
theorem ggX10_shuts_X8_shutBit : GoodIn wsX10_shuts wsX8_shutBit := goodIn_r _ [41, 37, 60, 61, 62, 63, 64, 65, 66, 67, 68, 69, 70, 71] rfl (by decide +kernel)
set_option maxRecDepth 20000 in
theorem gX10_shuts_X8_shutBit : GoodIn wsX10_shuts (wsV RX10 157 RX8 yX8_shutBit wsX8_shutBit) := goodIn_app (goodIn_of _ (by decide +kernel)) ggX10_shuts_X8_shutBit
theorem dX10_shuts_0 : decode cX10_shuts 0 = .ok (.aload_n 0, 1) := by decide +kernel
theorem dX10_shuts_1 : decode cX10_shuts 1 = .ok (.iload_n 1, 1) := by decide +kernel
theorem dX10_shuts_2 : decode cX10_shuts 2 = .ok (.invokevirtual 151, 3) := by decide +kernel
theorem dX10_shuts_5 : decode cX10_shuts 5 = .ok (.ifCond .ne 8, 3) := by decide +kernel
theorem dX10_shuts_8 : decode cX10_shuts 8 = .ok (.aload_n 0, 1) := by decide +kernel
theorem dX10_shuts_9 : decode cX10_shuts 9 = .ok (.invokevirtual 73, 3) := by decide +kernel
theorem dX10_shuts_12 : decode cX10_shuts 12 = .ok (.ireturn, 1) := by decide +kernel
theorem dX10_shuts_13 : decode cX10_shuts 13 = .ok (.aload_n 0, 1) := by decide +kernel
theorem dX10_shuts_14 : decode cX10_shuts 14 = .ok (.getfield 10, 3) := by decide +kernel
theorem dX10_shuts_17 : decode cX10_shuts 17 = .ok (.getfield 81, 3) := by decide +kernel
theorem dX10_shuts_20 : decode cX10_shuts 20 = .ok (.aload_n 0, 1) := by decide +kernel
theorem dX10_shuts_21 : decode cX10_shuts 21 = .ok (.getfield 10, 3) := by decide +kernel
theorem dX10_shuts_24 : decode cX10_shuts 24 = .ok (.getfield 57, 3) := by decide +kernel
theorem dX10_shuts_27 : decode cX10_shuts 27 = .ok (.invokevirtual 134, 3) := by decide +kernel
theorem dX10_shuts_30 : decode cX10_shuts 30 = .ok (.aload_n 0, 1) := by decide +kernel
theorem dX10_shuts_31 : decode cX10_shuts 31 = .ok (.getfield 10, 3) := by decide +kernel
theorem dX10_shuts_34 : decode cX10_shuts 34 = .ok (.getfield 57, 3) := by decide +kernel
theorem dX10_shuts_37 : decode cX10_shuts 37 = .ok (.iload_n 1, 1) := by decide +kernel
theorem dX10_shuts_38 : decode cX10_shuts 38 = .ok (.invokevirtual 154, 3) := by decide +kernel
theorem dX10_shuts_41 : decode cX10_shuts 41 = .ok (.aload_n 0, 1) := by decide +kernel
theorem dX10_shuts_42 : decode cX10_shuts 42 = .ok (.getfield 10, 3) := by decide +kernel
theorem dX10_shuts_45 : decode cX10_shuts 45 = .ok (.getfield 57, 3) := by decide +kernel
theorem dX10_shuts_48 : decode cX10_shuts 48 = .ok (.iload_n 1, 1) := by decide +kernel
theorem dX10_shuts_49 : decode cX10_shuts 49 = .ok (.invokevirtual 157, 3) := by decide +kernel
theorem dX10_shuts_52 : decode cX10_shuts 52 = .ok (.ireturn, 1) := by decide +kernel
set_option maxRecDepth 20000 in
theorem ggX10_undo_X10_no : GoodIn wsX10_undo wsX10_no := goodIn_r _ [10, 11, 26, 27, 28, 29, 30, 31, 32, 33, 34, 35, 36, 37, 38] rfl (by decide +kernel)
set_option maxRecDepth 20000 in
theorem gX10_undo_X10_no : GoodIn wsX10_undo (wsV RX10 161 RX10 yX10_no wsX10_no) := goodIn_app (goodIn_of _ (by decide +kernel)) ggX10_undo_X10_no
set_option maxRecDepth 20000 in
theorem ggX10_undo_X4_bringBack : GoodIn wsX10_undo wsX4_bringBack := goodIn_r _ [16, 17, 18, 19, 20, 21, 22, 23, 24, 25, 44, 45, 46, 47, 48, 49, 50, 51, 52, 53, 54, 55, 56, 57] rfl (by decide +kernel)
set_option maxRecDepth 20000 in
theorem gX10_undo_X4_bringBack : GoodIn wsX10_undo (wsV RX10 164 RX4 yX4_bringBack wsX4_bringBack) := goodIn_app (goodIn_of _ (by decide +kernel)) ggX10_undo_X4_bringBack
theorem dX10_undo_0 : decode cX10_undo 0 = .ok (.aload_n 0, 1) := by decide +kernel
theorem dX10_undo_1 : decode cX10_undo 1 = .ok (.getfield 10, 3) := by decide +kernel
theorem dX10_undo_4 : decode cX10_undo 4 = .ok (.getfield 81, 3) := by decide +kernel
theorem dX10_undo_7 : decode cX10_undo 7 = .ok (.getfield 85, 3) := by decide +kernel
theorem dX10_undo_10 : decode cX10_undo 10 = .ok (.ifCond .ne 8, 3) := by decide +kernel
theorem dX10_undo_13 : decode cX10_undo 13 = .ok (.aload_n 0, 1) := by decide +kernel
theorem dX10_undo_14 : decode cX10_undo 14 = .ok (.invokevirtual 161, 3) := by decide +kernel
theorem dX10_undo_17 : decode cX10_undo 17 = .ok (.ireturn, 1) := by decide +kernel
theorem dX10_undo_18 : decode cX10_undo 18 = .ok (.aload_n 0, 1) := by decide +kernel
theorem dX10_undo_19 : decode cX10_undo 19 = .ok (.getfield 10, 3) := by decide +kernel
theorem dX10_undo_22 : decode cX10_undo 22 = .ok (.getfield 81, 3) := by decide +kernel
theorem dX10_undo_25 : decode cX10_undo 25 = .ok (.aload_n 0, 1) := by decide +kernel
theorem dX10_undo_26 : decode cX10_undo 26 = .ok (.getfield 10, 3) := by decide +kernel
theorem dX10_undo_29 : decode cX10_undo 29 = .ok (.getfield 57, 3) := by decide +kernel
theorem dX10_undo_32 : decode cX10_undo 32 = .ok (.invokevirtual 164, 3) := by decide +kernel
theorem dX10_undo_35 : decode cX10_undo 35 = .ok (.aload_n 0, 1) := by decide +kernel
theorem dX10_undo_36 : decode cX10_undo 36 = .ok (.getfield 10, 3) := by decide +kernel
theorem dX10_undo_39 : decode cX10_undo 39 = .ok (.getfield 57, 3) := by decide +kernel
theorem dX10_undo_42 : decode cX10_undo 42 = .ok (.getfield 137, 3) := by decide +kernel
theorem dX10_undo_45 : decode cX10_undo 45 = .ok (.ireturn, 1) := by decide +kernel
set_option maxRecDepth 20000 in
theorem ggX10_of_X10_isGlove : GoodIn wsX10_of wsX10_isGlove := goodIn_r _ [10, 1, 2, 11, 12, 13, 9, 14, 38, 39, 40, 41, 42, 43, 44, 45, 46, 47, 48, 49, 50, 51, 52, 53, 54, 55, 56, 57, 58, 59, 60, 61, 62, 63, 64, 65, 66, 67] rfl (by decide +kernel)
set_option maxRecDepth 20000 in
theorem gX10_of_X10_isGlove : GoodIn wsX10_of (wsV RX10 167 RX10 yX10_isGlove wsX10_isGlove) := goodIn_app (goodIn_of _ (by decide +kernel)) ggX10_of_X10_isGlove
set_option maxRecDepth 20000 in
theorem ggX10_of_X10_bad : GoodIn wsX10_of wsX10_bad := goodIn_r _ [18, 19, 38, 39, 40, 41, 42, 43, 44, 45, 46, 47, 48, 49, 50] rfl (by decide +kernel)
set_option maxRecDepth 20000 in
theorem gX10_of_X10_bad : GoodIn wsX10_of (wsV RX10 73 RX10 yX10_bad wsX10_bad) := goodIn_app (goodIn_of _ (by decide +kernel)) ggX10_of_X10_bad
set_option maxRecDepth 20000 in
theorem ggX10_of_X8_waits : GoodIn wsX10_of wsX8_waits := goodIn_r _ [24, 25, 26, 56, 57, 58, 59, 60, 61, 62, 63, 64, 65, 66, 67] rfl (by decide +kernel)
set_option maxRecDepth 20000 in
theorem gX10_of_X8_waits : GoodIn wsX10_of (wsV RX10 179 RX8 yX8_waits wsX8_waits) := goodIn_app (goodIn_of _ (by decide +kernel)) ggX10_of_X8_waits
set_option maxRecDepth 20000 in
theorem ggX10_of_X8_goesNow : GoodIn wsX10_of wsX8_goesNow := goodIn_r _ [30, 31, 32, 33, 34, 35, 36, 37, 56, 57, 58, 59, 60, 61, 62, 63, 64, 65, 66, 67] rfl (by decide +kernel)
set_option maxRecDepth 20000 in
theorem gX10_of_X8_goesNow : GoodIn wsX10_of (wsV RX10 182 RX8 yX8_goesNow wsX8_goesNow) := goodIn_app (goodIn_of _ (by decide +kernel)) ggX10_of_X8_goesNow
theorem dX10_of_0 : decode cX10_of 0 = .ok (.aload_n 0, 1) := by decide +kernel
theorem dX10_of_1 : decode cX10_of 1 = .ok (.iload_n 1, 1) := by decide +kernel
theorem dX10_of_2 : decode cX10_of 2 = .ok (.invokevirtual 167, 3) := by decide +kernel
theorem dX10_of_5 : decode cX10_of 5 = .ok (.ifCond .ne 8, 3) := by decide +kernel
theorem dX10_of_8 : decode cX10_of 8 = .ok (.aload_n 0, 1) := by decide +kernel
theorem dX10_of_9 : decode cX10_of 9 = .ok (.invokevirtual 73, 3) := by decide +kernel
theorem dX10_of_12 : decode cX10_of 12 = .ok (.ireturn, 1) := by decide +kernel
theorem dX10_of_13 : decode cX10_of 13 = .ok (.aload_n 0, 1) := by decide +kernel
theorem dX10_of_14 : decode cX10_of 14 = .ok (.getfield 10, 3) := by decide +kernel
theorem dX10_of_17 : decode cX10_of 17 = .ok (.getfield 57, 3) := by decide +kernel
theorem dX10_of_20 : decode cX10_of 20 = .ok (.astore_n 3, 1) := by decide +kernel
theorem dX10_of_21 : decode cX10_of 21 = .ok (.iload_n 2, 1) := by decide +kernel
theorem dX10_of_22 : decode cX10_of 22 = .ok (.tableswitch 75 0 4 #[34, 41, 48, 55, 69], 34) := by decide +kernel
theorem dX10_of_56 : decode cX10_of 56 = .ok (.aload_n 3, 1) := by decide +kernel
theorem dX10_of_57 : decode cX10_of 57 = .ok (.getfield 170, 3) := by decide +kernel
theorem dX10_of_60 : decode cX10_of 60 = .ok (.iload_n 1, 1) := by decide +kernel
theorem dX10_of_61 : decode cX10_of 61 = .ok (.iaload, 1) := by decide +kernel
theorem dX10_of_62 : decode cX10_of 62 = .ok (.ireturn, 1) := by decide +kernel
theorem dX10_of_63 : decode cX10_of 63 = .ok (.aload_n 3, 1) := by decide +kernel
theorem dX10_of_64 : decode cX10_of 64 = .ok (.getfield 173, 3) := by decide +kernel
theorem dX10_of_67 : decode cX10_of 67 = .ok (.iload_n 1, 1) := by decide +kernel
theorem dX10_of_68 : decode cX10_of 68 = .ok (.iaload, 1) := by decide +kernel
theorem dX10_of_69 : decode cX10_of 69 = .ok (.ireturn, 1) := by decide +kernel
theorem dX10_of_70 : decode cX10_of 70 = .ok (.aload_n 3, 1) := by decide +kernel
theorem dX10_of_71 : decode cX10_of 71 = .ok (.getfield 176, 3) := by decide +kernel
theorem dX10_of_74 : decode cX10_of 74 = .ok (.iload_n 1, 1) := by decide +kernel
theorem dX10_of_75 : decode cX10_of 75 = .ok (.iaload, 1) := by decide +kernel
theorem dX10_of_76 : decode cX10_of 76 = .ok (.ireturn, 1) := by decide +kernel
theorem dX10_of_77 : decode cX10_of 77 = .ok (.aload_n 3, 1) := by decide +kernel
theorem dX10_of_78 : decode cX10_of 78 = .ok (.iload_n 1, 1) := by decide +kernel
theorem dX10_of_79 : decode cX10_of 79 = .ok (.invokevirtual 179, 3) := by decide +kernel
theorem dX10_of_82 : decode cX10_of 82 = .ok (.ifCond .eq 7, 3) := by decide +kernel
theorem dX10_of_85 : decode cX10_of 85 = .ok (.iconst 1, 1) := by decide +kernel
theorem dX10_of_86 : decode cX10_of 86 = .ok (.goto 4, 3) := by decide +kernel
theorem dX10_of_89 : decode cX10_of 89 = .ok (.iconst 0, 1) := by decide +kernel
theorem dX10_of_90 : decode cX10_of 90 = .ok (.ireturn, 1) := by decide +kernel
theorem dX10_of_91 : decode cX10_of 91 = .ok (.aload_n 3, 1) := by decide +kernel
theorem dX10_of_92 : decode cX10_of 92 = .ok (.iload_n 1, 1) := by decide +kernel
theorem dX10_of_93 : decode cX10_of 93 = .ok (.invokevirtual 182, 3) := by decide +kernel
theorem dX10_of_96 : decode cX10_of 96 = .ok (.ireturn, 1) := by decide +kernel
theorem dX10_of_97 : decode cX10_of 97 = .ok (.aload_n 0, 1) := by decide +kernel
theorem dX10_of_98 : decode cX10_of 98 = .ok (.invokevirtual 73, 3) := by decide +kernel
theorem dX10_of_101 : decode cX10_of 101 = .ok (.ireturn, 1) := by decide +kernel
set_option maxRecDepth 20000 in
theorem ggX10_about_X10_isCrossing : GoodIn wsX10_about wsX10_isCrossing := goodIn_r _ [9, 1, 2, 10, 11, 12, 8, 13, 43, 44, 45, 46, 47, 48, 49, 50, 51, 52, 53, 54, 55, 56, 57, 58, 59, 60, 61, 62, 63, 64, 65, 66, 67, 68, 69, 70, 71, 72] rfl (by decide +kernel)
set_option maxRecDepth 20000 in
theorem gX10_about_X10_isCrossing : GoodIn wsX10_about (wsV RX10 151 RX10 yX10_isCrossing wsX10_isCrossing) := goodIn_app (goodIn_of _ (by decide +kernel)) ggX10_about_X10_isCrossing
set_option maxRecDepth 20000 in
theorem ggX10_about_X10_bad : GoodIn wsX10_about wsX10_bad := goodIn_r _ [17, 18, 43, 44, 45, 46, 47, 48, 49, 50, 51, 52, 53, 54, 55] rfl (by decide +kernel)
set_option maxRecDepth 20000 in
theorem gX10_about_X10_bad : GoodIn wsX10_about (wsV RX10 73 RX10 yX10_bad wsX10_bad) := goodIn_app (goodIn_of _ (by decide +kernel)) ggX10_about_X10_bad
set_option maxRecDepth 20000 in
theorem ggX10_about_X8_shutBit : GoodIn wsX10_about wsX8_shutBit := goodIn_r _ [23, 24, 61, 62, 63, 64, 65, 66, 67, 68, 69, 70, 71, 72] rfl (by decide +kernel)
set_option maxRecDepth 20000 in
theorem gX10_about_X8_shutBit : GoodIn wsX10_about (wsV RX10 157 RX8 yX8_shutBit wsX8_shutBit) := goodIn_app (goodIn_of _ (by decide +kernel)) ggX10_about_X8_shutBit
set_option maxRecDepth 20000 in
theorem ggX10_about_X8_waitingBehind : GoodIn wsX10_about wsX8_waitingBehind := goodIn_r _ [28, 29, 30, 31, 61, 62, 63, 64, 65, 66, 67, 68, 69, 70, 71, 72] rfl (by decide +kernel)
set_option maxRecDepth 20000 in
theorem gX10_about_X8_waitingBehind : GoodIn wsX10_about (wsV RX10 191 RX8 yX8_waitingBehind wsX8_waitingBehind) := goodIn_app (goodIn_of _ (by decide +kernel)) ggX10_about_X8_waitingBehind
set_option maxRecDepth 20000 in
theorem ggX10_about_X8_letsNow : GoodIn wsX10_about wsX8_letsNow := goodIn_r _ [35, 36, 37, 38, 26, 27, 22, 28, 29, 30, 31, 39, 40, 41, 42, 61, 62, 63, 64, 65, 66, 67, 68, 69, 70, 71, 72] rfl (by decide +kernel)
set_option maxRecDepth 20000 in
theorem gX10_about_X8_letsNow : GoodIn wsX10_about (wsV RX10 194 RX8 yX8_letsNow wsX8_letsNow) := goodIn_app (goodIn_of _ (by decide +kernel)) ggX10_about_X8_letsNow
theorem dX10_about_0 : decode cX10_about 0 = .ok (.aload_n 0, 1) := by decide +kernel
theorem dX10_about_1 : decode cX10_about 1 = .ok (.iload_n 1, 1) := by decide +kernel
theorem dX10_about_2 : decode cX10_about 2 = .ok (.invokevirtual 151, 3) := by decide +kernel
theorem dX10_about_5 : decode cX10_about 5 = .ok (.ifCond .ne 8, 3) := by decide +kernel
theorem dX10_about_8 : decode cX10_about 8 = .ok (.aload_n 0, 1) := by decide +kernel
theorem dX10_about_9 : decode cX10_about 9 = .ok (.invokevirtual 73, 3) := by decide +kernel
theorem dX10_about_12 : decode cX10_about 12 = .ok (.ireturn, 1) := by decide +kernel
theorem dX10_about_13 : decode cX10_about 13 = .ok (.aload_n 0, 1) := by decide +kernel
theorem dX10_about_14 : decode cX10_about 14 = .ok (.getfield 10, 3) := by decide +kernel
theorem dX10_about_17 : decode cX10_about 17 = .ok (.getfield 57, 3) := by decide +kernel
theorem dX10_about_20 : decode cX10_about 20 = .ok (.astore_n 3, 1) := by decide +kernel
theorem dX10_about_21 : decode cX10_about 21 = .ok (.iload_n 2, 1) := by decide +kernel
theorem dX10_about_22 : decode cX10_about 22 = .ok (.tableswitch 66 0 4 #[34, 41, 48, 54, 60], 34) := by decide +kernel
theorem dX10_about_56 : decode cX10_about 56 = .ok (.aload_n 3, 1) := by decide +kernel
theorem dX10_about_57 : decode cX10_about 57 = .ok (.getfield 185, 3) := by decide +kernel
theorem dX10_about_60 : decode cX10_about 60 = .ok (.iload_n 1, 1) := by decide +kernel
theorem dX10_about_61 : decode cX10_about 61 = .ok (.iaload, 1) := by decide +kernel
theorem dX10_about_62 : decode cX10_about 62 = .ok (.ireturn, 1) := by decide +kernel
theorem dX10_about_63 : decode cX10_about 63 = .ok (.aload_n 3, 1) := by decide +kernel
theorem dX10_about_64 : decode cX10_about 64 = .ok (.getfield 188, 3) := by decide +kernel
theorem dX10_about_67 : decode cX10_about 67 = .ok (.iload_n 1, 1) := by decide +kernel
theorem dX10_about_68 : decode cX10_about 68 = .ok (.iaload, 1) := by decide +kernel
theorem dX10_about_69 : decode cX10_about 69 = .ok (.ireturn, 1) := by decide +kernel
theorem dX10_about_70 : decode cX10_about 70 = .ok (.aload_n 3, 1) := by decide +kernel
theorem dX10_about_71 : decode cX10_about 71 = .ok (.iload_n 1, 1) := by decide +kernel
theorem dX10_about_72 : decode cX10_about 72 = .ok (.invokevirtual 157, 3) := by decide +kernel
theorem dX10_about_75 : decode cX10_about 75 = .ok (.ireturn, 1) := by decide +kernel
theorem dX10_about_76 : decode cX10_about 76 = .ok (.aload_n 3, 1) := by decide +kernel
theorem dX10_about_77 : decode cX10_about 77 = .ok (.iload_n 1, 1) := by decide +kernel
theorem dX10_about_78 : decode cX10_about 78 = .ok (.invokevirtual 191, 3) := by decide +kernel
theorem dX10_about_81 : decode cX10_about 81 = .ok (.ireturn, 1) := by decide +kernel
theorem dX10_about_82 : decode cX10_about 82 = .ok (.aload_n 3, 1) := by decide +kernel
theorem dX10_about_83 : decode cX10_about 83 = .ok (.iload_n 1, 1) := by decide +kernel
theorem dX10_about_84 : decode cX10_about 84 = .ok (.invokevirtual 194, 3) := by decide +kernel
theorem dX10_about_87 : decode cX10_about 87 = .ok (.ireturn, 1) := by decide +kernel
theorem dX10_about_88 : decode cX10_about 88 = .ok (.aload_n 0, 1) := by decide +kernel
theorem dX10_about_89 : decode cX10_about 89 = .ok (.invokevirtual 73, 3) := by decide +kernel
theorem dX10_about_92 : decode cX10_about 92 = .ok (.ireturn, 1) := by decide +kernel
set_option maxRecDepth 20000 in
theorem ggX10_where_X10_isGlove : GoodIn wsX10_where wsX10_isGlove := goodIn_r _ [8, 2, 3, 9, 10, 11, 7, 12, 85, 86, 87, 88, 89, 90, 91, 92, 93, 94, 95, 96, 97, 98, 99, 100, 101, 102, 103, 104, 105, 106, 107, 108, 109, 110, 111, 112, 113, 114] rfl (by decide +kernel)
set_option maxRecDepth 20000 in
theorem gX10_where_X10_isGlove : GoodIn wsX10_where (wsV RX10 167 RX10 yX10_isGlove wsX10_isGlove) := goodIn_app (goodIn_of _ (by decide +kernel)) ggX10_where_X10_isGlove
set_option maxRecDepth 20000 in
theorem ggX10_where_X10_within : GoodIn wsX10_where wsX10_within := goodIn_r _ [12] rfl (by decide +kernel)
set_option maxRecDepth 20000 in
theorem gX10_where_X10_within : GoodIn wsX10_where (va_wsS RX10 69 yX10_within wsX10_within) := goodIn_app (goodIn_of _ (by decide +kernel)) ggX10_where_X10_within
set_option maxRecDepth 20000 in
theorem ggX10_where_X10_bad : GoodIn wsX10_where wsX10_bad := goodIn_r _ [16, 17, 85, 86, 87, 88, 89, 90, 91, 92, 93, 94, 95, 96, 97] rfl (by decide +kernel)
set_option maxRecDepth 20000 in
theorem gX10_where_X10_bad : GoodIn wsX10_where (wsV RX10 73 RX10 yX10_bad wsX10_bad) := goodIn_app (goodIn_of _ (by decide +kernel)) ggX10_where_X10_bad
set_option maxRecDepth 20000 in
theorem ggX10_where_X0_spikeThen : GoodIn wsX10_where wsX0_spikeThen := goodIn_r _ [22, 23, 24, 25, 26, 27, 28, 29, 30, 31, 32, 33, 34, 35, 36, 37, 38, 39, 40, 41, 42, 43, 44, 45, 46, 47, 48, 49, 50, 51, 52, 53, 54, 55, 56, 57, 58, 59, 60, 61, 62, 63, 64, 65, 66, 67, 68, 69, 70, 71, 72, 73, 74, 75, 76, 77, 78, 79, 80, 81, 82, 83, 84, 115, 116, 117, 118, 103, 104, 105, 106, 107, 108, 109, 110, 111, 112, 113, 114] rfl (by decide +kernel)
set_option maxRecDepth 20000 in
theorem gX10_where_X0_spikeThen : GoodIn wsX10_where (wsV RX10 197 RX0 yX0_spikeThen wsX0_spikeThen) := goodIn_app (goodIn_of _ (by decide +kernel)) ggX10_where_X0_spikeThen
theorem dX10_where_0 : decode cX10_where 0 = .ok (.aload_n 0, 1) := by decide +kernel
theorem dX10_where_1 : decode cX10_where 1 = .ok (.iload_n 1, 1) := by decide +kernel
theorem dX10_where_2 : decode cX10_where 2 = .ok (.invokevirtual 167, 3) := by decide +kernel
theorem dX10_where_5 : decode cX10_where 5 = .ok (.ifCond .eq 13, 3) := by decide +kernel
theorem dX10_where_8 : decode cX10_where 8 = .ok (.iload_n 2, 1) := by decide +kernel
theorem dX10_where_9 : decode cX10_where 9 = .ok (.iconst 0, 1) := by decide +kernel
theorem dX10_where_10 : decode cX10_where 10 = .ok (.bipush 60, 2) := by decide +kernel
theorem dX10_where_12 : decode cX10_where 12 = .ok (.invokestatic 69, 3) := by decide +kernel
theorem dX10_where_15 : decode cX10_where 15 = .ok (.ifCond .ne 8, 3) := by decide +kernel
theorem dX10_where_18 : decode cX10_where 18 = .ok (.aload_n 0, 1) := by decide +kernel
theorem dX10_where_19 : decode cX10_where 19 = .ok (.invokevirtual 73, 3) := by decide +kernel
theorem dX10_where_22 : decode cX10_where 22 = .ok (.ireturn, 1) := by decide +kernel
theorem dX10_where_23 : decode cX10_where 23 = .ok (.aload_n 0, 1) := by decide +kernel
theorem dX10_where_24 : decode cX10_where 24 = .ok (.getfield 25, 3) := by decide +kernel
theorem dX10_where_27 : decode cX10_where 27 = .ok (.aload_n 0, 1) := by decide +kernel
theorem dX10_where_28 : decode cX10_where 28 = .ok (.getfield 10, 3) := by decide +kernel
theorem dX10_where_31 : decode cX10_where 31 = .ok (.getfield 57, 3) := by decide +kernel
theorem dX10_where_34 : decode cX10_where 34 = .ok (.iload_n 1, 1) := by decide +kernel
theorem dX10_where_35 : decode cX10_where 35 = .ok (.iload_n 2, 1) := by decide +kernel
theorem dX10_where_36 : decode cX10_where 36 = .ok (.invokevirtual 197, 3) := by decide +kernel
theorem dX10_where_39 : decode cX10_where 39 = .ok (.ireturn, 1) := by decide +kernel
set_option maxRecDepth 20000 in
theorem ggX10_when_X0_hoursTillAllOver : GoodIn wsX10_when wsX0_hoursTillAllOver := goodIn_r _ [8, 9, 10, 11, 12, 13, 14, 15, 16, 17, 18, 19, 20, 21, 22, 23, 24, 25, 26, 27, 28, 29, 30, 31, 32, 33, 34, 35, 36, 37, 38, 39, 40, 41, 42, 43, 44, 45, 46, 47, 48, 49, 50, 51, 52, 53, 54, 55, 56, 57, 58, 59, 60, 61, 62, 63, 64, 65, 66, 67, 68, 69, 70, 108, 109, 110, 111, 112, 113, 114, 115, 116, 117, 118, 119, 120, 121, 122, 123] rfl (by decide +kernel)
set_option maxRecDepth 20000 in
theorem gX10_when_X0_hoursTillAllOver : GoodIn wsX10_when (wsV RX10 201 RX0 yX0_hoursTillAllOver wsX0_hoursTillAllOver) := goodIn_app (goodIn_of _ (by decide +kernel)) ggX10_when_X0_hoursTillAllOver
set_option maxRecDepth 20000 in
theorem ggX10_when_X10_isGlove : GoodIn wsX10_when wsX10_isGlove := goodIn_r _ [75, 2, 3, 76, 77, 78, 74, 79, 90, 91, 92, 93, 94, 95, 96, 97, 98, 99, 100, 101, 102, 103, 104, 105, 106, 107, 112, 113, 114, 115, 116, 117, 118, 119, 120, 121, 122, 123] rfl (by decide +kernel)
set_option maxRecDepth 20000 in
theorem gX10_when_X10_isGlove : GoodIn wsX10_when (wsV RX10 167 RX10 yX10_isGlove wsX10_isGlove) := goodIn_app (goodIn_of _ (by decide +kernel)) ggX10_when_X10_isGlove
set_option maxRecDepth 20000 in
theorem ggX10_when_X0_hoursTillOver : GoodIn wsX10_when wsX0_hoursTillOver := goodIn_r _ [83, 9, 84, 11, 12, 13, 14, 15, 16, 17, 18, 19, 20, 21, 22, 23, 24, 25, 26, 27, 28, 29, 30, 35, 36, 37, 38, 39, 40, 41, 42, 43, 44, 45, 46, 47, 48, 49, 50, 51, 52, 53, 54, 55, 56, 57, 58, 59, 60, 61, 62, 63, 64, 65, 66, 67, 68, 69, 70, 108, 109, 110, 111, 112, 113, 114, 115, 116, 117, 118, 119, 120, 121, 122, 123] rfl (by decide +kernel)
set_option maxRecDepth 20000 in
theorem gX10_when_X0_hoursTillOver : GoodIn wsX10_when (wsV RX10 205 RX0 yX0_hoursTillOver wsX0_hoursTillOver) := goodIn_app (goodIn_of _ (by decide +kernel)) ggX10_when_X0_hoursTillOver
set_option maxRecDepth 20000 in
theorem ggX10_when_X10_badAsTen : GoodIn wsX10_when wsX10_badAsTen := goodIn_r _ [88, 89, 90, 91, 92, 93, 94, 95, 96, 97, 98, 99, 100, 101, 102] rfl (by decide +kernel)
set_option maxRecDepth 20000 in
theorem gX10_when_X10_badAsTen : GoodIn wsX10_when (wsV RX10 209 RX10 yX10_badAsTen wsX10_badAsTen) := goodIn_app (goodIn_of _ (by decide +kernel)) ggX10_when_X10_badAsTen
theorem dX10_when_0 : decode cX10_when 0 = .ok (.iload_n 1, 1) := by decide +kernel
theorem dX10_when_1 : decode cX10_when 1 = .ok (.iconst (-1), 1) := by decide +kernel
theorem dX10_when_2 : decode cX10_when 2 = .ok (.if_icmp .ne 18, 3) := by decide +kernel
theorem dX10_when_5 : decode cX10_when 5 = .ok (.aload_n 0, 1) := by decide +kernel
theorem dX10_when_6 : decode cX10_when 6 = .ok (.getfield 25, 3) := by decide +kernel
theorem dX10_when_9 : decode cX10_when 9 = .ok (.aload_n 0, 1) := by decide +kernel
theorem dX10_when_10 : decode cX10_when 10 = .ok (.getfield 10, 3) := by decide +kernel
theorem dX10_when_13 : decode cX10_when 13 = .ok (.getfield 57, 3) := by decide +kernel
theorem dX10_when_16 : decode cX10_when 16 = .ok (.invokevirtual 201, 3) := by decide +kernel
theorem dX10_when_19 : decode cX10_when 19 = .ok (.ireturn, 1) := by decide +kernel
theorem dX10_when_20 : decode cX10_when 20 = .ok (.aload_n 0, 1) := by decide +kernel
theorem dX10_when_21 : decode cX10_when 21 = .ok (.iload_n 1, 1) := by decide +kernel
theorem dX10_when_22 : decode cX10_when 22 = .ok (.invokevirtual 167, 3) := by decide +kernel
theorem dX10_when_25 : decode cX10_when 25 = .ok (.ifCond .eq 21, 3) := by decide +kernel
theorem dX10_when_28 : decode cX10_when 28 = .ok (.aload_n 0, 1) := by decide +kernel
theorem dX10_when_29 : decode cX10_when 29 = .ok (.getfield 25, 3) := by decide +kernel
theorem dX10_when_32 : decode cX10_when 32 = .ok (.aload_n 0, 1) := by decide +kernel
theorem dX10_when_33 : decode cX10_when 33 = .ok (.getfield 10, 3) := by decide +kernel
theorem dX10_when_36 : decode cX10_when 36 = .ok (.getfield 57, 3) := by decide +kernel
theorem dX10_when_39 : decode cX10_when 39 = .ok (.iload_n 1, 1) := by decide +kernel
theorem dX10_when_40 : decode cX10_when 40 = .ok (.invokevirtual 205, 3) := by decide +kernel
theorem dX10_when_43 : decode cX10_when 43 = .ok (.goto 7, 3) := by decide +kernel
theorem dX10_when_46 : decode cX10_when 46 = .ok (.aload_n 0, 1) := by decide +kernel
theorem dX10_when_47 : decode cX10_when 47 = .ok (.invokevirtual 209, 3) := by decide +kernel
theorem dX10_when_50 : decode cX10_when 50 = .ok (.ireturn, 1) := by decide +kernel
set_option maxRecDepth 20000 in
theorem ggX10_pairs_X10_isGlove : GoodIn wsX10_pairs wsX10_isGlove := goodIn_r _ [8, 2, 3, 9, 10, 11, 7, 12, 58, 59, 60, 61, 62, 63, 64, 65, 66, 67, 68, 69, 70, 71, 72, 73, 74, 75, 76, 77, 78, 79, 80, 81, 82, 83, 84, 85, 86, 87] rfl (by decide +kernel)
set_option maxRecDepth 20000 in
theorem gX10_pairs_X10_isGlove : GoodIn wsX10_pairs (wsV RX10 167 RX10 yX10_isGlove wsX10_isGlove) := goodIn_app (goodIn_of _ (by decide +kernel)) ggX10_pairs_X10_isGlove
set_option maxRecDepth 20000 in
theorem ggX10_pairs_X10_badAsTen : GoodIn wsX10_pairs wsX10_badAsTen := goodIn_r _ [16, 17, 58, 59, 60, 61, 62, 63, 64, 65, 66, 67, 68, 69, 70] rfl (by decide +kernel)
set_option maxRecDepth 20000 in
theorem gX10_pairs_X10_badAsTen : GoodIn wsX10_pairs (wsV RX10 209 RX10 yX10_badAsTen wsX10_badAsTen) := goodIn_app (goodIn_of _ (by decide +kernel)) ggX10_pairs_X10_badAsTen
set_option maxRecDepth 20000 in
theorem ggX10_pairs_X2_countAll : GoodIn wsX10_pairs wsX2_countAll := goodIn_r _ [22, 23, 24, 25, 26, 27, 28, 29, 30, 31, 32, 33, 34, 35, 36, 21, 37, 38, 39, 40, 41, 42, 76, 77, 78, 79, 80, 81, 82, 83, 84, 85, 86, 87, 88, 89] rfl (by decide +kernel)
set_option maxRecDepth 20000 in
theorem gX10_pairs_X2_countAll : GoodIn wsX10_pairs (wsV RX10 212 RX2 yX2_countAll wsX2_countAll) := goodIn_app (goodIn_of _ (by decide +kernel)) ggX10_pairs_X2_countAll
set_option maxRecDepth 20000 in
theorem ggX10_pairs_X2_most : GoodIn wsX10_pairs wsX2_most := goodIn_r _ [46, 25, 24, 88, 89] rfl (by decide +kernel)
set_option maxRecDepth 20000 in
theorem gX10_pairs_X2_most : GoodIn wsX10_pairs (wsV RX10 215 RX2 yX2_most wsX2_most) := goodIn_app (goodIn_of _ (by decide +kernel)) ggX10_pairs_X2_most
set_option maxRecDepth 20000 in
theorem ggX10_pairs_X2_partner : GoodIn wsX10_pairs wsX2_partner := goodIn_r _ [50, 24, 23, 51, 52, 53, 21, 54, 25, 35, 36, 37, 38, 39, 40, 41, 28, 42, 55, 56, 57, 88, 89, 76, 77, 78, 79, 80, 81, 82, 83, 84, 85, 86, 87] rfl (by decide +kernel)
set_option maxRecDepth 20000 in
theorem gX10_pairs_X2_partner : GoodIn wsX10_pairs (wsV RX10 218 RX2 yX2_partner wsX2_partner) := goodIn_app (goodIn_of _ (by decide +kernel)) ggX10_pairs_X2_partner
theorem dX10_pairs_0 : decode cX10_pairs 0 = .ok (.iload_n 1, 1) := by decide +kernel
theorem dX10_pairs_1 : decode cX10_pairs 1 = .ok (.iconst (-1), 1) := by decide +kernel
theorem dX10_pairs_2 : decode cX10_pairs 2 = .ok (.if_icmp .eq 16, 3) := by decide +kernel
theorem dX10_pairs_5 : decode cX10_pairs 5 = .ok (.aload_n 0, 1) := by decide +kernel
theorem dX10_pairs_6 : decode cX10_pairs 6 = .ok (.iload_n 1, 1) := by decide +kernel
theorem dX10_pairs_7 : decode cX10_pairs 7 = .ok (.invokevirtual 167, 3) := by decide +kernel
theorem dX10_pairs_10 : decode cX10_pairs 10 = .ok (.ifCond .ne 8, 3) := by decide +kernel
theorem dX10_pairs_13 : decode cX10_pairs 13 = .ok (.aload_n 0, 1) := by decide +kernel
theorem dX10_pairs_14 : decode cX10_pairs 14 = .ok (.invokevirtual 209, 3) := by decide +kernel
theorem dX10_pairs_17 : decode cX10_pairs 17 = .ok (.ireturn, 1) := by decide +kernel
theorem dX10_pairs_18 : decode cX10_pairs 18 = .ok (.aload_n 0, 1) := by decide +kernel
theorem dX10_pairs_19 : decode cX10_pairs 19 = .ok (.getfield 32, 3) := by decide +kernel
theorem dX10_pairs_22 : decode cX10_pairs 22 = .ok (.aload_n 0, 1) := by decide +kernel
theorem dX10_pairs_23 : decode cX10_pairs 23 = .ok (.getfield 10, 3) := by decide +kernel
theorem dX10_pairs_26 : decode cX10_pairs 26 = .ok (.getfield 57, 3) := by decide +kernel
theorem dX10_pairs_29 : decode cX10_pairs 29 = .ok (.invokevirtual 212, 3) := by decide +kernel
theorem dX10_pairs_32 : decode cX10_pairs 32 = .ok (.iload_n 1, 1) := by decide +kernel
theorem dX10_pairs_33 : decode cX10_pairs 33 = .ok (.iconst (-1), 1) := by decide +kernel
theorem dX10_pairs_34 : decode cX10_pairs 34 = .ok (.if_icmp .ne 13, 3) := by decide +kernel
theorem dX10_pairs_37 : decode cX10_pairs 37 = .ok (.aload_n 0, 1) := by decide +kernel
theorem dX10_pairs_38 : decode cX10_pairs 38 = .ok (.getfield 32, 3) := by decide +kernel
theorem dX10_pairs_41 : decode cX10_pairs 41 = .ok (.invokevirtual 215, 3) := by decide +kernel
theorem dX10_pairs_44 : decode cX10_pairs 44 = .ok (.goto 18, 3) := by decide +kernel
theorem dX10_pairs_47 : decode cX10_pairs 47 = .ok (.aload_n 0, 1) := by decide +kernel
theorem dX10_pairs_48 : decode cX10_pairs 48 = .ok (.getfield 32, 3) := by decide +kernel
theorem dX10_pairs_51 : decode cX10_pairs 51 = .ok (.aload_n 0, 1) := by decide +kernel
theorem dX10_pairs_52 : decode cX10_pairs 52 = .ok (.getfield 10, 3) := by decide +kernel
theorem dX10_pairs_55 : decode cX10_pairs 55 = .ok (.getfield 57, 3) := by decide +kernel
theorem dX10_pairs_58 : decode cX10_pairs 58 = .ok (.iload_n 1, 1) := by decide +kernel
theorem dX10_pairs_59 : decode cX10_pairs 59 = .ok (.invokevirtual 218, 3) := by decide +kernel
theorem dX10_pairs_62 : decode cX10_pairs 62 = .ok (.ireturn, 1) := by decide +kernel
set_option maxRecDepth 20000 in
theorem ggX10_heap_X10_within : GoodIn wsX10_heap wsX10_within := goodIn_r _ [10] rfl (by decide +kernel)
set_option maxRecDepth 20000 in
theorem gX10_heap_X10_within : GoodIn wsX10_heap (va_wsS RX10 69 yX10_within wsX10_within) := goodIn_app (goodIn_of _ (by decide +kernel)) ggX10_heap_X10_within
set_option maxRecDepth 20000 in
theorem ggX10_heap_X10_bad : GoodIn wsX10_heap wsX10_bad := goodIn_r _ [14, 15, 88, 89, 90, 91, 92, 93, 94, 95, 96, 97, 98, 99, 100] rfl (by decide +kernel)
set_option maxRecDepth 20000 in
theorem gX10_heap_X10_bad : GoodIn wsX10_heap (wsV RX10 73 RX10 yX10_bad wsX10_bad) := goodIn_app (goodIn_of _ (by decide +kernel)) ggX10_heap_X10_bad
set_option maxRecDepth 20000 in
theorem ggX10_heap_X0_findHeap : GoodIn wsX10_heap wsX0_findHeap := goodIn_r _ [20, 21, 22, 23, 24, 25, 26, 27, 28, 29, 30, 31, 32, 33, 34, 35, 36, 37, 38, 39, 40, 41, 42, 43, 44, 45, 46, 47, 48, 49, 50, 51, 52, 53, 19, 54, 55, 56, 57, 58, 59, 60, 61, 62, 63, 64, 65, 66, 67, 68, 69, 70, 71, 72, 73, 74, 75, 76, 77, 78, 79, 80, 81, 82, 83, 84, 85, 86, 87, 106, 107, 108, 109, 110, 111, 112, 113, 114, 115, 116, 117, 118, 119, 120, 121] rfl (by decide +kernel)
set_option maxRecDepth 20000 in
theorem gX10_heap_X0_findHeap : GoodIn wsX10_heap (wsV RX10 221 RX0 yX0_findHeap wsX0_findHeap) := goodIn_app (goodIn_of _ (by decide +kernel)) ggX10_heap_X0_findHeap
theorem dX10_heap_0 : decode cX10_heap 0 = .ok (.iload_n 1, 1) := by decide +kernel
theorem dX10_heap_1 : decode cX10_heap 1 = .ok (.iconst 0, 1) := by decide +kernel
theorem dX10_heap_2 : decode cX10_heap 2 = .ok (.iconst 2, 1) := by decide +kernel
theorem dX10_heap_3 : decode cX10_heap 3 = .ok (.invokestatic 69, 3) := by decide +kernel
theorem dX10_heap_6 : decode cX10_heap 6 = .ok (.ifCond .ne 8, 3) := by decide +kernel
theorem dX10_heap_9 : decode cX10_heap 9 = .ok (.aload_n 0, 1) := by decide +kernel
theorem dX10_heap_10 : decode cX10_heap 10 = .ok (.invokevirtual 73, 3) := by decide +kernel
theorem dX10_heap_13 : decode cX10_heap 13 = .ok (.ireturn, 1) := by decide +kernel
theorem dX10_heap_14 : decode cX10_heap 14 = .ok (.aload_n 0, 1) := by decide +kernel
theorem dX10_heap_15 : decode cX10_heap 15 = .ok (.getfield 25, 3) := by decide +kernel
theorem dX10_heap_18 : decode cX10_heap 18 = .ok (.aload_n 0, 1) := by decide +kernel
theorem dX10_heap_19 : decode cX10_heap 19 = .ok (.getfield 10, 3) := by decide +kernel
theorem dX10_heap_22 : decode cX10_heap 22 = .ok (.getfield 57, 3) := by decide +kernel
theorem dX10_heap_25 : decode cX10_heap 25 = .ok (.invokevirtual 221, 3) := by decide +kernel
theorem dX10_heap_28 : decode cX10_heap 28 = .ok (.iload_n 1, 1) := by decide +kernel
theorem dX10_heap_29 : decode cX10_heap 29 = .ok (.lookupswitch 43 #[(0, 27), (1, 35)], 27) := by decide +kernel
theorem dX10_heap_56 : decode cX10_heap 56 = .ok (.aload_n 0, 1) := by decide +kernel
theorem dX10_heap_57 : decode cX10_heap 57 = .ok (.getfield 25, 3) := by decide +kernel
theorem dX10_heap_60 : decode cX10_heap 60 = .ok (.getfield 224, 3) := by decide +kernel
theorem dX10_heap_63 : decode cX10_heap 63 = .ok (.ireturn, 1) := by decide +kernel
theorem dX10_heap_64 : decode cX10_heap 64 = .ok (.aload_n 0, 1) := by decide +kernel
theorem dX10_heap_65 : decode cX10_heap 65 = .ok (.getfield 25, 3) := by decide +kernel
theorem dX10_heap_68 : decode cX10_heap 68 = .ok (.getfield 227, 3) := by decide +kernel
theorem dX10_heap_71 : decode cX10_heap 71 = .ok (.ireturn, 1) := by decide +kernel
theorem dX10_heap_72 : decode cX10_heap 72 = .ok (.aload_n 0, 1) := by decide +kernel
theorem dX10_heap_73 : decode cX10_heap 73 = .ok (.getfield 25, 3) := by decide +kernel
theorem dX10_heap_76 : decode cX10_heap 76 = .ok (.getfield 230, 3) := by decide +kernel
theorem dX10_heap_79 : decode cX10_heap 79 = .ok (.ireturn, 1) := by decide +kernel
set_option maxRecDepth 20000 in
theorem ggX10_hold_X10_within : GoodIn wsX10_hold wsX10_within := goodIn_r _ [7] rfl (by decide +kernel)
set_option maxRecDepth 20000 in
theorem gX10_hold_X10_within : GoodIn wsX10_hold (va_wsS RX10 69 yX10_within wsX10_within) := goodIn_app (goodIn_of _ (by decide +kernel)) ggX10_hold_X10_within
set_option maxRecDepth 20000 in
theorem ggX10_hold_X0_fewestThatHold : GoodIn wsX10_hold wsX0_fewestThatHold := goodIn_r _ [12, 13, 14, 15, 16, 17, 18, 19, 20, 21, 22, 23, 11, 24, 25, 26, 27, 28, 29, 30, 31, 32, 33, 34, 35, 36, 37, 38, 39, 40, 41, 42, 43, 44, 45, 46, 47, 48, 49, 50, 51, 52, 53, 54, 55, 56, 57, 58, 59, 60, 61, 62, 63, 64, 65, 66, 67, 68, 69, 70, 71, 72, 73, 74, 75, 76, 77, 78, 79, 80, 81, 82, 83, 84, 85, 86, 87, 88, 89, 90, 114, 115, 116, 117, 118, 119, 120, 121, 122, 123, 124, 125, 126, 127, 128, 129] rfl (by decide +kernel)
set_option maxRecDepth 20000 in
theorem gX10_hold_X0_fewestThatHold : GoodIn wsX10_hold (wsV RX10 233 RX0 yX0_fewestThatHold wsX0_fewestThatHold) := goodIn_app (goodIn_of _ (by decide +kernel)) ggX10_hold_X0_fewestThatHold
set_option maxRecDepth 20000 in
theorem ggX10_hold_X10_bad : GoodIn wsX10_hold wsX10_bad := goodIn_r _ [94, 95, 96, 97, 98, 99, 100, 101, 102, 103, 104, 105, 106, 107, 108] rfl (by decide +kernel)
set_option maxRecDepth 20000 in
theorem gX10_hold_X10_bad : GoodIn wsX10_hold (wsV RX10 73 RX10 yX10_bad wsX10_bad) := goodIn_app (goodIn_of _ (by decide +kernel)) ggX10_hold_X10_bad
theorem dX10_hold_0 : decode cX10_hold 0 = .ok (.iload_n 1, 1) := by decide +kernel
theorem dX10_hold_1 : decode cX10_hold 1 = .ok (.iconst 1, 1) := by decide +kernel
theorem dX10_hold_2 : decode cX10_hold 2 = .ok (.bipush 60, 2) := by decide +kernel
theorem dX10_hold_4 : decode cX10_hold 4 = .ok (.invokestatic 69, 3) := by decide +kernel
theorem dX10_hold_7 : decode cX10_hold 7 = .ok (.ifCond .eq 21, 3) := by decide +kernel
theorem dX10_hold_10 : decode cX10_hold 10 = .ok (.aload_n 0, 1) := by decide +kernel
theorem dX10_hold_11 : decode cX10_hold 11 = .ok (.getfield 25, 3) := by decide +kernel
theorem dX10_hold_14 : decode cX10_hold 14 = .ok (.aload_n 0, 1) := by decide +kernel
theorem dX10_hold_15 : decode cX10_hold 15 = .ok (.getfield 10, 3) := by decide +kernel
theorem dX10_hold_18 : decode cX10_hold 18 = .ok (.getfield 57, 3) := by decide +kernel
theorem dX10_hold_21 : decode cX10_hold 21 = .ok (.iload_n 1, 1) := by decide +kernel
theorem dX10_hold_22 : decode cX10_hold 22 = .ok (.invokevirtual 233, 3) := by decide +kernel
theorem dX10_hold_25 : decode cX10_hold 25 = .ok (.goto 7, 3) := by decide +kernel
theorem dX10_hold_28 : decode cX10_hold 28 = .ok (.aload_n 0, 1) := by decide +kernel
theorem dX10_hold_29 : decode cX10_hold 29 = .ok (.invokevirtual 73, 3) := by decide +kernel
theorem dX10_hold_32 : decode cX10_hold 32 = .ok (.ireturn, 1) := by decide +kernel
set_option maxRecDepth 20000 in
theorem ggX10_drop_X10_isKind : GoodIn wsX10_drop wsX10_isKind := goodIn_r _ [7, 8, 9, 6, 10] rfl (by decide +kernel)
set_option maxRecDepth 20000 in
theorem gX10_drop_X10_isKind : GoodIn wsX10_drop (va_wsS RX10 90 yX10_isKind wsX10_isKind) := goodIn_app (goodIn_of _ (by decide +kernel)) ggX10_drop_X10_isKind
set_option maxRecDepth 20000 in
theorem ggX10_drop_X10_isGlove : GoodIn wsX10_drop wsX10_isGlove := goodIn_r _ [14, 2, 3, 15, 8, 9, 6, 10, 93, 94, 95, 96, 97, 98, 99, 100, 101, 102, 103, 104, 105, 106, 107, 108, 109, 110, 111, 112, 113, 114, 115, 116, 117, 118, 119, 120, 121, 122] rfl (by decide +kernel)
set_option maxRecDepth 20000 in
theorem gX10_drop_X10_isGlove : GoodIn wsX10_drop (wsV RX10 167 RX10 yX10_isGlove wsX10_isGlove) := goodIn_app (goodIn_of _ (by decide +kernel)) ggX10_drop_X10_isGlove
set_option maxRecDepth 20000 in
theorem ggX10_drop_X10_within : GoodIn wsX10_drop wsX10_within := goodIn_r _ [10] rfl (by decide +kernel)
set_option maxRecDepth 20000 in
theorem gX10_drop_X10_within : GoodIn wsX10_drop (va_wsS RX10 69 yX10_within wsX10_within) := goodIn_app (goodIn_of _ (by decide +kernel)) ggX10_drop_X10_within
set_option maxRecDepth 20000 in
theorem ggX10_drop_X10_bad : GoodIn wsX10_drop wsX10_bad := goodIn_r _ [19, 20, 93, 94, 95, 96, 97, 98, 99, 100, 101, 102, 103, 104, 105] rfl (by decide +kernel)
set_option maxRecDepth 20000 in
theorem gX10_drop_X10_bad : GoodIn wsX10_drop (wsV RX10 73 RX10 yX10_bad wsX10_bad) := goodIn_app (goodIn_of _ (by decide +kernel)) ggX10_drop_X10_bad
set_option maxRecDepth 20000 in
theorem ggX10_drop_X0_meetings : GoodIn wsX10_drop wsX0_meetings := goodIn_r _ [25, 26, 27, 28, 29, 30, 31, 32, 33, 34, 35, 36, 37, 38, 39, 40, 41, 42, 43, 44, 45, 46, 47, 48, 49, 50, 51, 52, 53, 54, 55, 56, 57, 58, 59, 60, 61, 62, 63, 64, 65, 66, 67, 68, 69, 70, 71, 72, 73, 74, 75, 76, 77, 78, 79, 80, 81, 82, 83, 84, 85, 86, 87, 88, 89, 90, 91, 92, 123, 124, 125, 126, 111, 112, 113, 114, 115, 116, 117, 118, 119, 120, 121, 122] rfl (by decide +kernel)
set_option maxRecDepth 20000 in
theorem gX10_drop_X0_meetings : GoodIn wsX10_drop (wsV RX10 236 RX0 yX0_meetings wsX0_meetings) := goodIn_app (goodIn_of _ (by decide +kernel)) ggX10_drop_X0_meetings
theorem dX10_drop_0 : decode cX10_drop 0 = .ok (.iload_n 1, 1) := by decide +kernel
theorem dX10_drop_1 : decode cX10_drop 1 = .ok (.invokestatic 90, 3) := by decide +kernel
theorem dX10_drop_4 : decode cX10_drop 4 = .ok (.ifCond .eq 21, 3) := by decide +kernel
theorem dX10_drop_7 : decode cX10_drop 7 = .ok (.aload_n 0, 1) := by decide +kernel
theorem dX10_drop_8 : decode cX10_drop 8 = .ok (.iload_n 2, 1) := by decide +kernel
theorem dX10_drop_9 : decode cX10_drop 9 = .ok (.invokevirtual 167, 3) := by decide +kernel
theorem dX10_drop_12 : decode cX10_drop 12 = .ok (.ifCond .eq 13, 3) := by decide +kernel
theorem dX10_drop_15 : decode cX10_drop 15 = .ok (.iload_n 3, 1) := by decide +kernel
theorem dX10_drop_16 : decode cX10_drop 16 = .ok (.iconst 1, 1) := by decide +kernel
theorem dX10_drop_17 : decode cX10_drop 17 = .ok (.bipush 30, 2) := by decide +kernel
theorem dX10_drop_19 : decode cX10_drop 19 = .ok (.invokestatic 69, 3) := by decide +kernel
theorem dX10_drop_22 : decode cX10_drop 22 = .ok (.ifCond .ne 8, 3) := by decide +kernel
theorem dX10_drop_25 : decode cX10_drop 25 = .ok (.aload_n 0, 1) := by decide +kernel
theorem dX10_drop_26 : decode cX10_drop 26 = .ok (.invokevirtual 73, 3) := by decide +kernel
theorem dX10_drop_29 : decode cX10_drop 29 = .ok (.ireturn, 1) := by decide +kernel
theorem dX10_drop_30 : decode cX10_drop 30 = .ok (.aload_n 0, 1) := by decide +kernel
theorem dX10_drop_31 : decode cX10_drop 31 = .ok (.getfield 25, 3) := by decide +kernel
theorem dX10_drop_34 : decode cX10_drop 34 = .ok (.aload_n 0, 1) := by decide +kernel
theorem dX10_drop_35 : decode cX10_drop 35 = .ok (.getfield 10, 3) := by decide +kernel
theorem dX10_drop_38 : decode cX10_drop 38 = .ok (.getfield 57, 3) := by decide +kernel
theorem dX10_drop_41 : decode cX10_drop 41 = .ok (.iload_n 1, 1) := by decide +kernel
theorem dX10_drop_42 : decode cX10_drop 42 = .ok (.iload_n 2, 1) := by decide +kernel
theorem dX10_drop_43 : decode cX10_drop 43 = .ok (.iload_n 3, 1) := by decide +kernel
theorem dX10_drop_44 : decode cX10_drop 44 = .ok (.invokevirtual 236, 3) := by decide +kernel
theorem dX10_drop_47 : decode cX10_drop 47 = .ok (.ireturn, 1) := by decide +kernel
set_option maxRecDepth 20000 in
theorem ggX10_seen_X10_within : GoodIn wsX10_seen wsX10_within := goodIn_r _ [6] rfl (by decide +kernel)
set_option maxRecDepth 20000 in
theorem gX10_seen_X10_within : GoodIn wsX10_seen (va_wsS RX10 69 yX10_within wsX10_within) := goodIn_app (goodIn_of _ (by decide +kernel)) ggX10_seen_X10_within
set_option maxRecDepth 20000 in
theorem ggX10_seen_X10_bad : GoodIn wsX10_seen wsX10_bad := goodIn_r _ [10, 11, 30, 31, 32, 33, 34, 35, 36, 37, 38, 39, 40, 41, 42] rfl (by decide +kernel)
set_option maxRecDepth 20000 in
theorem gX10_seen_X10_bad : GoodIn wsX10_seen (wsV RX10 73 RX10 yX10_bad wsX10_bad) := goodIn_app (goodIn_of _ (by decide +kernel)) ggX10_seen_X10_bad
set_option maxRecDepth 20000 in
theorem ggX10_seen_X6_add : GoodIn wsX10_seen wsX6_add := goodIn_r _ [16, 17, 18, 19, 48, 49, 50, 51] rfl (by decide +kernel)
set_option maxRecDepth 20000 in
theorem gX10_seen_X6_add : GoodIn wsX10_seen (wsV RX10 244 RX6 yX6_add wsX6_add) := goodIn_app (goodIn_of _ (by decide +kernel)) ggX10_seen_X6_add
set_option maxRecDepth 20000 in
theorem ggX10_seen_X10_told : GoodIn wsX10_seen wsX10_told := goodIn_r _ [23, 24, 25, 26, 27, 5, 28, 29, 48, 49, 50, 51, 30, 31, 32, 33, 34, 35, 36, 37, 38, 39, 40, 41, 42] rfl (by decide +kernel)
set_option maxRecDepth 20000 in
theorem gX10_seen_X10_told : GoodIn wsX10_seen (wsV RX10 250 RX10 yX10_told wsX10_told) := goodIn_app (goodIn_of _ (by decide +kernel)) ggX10_seen_X10_told
theorem dX10_seen_0 : decode cX10_seen 0 = .ok (.iload_n 1, 1) := by decide +kernel
theorem dX10_seen_1 : decode cX10_seen 1 = .ok (.iconst 0, 1) := by decide +kernel
theorem dX10_seen_2 : decode cX10_seen 2 = .ok (.bipush 60, 2) := by decide +kernel
theorem dX10_seen_4 : decode cX10_seen 4 = .ok (.invokestatic 69, 3) := by decide +kernel
theorem dX10_seen_7 : decode cX10_seen 7 = .ok (.ifCond .eq 13, 3) := by decide +kernel
theorem dX10_seen_10 : decode cX10_seen 10 = .ok (.iload_n 2, 1) := by decide +kernel
theorem dX10_seen_11 : decode cX10_seen 11 = .ok (.iconst 0, 1) := by decide +kernel
theorem dX10_seen_12 : decode cX10_seen 12 = .ok (.bipush 23, 2) := by decide +kernel
theorem dX10_seen_14 : decode cX10_seen 14 = .ok (.invokestatic 69, 3) := by decide +kernel
theorem dX10_seen_17 : decode cX10_seen 17 = .ok (.ifCond .ne 8, 3) := by decide +kernel
theorem dX10_seen_20 : decode cX10_seen 20 = .ok (.aload_n 0, 1) := by decide +kernel
theorem dX10_seen_21 : decode cX10_seen 21 = .ok (.invokevirtual 73, 3) := by decide +kernel
theorem dX10_seen_24 : decode cX10_seen 24 = .ok (.ireturn, 1) := by decide +kernel
theorem dX10_seen_25 : decode cX10_seen 25 = .ok (.aload_n 0, 1) := by decide +kernel
theorem dX10_seen_26 : decode cX10_seen 26 = .ok (.aload_n 0, 1) := by decide +kernel
theorem dX10_seen_27 : decode cX10_seen 27 = .ok (.getfield 10, 3) := by decide +kernel
theorem dX10_seen_30 : decode cX10_seen 30 = .ok (.getfield 240, 3) := by decide +kernel
theorem dX10_seen_33 : decode cX10_seen 33 = .ok (.aload_n 0, 1) := by decide +kernel
theorem dX10_seen_34 : decode cX10_seen 34 = .ok (.getfield 10, 3) := by decide +kernel
theorem dX10_seen_37 : decode cX10_seen 37 = .ok (.getfield 240, 3) := by decide +kernel
theorem dX10_seen_40 : decode cX10_seen 40 = .ok (.iload_n 1, 1) := by decide +kernel
theorem dX10_seen_41 : decode cX10_seen 41 = .ok (.iload_n 2, 1) := by decide +kernel
theorem dX10_seen_42 : decode cX10_seen 42 = .ok (.iconst 0, 1) := by decide +kernel
theorem dX10_seen_43 : decode cX10_seen 43 = .ok (.iconst 0, 1) := by decide +kernel
theorem dX10_seen_44 : decode cX10_seen 44 = .ok (.invokevirtual 244, 3) := by decide +kernel
theorem dX10_seen_47 : decode cX10_seen 47 = .ok (.invokevirtual 250, 3) := by decide +kernel
theorem dX10_seen_50 : decode cX10_seen 50 = .ok (.ireturn, 1) := by decide +kernel
set_option maxRecDepth 20000 in
theorem ggX10_which_X0_seenThere : GoodIn wsX10_which wsX0_seenThere := goodIn_r _ [9, 10, 11, 12, 13, 14, 15, 16, 17, 18, 19, 20, 21, 22, 23, 24, 25, 26, 27, 28, 29, 30, 31, 32, 33, 34, 35, 36, 37, 38, 39, 40, 41, 8, 42, 43, 44, 45, 46, 47, 48, 49, 50, 51, 52, 53, 54, 55, 56, 57, 58, 59, 60, 61, 62, 63, 64, 65, 66, 67, 68, 69, 70, 71, 72, 73, 74, 75, 76, 77, 78, 79, 98, 99, 100, 101, 102, 103, 104, 105, 106, 107, 108, 109, 110, 111, 112, 113, 114, 115, 116, 117] rfl (by decide +kernel)
set_option maxRecDepth 20000 in
theorem gX10_which_X0_seenThere : GoodIn wsX10_which (wsV RX10 254 RX0 yX0_seenThere wsX0_seenThere) := goodIn_app (goodIn_of _ (by decide +kernel)) ggX10_which_X0_seenThere
theorem dX10_which_0 : decode cX10_which 0 = .ok (.aload_n 0, 1) := by decide +kernel
theorem dX10_which_1 : decode cX10_which 1 = .ok (.getfield 25, 3) := by decide +kernel
theorem dX10_which_4 : decode cX10_which 4 = .ok (.aload_n 0, 1) := by decide +kernel
theorem dX10_which_5 : decode cX10_which 5 = .ok (.getfield 10, 3) := by decide +kernel
theorem dX10_which_8 : decode cX10_which 8 = .ok (.getfield 57, 3) := by decide +kernel
theorem dX10_which_11 : decode cX10_which 11 = .ok (.aload_n 0, 1) := by decide +kernel
theorem dX10_which_12 : decode cX10_which 12 = .ok (.getfield 10, 3) := by decide +kernel
theorem dX10_which_15 : decode cX10_which 15 = .ok (.getfield 240, 3) := by decide +kernel
theorem dX10_which_18 : decode cX10_which 18 = .ok (.invokevirtual 254, 3) := by decide +kernel
theorem dX10_which_21 : decode cX10_which 21 = .ok (.ireturn, 1) := by decide +kernel
set_option maxRecDepth 20000 in
theorem ggX10_tell_X10_which : GoodIn wsX10_tell wsX10_which := goodIn_r _ [9, 1, 2, 3, 10, 11, 12, 13, 14, 15, 16, 17, 18, 19, 20, 21, 22, 23, 24, 25, 26, 27, 28, 29, 30, 31, 32, 33, 34, 35, 36, 37, 38, 39, 40, 41, 42, 43, 44, 45, 46, 47, 48, 49, 50, 51, 52, 53, 54, 55, 56, 57, 58, 59, 60, 61, 62, 63, 64, 65, 66, 67, 68, 69, 70, 71, 72, 73, 74, 75, 76, 77, 78, 79, 80, 81, 82, 83, 84, 85, 116, 117, 118, 119, 120, 121, 122, 123, 124, 125, 126, 127, 128, 129, 130, 131, 132, 133, 134, 135, 136, 137, 138, 139, 140, 141, 142, 143, 144, 145, 146, 147, 148, 149, 150, 151, 152, 153] rfl (by decide +kernel)
set_option maxRecDepth 20000 in
theorem gX10_tell_X10_which : GoodIn wsX10_tell (wsV RX10 258 RX10 yX10_which wsX10_which) := goodIn_app (goodIn_of _ (by decide +kernel)) ggX10_tell_X10_which
set_option maxRecDepth 20000 in
theorem ggX10_tell_X0_hoursThatPart : GoodIn wsX10_tell wsX0_hoursThatPart := goodIn_r _ [89, 17, 16, 49, 90, 19, 20, 21, 22, 23, 24, 25, 26, 27, 28, 29, 30, 31, 32, 33, 34, 35, 36, 37, 38, 91, 92, 93, 94, 95, 96, 97, 98, 99, 100, 101, 102, 103, 104, 105, 106, 107, 108, 109, 110, 111, 112, 113, 114, 115, 50, 51, 52, 53, 54, 55, 56, 57, 58, 59, 60, 61, 62, 63, 64, 65, 66, 67, 68, 69, 70, 71, 72, 73, 74, 75, 76, 77, 78, 79, 80, 81, 82, 83, 84, 85, 146, 147, 148, 149, 134, 135, 136, 137, 138, 139, 140, 141, 142, 143, 144, 145, 154, 155, 156, 157] rfl (by decide +kernel)
set_option maxRecDepth 20000 in
theorem gX10_tell_X0_hoursThatPart : GoodIn wsX10_tell (wsV RX10 261 RX0 yX0_hoursThatPart wsX0_hoursThatPart) := goodIn_app (goodIn_of _ (by decide +kernel)) ggX10_tell_X0_hoursThatPart
theorem dX10_tell_0 : decode cX10_tell 0 = .ok (.aload_n 0, 1) := by decide +kernel
theorem dX10_tell_1 : decode cX10_tell 1 = .ok (.getfield 25, 3) := by decide +kernel
theorem dX10_tell_4 : decode cX10_tell 4 = .ok (.aload_n 0, 1) := by decide +kernel
theorem dX10_tell_5 : decode cX10_tell 5 = .ok (.getfield 10, 3) := by decide +kernel
theorem dX10_tell_8 : decode cX10_tell 8 = .ok (.getfield 57, 3) := by decide +kernel
theorem dX10_tell_11 : decode cX10_tell 11 = .ok (.aload_n 0, 1) := by decide +kernel
theorem dX10_tell_12 : decode cX10_tell 12 = .ok (.invokevirtual 258, 3) := by decide +kernel
theorem dX10_tell_15 : decode cX10_tell 15 = .ok (.aload_n 0, 1) := by decide +kernel
theorem dX10_tell_16 : decode cX10_tell 16 = .ok (.getfield 39, 3) := by decide +kernel
theorem dX10_tell_19 : decode cX10_tell 19 = .ok (.invokevirtual 261, 3) := by decide +kernel
theorem dX10_tell_22 : decode cX10_tell 22 = .ok (.ireturn, 1) := by decide +kernel
set_option maxRecDepth 20000 in
theorem ggX10_note_X10_isGlove : GoodIn wsX10_note wsX10_isGlove := goodIn_r _ [7, 1, 8, 9, 10, 11, 6, 12, 39, 40, 41, 42, 43, 44, 45, 46, 47, 48, 49, 50, 51, 52, 53, 54, 55, 56, 57, 58, 59, 60, 61, 62, 63, 64, 65, 66, 67, 68] rfl (by decide +kernel)
set_option maxRecDepth 20000 in
theorem gX10_note_X10_isGlove : GoodIn wsX10_note (wsV RX10 167 RX10 yX10_isGlove wsX10_isGlove) := goodIn_app (goodIn_of _ (by decide +kernel)) ggX10_note_X10_isGlove
set_option maxRecDepth 20000 in
theorem ggX10_note_X10_within : GoodIn wsX10_note wsX10_within := goodIn_r _ [12] rfl (by decide +kernel)
set_option maxRecDepth 20000 in
theorem gX10_note_X10_within : GoodIn wsX10_note (va_wsS RX10 69 yX10_within wsX10_within) := goodIn_app (goodIn_of _ (by decide +kernel)) ggX10_note_X10_within
set_option maxRecDepth 20000 in
theorem ggX10_note_X10_isTold : GoodIn wsX10_note wsX10_isTold := goodIn_r _ [15, 10, 11, 6, 12] rfl (by decide +kernel)
set_option maxRecDepth 20000 in
theorem gX10_note_X10_isTold : GoodIn wsX10_note (va_wsS RX10 265 yX10_isTold wsX10_isTold) := goodIn_app (goodIn_of _ (by decide +kernel)) ggX10_note_X10_isTold
set_option maxRecDepth 20000 in
theorem ggX10_note_X10_bad : GoodIn wsX10_note wsX10_bad := goodIn_r _ [19, 20, 39, 40, 41, 42, 43, 44, 45, 46, 47, 48, 49, 50, 51] rfl (by decide +kernel)
set_option maxRecDepth 20000 in
theorem gX10_note_X10_bad : GoodIn wsX10_note (wsV RX10 73 RX10 yX10_bad wsX10_bad) := goodIn_app (goodIn_of _ (by decide +kernel)) ggX10_note_X10_bad
set_option maxRecDepth 20000 in
theorem ggX10_note_X6_add : GoodIn wsX10_note wsX6_add := goodIn_r _ [25, 26, 27, 28, 69, 70, 71, 72] rfl (by decide +kernel)
set_option maxRecDepth 20000 in
theorem gX10_note_X6_add : GoodIn wsX10_note (wsV RX10 244 RX6 yX6_add wsX6_add) := goodIn_app (goodIn_of _ (by decide +kernel)) ggX10_note_X6_add
set_option maxRecDepth 20000 in
theorem ggX10_note_X10_told : GoodIn wsX10_note wsX10_told := goodIn_r _ [32, 33, 34, 35, 36, 6, 37, 38, 69, 70, 71, 72, 39, 40, 41, 42, 43, 44, 45, 46, 47, 48, 49, 50, 51] rfl (by decide +kernel)
set_option maxRecDepth 20000 in
theorem gX10_note_X10_told : GoodIn wsX10_note (wsV RX10 250 RX10 yX10_told wsX10_told) := goodIn_app (goodIn_of _ (by decide +kernel)) ggX10_note_X10_told
theorem dX10_note_0 : decode cX10_note 0 = .ok (.aload_n 0, 1) := by decide +kernel
theorem dX10_note_1 : decode cX10_note 1 = .ok (.iload_n 1, 1) := by decide +kernel
theorem dX10_note_2 : decode cX10_note 2 = .ok (.invokevirtual 167, 3) := by decide +kernel
theorem dX10_note_5 : decode cX10_note 5 = .ok (.ifCond .eq 21, 3) := by decide +kernel
theorem dX10_note_8 : decode cX10_note 8 = .ok (.iload_n 3, 1) := by decide +kernel
theorem dX10_note_9 : decode cX10_note 9 = .ok (.iconst 0, 1) := by decide +kernel
theorem dX10_note_10 : decode cX10_note 10 = .ok (.iconst 4, 1) := by decide +kernel
theorem dX10_note_11 : decode cX10_note 11 = .ok (.invokestatic 69, 3) := by decide +kernel
theorem dX10_note_14 : decode cX10_note 14 = .ok (.ifCond .eq 12, 3) := by decide +kernel
theorem dX10_note_17 : decode cX10_note 17 = .ok (.iload_n 2, 1) := by decide +kernel
theorem dX10_note_18 : decode cX10_note 18 = .ok (.iload 4, 2) := by decide +kernel
theorem dX10_note_20 : decode cX10_note 20 = .ok (.invokestatic 265, 3) := by decide +kernel
theorem dX10_note_23 : decode cX10_note 23 = .ok (.ifCond .ne 8, 3) := by decide +kernel
theorem dX10_note_26 : decode cX10_note 26 = .ok (.aload_n 0, 1) := by decide +kernel
theorem dX10_note_27 : decode cX10_note 27 = .ok (.invokevirtual 73, 3) := by decide +kernel
theorem dX10_note_30 : decode cX10_note 30 = .ok (.ireturn, 1) := by decide +kernel
theorem dX10_note_31 : decode cX10_note 31 = .ok (.aload_n 0, 1) := by decide +kernel
theorem dX10_note_32 : decode cX10_note 32 = .ok (.aload_n 0, 1) := by decide +kernel
theorem dX10_note_33 : decode cX10_note 33 = .ok (.getfield 10, 3) := by decide +kernel
theorem dX10_note_36 : decode cX10_note 36 = .ok (.getfield 269, 3) := by decide +kernel
theorem dX10_note_39 : decode cX10_note 39 = .ok (.aload_n 0, 1) := by decide +kernel
theorem dX10_note_40 : decode cX10_note 40 = .ok (.getfield 10, 3) := by decide +kernel
theorem dX10_note_43 : decode cX10_note 43 = .ok (.getfield 269, 3) := by decide +kernel
theorem dX10_note_46 : decode cX10_note 46 = .ok (.iload_n 1, 1) := by decide +kernel
theorem dX10_note_47 : decode cX10_note 47 = .ok (.iload_n 2, 1) := by decide +kernel
theorem dX10_note_48 : decode cX10_note 48 = .ok (.iload_n 3, 1) := by decide +kernel
theorem dX10_note_49 : decode cX10_note 49 = .ok (.iload 4, 2) := by decide +kernel
theorem dX10_note_51 : decode cX10_note 51 = .ok (.invokevirtual 244, 3) := by decide +kernel
theorem dX10_note_54 : decode cX10_note 54 = .ok (.invokevirtual 250, 3) := by decide +kernel
theorem dX10_note_57 : decode cX10_note 57 = .ok (.ireturn, 1) := by decide +kernel
set_option maxRecDepth 20000 in
theorem ggX10_mark_X10_isCrossing : GoodIn wsX10_mark wsX10_isCrossing := goodIn_r _ [7, 1, 8, 9, 10, 11, 6, 12, 39, 40, 41, 42, 43, 44, 45, 46, 47, 48, 49, 50, 51, 52, 53, 54, 55, 56, 57, 58, 59, 60, 61, 62, 63, 64, 65, 66, 67, 68] rfl (by decide +kernel)
set_option maxRecDepth 20000 in
theorem gX10_mark_X10_isCrossing : GoodIn wsX10_mark (wsV RX10 151 RX10 yX10_isCrossing wsX10_isCrossing) := goodIn_app (goodIn_of _ (by decide +kernel)) ggX10_mark_X10_isCrossing
set_option maxRecDepth 20000 in
theorem ggX10_mark_X10_within : GoodIn wsX10_mark wsX10_within := goodIn_r _ [12] rfl (by decide +kernel)
set_option maxRecDepth 20000 in
theorem gX10_mark_X10_within : GoodIn wsX10_mark (va_wsS RX10 69 yX10_within wsX10_within) := goodIn_app (goodIn_of _ (by decide +kernel)) ggX10_mark_X10_within
set_option maxRecDepth 20000 in
theorem ggX10_mark_X10_isTold : GoodIn wsX10_mark wsX10_isTold := goodIn_r _ [15, 10, 11, 6, 12] rfl (by decide +kernel)
set_option maxRecDepth 20000 in
theorem gX10_mark_X10_isTold : GoodIn wsX10_mark (va_wsS RX10 265 yX10_isTold wsX10_isTold) := goodIn_app (goodIn_of _ (by decide +kernel)) ggX10_mark_X10_isTold
set_option maxRecDepth 20000 in
theorem ggX10_mark_X10_bad : GoodIn wsX10_mark wsX10_bad := goodIn_r _ [19, 20, 39, 40, 41, 42, 43, 44, 45, 46, 47, 48, 49, 50, 51] rfl (by decide +kernel)
set_option maxRecDepth 20000 in
theorem gX10_mark_X10_bad : GoodIn wsX10_mark (wsV RX10 73 RX10 yX10_bad wsX10_bad) := goodIn_app (goodIn_of _ (by decide +kernel)) ggX10_mark_X10_bad
set_option maxRecDepth 20000 in
theorem ggX10_mark_X6_add : GoodIn wsX10_mark wsX6_add := goodIn_r _ [25, 26, 27, 28, 69, 70, 71, 72] rfl (by decide +kernel)
set_option maxRecDepth 20000 in
theorem gX10_mark_X6_add : GoodIn wsX10_mark (wsV RX10 244 RX6 yX6_add wsX6_add) := goodIn_app (goodIn_of _ (by decide +kernel)) ggX10_mark_X6_add
set_option maxRecDepth 20000 in
theorem ggX10_mark_X10_told : GoodIn wsX10_mark wsX10_told := goodIn_r _ [32, 33, 34, 35, 36, 6, 37, 38, 69, 70, 71, 72, 39, 40, 41, 42, 43, 44, 45, 46, 47, 48, 49, 50, 51] rfl (by decide +kernel)
set_option maxRecDepth 20000 in
theorem gX10_mark_X10_told : GoodIn wsX10_mark (wsV RX10 250 RX10 yX10_told wsX10_told) := goodIn_app (goodIn_of _ (by decide +kernel)) ggX10_mark_X10_told
theorem dX10_mark_0 : decode cX10_mark 0 = .ok (.aload_n 0, 1) := by decide +kernel
theorem dX10_mark_1 : decode cX10_mark 1 = .ok (.iload_n 1, 1) := by decide +kernel
theorem dX10_mark_2 : decode cX10_mark 2 = .ok (.invokevirtual 151, 3) := by decide +kernel
theorem dX10_mark_5 : decode cX10_mark 5 = .ok (.ifCond .eq 22, 3) := by decide +kernel
theorem dX10_mark_8 : decode cX10_mark 8 = .ok (.iload_n 3, 1) := by decide +kernel
theorem dX10_mark_9 : decode cX10_mark 9 = .ok (.iconst 1, 1) := by decide +kernel
theorem dX10_mark_10 : decode cX10_mark 10 = .ok (.bipush 7, 2) := by decide +kernel
theorem dX10_mark_12 : decode cX10_mark 12 = .ok (.invokestatic 69, 3) := by decide +kernel
theorem dX10_mark_15 : decode cX10_mark 15 = .ok (.ifCond .eq 12, 3) := by decide +kernel
theorem dX10_mark_18 : decode cX10_mark 18 = .ok (.iload_n 2, 1) := by decide +kernel
theorem dX10_mark_19 : decode cX10_mark 19 = .ok (.iload 4, 2) := by decide +kernel
theorem dX10_mark_21 : decode cX10_mark 21 = .ok (.invokestatic 265, 3) := by decide +kernel
theorem dX10_mark_24 : decode cX10_mark 24 = .ok (.ifCond .ne 8, 3) := by decide +kernel
theorem dX10_mark_27 : decode cX10_mark 27 = .ok (.aload_n 0, 1) := by decide +kernel
theorem dX10_mark_28 : decode cX10_mark 28 = .ok (.invokevirtual 73, 3) := by decide +kernel
theorem dX10_mark_31 : decode cX10_mark 31 = .ok (.ireturn, 1) := by decide +kernel
theorem dX10_mark_32 : decode cX10_mark 32 = .ok (.aload_n 0, 1) := by decide +kernel
theorem dX10_mark_33 : decode cX10_mark 33 = .ok (.aload_n 0, 1) := by decide +kernel
theorem dX10_mark_34 : decode cX10_mark 34 = .ok (.getfield 10, 3) := by decide +kernel
theorem dX10_mark_37 : decode cX10_mark 37 = .ok (.getfield 272, 3) := by decide +kernel
theorem dX10_mark_40 : decode cX10_mark 40 = .ok (.aload_n 0, 1) := by decide +kernel
theorem dX10_mark_41 : decode cX10_mark 41 = .ok (.getfield 10, 3) := by decide +kernel
theorem dX10_mark_44 : decode cX10_mark 44 = .ok (.getfield 272, 3) := by decide +kernel
theorem dX10_mark_47 : decode cX10_mark 47 = .ok (.iload_n 1, 1) := by decide +kernel
theorem dX10_mark_48 : decode cX10_mark 48 = .ok (.iload_n 2, 1) := by decide +kernel
theorem dX10_mark_49 : decode cX10_mark 49 = .ok (.iload_n 3, 1) := by decide +kernel
theorem dX10_mark_50 : decode cX10_mark 50 = .ok (.iload 4, 2) := by decide +kernel
theorem dX10_mark_52 : decode cX10_mark 52 = .ok (.invokevirtual 244, 3) := by decide +kernel
theorem dX10_mark_55 : decode cX10_mark 55 = .ok (.invokevirtual 250, 3) := by decide +kernel
theorem dX10_mark_58 : decode cX10_mark 58 = .ok (.ireturn, 1) := by decide +kernel
set_option maxRecDepth 20000 in
theorem ggX10_forget_X6_empty : GoodIn wsX10_forget wsX6_empty := goodIn_r _ [9, 10, 35, 36, 37, 38] rfl (by decide +kernel)
set_option maxRecDepth 20000 in
theorem gX10_forget_X6_empty : GoodIn wsX10_forget (wsV RX10 274 RX6 yX6_empty wsX6_empty) := goodIn_app (goodIn_of _ (by decide +kernel)) ggX10_forget_X6_empty
set_option maxRecDepth 20000 in
theorem ggX10_forget_X10_bad : GoodIn wsX10_forget wsX10_bad := goodIn_r _ [15, 16, 17, 18, 19, 20, 21, 22, 23, 24, 25, 26, 27, 28, 29] rfl (by decide +kernel)
set_option maxRecDepth 20000 in
theorem gX10_forget_X10_bad : GoodIn wsX10_forget (wsV RX10 73 RX10 yX10_bad wsX10_bad) := goodIn_app (goodIn_of _ (by decide +kernel)) ggX10_forget_X10_bad
theorem dX10_forget_0 : decode cX10_forget 0 = .ok (.iload_n 1, 1) := by decide +kernel
theorem dX10_forget_1 : decode cX10_forget 1 = .ok (.tableswitch 60 0 2 #[27, 38, 49], 27) := by decide +kernel
theorem dX10_forget_28 : decode cX10_forget 28 = .ok (.aload_n 0, 1) := by decide +kernel
theorem dX10_forget_29 : decode cX10_forget 29 = .ok (.getfield 10, 3) := by decide +kernel
theorem dX10_forget_32 : decode cX10_forget 32 = .ok (.getfield 240, 3) := by decide +kernel
theorem dX10_forget_35 : decode cX10_forget 35 = .ok (.invokevirtual 274, 3) := by decide +kernel
theorem dX10_forget_38 : decode cX10_forget 38 = .ok (.ireturn, 1) := by decide +kernel
theorem dX10_forget_39 : decode cX10_forget 39 = .ok (.aload_n 0, 1) := by decide +kernel
theorem dX10_forget_40 : decode cX10_forget 40 = .ok (.getfield 10, 3) := by decide +kernel
theorem dX10_forget_43 : decode cX10_forget 43 = .ok (.getfield 269, 3) := by decide +kernel
theorem dX10_forget_46 : decode cX10_forget 46 = .ok (.invokevirtual 274, 3) := by decide +kernel
theorem dX10_forget_49 : decode cX10_forget 49 = .ok (.ireturn, 1) := by decide +kernel
theorem dX10_forget_50 : decode cX10_forget 50 = .ok (.aload_n 0, 1) := by decide +kernel
theorem dX10_forget_51 : decode cX10_forget 51 = .ok (.getfield 10, 3) := by decide +kernel
theorem dX10_forget_54 : decode cX10_forget 54 = .ok (.getfield 272, 3) := by decide +kernel
theorem dX10_forget_57 : decode cX10_forget 57 = .ok (.invokevirtual 274, 3) := by decide +kernel
theorem dX10_forget_60 : decode cX10_forget 60 = .ok (.ireturn, 1) := by decide +kernel
theorem dX10_forget_61 : decode cX10_forget 61 = .ok (.aload_n 0, 1) := by decide +kernel
theorem dX10_forget_62 : decode cX10_forget 62 = .ok (.invokevirtual 73, 3) := by decide +kernel
theorem dX10_forget_65 : decode cX10_forget 65 = .ok (.ireturn, 1) := by decide +kernel
set_option maxRecDepth 20000 in
theorem ggX10_is_X10_isGlove : GoodIn wsX10_is wsX10_isGlove := goodIn_r _ [7, 1, 8, 9, 10, 11, 6, 12, 38, 39, 40, 41, 42, 43, 44, 45, 46, 47, 48, 49, 50, 51, 52, 53, 54, 55, 56, 57, 58, 59, 60, 61, 62, 63, 64, 65, 66, 67] rfl (by decide +kernel)
set_option maxRecDepth 20000 in
theorem gX10_is_X10_isGlove : GoodIn wsX10_is (wsV RX10 167 RX10 yX10_isGlove wsX10_isGlove) := goodIn_app (goodIn_of _ (by decide +kernel)) ggX10_is_X10_isGlove
set_option maxRecDepth 20000 in
theorem ggX10_is_X10_kindsThatFit : GoodIn wsX10_is wsX10_kindsThatFit := goodIn_r _ [15, 16, 17, 18, 19, 20, 21, 22, 23, 24, 25, 26, 27, 28, 29, 30, 31, 32, 68, 69, 70, 71] rfl (by decide +kernel)
set_option maxRecDepth 20000 in
theorem gX10_is_X10_kindsThatFit : GoodIn wsX10_is (va_wsS RX10 276 yX10_kindsThatFit wsX10_kindsThatFit) := goodIn_app (goodIn_of _ (by decide +kernel)) ggX10_is_X10_kindsThatFit
set_option maxRecDepth 20000 in
theorem ggX10_is_X10_bad : GoodIn wsX10_is wsX10_bad := goodIn_r _ [36, 37, 38, 39, 40, 41, 42, 43, 44, 45, 46, 47, 48, 49, 50] rfl (by decide +kernel)
set_option maxRecDepth 20000 in
theorem gX10_is_X10_bad : GoodIn wsX10_is (wsV RX10 73 RX10 yX10_bad wsX10_bad) := goodIn_app (goodIn_of _ (by decide +kernel)) ggX10_is_X10_bad
theorem dX10_is_0 : decode cX10_is 0 = .ok (.aload_n 0, 1) := by decide +kernel
theorem dX10_is_1 : decode cX10_is 1 = .ok (.iload_n 1, 1) := by decide +kernel
theorem dX10_is_2 : decode cX10_is 2 = .ok (.invokevirtual 167, 3) := by decide +kernel
theorem dX10_is_5 : decode cX10_is 5 = .ok (.ifCond .eq 18, 3) := by decide +kernel
theorem dX10_is_8 : decode cX10_is 8 = .ok (.aload_n 0, 1) := by decide +kernel
theorem dX10_is_9 : decode cX10_is 9 = .ok (.getfield 10, 3) := by decide +kernel
theorem dX10_is_12 : decode cX10_is 12 = .ok (.getfield 269, 3) := by decide +kernel
theorem dX10_is_15 : decode cX10_is 15 = .ok (.iload_n 1, 1) := by decide +kernel
theorem dX10_is_16 : decode cX10_is 16 = .ok (.iconst 1, 1) := by decide +kernel
theorem dX10_is_17 : decode cX10_is 17 = .ok (.invokestatic 276, 3) := by decide +kernel
theorem dX10_is_20 : decode cX10_is 20 = .ok (.goto 7, 3) := by decide +kernel
theorem dX10_is_23 : decode cX10_is 23 = .ok (.aload_n 0, 1) := by decide +kernel
theorem dX10_is_24 : decode cX10_is 24 = .ok (.invokevirtual 73, 3) := by decide +kernel
theorem dX10_is_27 : decode cX10_is 27 = .ok (.ireturn, 1) := by decide +kernel
set_option maxRecDepth 20000 in
theorem ggX10_look_X10_isGlove : GoodIn wsX10_look wsX10_isGlove := goodIn_r _ [7, 1, 8, 9, 10, 11, 6, 12, 69, 70, 71, 72, 73, 74, 75, 76, 77, 78, 79, 80, 81, 82, 83, 84, 85, 86, 87, 88, 89, 90, 91, 92, 93, 94, 95, 96, 97, 98] rfl (by decide +kernel)
set_option maxRecDepth 20000 in
theorem gX10_look_X10_isGlove : GoodIn wsX10_look (wsV RX10 167 RX10 yX10_isGlove wsX10_isGlove) := goodIn_app (goodIn_of _ (by decide +kernel)) ggX10_look_X10_isGlove
set_option maxRecDepth 20000 in
theorem ggX10_look_X10_bad : GoodIn wsX10_look wsX10_bad := goodIn_r _ [16, 17, 69, 70, 71, 72, 73, 74, 75, 76, 77, 78, 79, 80, 81] rfl (by decide +kernel)
set_option maxRecDepth 20000 in
theorem gX10_look_X10_bad : GoodIn wsX10_look (wsV RX10 73 RX10 yX10_bad wsX10_bad) := goodIn_app (goodIn_of _ (by decide +kernel)) ggX10_look_X10_bad
set_option maxRecDepth 20000 in
theorem ggX10_look_X10_kindsThatFit : GoodIn wsX10_look wsX10_kindsThatFit := goodIn_r _ [20, 21, 22, 23, 24, 25, 26, 27, 28, 29, 30, 31, 32, 33, 34, 35, 36, 37, 99, 100, 101, 102] rfl (by decide +kernel)
set_option maxRecDepth 20000 in
theorem gX10_look_X10_kindsThatFit : GoodIn wsX10_look (va_wsS RX10 276 yX10_kindsThatFit wsX10_kindsThatFit) := goodIn_app (goodIn_of _ (by decide +kernel)) ggX10_look_X10_kindsThatFit
set_option maxRecDepth 20000 in
theorem ggX10_look_X10_nextLook : GoodIn wsX10_look wsX10_nextLook := goodIn_r _ [41, 42, 43, 44, 45, 46, 47, 48, 49, 50, 51, 52, 53, 54, 55, 56, 28, 29, 30, 31, 32, 33, 34, 35, 36, 37, 57, 58, 59, 60, 61, 62, 63, 64, 65, 66, 67, 68, 69, 70, 71, 72, 73, 74, 75, 76, 77, 78, 79, 80, 81, 103, 104, 105, 106] rfl (by decide +kernel)
set_option maxRecDepth 20000 in
theorem gX10_look_X10_nextLook : GoodIn wsX10_look (wsV RX10 280 RX10 yX10_nextLook wsX10_nextLook) := goodIn_app (goodIn_of _ (by decide +kernel)) ggX10_look_X10_nextLook
theorem dX10_look_0 : decode cX10_look 0 = .ok (.aload_n 0, 1) := by decide +kernel
theorem dX10_look_1 : decode cX10_look 1 = .ok (.iload_n 1, 1) := by decide +kernel
theorem dX10_look_2 : decode cX10_look 2 = .ok (.invokevirtual 167, 3) := by decide +kernel
theorem dX10_look_5 : decode cX10_look 5 = .ok (.ifCond .ne 8, 3) := by decide +kernel
theorem dX10_look_8 : decode cX10_look 8 = .ok (.aload_n 0, 1) := by decide +kernel
theorem dX10_look_9 : decode cX10_look 9 = .ok (.invokevirtual 73, 3) := by decide +kernel
theorem dX10_look_12 : decode cX10_look 12 = .ok (.ireturn, 1) := by decide +kernel
theorem dX10_look_13 : decode cX10_look 13 = .ok (.aload_n 0, 1) := by decide +kernel
theorem dX10_look_14 : decode cX10_look 14 = .ok (.aload_n 0, 1) := by decide +kernel
theorem dX10_look_15 : decode cX10_look 15 = .ok (.getfield 10, 3) := by decide +kernel
theorem dX10_look_18 : decode cX10_look 18 = .ok (.getfield 269, 3) := by decide +kernel
theorem dX10_look_21 : decode cX10_look 21 = .ok (.iload_n 1, 1) := by decide +kernel
theorem dX10_look_22 : decode cX10_look 22 = .ok (.iconst 1, 1) := by decide +kernel
theorem dX10_look_23 : decode cX10_look 23 = .ok (.invokestatic 276, 3) := by decide +kernel
theorem dX10_look_26 : decode cX10_look 26 = .ok (.iconst 1, 1) := by decide +kernel
theorem dX10_look_27 : decode cX10_look 27 = .ok (.invokevirtual 280, 3) := by decide +kernel
theorem dX10_look_30 : decode cX10_look 30 = .ok (.ireturn, 1) := by decide +kernel
set_option maxRecDepth 20000 in
theorem ggX10_kinds_X10_isCrossing : GoodIn wsX10_kinds wsX10_isCrossing := goodIn_r _ [7, 1, 8, 9, 10, 11, 6, 12, 38, 39, 40, 41, 42, 43, 44, 45, 46, 47, 48, 49, 50, 51, 52, 53, 54, 55, 56, 57, 58, 59, 60, 61, 62, 63, 64, 65, 66, 67] rfl (by decide +kernel)
set_option maxRecDepth 20000 in
theorem gX10_kinds_X10_isCrossing : GoodIn wsX10_kinds (wsV RX10 151 RX10 yX10_isCrossing wsX10_isCrossing) := goodIn_app (goodIn_of _ (by decide +kernel)) ggX10_kinds_X10_isCrossing
set_option maxRecDepth 20000 in
theorem ggX10_kinds_X10_kindsThatFit : GoodIn wsX10_kinds wsX10_kindsThatFit := goodIn_r _ [15, 16, 17, 18, 19, 20, 21, 22, 23, 24, 25, 26, 27, 28, 29, 30, 31, 32, 68, 69, 70, 71] rfl (by decide +kernel)
set_option maxRecDepth 20000 in
theorem gX10_kinds_X10_kindsThatFit : GoodIn wsX10_kinds (va_wsS RX10 276 yX10_kindsThatFit wsX10_kindsThatFit) := goodIn_app (goodIn_of _ (by decide +kernel)) ggX10_kinds_X10_kindsThatFit
set_option maxRecDepth 20000 in
theorem ggX10_kinds_X10_bad : GoodIn wsX10_kinds wsX10_bad := goodIn_r _ [36, 37, 38, 39, 40, 41, 42, 43, 44, 45, 46, 47, 48, 49, 50] rfl (by decide +kernel)
set_option maxRecDepth 20000 in
theorem gX10_kinds_X10_bad : GoodIn wsX10_kinds (wsV RX10 73 RX10 yX10_bad wsX10_bad) := goodIn_app (goodIn_of _ (by decide +kernel)) ggX10_kinds_X10_bad
theorem dX10_kinds_0 : decode cX10_kinds 0 = .ok (.aload_n 0, 1) := by decide +kernel
theorem dX10_kinds_1 : decode cX10_kinds 1 = .ok (.iload_n 1, 1) := by decide +kernel
theorem dX10_kinds_2 : decode cX10_kinds 2 = .ok (.invokevirtual 151, 3) := by decide +kernel
theorem dX10_kinds_5 : decode cX10_kinds 5 = .ok (.ifCond .eq 18, 3) := by decide +kernel
theorem dX10_kinds_8 : decode cX10_kinds 8 = .ok (.aload_n 0, 1) := by decide +kernel
theorem dX10_kinds_9 : decode cX10_kinds 9 = .ok (.getfield 10, 3) := by decide +kernel
theorem dX10_kinds_12 : decode cX10_kinds 12 = .ok (.getfield 272, 3) := by decide +kernel
theorem dX10_kinds_15 : decode cX10_kinds 15 = .ok (.iload_n 1, 1) := by decide +kernel
theorem dX10_kinds_16 : decode cX10_kinds 16 = .ok (.iconst 0, 1) := by decide +kernel
theorem dX10_kinds_17 : decode cX10_kinds 17 = .ok (.invokestatic 276, 3) := by decide +kernel
theorem dX10_kinds_20 : decode cX10_kinds 20 = .ok (.goto 7, 3) := by decide +kernel
theorem dX10_kinds_23 : decode cX10_kinds 23 = .ok (.aload_n 0, 1) := by decide +kernel
theorem dX10_kinds_24 : decode cX10_kinds 24 = .ok (.invokevirtual 73, 3) := by decide +kernel
theorem dX10_kinds_27 : decode cX10_kinds 27 = .ok (.ireturn, 1) := by decide +kernel
set_option maxRecDepth 20000 in
theorem ggX10_ask_X10_isCrossing : GoodIn wsX10_ask wsX10_isCrossing := goodIn_r _ [7, 1, 8, 9, 10, 11, 6, 12, 69, 70, 71, 72, 73, 74, 75, 76, 77, 78, 79, 80, 81, 82, 83, 84, 85, 86, 87, 88, 89, 90, 91, 92, 93, 94, 95, 96, 97, 98] rfl (by decide +kernel)
set_option maxRecDepth 20000 in
theorem gX10_ask_X10_isCrossing : GoodIn wsX10_ask (wsV RX10 151 RX10 yX10_isCrossing wsX10_isCrossing) := goodIn_app (goodIn_of _ (by decide +kernel)) ggX10_ask_X10_isCrossing
set_option maxRecDepth 20000 in
theorem ggX10_ask_X10_bad : GoodIn wsX10_ask wsX10_bad := goodIn_r _ [16, 17, 69, 70, 71, 72, 73, 74, 75, 76, 77, 78, 79, 80, 81] rfl (by decide +kernel)
set_option maxRecDepth 20000 in
theorem gX10_ask_X10_bad : GoodIn wsX10_ask (wsV RX10 73 RX10 yX10_bad wsX10_bad) := goodIn_app (goodIn_of _ (by decide +kernel)) ggX10_ask_X10_bad
set_option maxRecDepth 20000 in
theorem ggX10_ask_X10_kindsThatFit : GoodIn wsX10_ask wsX10_kindsThatFit := goodIn_r _ [20, 21, 22, 23, 24, 25, 26, 27, 28, 29, 30, 31, 32, 33, 34, 35, 36, 37, 99, 100, 101, 102] rfl (by decide +kernel)
set_option maxRecDepth 20000 in
theorem gX10_ask_X10_kindsThatFit : GoodIn wsX10_ask (va_wsS RX10 276 yX10_kindsThatFit wsX10_kindsThatFit) := goodIn_app (goodIn_of _ (by decide +kernel)) ggX10_ask_X10_kindsThatFit
set_option maxRecDepth 20000 in
theorem ggX10_ask_X10_nextLook : GoodIn wsX10_ask wsX10_nextLook := goodIn_r _ [41, 42, 43, 44, 45, 46, 47, 48, 49, 50, 51, 52, 53, 54, 55, 56, 28, 29, 30, 31, 32, 33, 34, 35, 36, 37, 57, 58, 59, 60, 61, 62, 63, 64, 65, 66, 67, 68, 69, 70, 71, 72, 73, 74, 75, 76, 77, 78, 79, 80, 81, 103, 104, 105, 106] rfl (by decide +kernel)
set_option maxRecDepth 20000 in
theorem gX10_ask_X10_nextLook : GoodIn wsX10_ask (wsV RX10 280 RX10 yX10_nextLook wsX10_nextLook) := goodIn_app (goodIn_of _ (by decide +kernel)) ggX10_ask_X10_nextLook
theorem dX10_ask_0 : decode cX10_ask 0 = .ok (.aload_n 0, 1) := by decide +kernel
theorem dX10_ask_1 : decode cX10_ask 1 = .ok (.iload_n 1, 1) := by decide +kernel
theorem dX10_ask_2 : decode cX10_ask 2 = .ok (.invokevirtual 151, 3) := by decide +kernel
theorem dX10_ask_5 : decode cX10_ask 5 = .ok (.ifCond .ne 8, 3) := by decide +kernel
theorem dX10_ask_8 : decode cX10_ask 8 = .ok (.aload_n 0, 1) := by decide +kernel
theorem dX10_ask_9 : decode cX10_ask 9 = .ok (.invokevirtual 73, 3) := by decide +kernel
theorem dX10_ask_12 : decode cX10_ask 12 = .ok (.ireturn, 1) := by decide +kernel
theorem dX10_ask_13 : decode cX10_ask 13 = .ok (.aload_n 0, 1) := by decide +kernel
theorem dX10_ask_14 : decode cX10_ask 14 = .ok (.aload_n 0, 1) := by decide +kernel
theorem dX10_ask_15 : decode cX10_ask 15 = .ok (.getfield 10, 3) := by decide +kernel
theorem dX10_ask_18 : decode cX10_ask 18 = .ok (.getfield 272, 3) := by decide +kernel
theorem dX10_ask_21 : decode cX10_ask 21 = .ok (.iload_n 1, 1) := by decide +kernel
theorem dX10_ask_22 : decode cX10_ask 22 = .ok (.iconst 0, 1) := by decide +kernel
theorem dX10_ask_23 : decode cX10_ask 23 = .ok (.invokestatic 276, 3) := by decide +kernel
theorem dX10_ask_26 : decode cX10_ask 26 = .ok (.iconst 0, 1) := by decide +kernel
theorem dX10_ask_27 : decode cX10_ask 27 = .ok (.invokevirtual 280, 3) := by decide +kernel
theorem dX10_ask_30 : decode cX10_ask 30 = .ok (.ireturn, 1) := by decide +kernel
set_option maxRecDepth 20000 in
theorem ggX10_lady_X10_isGlove : GoodIn wsX10_lady wsX10_isGlove := goodIn_r _ [8, 2, 3, 9, 10, 11, 7, 12, 90, 91, 92, 93, 94, 95, 96, 97, 98, 99, 100, 101, 102, 103, 104, 105, 106, 107, 108, 109, 110, 111, 112, 113, 114, 115, 116, 117, 118, 119] rfl (by decide +kernel)
set_option maxRecDepth 20000 in
theorem gX10_lady_X10_isGlove : GoodIn wsX10_lady (wsV RX10 167 RX10 yX10_isGlove wsX10_isGlove) := goodIn_app (goodIn_of _ (by decide +kernel)) ggX10_lady_X10_isGlove
set_option maxRecDepth 20000 in
theorem ggX10_lady_X10_badAsTen : GoodIn wsX10_lady wsX10_badAsTen := goodIn_r _ [16, 17, 90, 91, 92, 93, 94, 95, 96, 97, 98, 99, 100, 101, 102] rfl (by decide +kernel)
set_option maxRecDepth 20000 in
theorem gX10_lady_X10_badAsTen : GoodIn wsX10_lady (wsV RX10 209 RX10 yX10_badAsTen wsX10_badAsTen) := goodIn_app (goodIn_of _ (by decide +kernel)) ggX10_lady_X10_badAsTen
set_option maxRecDepth 20000 in
theorem ggX10_lady_X0_visited : GoodIn wsX10_lady wsX0_visited := goodIn_r _ [22, 23, 24, 25, 26, 27, 28, 29, 30, 31, 32, 33, 34, 35, 36, 37, 38, 39, 40, 41, 42, 43, 44, 45, 46, 47, 48, 49, 50, 51, 52, 53, 54, 55, 56, 57, 58, 59, 60, 61, 62, 63, 64, 65, 66, 67, 68, 69, 70, 71, 72, 73, 74, 75, 76, 77, 78, 79, 80, 120, 121, 122, 123, 108, 109, 110, 111, 112, 113, 114, 115, 116, 117, 118, 119] rfl (by decide +kernel)
set_option maxRecDepth 20000 in
theorem gX10_lady_X0_visited : GoodIn wsX10_lady (wsV RX10 284 RX0 yX0_visited wsX0_visited) := goodIn_app (goodIn_of _ (by decide +kernel)) ggX10_lady_X0_visited
set_option maxRecDepth 20000 in
theorem ggX10_lady_X10_rests : GoodIn wsX10_lady wsX10_rests := goodIn_r _ [83, 84, 85, 7, 86, 87, 88, 89] rfl (by decide +kernel)
set_option maxRecDepth 20000 in
theorem gX10_lady_X10_rests : GoodIn wsX10_lady (va_wsS RX10 287 yX10_rests wsX10_rests) := goodIn_app (goodIn_of _ (by decide +kernel)) ggX10_lady_X10_rests
theorem dX10_lady_0 : decode cX10_lady 0 = .ok (.aload_n 0, 1) := by decide +kernel
theorem dX10_lady_1 : decode cX10_lady 1 = .ok (.iload_n 1, 1) := by decide +kernel
theorem dX10_lady_2 : decode cX10_lady 2 = .ok (.invokevirtual 167, 3) := by decide +kernel
theorem dX10_lady_5 : decode cX10_lady 5 = .ok (.ifCond .eq 8, 3) := by decide +kernel
theorem dX10_lady_8 : decode cX10_lady 8 = .ok (.iload_n 2, 1) := by decide +kernel
theorem dX10_lady_9 : decode cX10_lady 9 = .ok (.iconst (-1), 1) := by decide +kernel
theorem dX10_lady_10 : decode cX10_lady 10 = .ok (.if_icmp .ge 8, 3) := by decide +kernel
theorem dX10_lady_13 : decode cX10_lady 13 = .ok (.aload_n 0, 1) := by decide +kernel
theorem dX10_lady_14 : decode cX10_lady 14 = .ok (.invokevirtual 209, 3) := by decide +kernel
theorem dX10_lady_17 : decode cX10_lady 17 = .ok (.ireturn, 1) := by decide +kernel
theorem dX10_lady_18 : decode cX10_lady 18 = .ok (.aload_n 0, 1) := by decide +kernel
theorem dX10_lady_19 : decode cX10_lady 19 = .ok (.getfield 25, 3) := by decide +kernel
theorem dX10_lady_22 : decode cX10_lady 22 = .ok (.aload_n 0, 1) := by decide +kernel
theorem dX10_lady_23 : decode cX10_lady 23 = .ok (.getfield 10, 3) := by decide +kernel
theorem dX10_lady_26 : decode cX10_lady 26 = .ok (.getfield 57, 3) := by decide +kernel
theorem dX10_lady_29 : decode cX10_lady 29 = .ok (.iload_n 1, 1) := by decide +kernel
theorem dX10_lady_30 : decode cX10_lady 30 = .ok (.invokevirtual 284, 3) := by decide +kernel
theorem dX10_lady_33 : decode cX10_lady 33 = .ok (.istore_n 3, 1) := by decide +kernel
theorem dX10_lady_34 : decode cX10_lady 34 = .ok (.iconst 0, 1) := by decide +kernel
theorem dX10_lady_35 : decode cX10_lady 35 = .ok (.istore 4, 2) := by decide +kernel
theorem dX10_lady_37 : decode cX10_lady 37 = .ok (.iconst 0, 1) := by decide +kernel
theorem dX10_lady_38 : decode cX10_lady 38 = .ok (.istore 5, 2) := by decide +kernel
theorem dX10_lady_40 : decode cX10_lady 40 = .ok (.iload 5, 2) := by decide +kernel
theorem dX10_lady_42 : decode cX10_lady 42 = .ok (.bipush 100, 2) := by decide +kernel
theorem dX10_lady_44 : decode cX10_lady 44 = .ok (.if_icmp .ge 38, 3) := by decide +kernel
theorem dX10_lady_47 : decode cX10_lady 47 = .ok (.iload 5, 2) := by decide +kernel
theorem dX10_lady_49 : decode cX10_lady 49 = .ok (.bipush 10, 2) := by decide +kernel
theorem dX10_lady_51 : decode cX10_lady 51 = .ok (.idiv, 1) := by decide +kernel
theorem dX10_lady_52 : decode cX10_lady 52 = .ok (.iload 5, 2) := by decide +kernel
theorem dX10_lady_54 : decode cX10_lady 54 = .ok (.bipush 10, 2) := by decide +kernel
theorem dX10_lady_56 : decode cX10_lady 56 = .ok (.irem, 1) := by decide +kernel
theorem dX10_lady_57 : decode cX10_lady 57 = .ok (.iload_n 3, 1) := by decide +kernel
theorem dX10_lady_58 : decode cX10_lady 58 = .ok (.invokestatic 287, 3) := by decide +kernel
theorem dX10_lady_61 : decode cX10_lady 61 = .ok (.ifCond .eq 15, 3) := by decide +kernel
theorem dX10_lady_64 : decode cX10_lady 64 = .ok (.iload 4, 2) := by decide +kernel
theorem dX10_lady_66 : decode cX10_lady 66 = .ok (.iload_n 2, 1) := by decide +kernel
theorem dX10_lady_67 : decode cX10_lady 67 = .ok (.if_icmp .ne 6, 3) := by decide +kernel
theorem dX10_lady_70 : decode cX10_lady 70 = .ok (.iload 5, 2) := by decide +kernel
theorem dX10_lady_72 : decode cX10_lady 72 = .ok (.ireturn, 1) := by decide +kernel
theorem dX10_lady_73 : decode cX10_lady 73 = .ok (.iinc 4 1, 3) := by decide +kernel
theorem dX10_lady_76 : decode cX10_lady 76 = .ok (.iinc 5 1, 3) := by decide +kernel
theorem dX10_lady_79 : decode cX10_lady 79 = .ok (.goto (-39), 3) := by decide +kernel
theorem dX10_lady_82 : decode cX10_lady 82 = .ok (.iload_n 2, 1) := by decide +kernel
theorem dX10_lady_83 : decode cX10_lady 83 = .ok (.iconst (-1), 1) := by decide +kernel
theorem dX10_lady_84 : decode cX10_lady 84 = .ok (.if_icmp .ne 8, 3) := by decide +kernel
theorem dX10_lady_87 : decode cX10_lady 87 = .ok (.iload 4, 2) := by decide +kernel
theorem dX10_lady_89 : decode cX10_lady 89 = .ok (.goto 5, 3) := by decide +kernel
theorem dX10_lady_92 : decode cX10_lady 92 = .ok (.bipush (-5), 2) := by decide +kernel
theorem dX10_lady_94 : decode cX10_lady 94 = .ok (.ireturn, 1) := by decide +kernel
set_option maxRecDepth 20000 in
theorem ggX10_rain_X10_within : GoodIn wsX10_rain wsX10_within := goodIn_r _ [6] rfl (by decide +kernel)
set_option maxRecDepth 20000 in
theorem gX10_rain_X10_within : GoodIn wsX10_rain (va_wsS RX10 69 yX10_within wsX10_within) := goodIn_app (goodIn_of _ (by decide +kernel)) ggX10_rain_X10_within
set_option maxRecDepth 20000 in
theorem ggX10_rain_X10_bad : GoodIn wsX10_rain wsX10_bad := goodIn_r _ [10, 11, 36, 37, 38, 39, 40, 41, 42, 43, 44, 45, 46, 47, 48] rfl (by decide +kernel)
set_option maxRecDepth 20000 in
theorem gX10_rain_X10_bad : GoodIn wsX10_rain (wsV RX10 73 RX10 yX10_bad wsX10_bad) := goodIn_app (goodIn_of _ (by decide +kernel)) ggX10_rain_X10_bad
set_option maxRecDepth 20000 in
theorem ggX10_rain_X8_goneInAll : GoodIn wsX10_rain wsX8_goneInAll := goodIn_r _ [16, 17, 18, 19, 20, 21, 22, 15, 23, 24, 25, 26, 27, 28, 29, 54, 55, 56, 57, 58, 59, 60, 61, 62, 63, 64, 65] rfl (by decide +kernel)
set_option maxRecDepth 20000 in
theorem gX10_rain_X8_goneInAll : GoodIn wsX10_rain (wsV RX10 290 RX8 yX8_goneInAll wsX8_goneInAll) := goodIn_app (goodIn_of _ (by decide +kernel)) ggX10_rain_X8_goneInAll
set_option maxRecDepth 20000 in
theorem ggX10_rain_X10_keepFraction : GoodIn wsX10_rain wsX10_keepFraction := goodIn_r _ [33, 34, 35, 36, 37, 38, 39, 40, 41, 42, 43, 44, 45, 46, 47, 48] rfl (by decide +kernel)
set_option maxRecDepth 20000 in
theorem gX10_rain_X10_keepFraction : GoodIn wsX10_rain (wsV RX10 293 RX10 yX10_keepFraction wsX10_keepFraction) := goodIn_app (goodIn_of _ (by decide +kernel)) ggX10_rain_X10_keepFraction
theorem dX10_rain_0 : decode cX10_rain 0 = .ok (.iload_n 1, 1) := by decide +kernel
theorem dX10_rain_1 : decode cX10_rain 1 = .ok (.iconst 0, 1) := by decide +kernel
theorem dX10_rain_2 : decode cX10_rain 2 = .ok (.bipush 10, 2) := by decide +kernel
theorem dX10_rain_4 : decode cX10_rain 4 = .ok (.invokestatic 69, 3) := by decide +kernel
theorem dX10_rain_7 : decode cX10_rain 7 = .ok (.ifCond .ne 8, 3) := by decide +kernel
theorem dX10_rain_10 : decode cX10_rain 10 = .ok (.aload_n 0, 1) := by decide +kernel
theorem dX10_rain_11 : decode cX10_rain 11 = .ok (.invokevirtual 73, 3) := by decide +kernel
theorem dX10_rain_14 : decode cX10_rain 14 = .ok (.ireturn, 1) := by decide +kernel
theorem dX10_rain_15 : decode cX10_rain 15 = .ok (.aload_n 0, 1) := by decide +kernel
theorem dX10_rain_16 : decode cX10_rain 16 = .ok (.getfield 10, 3) := by decide +kernel
theorem dX10_rain_19 : decode cX10_rain 19 = .ok (.getfield 57, 3) := by decide +kernel
theorem dX10_rain_22 : decode cX10_rain 22 = .ok (.iconst 0, 1) := by decide +kernel
theorem dX10_rain_23 : decode cX10_rain 23 = .ok (.invokevirtual 290, 3) := by decide +kernel
theorem dX10_rain_26 : decode cX10_rain 26 = .ok (.istore_n 2, 1) := by decide +kernel
theorem dX10_rain_27 : decode cX10_rain 27 = .ok (.aload_n 0, 1) := by decide +kernel
theorem dX10_rain_28 : decode cX10_rain 28 = .ok (.getfield 10, 3) := by decide +kernel
theorem dX10_rain_31 : decode cX10_rain 31 = .ok (.getfield 57, 3) := by decide +kernel
theorem dX10_rain_34 : decode cX10_rain 34 = .ok (.iconst 4, 1) := by decide +kernel
theorem dX10_rain_35 : decode cX10_rain 35 = .ok (.invokevirtual 290, 3) := by decide +kernel
theorem dX10_rain_38 : decode cX10_rain 38 = .ok (.istore_n 3, 1) := by decide +kernel
theorem dX10_rain_39 : decode cX10_rain 39 = .ok (.aload_n 0, 1) := by decide +kernel
theorem dX10_rain_40 : decode cX10_rain 40 = .ok (.iload_n 1, 1) := by decide +kernel
theorem dX10_rain_41 : decode cX10_rain 41 = .ok (.iload_n 3, 1) := by decide +kernel
theorem dX10_rain_42 : decode cX10_rain 42 = .ok (.imul, 1) := by decide +kernel
theorem dX10_rain_43 : decode cX10_rain 43 = .ok (.bipush 10, 2) := by decide +kernel
theorem dX10_rain_45 : decode cX10_rain 45 = .ok (.iload_n 1, 1) := by decide +kernel
theorem dX10_rain_46 : decode cX10_rain 46 = .ok (.isub, 1) := by decide +kernel
theorem dX10_rain_47 : decode cX10_rain 47 = .ok (.iload_n 2, 1) := by decide +kernel
theorem dX10_rain_48 : decode cX10_rain 48 = .ok (.imul, 1) := by decide +kernel
theorem dX10_rain_49 : decode cX10_rain 49 = .ok (.iadd, 1) := by decide +kernel
theorem dX10_rain_50 : decode cX10_rain 50 = .ok (.bipush 10, 2) := by decide +kernel
theorem dX10_rain_52 : decode cX10_rain 52 = .ok (.invokevirtual 293, 3) := by decide +kernel
theorem dX10_rain_55 : decode cX10_rain 55 = .ok (.iconst 1, 1) := by decide +kernel
theorem dX10_rain_56 : decode cX10_rain 56 = .ok (.ireturn, 1) := by decide +kernel
set_option maxRecDepth 20000 in
theorem ggX10_winters_X10_within : GoodIn wsX10_winters wsX10_within := goodIn_r _ [8] rfl (by decide +kernel)
set_option maxRecDepth 20000 in
theorem gX10_winters_X10_within : GoodIn wsX10_winters (va_wsS RX10 69 yX10_within wsX10_within) := goodIn_app (goodIn_of _ (by decide +kernel)) ggX10_winters_X10_within
set_option maxRecDepth 20000 in
theorem ggX10_winters_X10_bad : GoodIn wsX10_winters wsX10_bad := goodIn_r _ [12, 13, 90, 91, 92, 93, 94, 95, 96, 97, 98, 99, 100, 101, 102] rfl (by decide +kernel)
set_option maxRecDepth 20000 in
theorem gX10_winters_X10_bad : GoodIn wsX10_winters (wsV RX10 73 RX10 yX10_bad wsX10_bad) := goodIn_app (goodIn_of _ (by decide +kernel)) ggX10_winters_X10_bad
set_option maxRecDepth 20000 in
theorem ggX10_winters_X0_overBehindWinter : GoodIn wsX10_winters wsX0_overBehindWinter := goodIn_r _ [18, 19, 20, 21, 22, 23, 24, 25, 26, 27, 28, 29, 30, 31, 32, 33, 34, 35, 36, 37, 38, 39, 40, 41, 42, 43, 44, 45, 46, 47, 48, 49, 50, 51, 52, 53, 54, 55, 56, 57, 58, 59, 60, 61, 62, 63, 64, 65, 66, 67, 68, 69, 70, 71, 72, 73, 74, 75, 76, 77, 78, 79, 80, 81, 82, 83, 84, 85, 86, 87, 88, 89, 108, 109, 110, 111, 112, 113, 114, 115, 116, 117, 118, 119, 120, 121, 122, 123] rfl (by decide +kernel)
set_option maxRecDepth 20000 in
theorem gX10_winters_X0_overBehindWinter : GoodIn wsX10_winters (wsV RX10 298 RX0 yX0_overBehindWinter wsX0_overBehindWinter) := goodIn_app (goodIn_of _ (by decide +kernel)) ggX10_winters_X0_overBehindWinter
theorem dX10_winters_0 : decode cX10_winters 0 = .ok (.iload_n 1, 1) := by decide +kernel
theorem dX10_winters_1 : decode cX10_winters 1 = .ok (.iconst 0, 1) := by decide +kernel
theorem dX10_winters_2 : decode cX10_winters 2 = .ok (.ldc_w 297, 3) := by decide +kernel
theorem dX10_winters_5 : decode cX10_winters 5 = .ok (.invokestatic 69, 3) := by decide +kernel
theorem dX10_winters_8 : decode cX10_winters 8 = .ok (.ifCond .eq 13, 3) := by decide +kernel
theorem dX10_winters_11 : decode cX10_winters 11 = .ok (.iload_n 2, 1) := by decide +kernel
theorem dX10_winters_12 : decode cX10_winters 12 = .ok (.iconst 0, 1) := by decide +kernel
theorem dX10_winters_13 : decode cX10_winters 13 = .ok (.bipush 60, 2) := by decide +kernel
theorem dX10_winters_15 : decode cX10_winters 15 = .ok (.invokestatic 69, 3) := by decide +kernel
theorem dX10_winters_18 : decode cX10_winters 18 = .ok (.ifCond .ne 8, 3) := by decide +kernel
theorem dX10_winters_21 : decode cX10_winters 21 = .ok (.aload_n 0, 1) := by decide +kernel
theorem dX10_winters_22 : decode cX10_winters 22 = .ok (.invokevirtual 73, 3) := by decide +kernel
theorem dX10_winters_25 : decode cX10_winters 25 = .ok (.ireturn, 1) := by decide +kernel
theorem dX10_winters_26 : decode cX10_winters 26 = .ok (.aload_n 0, 1) := by decide +kernel
theorem dX10_winters_27 : decode cX10_winters 27 = .ok (.getfield 25, 3) := by decide +kernel
theorem dX10_winters_30 : decode cX10_winters 30 = .ok (.aload_n 0, 1) := by decide +kernel
theorem dX10_winters_31 : decode cX10_winters 31 = .ok (.getfield 10, 3) := by decide +kernel
theorem dX10_winters_34 : decode cX10_winters 34 = .ok (.getfield 57, 3) := by decide +kernel
theorem dX10_winters_37 : decode cX10_winters 37 = .ok (.iload_n 1, 1) := by decide +kernel
theorem dX10_winters_38 : decode cX10_winters 38 = .ok (.iload_n 2, 1) := by decide +kernel
theorem dX10_winters_39 : decode cX10_winters 39 = .ok (.invokevirtual 298, 3) := by decide +kernel
theorem dX10_winters_42 : decode cX10_winters 42 = .ok (.ireturn, 1) := by decide +kernel
set_option maxRecDepth 20000 in
theorem ggX10_part_X10_bad : GoodIn wsX10_part wsX10_bad := goodIn_r _ [7, 8, 9, 10, 11, 12, 13, 14, 15, 16, 17, 18, 19, 20, 21] rfl (by decide +kernel)
set_option maxRecDepth 20000 in
theorem gX10_part_X10_bad : GoodIn wsX10_part (wsV RX10 73 RX10 yX10_bad wsX10_bad) := goodIn_app (goodIn_of _ (by decide +kernel)) ggX10_part_X10_bad
theorem dX10_part_0 : decode cX10_part 0 = .ok (.iload_n 1, 1) := by decide +kernel
theorem dX10_part_1 : decode cX10_part 1 = .ok (.lookupswitch 39 #[(0, 27), (1, 33)], 27) := by decide +kernel
theorem dX10_part_28 : decode cX10_part 28 = .ok (.aload_n 0, 1) := by decide +kernel
theorem dX10_part_29 : decode cX10_part 29 = .ok (.getfield 50, 3) := by decide +kernel
theorem dX10_part_32 : decode cX10_part 32 = .ok (.i2l, 1) := by decide +kernel
theorem dX10_part_33 : decode cX10_part 33 = .ok (.lreturn, 1) := by decide +kernel
theorem dX10_part_34 : decode cX10_part 34 = .ok (.aload_n 0, 1) := by decide +kernel
theorem dX10_part_35 : decode cX10_part 35 = .ok (.getfield 54, 3) := by decide +kernel
theorem dX10_part_38 : decode cX10_part 38 = .ok (.i2l, 1) := by decide +kernel
theorem dX10_part_39 : decode cX10_part 39 = .ok (.lreturn, 1) := by decide +kernel
theorem dX10_part_40 : decode cX10_part 40 = .ok (.aload_n 0, 1) := by decide +kernel
theorem dX10_part_41 : decode cX10_part 41 = .ok (.invokevirtual 73, 3) := by decide +kernel
theorem dX10_part_44 : decode cX10_part 44 = .ok (.i2l, 1) := by decide +kernel
theorem dX10_part_45 : decode cX10_part 45 = .ok (.lreturn, 1) := by decide +kernel
set_option maxRecDepth 20000 in
theorem ggX10_image_X10_within : GoodIn wsX10_image wsX10_within := goodIn_r _ [6] rfl (by decide +kernel)
set_option maxRecDepth 20000 in
theorem gX10_image_X10_within : GoodIn wsX10_image (va_wsS RX10 69 yX10_within wsX10_within) := goodIn_app (goodIn_of _ (by decide +kernel)) ggX10_image_X10_within
set_option maxRecDepth 20000 in
theorem ggX10_image_X10_bad : GoodIn wsX10_image wsX10_bad := goodIn_r _ [10, 11, 64, 65, 66, 67, 68, 69, 70, 71, 72, 73, 74, 75, 76] rfl (by decide +kernel)
set_option maxRecDepth 20000 in
theorem gX10_image_X10_bad : GoodIn wsX10_image (wsV RX10 73 RX10 yX10_bad wsX10_bad) := goodIn_app (goodIn_of _ (by decide +kernel)) ggX10_image_X10_bad
set_option maxRecDepth 20000 in
theorem ggX10_image_X10_imageOf : GoodIn wsX10_image wsX10_imageOf := goodIn_r _ [15, 16, 17, 64, 65, 66, 67, 68, 69, 70, 71, 72, 73, 74, 75, 76] rfl (by decide +kernel)
set_option maxRecDepth 20000 in
theorem gX10_image_X10_imageOf : GoodIn wsX10_image (wsV RX10 301 RX10 yX10_imageOf wsX10_imageOf) := goodIn_app (goodIn_of _ (by decide +kernel)) ggX10_image_X10_imageOf
set_option maxRecDepth 20000 in
theorem ggX10_image_X7_copy : GoodIn wsX10_image wsX7_copy := goodIn_r _ [22, 23, 24, 25, 26, 27, 28, 29, 30, 31, 32, 33, 34, 35, 36, 37, 38, 39, 40, 41, 42, 43, 44, 45, 46, 47, 48, 49, 50, 51, 52, 53, 54, 55, 56, 57, 58, 59, 60, 61, 62, 63, 77, 78, 79, 80, 81, 82, 83, 84, 85, 86, 87, 88, 89, 90, 91, 92, 93, 94, 95, 96, 97, 98, 99] rfl (by decide +kernel)
set_option maxRecDepth 20000 in
theorem gX10_image_X7_copy : GoodIn wsX10_image (wsV RX10 305 RX7 yX7_copy wsX7_copy) := goodIn_app (goodIn_of _ (by decide +kernel)) ggX10_image_X7_copy
theorem dX10_image_0 : decode cX10_image 0 = .ok (.iload_n 1, 1) := by decide +kernel
theorem dX10_image_1 : decode cX10_image 1 = .ok (.iconst 0, 1) := by decide +kernel
theorem dX10_image_2 : decode cX10_image 2 = .ok (.iconst 1, 1) := by decide +kernel
theorem dX10_image_3 : decode cX10_image 3 = .ok (.invokestatic 69, 3) := by decide +kernel
theorem dX10_image_6 : decode cX10_image 6 = .ok (.ifCond .ne 8, 3) := by decide +kernel
theorem dX10_image_9 : decode cX10_image 9 = .ok (.aload_n 0, 1) := by decide +kernel
theorem dX10_image_10 : decode cX10_image 10 = .ok (.invokevirtual 73, 3) := by decide +kernel
theorem dX10_image_13 : decode cX10_image 13 = .ok (.ireturn, 1) := by decide +kernel
theorem dX10_image_14 : decode cX10_image 14 = .ok (.aload_n 0, 1) := by decide +kernel
theorem dX10_image_15 : decode cX10_image 15 = .ok (.iload_n 1, 1) := by decide +kernel
theorem dX10_image_16 : decode cX10_image 16 = .ok (.invokevirtual 301, 3) := by decide +kernel
theorem dX10_image_19 : decode cX10_image 19 = .ok (.aload_n 0, 1) := by decide +kernel
theorem dX10_image_20 : decode cX10_image 20 = .ok (.getfield 10, 3) := by decide +kernel
theorem dX10_image_23 : decode cX10_image 23 = .ok (.invokevirtual 305, 3) := by decide +kernel
theorem dX10_image_26 : decode cX10_image 26 = .ok (.aload_n 0, 1) := by decide +kernel
theorem dX10_image_27 : decode cX10_image 27 = .ok (.dup, 1) := by decide +kernel
theorem dX10_image_28 : decode cX10_image 28 = .ok (.getfield 308, 3) := by decide +kernel
theorem dX10_image_31 : decode cX10_image 31 = .ok (.iconst 1, 1) := by decide +kernel
theorem dX10_image_32 : decode cX10_image 32 = .ok (.iload_n 1, 1) := by decide +kernel
theorem dX10_image_33 : decode cX10_image 33 = .ok (.ishl, 1) := by decide +kernel
theorem dX10_image_34 : decode cX10_image 34 = .ok (.ior, 1) := by decide +kernel
theorem dX10_image_35 : decode cX10_image 35 = .ok (.putfield 308, 3) := by decide +kernel
theorem dX10_image_38 : decode cX10_image 38 = .ok (.iconst 1, 1) := by decide +kernel
theorem dX10_image_39 : decode cX10_image 39 = .ok (.ireturn, 1) := by decide +kernel
set_option maxRecDepth 20000 in
theorem ggX10_from_X10_within : GoodIn wsX10_from wsX10_within := goodIn_r _ [6] rfl (by decide +kernel)
set_option maxRecDepth 20000 in
theorem gX10_from_X10_within : GoodIn wsX10_from (va_wsS RX10 69 yX10_within wsX10_within) := goodIn_app (goodIn_of _ (by decide +kernel)) ggX10_from_X10_within
set_option maxRecDepth 20000 in
theorem ggX10_from_X10_bad : GoodIn wsX10_from wsX10_bad := goodIn_r _ [10, 11, 69, 70, 71, 72, 73, 74, 75, 76, 77, 78, 79, 80, 81] rfl (by decide +kernel)
set_option maxRecDepth 20000 in
theorem gX10_from_X10_bad : GoodIn wsX10_from (wsV RX10 73 RX10 yX10_bad wsX10_bad) := goodIn_app (goodIn_of _ (by decide +kernel)) ggX10_from_X10_bad
set_option maxRecDepth 20000 in
theorem ggX10_from_X10_no : GoodIn wsX10_from wsX10_no := goodIn_r _ [15, 16, 69, 70, 71, 72, 73, 74, 75, 76, 77, 78, 79, 80, 81] rfl (by decide +kernel)
set_option maxRecDepth 20000 in
theorem gX10_from_X10_no : GoodIn wsX10_from (wsV RX10 161 RX10 yX10_no wsX10_no) := goodIn_app (goodIn_of _ (by decide +kernel)) ggX10_from_X10_no
set_option maxRecDepth 20000 in
theorem ggX10_from_X10_imageOf : GoodIn wsX10_from wsX10_imageOf := goodIn_r _ [20, 21, 22, 69, 70, 71, 72, 73, 74, 75, 76, 77, 78, 79, 80, 81] rfl (by decide +kernel)
set_option maxRecDepth 20000 in
theorem gX10_from_X10_imageOf : GoodIn wsX10_from (wsV RX10 301 RX10 yX10_imageOf wsX10_imageOf) := goodIn_app (goodIn_of _ (by decide +kernel)) ggX10_from_X10_imageOf
set_option maxRecDepth 20000 in
theorem ggX10_from_X7_copy : GoodIn wsX10_from wsX7_copy := goodIn_r _ [27, 28, 29, 30, 31, 32, 33, 34, 35, 36, 37, 38, 39, 40, 41, 42, 43, 44, 45, 46, 47, 48, 49, 50, 51, 52, 53, 54, 55, 56, 57, 58, 59, 60, 61, 62, 63, 64, 65, 66, 67, 68, 82, 83, 84, 85, 86, 87, 88, 89, 90, 91, 92, 93, 94, 95, 96, 97, 98, 99, 100, 101, 102, 103, 104] rfl (by decide +kernel)
set_option maxRecDepth 20000 in
theorem gX10_from_X7_copy : GoodIn wsX10_from (wsV RX10 305 RX7 yX7_copy wsX7_copy) := goodIn_app (goodIn_of _ (by decide +kernel)) ggX10_from_X7_copy
theorem dX10_from_0 : decode cX10_from 0 = .ok (.iload_n 1, 1) := by decide +kernel
theorem dX10_from_1 : decode cX10_from 1 = .ok (.iconst 0, 1) := by decide +kernel
theorem dX10_from_2 : decode cX10_from 2 = .ok (.iconst 1, 1) := by decide +kernel
theorem dX10_from_3 : decode cX10_from 3 = .ok (.invokestatic 69, 3) := by decide +kernel
theorem dX10_from_6 : decode cX10_from 6 = .ok (.ifCond .ne 8, 3) := by decide +kernel
theorem dX10_from_9 : decode cX10_from 9 = .ok (.aload_n 0, 1) := by decide +kernel
theorem dX10_from_10 : decode cX10_from 10 = .ok (.invokevirtual 73, 3) := by decide +kernel
theorem dX10_from_13 : decode cX10_from 13 = .ok (.ireturn, 1) := by decide +kernel
theorem dX10_from_14 : decode cX10_from 14 = .ok (.aload_n 0, 1) := by decide +kernel
theorem dX10_from_15 : decode cX10_from 15 = .ok (.getfield 308, 3) := by decide +kernel
theorem dX10_from_18 : decode cX10_from 18 = .ok (.iload_n 1, 1) := by decide +kernel
theorem dX10_from_19 : decode cX10_from 19 = .ok (.ishr, 1) := by decide +kernel
theorem dX10_from_20 : decode cX10_from 20 = .ok (.iconst 1, 1) := by decide +kernel
theorem dX10_from_21 : decode cX10_from 21 = .ok (.iand, 1) := by decide +kernel
theorem dX10_from_22 : decode cX10_from 22 = .ok (.ifCond .ne 8, 3) := by decide +kernel
theorem dX10_from_25 : decode cX10_from 25 = .ok (.aload_n 0, 1) := by decide +kernel
theorem dX10_from_26 : decode cX10_from 26 = .ok (.invokevirtual 161, 3) := by decide +kernel
theorem dX10_from_29 : decode cX10_from 29 = .ok (.ireturn, 1) := by decide +kernel
theorem dX10_from_30 : decode cX10_from 30 = .ok (.aload_n 0, 1) := by decide +kernel
theorem dX10_from_31 : decode cX10_from 31 = .ok (.getfield 10, 3) := by decide +kernel
theorem dX10_from_34 : decode cX10_from 34 = .ok (.aload_n 0, 1) := by decide +kernel
theorem dX10_from_35 : decode cX10_from 35 = .ok (.iload_n 1, 1) := by decide +kernel
theorem dX10_from_36 : decode cX10_from 36 = .ok (.invokevirtual 301, 3) := by decide +kernel
theorem dX10_from_39 : decode cX10_from 39 = .ok (.invokevirtual 305, 3) := by decide +kernel
theorem dX10_from_42 : decode cX10_from 42 = .ok (.iconst 1, 1) := by decide +kernel
theorem dX10_from_43 : decode cX10_from 43 = .ok (.ireturn, 1) := by decide +kernel
set_option maxRecDepth 20000 in
theorem ggX10_count_X10_within : GoodIn wsX10_count wsX10_within := goodIn_r _ [4] rfl (by decide +kernel)
set_option maxRecDepth 20000 in
theorem gX10_count_X10_within : GoodIn wsX10_count (va_wsS RX10 69 yX10_within wsX10_within) := goodIn_app (goodIn_of _ (by decide +kernel)) ggX10_count_X10_within
set_option maxRecDepth 20000 in
theorem ggX10_count_X10_counted : GoodIn wsX10_count wsX10_counted := goodIn_r _ [8, 9, 10, 11, 12, 13, 14, 15, 16, 17, 18, 19, 20, 21, 22, 23, 24, 25, 26, 27, 28, 29, 30, 31, 32, 33, 34, 35, 36, 37, 38, 39, 40, 41, 42, 43, 44, 45, 46, 47, 53, 54, 55, 56, 57, 58, 59, 60, 61, 62, 63, 64, 65, 66, 67, 68, 69, 70, 71, 72, 73, 74, 75, 76, 77, 78, 79, 80, 81, 82, 83, 84, 85, 86, 87, 88, 89, 90, 91, 92, 93, 94, 95, 96] rfl (by decide +kernel)
set_option maxRecDepth 20000 in
theorem gX10_count_X10_counted : GoodIn wsX10_count (wsV RX10 320 RX10 yX10_counted wsX10_counted) := goodIn_app (goodIn_of _ (by decide +kernel)) ggX10_count_X10_counted
set_option maxRecDepth 20000 in
theorem ggX10_count_X10_bad : GoodIn wsX10_count wsX10_bad := goodIn_r _ [51, 52, 53, 54, 55, 56, 57, 58, 59, 60, 61, 62, 63, 64, 65] rfl (by decide +kernel)
set_option maxRecDepth 20000 in
theorem gX10_count_X10_bad : GoodIn wsX10_count (wsV RX10 73 RX10 yX10_bad wsX10_bad) := goodIn_app (goodIn_of _ (by decide +kernel)) ggX10_count_X10_bad
theorem dX10_count_0 : decode cX10_count 0 = .ok (.iload_n 1, 1) := by decide +kernel
theorem dX10_count_1 : decode cX10_count 1 = .ok (.iconst 0, 1) := by decide +kernel
theorem dX10_count_2 : decode cX10_count 2 = .ok (.bipush 10, 2) := by decide +kernel
theorem dX10_count_4 : decode cX10_count 4 = .ok (.invokestatic 69, 3) := by decide +kernel
theorem dX10_count_7 : decode cX10_count 7 = .ok (.ifCond .eq 11, 3) := by decide +kernel
theorem dX10_count_10 : decode cX10_count 10 = .ok (.aload_n 0, 1) := by decide +kernel
theorem dX10_count_11 : decode cX10_count 11 = .ok (.iload_n 1, 1) := by decide +kernel
theorem dX10_count_12 : decode cX10_count 12 = .ok (.invokevirtual 320, 3) := by decide +kernel
theorem dX10_count_15 : decode cX10_count 15 = .ok (.goto 7, 3) := by decide +kernel
theorem dX10_count_18 : decode cX10_count 18 = .ok (.aload_n 0, 1) := by decide +kernel
theorem dX10_count_19 : decode cX10_count 19 = .ok (.invokevirtual 73, 3) := by decide +kernel
theorem dX10_count_22 : decode cX10_count 22 = .ok (.ireturn, 1) := by decide +kernel
theorem dX10_within_0 : decode cX10_within 0 = .ok (.iload_n 0, 1) := by decide +kernel
theorem dX10_within_1 : decode cX10_within 1 = .ok (.iload_n 1, 1) := by decide +kernel
theorem dX10_within_2 : decode cX10_within 2 = .ok (.if_icmp .lt 12, 3) := by decide +kernel
theorem dX10_within_5 : decode cX10_within 5 = .ok (.iload_n 0, 1) := by decide +kernel
theorem dX10_within_6 : decode cX10_within 6 = .ok (.iload_n 2, 1) := by decide +kernel
theorem dX10_within_7 : decode cX10_within 7 = .ok (.if_icmp .gt 7, 3) := by decide +kernel
theorem dX10_within_10 : decode cX10_within 10 = .ok (.iconst 1, 1) := by decide +kernel
theorem dX10_within_11 : decode cX10_within 11 = .ok (.goto 4, 3) := by decide +kernel
theorem dX10_within_14 : decode cX10_within 14 = .ok (.iconst 0, 1) := by decide +kernel
theorem dX10_within_15 : decode cX10_within 15 = .ok (.ireturn, 1) := by decide +kernel
set_option maxRecDepth 20000 in
theorem ggX10_isKind_X10_within : GoodIn wsX10_isKind wsX10_within := goodIn_r _ [4] rfl (by decide +kernel)
set_option maxRecDepth 20000 in
theorem gX10_isKind_X10_within : GoodIn wsX10_isKind (va_wsS RX10 69 yX10_within wsX10_within) := goodIn_app (goodIn_of _ (by decide +kernel)) ggX10_isKind_X10_within
theorem dX10_isKind_0 : decode cX10_isKind 0 = .ok (.iload_n 0, 1) := by decide +kernel
theorem dX10_isKind_1 : decode cX10_isKind 1 = .ok (.iconst 0, 1) := by decide +kernel
theorem dX10_isKind_2 : decode cX10_isKind 2 = .ok (.iconst 5, 1) := by decide +kernel
theorem dX10_isKind_3 : decode cX10_isKind 3 = .ok (.invokestatic 69, 3) := by decide +kernel
theorem dX10_isKind_6 : decode cX10_isKind 6 = .ok (.ireturn, 1) := by decide +kernel
set_option maxRecDepth 20000 in
theorem ggX10_isTold_X10_within : GoodIn wsX10_isTold wsX10_within := goodIn_r _ [4] rfl (by decide +kernel)
set_option maxRecDepth 20000 in
theorem gX10_isTold_X10_within : GoodIn wsX10_isTold (va_wsS RX10 69 yX10_within wsX10_within) := goodIn_app (goodIn_of _ (by decide +kernel)) ggX10_isTold_X10_within
theorem dX10_isTold_0 : decode cX10_isTold 0 = .ok (.iload_n 0, 1) := by decide +kernel
theorem dX10_isTold_1 : decode cX10_isTold 1 = .ok (.iconst 0, 1) := by decide +kernel
theorem dX10_isTold_2 : decode cX10_isTold 2 = .ok (.bipush 99, 2) := by decide +kernel
theorem dX10_isTold_4 : decode cX10_isTold 4 = .ok (.invokestatic 69, 3) := by decide +kernel
theorem dX10_isTold_7 : decode cX10_isTold 7 = .ok (.ifCond .eq 17, 3) := by decide +kernel
theorem dX10_isTold_10 : decode cX10_isTold 10 = .ok (.iload_n 1, 1) := by decide +kernel
theorem dX10_isTold_11 : decode cX10_isTold 11 = .ok (.iconst 0, 1) := by decide +kernel
theorem dX10_isTold_12 : decode cX10_isTold 12 = .ok (.bipush 20, 2) := by decide +kernel
theorem dX10_isTold_14 : decode cX10_isTold 14 = .ok (.invokestatic 69, 3) := by decide +kernel
theorem dX10_isTold_17 : decode cX10_isTold 17 = .ok (.ifCond .eq 7, 3) := by decide +kernel
theorem dX10_isTold_20 : decode cX10_isTold 20 = .ok (.iconst 1, 1) := by decide +kernel
theorem dX10_isTold_21 : decode cX10_isTold 21 = .ok (.goto 4, 3) := by decide +kernel
theorem dX10_isTold_24 : decode cX10_isTold 24 = .ok (.iconst 0, 1) := by decide +kernel
theorem dX10_isTold_25 : decode cX10_isTold 25 = .ok (.ireturn, 1) := by decide +kernel
set_option maxRecDepth 20000 in
theorem ggX10_isGlove_X10_within : GoodIn wsX10_isGlove wsX10_within := goodIn_r _ [7] rfl (by decide +kernel)
set_option maxRecDepth 20000 in
theorem gX10_isGlove_X10_within : GoodIn wsX10_isGlove (va_wsS RX10 69 yX10_within wsX10_within) := goodIn_app (goodIn_of _ (by decide +kernel)) ggX10_isGlove_X10_within
theorem dX10_isGlove_0 : decode cX10_isGlove 0 = .ok (.iload_n 1, 1) := by decide +kernel
theorem dX10_isGlove_1 : decode cX10_isGlove 1 = .ok (.iconst 0, 1) := by decide +kernel
theorem dX10_isGlove_2 : decode cX10_isGlove 2 = .ok (.aload_n 0, 1) := by decide +kernel
theorem dX10_isGlove_3 : decode cX10_isGlove 3 = .ok (.getfield 10, 3) := by decide +kernel
theorem dX10_isGlove_6 : decode cX10_isGlove 6 = .ok (.getfield 57, 3) := by decide +kernel
theorem dX10_isGlove_9 : decode cX10_isGlove 9 = .ok (.getfield 61, 3) := by decide +kernel
theorem dX10_isGlove_12 : decode cX10_isGlove 12 = .ok (.iconst 1, 1) := by decide +kernel
theorem dX10_isGlove_13 : decode cX10_isGlove 13 = .ok (.isub, 1) := by decide +kernel
theorem dX10_isGlove_14 : decode cX10_isGlove 14 = .ok (.invokestatic 69, 3) := by decide +kernel
theorem dX10_isGlove_17 : decode cX10_isGlove 17 = .ok (.ireturn, 1) := by decide +kernel
set_option maxRecDepth 20000 in
theorem ggX10_isCrossing_X10_within : GoodIn wsX10_isCrossing wsX10_within := goodIn_r _ [7] rfl (by decide +kernel)
set_option maxRecDepth 20000 in
theorem gX10_isCrossing_X10_within : GoodIn wsX10_isCrossing (va_wsS RX10 69 yX10_within wsX10_within) := goodIn_app (goodIn_of _ (by decide +kernel)) ggX10_isCrossing_X10_within
theorem dX10_isCrossing_0 : decode cX10_isCrossing 0 = .ok (.iload_n 1, 1) := by decide +kernel
theorem dX10_isCrossing_1 : decode cX10_isCrossing 1 = .ok (.iconst 0, 1) := by decide +kernel
theorem dX10_isCrossing_2 : decode cX10_isCrossing 2 = .ok (.aload_n 0, 1) := by decide +kernel
theorem dX10_isCrossing_3 : decode cX10_isCrossing 3 = .ok (.getfield 10, 3) := by decide +kernel
theorem dX10_isCrossing_6 : decode cX10_isCrossing 6 = .ok (.getfield 57, 3) := by decide +kernel
theorem dX10_isCrossing_9 : decode cX10_isCrossing 9 = .ok (.getfield 104, 3) := by decide +kernel
theorem dX10_isCrossing_12 : decode cX10_isCrossing 12 = .ok (.iconst 1, 1) := by decide +kernel
theorem dX10_isCrossing_13 : decode cX10_isCrossing 13 = .ok (.isub, 1) := by decide +kernel
theorem dX10_isCrossing_14 : decode cX10_isCrossing 14 = .ok (.invokestatic 69, 3) := by decide +kernel
theorem dX10_isCrossing_17 : decode cX10_isCrossing 17 = .ok (.ireturn, 1) := by decide +kernel
theorem dX10_imageOf_0 : decode cX10_imageOf 0 = .ok (.iload_n 1, 1) := by decide +kernel
theorem dX10_imageOf_1 : decode cX10_imageOf 1 = .ok (.ifCond .ne 10, 3) := by decide +kernel
theorem dX10_imageOf_4 : decode cX10_imageOf 4 = .ok (.aload_n 0, 1) := by decide +kernel
theorem dX10_imageOf_5 : decode cX10_imageOf 5 = .ok (.getfield 16, 3) := by decide +kernel
theorem dX10_imageOf_8 : decode cX10_imageOf 8 = .ok (.goto 7, 3) := by decide +kernel
theorem dX10_imageOf_11 : decode cX10_imageOf 11 = .ok (.aload_n 0, 1) := by decide +kernel
theorem dX10_imageOf_12 : decode cX10_imageOf 12 = .ok (.getfield 19, 3) := by decide +kernel
theorem dX10_imageOf_15 : decode cX10_imageOf 15 = .ok (.areturn, 1) := by decide +kernel
theorem dX10_bad_0 : decode cX10_bad 0 = .ok (.aload_n 0, 1) := by decide +kernel
theorem dX10_bad_1 : decode cX10_bad 1 = .ok (.dup, 1) := by decide +kernel
theorem dX10_bad_2 : decode cX10_bad 2 = .ok (.getfield 311, 3) := by decide +kernel
theorem dX10_bad_5 : decode cX10_bad 5 = .ok (.iconst 1, 1) := by decide +kernel
theorem dX10_bad_6 : decode cX10_bad 6 = .ok (.iadd, 1) := by decide +kernel
theorem dX10_bad_7 : decode cX10_bad 7 = .ok (.putfield 311, 3) := by decide +kernel
theorem dX10_bad_10 : decode cX10_bad 10 = .ok (.bipush (-2), 2) := by decide +kernel
theorem dX10_bad_12 : decode cX10_bad 12 = .ok (.ireturn, 1) := by decide +kernel
theorem dX10_badAsTen_0 : decode cX10_badAsTen 0 = .ok (.aload_n 0, 1) := by decide +kernel
theorem dX10_badAsTen_1 : decode cX10_badAsTen 1 = .ok (.dup, 1) := by decide +kernel
theorem dX10_badAsTen_2 : decode cX10_badAsTen 2 = .ok (.getfield 311, 3) := by decide +kernel
theorem dX10_badAsTen_5 : decode cX10_badAsTen 5 = .ok (.iconst 1, 1) := by decide +kernel
theorem dX10_badAsTen_6 : decode cX10_badAsTen 6 = .ok (.iadd, 1) := by decide +kernel
theorem dX10_badAsTen_7 : decode cX10_badAsTen 7 = .ok (.putfield 311, 3) := by decide +kernel
theorem dX10_badAsTen_10 : decode cX10_badAsTen 10 = .ok (.bipush (-10), 2) := by decide +kernel
theorem dX10_badAsTen_12 : decode cX10_badAsTen 12 = .ok (.ireturn, 1) := by decide +kernel
theorem dX10_no_0 : decode cX10_no 0 = .ok (.aload_n 0, 1) := by decide +kernel
theorem dX10_no_1 : decode cX10_no 1 = .ok (.dup, 1) := by decide +kernel
theorem dX10_no_2 : decode cX10_no 2 = .ok (.getfield 314, 3) := by decide +kernel
theorem dX10_no_5 : decode cX10_no 5 = .ok (.iconst 1, 1) := by decide +kernel
theorem dX10_no_6 : decode cX10_no 6 = .ok (.iadd, 1) := by decide +kernel
theorem dX10_no_7 : decode cX10_no 7 = .ok (.putfield 314, 3) := by decide +kernel
theorem dX10_no_10 : decode cX10_no 10 = .ok (.bipush (-3), 2) := by decide +kernel
theorem dX10_no_12 : decode cX10_no 12 = .ok (.ireturn, 1) := by decide +kernel
theorem dX10_full_0 : decode cX10_full 0 = .ok (.aload_n 0, 1) := by decide +kernel
theorem dX10_full_1 : decode cX10_full 1 = .ok (.dup, 1) := by decide +kernel
theorem dX10_full_2 : decode cX10_full 2 = .ok (.getfield 317, 3) := by decide +kernel
theorem dX10_full_5 : decode cX10_full 5 = .ok (.iconst 1, 1) := by decide +kernel
theorem dX10_full_6 : decode cX10_full 6 = .ok (.iadd, 1) := by decide +kernel
theorem dX10_full_7 : decode cX10_full 7 = .ok (.putfield 317, 3) := by decide +kernel
theorem dX10_full_10 : decode cX10_full 10 = .ok (.bipush (-4), 2) := by decide +kernel
theorem dX10_full_12 : decode cX10_full 12 = .ok (.ireturn, 1) := by decide +kernel
set_option maxRecDepth 20000 in
theorem ggX10_told_X10_full : GoodIn wsX10_told wsX10_full := goodIn_r _ [6, 7, 12, 13, 14, 15, 16, 17, 18, 19, 20, 21, 22, 23, 24] rfl (by decide +kernel)
set_option maxRecDepth 20000 in
theorem gX10_told_X10_full : GoodIn wsX10_told (wsV RX10 94 RX10 yX10_full wsX10_full) := goodIn_app (goodIn_of _ (by decide +kernel)) ggX10_told_X10_full
theorem dX10_told_0 : decode cX10_told 0 = .ok (.iload_n 2, 1) := by decide +kernel
theorem dX10_told_1 : decode cX10_told 1 = .ok (.ifCond .eq 10, 3) := by decide +kernel
theorem dX10_told_4 : decode cX10_told 4 = .ok (.aload_n 1, 1) := by decide +kernel
theorem dX10_told_5 : decode cX10_told 5 = .ok (.getfield 334, 3) := by decide +kernel
theorem dX10_told_8 : decode cX10_told 8 = .ok (.goto 7, 3) := by decide +kernel
theorem dX10_told_11 : decode cX10_told 11 = .ok (.aload_n 0, 1) := by decide +kernel
theorem dX10_told_12 : decode cX10_told 12 = .ok (.invokevirtual 94, 3) := by decide +kernel
theorem dX10_told_15 : decode cX10_told 15 = .ok (.ireturn, 1) := by decide +kernel
set_option maxRecDepth 20000 in
theorem ggX10_counted_X8_over : GoodIn wsX10_counted wsX8_over := goodIn_r _ [20, 21, 22, 58, 59, 60, 61, 62, 63, 64, 65, 66, 67, 68, 69] rfl (by decide +kernel)
set_option maxRecDepth 20000 in
theorem gX10_counted_X8_over : GoodIn wsX10_counted (wsV RX10 148 RX8 yX8_over wsX8_over) := goodIn_app (goodIn_of _ (by decide +kernel)) ggX10_counted_X8_over
set_option maxRecDepth 20000 in
theorem ggX10_counted_X8_waitingInAll : GoodIn wsX10_counted wsX8_waitingInAll := goodIn_r _ [26, 27, 28, 29, 30, 19, 31, 21, 22, 32, 58, 59, 60, 61, 62, 63, 64, 65, 66, 67, 68, 69] rfl (by decide +kernel)
set_option maxRecDepth 20000 in
theorem gX10_counted_X8_waitingInAll : GoodIn wsX10_counted (wsV RX10 335 RX8 yX8_waitingInAll wsX8_waitingInAll) := goodIn_app (goodIn_of _ (by decide +kernel)) ggX10_counted_X8_waitingInAll
set_option maxRecDepth 20000 in
theorem ggX10_counted_J6_bitCount_0f7a4 : GoodIn wsX10_counted wsJ6_bitCount_0f7a4 := goodIn_r _ [36, 37, 38, 39] rfl (by decide +kernel)
set_option maxRecDepth 20000 in
theorem gX10_counted_J6_bitCount_0f7a4 : GoodIn wsX10_counted (va_wsS RX10 341 yJ6_bitCount_0f7a4 wsJ6_bitCount_0f7a4) := goodIn_app (goodIn_of _ (by decide +kernel)) ggX10_counted_J6_bitCount_0f7a4
theorem dX10_counted_0 : decode cX10_counted 0 = .ok (.aload_n 0, 1) := by decide +kernel
theorem dX10_counted_1 : decode cX10_counted 1 = .ok (.getfield 10, 3) := by decide +kernel
theorem dX10_counted_4 : decode cX10_counted 4 = .ok (.getfield 57, 3) := by decide +kernel
theorem dX10_counted_7 : decode cX10_counted 7 = .ok (.astore_n 2, 1) := by decide +kernel
theorem dX10_counted_8 : decode cX10_counted 8 = .ok (.iload_n 1, 1) := by decide +kernel
theorem dX10_counted_9 : decode cX10_counted 9 = .ok (.tableswitch 132 0 9 #[55, 60, 65, 70, 75, 80, 88, 99, 110, 121], 55) := by decide +kernel
theorem dX10_counted_64 : decode cX10_counted 64 = .ok (.aload_n 2, 1) := by decide +kernel
theorem dX10_counted_65 : decode cX10_counted 65 = .ok (.getfield 61, 3) := by decide +kernel
theorem dX10_counted_68 : decode cX10_counted 68 = .ok (.ireturn, 1) := by decide +kernel
theorem dX10_counted_69 : decode cX10_counted 69 = .ok (.aload_n 2, 1) := by decide +kernel
theorem dX10_counted_70 : decode cX10_counted 70 = .ok (.getfield 104, 3) := by decide +kernel
theorem dX10_counted_73 : decode cX10_counted 73 = .ok (.ireturn, 1) := by decide +kernel
theorem dX10_counted_74 : decode cX10_counted 74 = .ok (.aload_n 2, 1) := by decide +kernel
theorem dX10_counted_75 : decode cX10_counted 75 = .ok (.getfield 137, 3) := by decide +kernel
theorem dX10_counted_78 : decode cX10_counted 78 = .ok (.ireturn, 1) := by decide +kernel
theorem dX10_counted_79 : decode cX10_counted 79 = .ok (.aload_n 2, 1) := by decide +kernel
theorem dX10_counted_80 : decode cX10_counted 80 = .ok (.invokevirtual 148, 3) := by decide +kernel
theorem dX10_counted_83 : decode cX10_counted 83 = .ok (.ireturn, 1) := by decide +kernel
theorem dX10_counted_84 : decode cX10_counted 84 = .ok (.aload_n 2, 1) := by decide +kernel
theorem dX10_counted_85 : decode cX10_counted 85 = .ok (.invokevirtual 335, 3) := by decide +kernel
theorem dX10_counted_88 : decode cX10_counted 88 = .ok (.ireturn, 1) := by decide +kernel
theorem dX10_counted_89 : decode cX10_counted 89 = .ok (.aload_n 2, 1) := by decide +kernel
theorem dX10_counted_90 : decode cX10_counted 90 = .ok (.getfield 338, 3) := by decide +kernel
theorem dX10_counted_93 : decode cX10_counted 93 = .ok (.invokestatic 341, 3) := by decide +kernel
theorem dX10_counted_96 : decode cX10_counted 96 = .ok (.ireturn, 1) := by decide +kernel
theorem dX10_counted_97 : decode cX10_counted 97 = .ok (.aload_n 0, 1) := by decide +kernel
theorem dX10_counted_98 : decode cX10_counted 98 = .ok (.getfield 10, 3) := by decide +kernel
theorem dX10_counted_101 : decode cX10_counted 101 = .ok (.getfield 240, 3) := by decide +kernel
theorem dX10_counted_104 : decode cX10_counted 104 = .ok (.getfield 334, 3) := by decide +kernel
theorem dX10_counted_107 : decode cX10_counted 107 = .ok (.ireturn, 1) := by decide +kernel
theorem dX10_counted_108 : decode cX10_counted 108 = .ok (.aload_n 0, 1) := by decide +kernel
theorem dX10_counted_109 : decode cX10_counted 109 = .ok (.getfield 10, 3) := by decide +kernel
theorem dX10_counted_112 : decode cX10_counted 112 = .ok (.getfield 269, 3) := by decide +kernel
theorem dX10_counted_115 : decode cX10_counted 115 = .ok (.getfield 334, 3) := by decide +kernel
theorem dX10_counted_118 : decode cX10_counted 118 = .ok (.ireturn, 1) := by decide +kernel
theorem dX10_counted_119 : decode cX10_counted 119 = .ok (.aload_n 0, 1) := by decide +kernel
theorem dX10_counted_120 : decode cX10_counted 120 = .ok (.getfield 10, 3) := by decide +kernel
theorem dX10_counted_123 : decode cX10_counted 123 = .ok (.getfield 272, 3) := by decide +kernel
theorem dX10_counted_126 : decode cX10_counted 126 = .ok (.getfield 334, 3) := by decide +kernel
theorem dX10_counted_129 : decode cX10_counted 129 = .ok (.ireturn, 1) := by decide +kernel
theorem dX10_counted_130 : decode cX10_counted 130 = .ok (.aload_n 0, 1) := by decide +kernel
theorem dX10_counted_131 : decode cX10_counted 131 = .ok (.getfield 10, 3) := by decide +kernel
theorem dX10_counted_134 : decode cX10_counted 134 = .ok (.getfield 81, 3) := by decide +kernel
theorem dX10_counted_137 : decode cX10_counted 137 = .ok (.getfield 85, 3) := by decide +kernel
theorem dX10_counted_140 : decode cX10_counted 140 = .ok (.ireturn, 1) := by decide +kernel
theorem dX10_counted_141 : decode cX10_counted 141 = .ok (.aload_n 0, 1) := by decide +kernel
theorem dX10_counted_142 : decode cX10_counted 142 = .ok (.getfield 46, 3) := by decide +kernel
theorem dX10_counted_145 : decode cX10_counted 145 = .ok (.getfield 113, 3) := by decide +kernel
theorem dX10_counted_148 : decode cX10_counted 148 = .ok (.getfield 117, 3) := by decide +kernel
theorem dX10_counted_151 : decode cX10_counted 151 = .ok (.ireturn, 1) := by decide +kernel
set_option maxRecDepth 20000 in
theorem ggX10_kindsThatFit_X6_cell : GoodIn wsX10_kindsThatFit wsX6_cell := goodIn_r _ [6, 7, 18, 19, 20, 21] rfl (by decide +kernel)
set_option maxRecDepth 20000 in
theorem gX10_kindsThatFit_X6_cell : GoodIn wsX10_kindsThatFit (wsV RX10 346 RX6 yX6_cell wsX6_cell) := goodIn_app (goodIn_of _ (by decide +kernel)) ggX10_kindsThatFit_X6_cell
set_option maxRecDepth 20000 in
theorem ggX10_kindsThatFit_X1_says : GoodIn wsX10_kindsThatFit wsX1_says := goodIn_r _ [11, 12, 13, 10, 14, 15, 16, 17] rfl (by decide +kernel)
set_option maxRecDepth 20000 in
theorem gX10_kindsThatFit_X1_says : GoodIn wsX10_kindsThatFit (va_wsS RX10 349 yX1_says wsX1_says) := goodIn_app (goodIn_of _ (by decide +kernel)) ggX10_kindsThatFit_X1_says
theorem dX10_kindsThatFit_0 : decode cX10_kindsThatFit 0 = .ok (.iconst 0, 1) := by decide +kernel
theorem dX10_kindsThatFit_1 : decode cX10_kindsThatFit 1 = .ok (.istore_n 3, 1) := by decide +kernel
theorem dX10_kindsThatFit_2 : decode cX10_kindsThatFit 2 = .ok (.iconst 0, 1) := by decide +kernel
theorem dX10_kindsThatFit_3 : decode cX10_kindsThatFit 3 = .ok (.istore 4, 2) := by decide +kernel
theorem dX10_kindsThatFit_5 : decode cX10_kindsThatFit 5 = .ok (.iload 4, 2) := by decide +kernel
theorem dX10_kindsThatFit_7 : decode cX10_kindsThatFit 7 = .ok (.bipush 6, 2) := by decide +kernel
theorem dX10_kindsThatFit_9 : decode cX10_kindsThatFit 9 = .ok (.if_icmp .ge 99, 3) := by decide +kernel
theorem dX10_kindsThatFit_12 : decode cX10_kindsThatFit 12 = .ok (.iconst 1, 1) := by decide +kernel
theorem dX10_kindsThatFit_13 : decode cX10_kindsThatFit 13 = .ok (.istore 5, 2) := by decide +kernel
theorem dX10_kindsThatFit_15 : decode cX10_kindsThatFit 15 = .ok (.iconst 0, 1) := by decide +kernel
theorem dX10_kindsThatFit_16 : decode cX10_kindsThatFit 16 = .ok (.istore 6, 2) := by decide +kernel
theorem dX10_kindsThatFit_18 : decode cX10_kindsThatFit 18 = .ok (.iload 6, 2) := by decide +kernel
theorem dX10_kindsThatFit_20 : decode cX10_kindsThatFit 20 = .ok (.aload_n 0, 1) := by decide +kernel
theorem dX10_kindsThatFit_21 : decode cX10_kindsThatFit 21 = .ok (.getfield 334, 3) := by decide +kernel
theorem dX10_kindsThatFit_24 : decode cX10_kindsThatFit 24 = .ok (.if_icmp .ge 66, 3) := by decide +kernel
theorem dX10_kindsThatFit_27 : decode cX10_kindsThatFit 27 = .ok (.iload_n 2, 1) := by decide +kernel
theorem dX10_kindsThatFit_28 : decode cX10_kindsThatFit 28 = .ok (.iload 4, 2) := by decide +kernel
theorem dX10_kindsThatFit_30 : decode cX10_kindsThatFit 30 = .ok (.aload_n 0, 1) := by decide +kernel
theorem dX10_kindsThatFit_31 : decode cX10_kindsThatFit 31 = .ok (.iload 6, 2) := by decide +kernel
theorem dX10_kindsThatFit_33 : decode cX10_kindsThatFit 33 = .ok (.iconst 1, 1) := by decide +kernel
theorem dX10_kindsThatFit_34 : decode cX10_kindsThatFit 34 = .ok (.invokevirtual 346, 3) := by decide +kernel
theorem dX10_kindsThatFit_37 : decode cX10_kindsThatFit 37 = .ok (.aload_n 0, 1) := by decide +kernel
theorem dX10_kindsThatFit_38 : decode cX10_kindsThatFit 38 = .ok (.iload 6, 2) := by decide +kernel
theorem dX10_kindsThatFit_40 : decode cX10_kindsThatFit 40 = .ok (.iconst 2, 1) := by decide +kernel
theorem dX10_kindsThatFit_41 : decode cX10_kindsThatFit 41 = .ok (.invokevirtual 346, 3) := by decide +kernel
theorem dX10_kindsThatFit_44 : decode cX10_kindsThatFit 44 = .ok (.invokestatic 349, 3) := by decide +kernel
theorem dX10_kindsThatFit_47 : decode cX10_kindsThatFit 47 = .ok (.istore 7, 2) := by decide +kernel
theorem dX10_kindsThatFit_49 : decode cX10_kindsThatFit 49 = .ok (.iload 5, 2) := by decide +kernel
theorem dX10_kindsThatFit_51 : decode cX10_kindsThatFit 51 = .ok (.ifCond .eq 30, 3) := by decide +kernel
theorem dX10_kindsThatFit_54 : decode cX10_kindsThatFit 54 = .ok (.aload_n 0, 1) := by decide +kernel
theorem dX10_kindsThatFit_55 : decode cX10_kindsThatFit 55 = .ok (.iload 6, 2) := by decide +kernel
theorem dX10_kindsThatFit_57 : decode cX10_kindsThatFit 57 = .ok (.iconst 0, 1) := by decide +kernel
theorem dX10_kindsThatFit_58 : decode cX10_kindsThatFit 58 = .ok (.invokevirtual 346, 3) := by decide +kernel
theorem dX10_kindsThatFit_61 : decode cX10_kindsThatFit 61 = .ok (.iload_n 1, 1) := by decide +kernel
theorem dX10_kindsThatFit_62 : decode cX10_kindsThatFit 62 = .ok (.if_icmp .ne 15, 3) := by decide +kernel
theorem dX10_kindsThatFit_65 : decode cX10_kindsThatFit 65 = .ok (.iload 7, 2) := by decide +kernel
theorem dX10_kindsThatFit_67 : decode cX10_kindsThatFit 67 = .ok (.aload_n 0, 1) := by decide +kernel
theorem dX10_kindsThatFit_68 : decode cX10_kindsThatFit 68 = .ok (.iload 6, 2) := by decide +kernel
theorem dX10_kindsThatFit_70 : decode cX10_kindsThatFit 70 = .ok (.iconst 3, 1) := by decide +kernel
theorem dX10_kindsThatFit_71 : decode cX10_kindsThatFit 71 = .ok (.invokevirtual 346, 3) := by decide +kernel
theorem dX10_kindsThatFit_74 : decode cX10_kindsThatFit 74 = .ok (.if_icmp .ne 7, 3) := by decide +kernel
theorem dX10_kindsThatFit_77 : decode cX10_kindsThatFit 77 = .ok (.iconst 1, 1) := by decide +kernel
theorem dX10_kindsThatFit_78 : decode cX10_kindsThatFit 78 = .ok (.goto 4, 3) := by decide +kernel
theorem dX10_kindsThatFit_81 : decode cX10_kindsThatFit 81 = .ok (.iconst 0, 1) := by decide +kernel
theorem dX10_kindsThatFit_82 : decode cX10_kindsThatFit 82 = .ok (.istore 5, 2) := by decide +kernel
theorem dX10_kindsThatFit_84 : decode cX10_kindsThatFit 84 = .ok (.iinc 6 1, 3) := by decide +kernel
theorem dX10_kindsThatFit_87 : decode cX10_kindsThatFit 87 = .ok (.goto (-69), 3) := by decide +kernel
theorem dX10_kindsThatFit_90 : decode cX10_kindsThatFit 90 = .ok (.iload 5, 2) := by decide +kernel
theorem dX10_kindsThatFit_92 : decode cX10_kindsThatFit 92 = .ok (.ifCond .eq 10, 3) := by decide +kernel
theorem dX10_kindsThatFit_95 : decode cX10_kindsThatFit 95 = .ok (.iload_n 3, 1) := by decide +kernel
theorem dX10_kindsThatFit_96 : decode cX10_kindsThatFit 96 = .ok (.iconst 1, 1) := by decide +kernel
theorem dX10_kindsThatFit_97 : decode cX10_kindsThatFit 97 = .ok (.iload 4, 2) := by decide +kernel
theorem dX10_kindsThatFit_99 : decode cX10_kindsThatFit 99 = .ok (.ishl, 1) := by decide +kernel
theorem dX10_kindsThatFit_100 : decode cX10_kindsThatFit 100 = .ok (.ior, 1) := by decide +kernel
theorem dX10_kindsThatFit_101 : decode cX10_kindsThatFit 101 = .ok (.istore_n 3, 1) := by decide +kernel
theorem dX10_kindsThatFit_102 : decode cX10_kindsThatFit 102 = .ok (.iinc 4 1, 3) := by decide +kernel
theorem dX10_kindsThatFit_105 : decode cX10_kindsThatFit 105 = .ok (.goto (-100), 3) := by decide +kernel
theorem dX10_kindsThatFit_108 : decode cX10_kindsThatFit 108 = .ok (.iload_n 3, 1) := by decide +kernel
theorem dX10_kindsThatFit_109 : decode cX10_kindsThatFit 109 = .ok (.ireturn, 1) := by decide +kernel
set_option maxRecDepth 20000 in
theorem ggX10_nextLook_X3_begin : GoodIn wsX10_nextLook wsX3_begin := goodIn_r _ [7, 8, 9, 10, 51, 52, 53, 54] rfl (by decide +kernel)
set_option maxRecDepth 20000 in
theorem gX10_nextLook_X3_begin : GoodIn wsX10_nextLook (wsV RX10 353 RX3 yX3_begin wsX3_begin) := goodIn_app (goodIn_of _ (by decide +kernel)) ggX10_nextLook_X3_begin
set_option maxRecDepth 20000 in
theorem ggX10_nextLook_X3_empty : GoodIn wsX10_nextLook wsX3_empty := goodIn_r _ [14, 9, 15, 51, 52, 53, 54] rfl (by decide +kernel)
set_option maxRecDepth 20000 in
theorem gX10_nextLook_X3_empty : GoodIn wsX10_nextLook (wsV RX10 356 RX3 yX3_empty wsX3_empty) := goodIn_app (goodIn_of _ (by decide +kernel)) ggX10_nextLook_X3_empty
set_option maxRecDepth 20000 in
theorem ggX10_nextLook_X1_says : GoodIn wsX10_nextLook wsX1_says := goodIn_r _ [19, 20, 21, 18, 22, 23, 24, 25] rfl (by decide +kernel)
set_option maxRecDepth 20000 in
theorem gX10_nextLook_X1_says : GoodIn wsX10_nextLook (va_wsS RX10 349 yX1_says wsX1_says) := goodIn_app (goodIn_of _ (by decide +kernel)) ggX10_nextLook_X1_says
set_option maxRecDepth 20000 in
theorem ggX10_nextLook_X3_add : GoodIn wsX10_nextLook wsX3_add := goodIn_r _ [29, 9, 15, 30, 31, 32, 33, 51, 52, 53, 54] rfl (by decide +kernel)
set_option maxRecDepth 20000 in
theorem gX10_nextLook_X3_add : GoodIn wsX10_nextLook (wsV RX10 357 RX3 yX3_add wsX3_add) := goodIn_app (goodIn_of _ (by decide +kernel)) ggX10_nextLook_X3_add
set_option maxRecDepth 20000 in
theorem ggX10_nextLook_X3_offer : GoodIn wsX10_nextLook wsX3_offer := goodIn_r _ [37, 15, 10, 8, 51, 52, 53, 54] rfl (by decide +kernel)
set_option maxRecDepth 20000 in
theorem gX10_nextLook_X3_offer : GoodIn wsX10_nextLook (wsV RX10 359 RX3 yX3_offer wsX3_offer) := goodIn_app (goodIn_of _ (by decide +kernel)) ggX10_nextLook_X3_offer
theorem dX10_nextLook_0 : decode cX10_nextLook 0 = .ok (.iload_n 2, 1) := by decide +kernel
theorem dX10_nextLook_1 : decode cX10_nextLook 1 = .ok (.ifCond .eq 8, 3) := by decide +kernel
theorem dX10_nextLook_4 : decode cX10_nextLook 4 = .ok (.bipush 10, 2) := by decide +kernel
theorem dX10_nextLook_6 : decode cX10_nextLook 6 = .ok (.goto 5, 3) := by decide +kernel
theorem dX10_nextLook_9 : decode cX10_nextLook 9 = .ok (.bipush 24, 2) := by decide +kernel
theorem dX10_nextLook_11 : decode cX10_nextLook 11 = .ok (.istore_n 3, 1) := by decide +kernel
theorem dX10_nextLook_12 : decode cX10_nextLook 12 = .ok (.iload_n 2, 1) := by decide +kernel
theorem dX10_nextLook_13 : decode cX10_nextLook 13 = .ok (.ifCond .eq 7, 3) := by decide +kernel
theorem dX10_nextLook_16 : decode cX10_nextLook 16 = .ok (.iconst 0, 1) := by decide +kernel
theorem dX10_nextLook_17 : decode cX10_nextLook 17 = .ok (.goto 4, 3) := by decide +kernel
theorem dX10_nextLook_20 : decode cX10_nextLook 20 = .ok (.iconst 1, 1) := by decide +kernel
theorem dX10_nextLook_21 : decode cX10_nextLook 21 = .ok (.istore 4, 2) := by decide +kernel
theorem dX10_nextLook_23 : decode cX10_nextLook 23 = .ok (.iload_n 2, 1) := by decide +kernel
theorem dX10_nextLook_24 : decode cX10_nextLook 24 = .ok (.ifCond .eq 7, 3) := by decide +kernel
theorem dX10_nextLook_27 : decode cX10_nextLook 27 = .ok (.iconst 4, 1) := by decide +kernel
theorem dX10_nextLook_28 : decode cX10_nextLook 28 = .ok (.goto 5, 3) := by decide +kernel
theorem dX10_nextLook_31 : decode cX10_nextLook 31 = .ok (.bipush 7, 2) := by decide +kernel
theorem dX10_nextLook_33 : decode cX10_nextLook 33 = .ok (.istore 5, 2) := by decide +kernel
theorem dX10_nextLook_35 : decode cX10_nextLook 35 = .ok (.aload_n 0, 1) := by decide +kernel
theorem dX10_nextLook_36 : decode cX10_nextLook 36 = .ok (.getfield 39, 3) := by decide +kernel
theorem dX10_nextLook_39 : decode cX10_nextLook 39 = .ok (.invokevirtual 353, 3) := by decide +kernel
theorem dX10_nextLook_42 : decode cX10_nextLook 42 = .ok (.iconst 0, 1) := by decide +kernel
theorem dX10_nextLook_43 : decode cX10_nextLook 43 = .ok (.istore 6, 2) := by decide +kernel
theorem dX10_nextLook_45 : decode cX10_nextLook 45 = .ok (.iload 6, 2) := by decide +kernel
theorem dX10_nextLook_47 : decode cX10_nextLook 47 = .ok (.iload_n 3, 1) := by decide +kernel
theorem dX10_nextLook_48 : decode cX10_nextLook 48 = .ok (.if_icmp .ge 91, 3) := by decide +kernel
theorem dX10_nextLook_51 : decode cX10_nextLook 51 = .ok (.iload 4, 2) := by decide +kernel
theorem dX10_nextLook_53 : decode cX10_nextLook 53 = .ok (.istore 7, 2) := by decide +kernel
theorem dX10_nextLook_55 : decode cX10_nextLook 55 = .ok (.iload 7, 2) := by decide +kernel
theorem dX10_nextLook_57 : decode cX10_nextLook 57 = .ok (.iload 5, 2) := by decide +kernel
theorem dX10_nextLook_59 : decode cX10_nextLook 59 = .ok (.if_icmp .gt 74, 3) := by decide +kernel
theorem dX10_nextLook_62 : decode cX10_nextLook 62 = .ok (.aload_n 0, 1) := by decide +kernel
theorem dX10_nextLook_63 : decode cX10_nextLook 63 = .ok (.getfield 39, 3) := by decide +kernel
theorem dX10_nextLook_66 : decode cX10_nextLook 66 = .ok (.invokevirtual 356, 3) := by decide +kernel
theorem dX10_nextLook_69 : decode cX10_nextLook 69 = .ok (.iconst 0, 1) := by decide +kernel
theorem dX10_nextLook_70 : decode cX10_nextLook 70 = .ok (.istore 8, 2) := by decide +kernel
theorem dX10_nextLook_72 : decode cX10_nextLook 72 = .ok (.iload 8, 2) := by decide +kernel
theorem dX10_nextLook_74 : decode cX10_nextLook 74 = .ok (.bipush 6, 2) := by decide +kernel
theorem dX10_nextLook_76 : decode cX10_nextLook 76 = .ok (.if_icmp .ge 36, 3) := by decide +kernel
theorem dX10_nextLook_79 : decode cX10_nextLook 79 = .ok (.iload_n 1, 1) := by decide +kernel
theorem dX10_nextLook_80 : decode cX10_nextLook 80 = .ok (.iload 8, 2) := by decide +kernel
theorem dX10_nextLook_82 : decode cX10_nextLook 82 = .ok (.ishr, 1) := by decide +kernel
theorem dX10_nextLook_83 : decode cX10_nextLook 83 = .ok (.iconst 1, 1) := by decide +kernel
theorem dX10_nextLook_84 : decode cX10_nextLook 84 = .ok (.iand, 1) := by decide +kernel
theorem dX10_nextLook_85 : decode cX10_nextLook 85 = .ok (.iconst 1, 1) := by decide +kernel
theorem dX10_nextLook_86 : decode cX10_nextLook 86 = .ok (.if_icmp .ne 20, 3) := by decide +kernel
theorem dX10_nextLook_89 : decode cX10_nextLook 89 = .ok (.aload_n 0, 1) := by decide +kernel
theorem dX10_nextLook_90 : decode cX10_nextLook 90 = .ok (.getfield 39, 3) := by decide +kernel
theorem dX10_nextLook_93 : decode cX10_nextLook 93 = .ok (.iload_n 2, 1) := by decide +kernel
theorem dX10_nextLook_94 : decode cX10_nextLook 94 = .ok (.iload 8, 2) := by decide +kernel
theorem dX10_nextLook_96 : decode cX10_nextLook 96 = .ok (.iload 6, 2) := by decide +kernel
theorem dX10_nextLook_98 : decode cX10_nextLook 98 = .ok (.iload 7, 2) := by decide +kernel
theorem dX10_nextLook_100 : decode cX10_nextLook 100 = .ok (.invokestatic 349, 3) := by decide +kernel
theorem dX10_nextLook_103 : decode cX10_nextLook 103 = .ok (.invokevirtual 357, 3) := by decide +kernel
theorem dX10_nextLook_106 : decode cX10_nextLook 106 = .ok (.iinc 8 1, 3) := by decide +kernel
theorem dX10_nextLook_109 : decode cX10_nextLook 109 = .ok (.goto (-37), 3) := by decide +kernel
theorem dX10_nextLook_112 : decode cX10_nextLook 112 = .ok (.aload_n 0, 1) := by decide +kernel
theorem dX10_nextLook_113 : decode cX10_nextLook 113 = .ok (.getfield 39, 3) := by decide +kernel
theorem dX10_nextLook_116 : decode cX10_nextLook 116 = .ok (.bipush 10, 2) := by decide +kernel
theorem dX10_nextLook_118 : decode cX10_nextLook 118 = .ok (.iload 6, 2) := by decide +kernel
theorem dX10_nextLook_120 : decode cX10_nextLook 120 = .ok (.imul, 1) := by decide +kernel
theorem dX10_nextLook_121 : decode cX10_nextLook 121 = .ok (.iload 7, 2) := by decide +kernel
theorem dX10_nextLook_123 : decode cX10_nextLook 123 = .ok (.iadd, 1) := by decide +kernel
theorem dX10_nextLook_124 : decode cX10_nextLook 124 = .ok (.invokevirtual 359, 3) := by decide +kernel
theorem dX10_nextLook_127 : decode cX10_nextLook 127 = .ok (.iinc 7 1, 3) := by decide +kernel
theorem dX10_nextLook_130 : decode cX10_nextLook 130 = .ok (.goto (-75), 3) := by decide +kernel
theorem dX10_nextLook_133 : decode cX10_nextLook 133 = .ok (.iinc 6 1, 3) := by decide +kernel
theorem dX10_nextLook_136 : decode cX10_nextLook 136 = .ok (.goto (-91), 3) := by decide +kernel
theorem dX10_nextLook_139 : decode cX10_nextLook 139 = .ok (.aload_n 0, 1) := by decide +kernel
theorem dX10_nextLook_140 : decode cX10_nextLook 140 = .ok (.getfield 39, 3) := by decide +kernel
theorem dX10_nextLook_143 : decode cX10_nextLook 143 = .ok (.getfield 362, 3) := by decide +kernel
theorem dX10_nextLook_146 : decode cX10_nextLook 146 = .ok (.ireturn, 1) := by decide +kernel
theorem dX10_ladyGets_0 : decode cX10_ladyGets 0 = .ok (.iload_n 2, 1) := by decide +kernel
theorem dX10_ladyGets_1 : decode cX10_ladyGets 1 = .ok (.iload_n 0, 1) := by decide +kernel
theorem dX10_ladyGets_2 : decode cX10_ladyGets 2 = .ok (.ishr, 1) := by decide +kernel
theorem dX10_ladyGets_3 : decode cX10_ladyGets 3 = .ok (.iconst 1, 1) := by decide +kernel
theorem dX10_ladyGets_4 : decode cX10_ladyGets 4 = .ok (.iand, 1) := by decide +kernel
theorem dX10_ladyGets_5 : decode cX10_ladyGets 5 = .ok (.iconst 1, 1) := by decide +kernel
theorem dX10_ladyGets_6 : decode cX10_ladyGets 6 = .ok (.if_icmp .ne 7, 3) := by decide +kernel
theorem dX10_ladyGets_9 : decode cX10_ladyGets 9 = .ok (.iconst 5, 1) := by decide +kernel
theorem dX10_ladyGets_10 : decode cX10_ladyGets 10 = .ok (.goto 4, 3) := by decide +kernel
theorem dX10_ladyGets_13 : decode cX10_ladyGets 13 = .ok (.iconst 0, 1) := by decide +kernel
theorem dX10_ladyGets_14 : decode cX10_ladyGets 14 = .ok (.istore_n 3, 1) := by decide +kernel
theorem dX10_ladyGets_15 : decode cX10_ladyGets 15 = .ok (.iload_n 3, 1) := by decide +kernel
theorem dX10_ladyGets_16 : decode cX10_ladyGets 16 = .ok (.iload_n 0, 1) := by decide +kernel
theorem dX10_ladyGets_17 : decode cX10_ladyGets 17 = .ok (.iconst 3, 1) := by decide +kernel
theorem dX10_ladyGets_18 : decode cX10_ladyGets 18 = .ok (.idiv, 1) := by decide +kernel
theorem dX10_ladyGets_19 : decode cX10_ladyGets 19 = .ok (.isub, 1) := by decide +kernel
theorem dX10_ladyGets_20 : decode cX10_ladyGets 20 = .ok (.iload_n 0, 1) := by decide +kernel
theorem dX10_ladyGets_21 : decode cX10_ladyGets 21 = .ok (.iload_n 1, 1) := by decide +kernel
theorem dX10_ladyGets_22 : decode cX10_ladyGets 22 = .ok (.if_icmp .ne 7, 3) := by decide +kernel
theorem dX10_ladyGets_25 : decode cX10_ladyGets 25 = .ok (.iconst 3, 1) := by decide +kernel
theorem dX10_ladyGets_26 : decode cX10_ladyGets 26 = .ok (.goto 4, 3) := by decide +kernel
theorem dX10_ladyGets_29 : decode cX10_ladyGets 29 = .ok (.iconst 0, 1) := by decide +kernel
theorem dX10_ladyGets_30 : decode cX10_ladyGets 30 = .ok (.isub, 1) := by decide +kernel
theorem dX10_ladyGets_31 : decode cX10_ladyGets 31 = .ok (.ireturn, 1) := by decide +kernel
theorem dX10_constableGets_0 : decode cX10_constableGets 0 = .ok (.iload_n 0, 1) := by decide +kernel
theorem dX10_constableGets_1 : decode cX10_constableGets 1 = .ok (.iload_n 1, 1) := by decide +kernel
theorem dX10_constableGets_2 : decode cX10_constableGets 2 = .ok (.if_icmp .ne 7, 3) := by decide +kernel
theorem dX10_constableGets_5 : decode cX10_constableGets 5 = .ok (.iconst 3, 1) := by decide +kernel
theorem dX10_constableGets_6 : decode cX10_constableGets 6 = .ok (.goto 4, 3) := by decide +kernel
theorem dX10_constableGets_9 : decode cX10_constableGets 9 = .ok (.iconst 0, 1) := by decide +kernel
theorem dX10_constableGets_10 : decode cX10_constableGets 10 = .ok (.iload_n 1, 1) := by decide +kernel
theorem dX10_constableGets_11 : decode cX10_constableGets 11 = .ok (.iconst 3, 1) := by decide +kernel
theorem dX10_constableGets_12 : decode cX10_constableGets 12 = .ok (.idiv, 1) := by decide +kernel
theorem dX10_constableGets_13 : decode cX10_constableGets 13 = .ok (.isub, 1) := by decide +kernel
theorem dX10_constableGets_14 : decode cX10_constableGets 14 = .ok (.ireturn, 1) := by decide +kernel
set_option maxRecDepth 20000 in
theorem ggX10_rests_X10_ladyGets : GoodIn wsX10_rests wsX10_ladyGets := goodIn_r _ [4] rfl (by decide +kernel)
set_option maxRecDepth 20000 in
theorem gX10_rests_X10_ladyGets : GoodIn wsX10_rests (va_wsS RX10 365 yX10_ladyGets wsX10_ladyGets) := goodIn_app (goodIn_of _ (by decide +kernel)) ggX10_rests_X10_ladyGets
set_option maxRecDepth 20000 in
theorem ggX10_rests_X10_constableGets : GoodIn wsX10_rests wsX10_constableGets := goodIn_r _ [7] rfl (by decide +kernel)
set_option maxRecDepth 20000 in
theorem gX10_rests_X10_constableGets : GoodIn wsX10_rests (va_wsS RX10 368 yX10_constableGets wsX10_constableGets) := goodIn_app (goodIn_of _ (by decide +kernel)) ggX10_rests_X10_constableGets
theorem dX10_rests_0 : decode cX10_rests 0 = .ok (.iconst 0, 1) := by decide +kernel
theorem dX10_rests_1 : decode cX10_rests 1 = .ok (.istore_n 3, 1) := by decide +kernel
theorem dX10_rests_2 : decode cX10_rests 2 = .ok (.iload_n 3, 1) := by decide +kernel
theorem dX10_rests_3 : decode cX10_rests 3 = .ok (.bipush 10, 2) := by decide +kernel
theorem dX10_rests_5 : decode cX10_rests 5 = .ok (.if_icmp .ge 39, 3) := by decide +kernel
theorem dX10_rests_8 : decode cX10_rests 8 = .ok (.iload_n 3, 1) := by decide +kernel
theorem dX10_rests_9 : decode cX10_rests 9 = .ok (.iload_n 1, 1) := by decide +kernel
theorem dX10_rests_10 : decode cX10_rests 10 = .ok (.iload_n 2, 1) := by decide +kernel
theorem dX10_rests_11 : decode cX10_rests 11 = .ok (.invokestatic 365, 3) := by decide +kernel
theorem dX10_rests_14 : decode cX10_rests 14 = .ok (.iload_n 0, 1) := by decide +kernel
theorem dX10_rests_15 : decode cX10_rests 15 = .ok (.iload_n 1, 1) := by decide +kernel
theorem dX10_rests_16 : decode cX10_rests 16 = .ok (.iload_n 2, 1) := by decide +kernel
theorem dX10_rests_17 : decode cX10_rests 17 = .ok (.invokestatic 365, 3) := by decide +kernel
theorem dX10_rests_20 : decode cX10_rests 20 = .ok (.if_icmp .gt 16, 3) := by decide +kernel
theorem dX10_rests_23 : decode cX10_rests 23 = .ok (.iload_n 0, 1) := by decide +kernel
theorem dX10_rests_24 : decode cX10_rests 24 = .ok (.iload_n 3, 1) := by decide +kernel
theorem dX10_rests_25 : decode cX10_rests 25 = .ok (.invokestatic 368, 3) := by decide +kernel
theorem dX10_rests_28 : decode cX10_rests 28 = .ok (.iload_n 0, 1) := by decide +kernel
theorem dX10_rests_29 : decode cX10_rests 29 = .ok (.iload_n 1, 1) := by decide +kernel
theorem dX10_rests_30 : decode cX10_rests 30 = .ok (.invokestatic 368, 3) := by decide +kernel
theorem dX10_rests_33 : decode cX10_rests 33 = .ok (.if_icmp .le 5, 3) := by decide +kernel
theorem dX10_rests_36 : decode cX10_rests 36 = .ok (.iconst 0, 1) := by decide +kernel
theorem dX10_rests_37 : decode cX10_rests 37 = .ok (.ireturn, 1) := by decide +kernel
theorem dX10_rests_38 : decode cX10_rests 38 = .ok (.iinc 3 1, 3) := by decide +kernel
theorem dX10_rests_41 : decode cX10_rests 41 = .ok (.goto (-39), 3) := by decide +kernel
theorem dX10_rests_44 : decode cX10_rests 44 = .ok (.iconst 1, 1) := by decide +kernel
theorem dX10_rests_45 : decode cX10_rests 45 = .ok (.ireturn, 1) := by decide +kernel
theorem dX10_keepFraction_0 : decode cX10_keepFraction 0 = .ok (.iload_n 1, 1) := by decide +kernel
theorem dX10_keepFraction_1 : decode cX10_keepFraction 1 = .ok (.istore_n 3, 1) := by decide +kernel
theorem dX10_keepFraction_2 : decode cX10_keepFraction 2 = .ok (.iload_n 2, 1) := by decide +kernel
theorem dX10_keepFraction_3 : decode cX10_keepFraction 3 = .ok (.istore 4, 2) := by decide +kernel
theorem dX10_keepFraction_5 : decode cX10_keepFraction 5 = .ok (.iconst 0, 1) := by decide +kernel
theorem dX10_keepFraction_6 : decode cX10_keepFraction 6 = .ok (.istore 5, 2) := by decide +kernel
theorem dX10_keepFraction_8 : decode cX10_keepFraction 8 = .ok (.iload 5, 2) := by decide +kernel
theorem dX10_keepFraction_10 : decode cX10_keepFraction 10 = .ok (.bipush 64, 2) := by decide +kernel
theorem dX10_keepFraction_12 : decode cX10_keepFraction 12 = .ok (.if_icmp .ge 27, 3) := by decide +kernel
theorem dX10_keepFraction_15 : decode cX10_keepFraction 15 = .ok (.iload 4, 2) := by decide +kernel
theorem dX10_keepFraction_17 : decode cX10_keepFraction 17 = .ok (.ifCond .eq 22, 3) := by decide +kernel
theorem dX10_keepFraction_20 : decode cX10_keepFraction 20 = .ok (.iload_n 3, 1) := by decide +kernel
theorem dX10_keepFraction_21 : decode cX10_keepFraction 21 = .ok (.iload 4, 2) := by decide +kernel
theorem dX10_keepFraction_23 : decode cX10_keepFraction 23 = .ok (.irem, 1) := by decide +kernel
theorem dX10_keepFraction_24 : decode cX10_keepFraction 24 = .ok (.istore 6, 2) := by decide +kernel
theorem dX10_keepFraction_26 : decode cX10_keepFraction 26 = .ok (.iload 4, 2) := by decide +kernel
theorem dX10_keepFraction_28 : decode cX10_keepFraction 28 = .ok (.istore_n 3, 1) := by decide +kernel
theorem dX10_keepFraction_29 : decode cX10_keepFraction 29 = .ok (.iload 6, 2) := by decide +kernel
theorem dX10_keepFraction_31 : decode cX10_keepFraction 31 = .ok (.istore 4, 2) := by decide +kernel
theorem dX10_keepFraction_33 : decode cX10_keepFraction 33 = .ok (.iinc 5 1, 3) := by decide +kernel
theorem dX10_keepFraction_36 : decode cX10_keepFraction 36 = .ok (.goto (-28), 3) := by decide +kernel
theorem dX10_keepFraction_39 : decode cX10_keepFraction 39 = .ok (.iload_n 3, 1) := by decide +kernel
theorem dX10_keepFraction_40 : decode cX10_keepFraction 40 = .ok (.ifCond .le 17, 3) := by decide +kernel
theorem dX10_keepFraction_43 : decode cX10_keepFraction 43 = .ok (.aload_n 0, 1) := by decide +kernel
theorem dX10_keepFraction_44 : decode cX10_keepFraction 44 = .ok (.iload_n 1, 1) := by decide +kernel
theorem dX10_keepFraction_45 : decode cX10_keepFraction 45 = .ok (.iload_n 3, 1) := by decide +kernel
theorem dX10_keepFraction_46 : decode cX10_keepFraction 46 = .ok (.idiv, 1) := by decide +kernel
theorem dX10_keepFraction_47 : decode cX10_keepFraction 47 = .ok (.putfield 50, 3) := by decide +kernel
theorem dX10_keepFraction_50 : decode cX10_keepFraction 50 = .ok (.aload_n 0, 1) := by decide +kernel
theorem dX10_keepFraction_51 : decode cX10_keepFraction 51 = .ok (.iload_n 2, 1) := by decide +kernel
theorem dX10_keepFraction_52 : decode cX10_keepFraction 52 = .ok (.iload_n 3, 1) := by decide +kernel
theorem dX10_keepFraction_53 : decode cX10_keepFraction 53 = .ok (.idiv, 1) := by decide +kernel
theorem dX10_keepFraction_54 : decode cX10_keepFraction 54 = .ok (.putfield 54, 3) := by decide +kernel
theorem dX10_keepFraction_57 : decode cX10_keepFraction 57 = .ok (.return_, 1) := by decide +kernel
theorem dJ6_numberOfTrailingZeros_0f7a4_0 : decode cJ6_numberOfTrailingZeros_0f7a4 0 = .ok (.iload_n 0, 1) := by decide +kernel
theorem dJ6_numberOfTrailingZeros_0f7a4_1 : decode cJ6_numberOfTrailingZeros_0f7a4 1 = .ok (.iconst (-1), 1) := by decide +kernel
theorem dJ6_numberOfTrailingZeros_0f7a4_2 : decode cJ6_numberOfTrailingZeros_0f7a4 2 = .ok (.ixor, 1) := by decide +kernel
theorem dJ6_numberOfTrailingZeros_0f7a4_3 : decode cJ6_numberOfTrailingZeros_0f7a4 3 = .ok (.iload_n 0, 1) := by decide +kernel
theorem dJ6_numberOfTrailingZeros_0f7a4_4 : decode cJ6_numberOfTrailingZeros_0f7a4 4 = .ok (.iconst 1, 1) := by decide +kernel
theorem dJ6_numberOfTrailingZeros_0f7a4_5 : decode cJ6_numberOfTrailingZeros_0f7a4 5 = .ok (.isub, 1) := by decide +kernel
theorem dJ6_numberOfTrailingZeros_0f7a4_6 : decode cJ6_numberOfTrailingZeros_0f7a4 6 = .ok (.iand, 1) := by decide +kernel
theorem dJ6_numberOfTrailingZeros_0f7a4_7 : decode cJ6_numberOfTrailingZeros_0f7a4 7 = .ok (.istore_n 0, 1) := by decide +kernel
theorem dJ6_numberOfTrailingZeros_0f7a4_8 : decode cJ6_numberOfTrailingZeros_0f7a4 8 = .ok (.iload_n 0, 1) := by decide +kernel
theorem dJ6_numberOfTrailingZeros_0f7a4_9 : decode cJ6_numberOfTrailingZeros_0f7a4 9 = .ok (.ifCond .gt 8, 3) := by decide +kernel
theorem dJ6_numberOfTrailingZeros_0f7a4_12 : decode cJ6_numberOfTrailingZeros_0f7a4 12 = .ok (.iload_n 0, 1) := by decide +kernel
theorem dJ6_numberOfTrailingZeros_0f7a4_13 : decode cJ6_numberOfTrailingZeros_0f7a4 13 = .ok (.bipush 32, 2) := by decide +kernel
theorem dJ6_numberOfTrailingZeros_0f7a4_15 : decode cJ6_numberOfTrailingZeros_0f7a4 15 = .ok (.iand, 1) := by decide +kernel
theorem dJ6_numberOfTrailingZeros_0f7a4_16 : decode cJ6_numberOfTrailingZeros_0f7a4 16 = .ok (.ireturn, 1) := by decide +kernel
theorem dJ6_numberOfTrailingZeros_0f7a4_17 : decode cJ6_numberOfTrailingZeros_0f7a4 17 = .ok (.iconst 1, 1) := by decide +kernel
theorem dJ6_numberOfTrailingZeros_0f7a4_18 : decode cJ6_numberOfTrailingZeros_0f7a4 18 = .ok (.istore_n 1, 1) := by decide +kernel
theorem dJ6_numberOfTrailingZeros_0f7a4_19 : decode cJ6_numberOfTrailingZeros_0f7a4 19 = .ok (.iload_n 0, 1) := by decide +kernel
theorem dJ6_numberOfTrailingZeros_0f7a4_20 : decode cJ6_numberOfTrailingZeros_0f7a4 20 = .ok (.ldc_w 264, 3) := by decide +kernel
theorem dJ6_numberOfTrailingZeros_0f7a4_23 : decode cJ6_numberOfTrailingZeros_0f7a4 23 = .ok (.if_icmp .le 11, 3) := by decide +kernel
theorem dJ6_numberOfTrailingZeros_0f7a4_26 : decode cJ6_numberOfTrailingZeros_0f7a4 26 = .ok (.iinc 1 16, 3) := by decide +kernel
theorem dJ6_numberOfTrailingZeros_0f7a4_29 : decode cJ6_numberOfTrailingZeros_0f7a4 29 = .ok (.iload_n 0, 1) := by decide +kernel
theorem dJ6_numberOfTrailingZeros_0f7a4_30 : decode cJ6_numberOfTrailingZeros_0f7a4 30 = .ok (.bipush 16, 2) := by decide +kernel
theorem dJ6_numberOfTrailingZeros_0f7a4_32 : decode cJ6_numberOfTrailingZeros_0f7a4 32 = .ok (.iushr, 1) := by decide +kernel
theorem dJ6_numberOfTrailingZeros_0f7a4_33 : decode cJ6_numberOfTrailingZeros_0f7a4 33 = .ok (.istore_n 0, 1) := by decide +kernel
theorem dJ6_numberOfTrailingZeros_0f7a4_34 : decode cJ6_numberOfTrailingZeros_0f7a4 34 = .ok (.iload_n 0, 1) := by decide +kernel
theorem dJ6_numberOfTrailingZeros_0f7a4_35 : decode cJ6_numberOfTrailingZeros_0f7a4 35 = .ok (.sipush 256, 3) := by decide +kernel
theorem dJ6_numberOfTrailingZeros_0f7a4_38 : decode cJ6_numberOfTrailingZeros_0f7a4 38 = .ok (.if_icmp .le 11, 3) := by decide +kernel
theorem dJ6_numberOfTrailingZeros_0f7a4_41 : decode cJ6_numberOfTrailingZeros_0f7a4 41 = .ok (.iinc 1 8, 3) := by decide +kernel
theorem dJ6_numberOfTrailingZeros_0f7a4_44 : decode cJ6_numberOfTrailingZeros_0f7a4 44 = .ok (.iload_n 0, 1) := by decide +kernel
theorem dJ6_numberOfTrailingZeros_0f7a4_45 : decode cJ6_numberOfTrailingZeros_0f7a4 45 = .ok (.bipush 8, 2) := by decide +kernel
theorem dJ6_numberOfTrailingZeros_0f7a4_47 : decode cJ6_numberOfTrailingZeros_0f7a4 47 = .ok (.iushr, 1) := by decide +kernel
theorem dJ6_numberOfTrailingZeros_0f7a4_48 : decode cJ6_numberOfTrailingZeros_0f7a4 48 = .ok (.istore_n 0, 1) := by decide +kernel
theorem dJ6_numberOfTrailingZeros_0f7a4_49 : decode cJ6_numberOfTrailingZeros_0f7a4 49 = .ok (.iload_n 0, 1) := by decide +kernel
theorem dJ6_numberOfTrailingZeros_0f7a4_50 : decode cJ6_numberOfTrailingZeros_0f7a4 50 = .ok (.bipush 16, 2) := by decide +kernel
theorem dJ6_numberOfTrailingZeros_0f7a4_52 : decode cJ6_numberOfTrailingZeros_0f7a4 52 = .ok (.if_icmp .le 10, 3) := by decide +kernel
theorem dJ6_numberOfTrailingZeros_0f7a4_55 : decode cJ6_numberOfTrailingZeros_0f7a4 55 = .ok (.iinc 1 4, 3) := by decide +kernel
theorem dJ6_numberOfTrailingZeros_0f7a4_58 : decode cJ6_numberOfTrailingZeros_0f7a4 58 = .ok (.iload_n 0, 1) := by decide +kernel
theorem dJ6_numberOfTrailingZeros_0f7a4_59 : decode cJ6_numberOfTrailingZeros_0f7a4 59 = .ok (.iconst 4, 1) := by decide +kernel
theorem dJ6_numberOfTrailingZeros_0f7a4_60 : decode cJ6_numberOfTrailingZeros_0f7a4 60 = .ok (.iushr, 1) := by decide +kernel
theorem dJ6_numberOfTrailingZeros_0f7a4_61 : decode cJ6_numberOfTrailingZeros_0f7a4 61 = .ok (.istore_n 0, 1) := by decide +kernel
theorem dJ6_numberOfTrailingZeros_0f7a4_62 : decode cJ6_numberOfTrailingZeros_0f7a4 62 = .ok (.iload_n 0, 1) := by decide +kernel
theorem dJ6_numberOfTrailingZeros_0f7a4_63 : decode cJ6_numberOfTrailingZeros_0f7a4 63 = .ok (.iconst 4, 1) := by decide +kernel
theorem dJ6_numberOfTrailingZeros_0f7a4_64 : decode cJ6_numberOfTrailingZeros_0f7a4 64 = .ok (.if_icmp .le 10, 3) := by decide +kernel
theorem dJ6_numberOfTrailingZeros_0f7a4_67 : decode cJ6_numberOfTrailingZeros_0f7a4 67 = .ok (.iinc 1 2, 3) := by decide +kernel
theorem dJ6_numberOfTrailingZeros_0f7a4_70 : decode cJ6_numberOfTrailingZeros_0f7a4 70 = .ok (.iload_n 0, 1) := by decide +kernel
theorem dJ6_numberOfTrailingZeros_0f7a4_71 : decode cJ6_numberOfTrailingZeros_0f7a4 71 = .ok (.iconst 2, 1) := by decide +kernel
theorem dJ6_numberOfTrailingZeros_0f7a4_72 : decode cJ6_numberOfTrailingZeros_0f7a4 72 = .ok (.iushr, 1) := by decide +kernel
theorem dJ6_numberOfTrailingZeros_0f7a4_73 : decode cJ6_numberOfTrailingZeros_0f7a4 73 = .ok (.istore_n 0, 1) := by decide +kernel
theorem dJ6_numberOfTrailingZeros_0f7a4_74 : decode cJ6_numberOfTrailingZeros_0f7a4 74 = .ok (.iload_n 1, 1) := by decide +kernel
theorem dJ6_numberOfTrailingZeros_0f7a4_75 : decode cJ6_numberOfTrailingZeros_0f7a4 75 = .ok (.iload_n 0, 1) := by decide +kernel
theorem dJ6_numberOfTrailingZeros_0f7a4_76 : decode cJ6_numberOfTrailingZeros_0f7a4 76 = .ok (.iconst 1, 1) := by decide +kernel
theorem dJ6_numberOfTrailingZeros_0f7a4_77 : decode cJ6_numberOfTrailingZeros_0f7a4 77 = .ok (.iushr, 1) := by decide +kernel
theorem dJ6_numberOfTrailingZeros_0f7a4_78 : decode cJ6_numberOfTrailingZeros_0f7a4 78 = .ok (.iadd, 1) := by decide +kernel
theorem dJ6_numberOfTrailingZeros_0f7a4_79 : decode cJ6_numberOfTrailingZeros_0f7a4 79 = .ok (.ireturn, 1) := by decide +kernel
theorem dJ6_bitCount_0f7a4_0 : decode cJ6_bitCount_0f7a4 0 = .ok (.iload_n 0, 1) := by decide +kernel
theorem dJ6_bitCount_0f7a4_1 : decode cJ6_bitCount_0f7a4 1 = .ok (.iload_n 0, 1) := by decide +kernel
theorem dJ6_bitCount_0f7a4_2 : decode cJ6_bitCount_0f7a4 2 = .ok (.iconst 1, 1) := by decide +kernel
theorem dJ6_bitCount_0f7a4_3 : decode cJ6_bitCount_0f7a4 3 = .ok (.iushr, 1) := by decide +kernel
theorem dJ6_bitCount_0f7a4_4 : decode cJ6_bitCount_0f7a4 4 = .ok (.ldc_w 265, 3) := by decide +kernel
theorem dJ6_bitCount_0f7a4_7 : decode cJ6_bitCount_0f7a4 7 = .ok (.iand, 1) := by decide +kernel
theorem dJ6_bitCount_0f7a4_8 : decode cJ6_bitCount_0f7a4 8 = .ok (.isub, 1) := by decide +kernel
theorem dJ6_bitCount_0f7a4_9 : decode cJ6_bitCount_0f7a4 9 = .ok (.istore_n 0, 1) := by decide +kernel
theorem dJ6_bitCount_0f7a4_10 : decode cJ6_bitCount_0f7a4 10 = .ok (.iload_n 0, 1) := by decide +kernel
theorem dJ6_bitCount_0f7a4_11 : decode cJ6_bitCount_0f7a4 11 = .ok (.ldc_w 266, 3) := by decide +kernel
theorem dJ6_bitCount_0f7a4_14 : decode cJ6_bitCount_0f7a4 14 = .ok (.iand, 1) := by decide +kernel
theorem dJ6_bitCount_0f7a4_15 : decode cJ6_bitCount_0f7a4 15 = .ok (.iload_n 0, 1) := by decide +kernel
theorem dJ6_bitCount_0f7a4_16 : decode cJ6_bitCount_0f7a4 16 = .ok (.iconst 2, 1) := by decide +kernel
theorem dJ6_bitCount_0f7a4_17 : decode cJ6_bitCount_0f7a4 17 = .ok (.iushr, 1) := by decide +kernel
theorem dJ6_bitCount_0f7a4_18 : decode cJ6_bitCount_0f7a4 18 = .ok (.ldc_w 266, 3) := by decide +kernel
theorem dJ6_bitCount_0f7a4_21 : decode cJ6_bitCount_0f7a4 21 = .ok (.iand, 1) := by decide +kernel
theorem dJ6_bitCount_0f7a4_22 : decode cJ6_bitCount_0f7a4 22 = .ok (.iadd, 1) := by decide +kernel
theorem dJ6_bitCount_0f7a4_23 : decode cJ6_bitCount_0f7a4 23 = .ok (.istore_n 0, 1) := by decide +kernel
theorem dJ6_bitCount_0f7a4_24 : decode cJ6_bitCount_0f7a4 24 = .ok (.iload_n 0, 1) := by decide +kernel
theorem dJ6_bitCount_0f7a4_25 : decode cJ6_bitCount_0f7a4 25 = .ok (.iload_n 0, 1) := by decide +kernel
theorem dJ6_bitCount_0f7a4_26 : decode cJ6_bitCount_0f7a4 26 = .ok (.iconst 4, 1) := by decide +kernel
theorem dJ6_bitCount_0f7a4_27 : decode cJ6_bitCount_0f7a4 27 = .ok (.iushr, 1) := by decide +kernel
theorem dJ6_bitCount_0f7a4_28 : decode cJ6_bitCount_0f7a4 28 = .ok (.iadd, 1) := by decide +kernel
theorem dJ6_bitCount_0f7a4_29 : decode cJ6_bitCount_0f7a4 29 = .ok (.ldc_w 267, 3) := by decide +kernel
theorem dJ6_bitCount_0f7a4_32 : decode cJ6_bitCount_0f7a4 32 = .ok (.iand, 1) := by decide +kernel
theorem dJ6_bitCount_0f7a4_33 : decode cJ6_bitCount_0f7a4 33 = .ok (.istore_n 0, 1) := by decide +kernel
theorem dJ6_bitCount_0f7a4_34 : decode cJ6_bitCount_0f7a4 34 = .ok (.iload_n 0, 1) := by decide +kernel
theorem dJ6_bitCount_0f7a4_35 : decode cJ6_bitCount_0f7a4 35 = .ok (.iload_n 0, 1) := by decide +kernel
theorem dJ6_bitCount_0f7a4_36 : decode cJ6_bitCount_0f7a4 36 = .ok (.bipush 8, 2) := by decide +kernel
theorem dJ6_bitCount_0f7a4_38 : decode cJ6_bitCount_0f7a4 38 = .ok (.iushr, 1) := by decide +kernel
theorem dJ6_bitCount_0f7a4_39 : decode cJ6_bitCount_0f7a4 39 = .ok (.iadd, 1) := by decide +kernel
theorem dJ6_bitCount_0f7a4_40 : decode cJ6_bitCount_0f7a4 40 = .ok (.istore_n 0, 1) := by decide +kernel
theorem dJ6_bitCount_0f7a4_41 : decode cJ6_bitCount_0f7a4 41 = .ok (.iload_n 0, 1) := by decide +kernel
theorem dJ6_bitCount_0f7a4_42 : decode cJ6_bitCount_0f7a4 42 = .ok (.iload_n 0, 1) := by decide +kernel
theorem dJ6_bitCount_0f7a4_43 : decode cJ6_bitCount_0f7a4 43 = .ok (.bipush 16, 2) := by decide +kernel
theorem dJ6_bitCount_0f7a4_45 : decode cJ6_bitCount_0f7a4 45 = .ok (.iushr, 1) := by decide +kernel
theorem dJ6_bitCount_0f7a4_46 : decode cJ6_bitCount_0f7a4 46 = .ok (.iadd, 1) := by decide +kernel
theorem dJ6_bitCount_0f7a4_47 : decode cJ6_bitCount_0f7a4 47 = .ok (.istore_n 0, 1) := by decide +kernel
theorem dJ6_bitCount_0f7a4_48 : decode cJ6_bitCount_0f7a4 48 = .ok (.iload_n 0, 1) := by decide +kernel
theorem dJ6_bitCount_0f7a4_49 : decode cJ6_bitCount_0f7a4 49 = .ok (.bipush 63, 2) := by decide +kernel
theorem dJ6_bitCount_0f7a4_51 : decode cJ6_bitCount_0f7a4 51 = .ok (.iand, 1) := by decide +kernel
theorem dJ6_bitCount_0f7a4_52 : decode cJ6_bitCount_0f7a4 52 = .ok (.ireturn, 1) := by decide +kernel
theorem dJ9_abs_0f7a4_0 : decode cJ9_abs_0f7a4 0 = .ok (.iload_n 0, 1) := by decide +kernel
theorem dJ9_abs_0f7a4_1 : decode cJ9_abs_0f7a4 1 = .ok (.ifCond .ge 8, 3) := by decide +kernel
theorem dJ9_abs_0f7a4_4 : decode cJ9_abs_0f7a4 4 = .ok (.iload_n 0, 1) := by decide +kernel
theorem dJ9_abs_0f7a4_5 : decode cJ9_abs_0f7a4 5 = .ok (.ineg, 1) := by decide +kernel
theorem dJ9_abs_0f7a4_6 : decode cJ9_abs_0f7a4 6 = .ok (.goto 4, 3) := by decide +kernel
theorem dJ9_abs_0f7a4_9 : decode cJ9_abs_0f7a4 9 = .ok (.iload_n 0, 1) := by decide +kernel
theorem dJ9_abs_0f7a4_10 : decode cJ9_abs_0f7a4 10 = .ok (.ireturn, 1) := by decide +kernel
theorem dJ9_max_7cf53_0 : decode cJ9_max_7cf53 0 = .ok (.iload_n 0, 1) := by decide +kernel
theorem dJ9_max_7cf53_1 : decode cJ9_max_7cf53 1 = .ok (.iload_n 1, 1) := by decide +kernel
theorem dJ9_max_7cf53_2 : decode cJ9_max_7cf53 2 = .ok (.if_icmp .lt 7, 3) := by decide +kernel
theorem dJ9_max_7cf53_5 : decode cJ9_max_7cf53 5 = .ok (.iload_n 0, 1) := by decide +kernel
theorem dJ9_max_7cf53_6 : decode cJ9_max_7cf53 6 = .ok (.goto 4, 3) := by decide +kernel
theorem dJ9_max_7cf53_9 : decode cJ9_max_7cf53 9 = .ok (.iload_n 1, 1) := by decide +kernel
theorem dJ9_max_7cf53_10 : decode cJ9_max_7cf53 10 = .ok (.ireturn, 1) := by decide +kernel
theorem dJ9_min_7cf53_0 : decode cJ9_min_7cf53 0 = .ok (.iload_n 0, 1) := by decide +kernel
theorem dJ9_min_7cf53_1 : decode cJ9_min_7cf53 1 = .ok (.iload_n 1, 1) := by decide +kernel
theorem dJ9_min_7cf53_2 : decode cJ9_min_7cf53 2 = .ok (.if_icmp .gt 7, 3) := by decide +kernel
theorem dJ9_min_7cf53_5 : decode cJ9_min_7cf53 5 = .ok (.iload_n 0, 1) := by decide +kernel
theorem dJ9_min_7cf53_6 : decode cJ9_min_7cf53 6 = .ok (.goto 4, 3) := by decide +kernel
theorem dJ9_min_7cf53_9 : decode cJ9_min_7cf53 9 = .ok (.iload_n 1, 1) := by decide +kernel
theorem dJ9_min_7cf53_10 : decode cJ9_min_7cf53 10 = .ok (.ireturn, 1) := by decide +kernel
