set_option maxRecDepth 20000 in
theorem ggX0_init_X8_init : GoodIn wsX0_init wsX8_init := goodIn_r _ [9, 10, 2, 3, 11, 12, 13, 14, 15, 16, 17, 18, 19, 20, 21, 22, 23, 24, 25, 26, 27, 28, 29, 30, 31] rfl (by decide +kernel)
set_option maxRecDepth 20000 in
theorem gX0_init_X8_init_n11 : GoodIn wsX0_init (wsX8_init) := ggX0_init_X8_init
theorem dX0_init_0 : decode cX0_init 0 = .ok (.aload_n 0, 1) := by decide +kernel
theorem dX0_init_1 : decode cX0_init 1 = .ok (.invokespecial 3, 3) := by decide +kernel
theorem dX0_init_4 : decode cX0_init 4 = .ok (.aload_n 0, 1) := by decide +kernel
theorem dX0_init_5 : decode cX0_init 5 = .ok (.new 9, 3) := by decide +kernel
theorem dX0_init_8 : decode cX0_init 8 = .ok (.dup, 1) := by decide +kernel
theorem dX0_init_9 : decode cX0_init 9 = .ok (.invokespecial 11, 3) := by decide +kernel
theorem dX0_init_12 : decode cX0_init 12 = .ok (.putfield 12, 3) := by decide +kernel
theorem dX0_init_15 : decode cX0_init 15 = .ok (.return_, 1) := by decide +kernel
set_option maxRecDepth 20000 in
theorem ggX0_spikeThen_X8_copy : GoodIn wsX0_spikeThen wsX8_copy := goodIn_r _ [7, 8, 9, 10, 11, 12, 13, 14, 15, 16, 17, 18, 19, 20, 21, 22, 67, 68, 69, 70, 71, 72, 73, 74, 75, 76, 77, 78] rfl (by decide +kernel)
set_option maxRecDepth 20000 in
theorem gX0_spikeThen_X8_copy : GoodIn wsX0_spikeThen (wsV RX0 18 RX8 yX8_copy wsX8_copy) := goodIn_app (goodIn_of _ (by decide +kernel)) ggX0_spikeThen_X8_copy
set_option maxRecDepth 20000 in
theorem ggX0_spikeThen_X8_pass : GoodIn wsX0_spikeThen wsX8_pass := goodIn_r _ [26, 27, 28, 29, 6, 30, 20, 31, 19, 18, 15, 22, 32, 33, 34, 35, 21, 36, 37, 38, 39, 16, 40, 41, 42, 43, 17, 44, 45, 46, 47, 48, 49, 50, 51, 13, 8, 52, 53, 54, 55, 56, 57, 58, 59, 60, 61, 62, 67, 68, 69, 70, 71, 72, 73, 74, 75, 76, 77, 78] rfl (by decide +kernel)
set_option maxRecDepth 20000 in
theorem gX0_spikeThen_X8_pass : GoodIn wsX0_spikeThen (wsV RX0 22 RX8 yX8_pass wsX8_pass) := goodIn_app (goodIn_of _ (by decide +kernel)) ggX0_spikeThen_X8_pass
theorem dX0_spikeThen_0 : decode cX0_spikeThen 0 = .ok (.aload_n 0, 1) := by decide +kernel
theorem dX0_spikeThen_1 : decode cX0_spikeThen 1 = .ok (.getfield 12, 3) := by decide +kernel
theorem dX0_spikeThen_4 : decode cX0_spikeThen 4 = .ok (.aload_n 1, 1) := by decide +kernel
theorem dX0_spikeThen_5 : decode cX0_spikeThen 5 = .ok (.invokevirtual 18, 3) := by decide +kernel
theorem dX0_spikeThen_8 : decode cX0_spikeThen 8 = .ok (.aload_n 0, 1) := by decide +kernel
theorem dX0_spikeThen_9 : decode cX0_spikeThen 9 = .ok (.getfield 12, 3) := by decide +kernel
theorem dX0_spikeThen_12 : decode cX0_spikeThen 12 = .ok (.iload_n 3, 1) := by decide +kernel
theorem dX0_spikeThen_13 : decode cX0_spikeThen 13 = .ok (.invokevirtual 22, 3) := by decide +kernel
theorem dX0_spikeThen_16 : decode cX0_spikeThen 16 = .ok (.aload_n 0, 1) := by decide +kernel
theorem dX0_spikeThen_17 : decode cX0_spikeThen 17 = .ok (.getfield 12, 3) := by decide +kernel
theorem dX0_spikeThen_20 : decode cX0_spikeThen 20 = .ok (.getfield 26, 3) := by decide +kernel
theorem dX0_spikeThen_23 : decode cX0_spikeThen 23 = .ok (.iload_n 2, 1) := by decide +kernel
theorem dX0_spikeThen_24 : decode cX0_spikeThen 24 = .ok (.iaload, 1) := by decide +kernel
theorem dX0_spikeThen_25 : decode cX0_spikeThen 25 = .ok (.ireturn, 1) := by decide +kernel
set_option maxRecDepth 20000 in
theorem ggX0_hoursTillOver_X8_copy : GoodIn wsX0_hoursTillOver wsX8_copy := goodIn_r _ [7, 8, 9, 10, 11, 12, 13, 14, 15, 16, 17, 18, 19, 20, 21, 22, 63, 64, 65, 66, 67, 68, 69, 70, 71, 72, 73, 74] rfl (by decide +kernel)
set_option maxRecDepth 20000 in
theorem gX0_hoursTillOver_X8_copy : GoodIn wsX0_hoursTillOver (wsV RX0 18 RX8 yX8_copy wsX8_copy) := goodIn_app (goodIn_of _ (by decide +kernel)) ggX0_hoursTillOver_X8_copy
set_option maxRecDepth 20000 in
theorem ggX0_hoursTillOver_X8_passHour : GoodIn wsX0_hoursTillOver wsX8_passHour := goodIn_r _ [26, 20, 27, 19, 18, 15, 22, 28, 29, 30, 6, 31, 21, 32, 33, 34, 35, 16, 36, 37, 38, 39, 17, 40, 41, 42, 43, 44, 45, 46, 47, 13, 8, 48, 49, 50, 51, 52, 53, 54, 55, 56, 57, 58, 63, 64, 65, 66, 67, 68, 69, 70, 71, 72, 73, 74] rfl (by decide +kernel)
set_option maxRecDepth 20000 in
theorem gX0_hoursTillOver_X8_passHour : GoodIn wsX0_hoursTillOver (wsV RX0 30 RX8 yX8_passHour wsX8_passHour) := goodIn_app (goodIn_of _ (by decide +kernel)) ggX0_hoursTillOver_X8_passHour
theorem dX0_hoursTillOver_0 : decode cX0_hoursTillOver 0 = .ok (.aload_n 0, 1) := by decide +kernel
theorem dX0_hoursTillOver_1 : decode cX0_hoursTillOver 1 = .ok (.getfield 12, 3) := by decide +kernel
theorem dX0_hoursTillOver_4 : decode cX0_hoursTillOver 4 = .ok (.aload_n 1, 1) := by decide +kernel
theorem dX0_hoursTillOver_5 : decode cX0_hoursTillOver 5 = .ok (.invokevirtual 18, 3) := by decide +kernel
theorem dX0_hoursTillOver_8 : decode cX0_hoursTillOver 8 = .ok (.iconst 0, 1) := by decide +kernel
theorem dX0_hoursTillOver_9 : decode cX0_hoursTillOver 9 = .ok (.istore_n 3, 1) := by decide +kernel
theorem dX0_hoursTillOver_10 : decode cX0_hoursTillOver 10 = .ok (.iload_n 3, 1) := by decide +kernel
theorem dX0_hoursTillOver_11 : decode cX0_hoursTillOver 11 = .ok (.bipush 60, 2) := by decide +kernel
theorem dX0_hoursTillOver_13 : decode cX0_hoursTillOver 13 = .ok (.if_icmp .gt 32, 3) := by decide +kernel
theorem dX0_hoursTillOver_16 : decode cX0_hoursTillOver 16 = .ok (.aload_n 0, 1) := by decide +kernel
theorem dX0_hoursTillOver_17 : decode cX0_hoursTillOver 17 = .ok (.getfield 12, 3) := by decide +kernel
theorem dX0_hoursTillOver_20 : decode cX0_hoursTillOver 20 = .ok (.getfield 26, 3) := by decide +kernel
theorem dX0_hoursTillOver_23 : decode cX0_hoursTillOver 23 = .ok (.iload_n 2, 1) := by decide +kernel
theorem dX0_hoursTillOver_24 : decode cX0_hoursTillOver 24 = .ok (.iaload, 1) := by decide +kernel
theorem dX0_hoursTillOver_25 : decode cX0_hoursTillOver 25 = .ok (.bipush 23, 2) := by decide +kernel
theorem dX0_hoursTillOver_27 : decode cX0_hoursTillOver 27 = .ok (.if_icmp .ne 5, 3) := by decide +kernel
theorem dX0_hoursTillOver_30 : decode cX0_hoursTillOver 30 = .ok (.iload_n 3, 1) := by decide +kernel
theorem dX0_hoursTillOver_31 : decode cX0_hoursTillOver 31 = .ok (.ireturn, 1) := by decide +kernel
theorem dX0_hoursTillOver_32 : decode cX0_hoursTillOver 32 = .ok (.aload_n 0, 1) := by decide +kernel
theorem dX0_hoursTillOver_33 : decode cX0_hoursTillOver 33 = .ok (.getfield 12, 3) := by decide +kernel
theorem dX0_hoursTillOver_36 : decode cX0_hoursTillOver 36 = .ok (.invokevirtual 30, 3) := by decide +kernel
theorem dX0_hoursTillOver_39 : decode cX0_hoursTillOver 39 = .ok (.iinc 3 1, 3) := by decide +kernel
theorem dX0_hoursTillOver_42 : decode cX0_hoursTillOver 42 = .ok (.goto (-32), 3) := by decide +kernel
theorem dX0_hoursTillOver_45 : decode cX0_hoursTillOver 45 = .ok (.iconst (-1), 1) := by decide +kernel
theorem dX0_hoursTillOver_46 : decode cX0_hoursTillOver 46 = .ok (.ireturn, 1) := by decide +kernel
set_option maxRecDepth 20000 in
theorem ggX0_hoursTillAllOver_X8_copy : GoodIn wsX0_hoursTillAllOver wsX8_copy := goodIn_r _ [7, 8, 9, 10, 11, 12, 13, 14, 15, 16, 17, 18, 19, 20, 21, 22, 67, 68, 69, 70, 71, 72, 73, 74, 75, 76, 77, 78] rfl (by decide +kernel)
set_option maxRecDepth 20000 in
theorem gX0_hoursTillAllOver_X8_copy : GoodIn wsX0_hoursTillAllOver (wsV RX0 18 RX8 yX8_copy wsX8_copy) := goodIn_app (goodIn_of _ (by decide +kernel)) ggX0_hoursTillAllOver_X8_copy
set_option maxRecDepth 20000 in
theorem ggX0_hoursTillAllOver_X8_over : GoodIn wsX0_hoursTillAllOver wsX8_over := goodIn_r _ [26, 19, 15, 67, 68, 69, 70, 71, 72, 73, 74, 75, 76, 77, 78] rfl (by decide +kernel)
set_option maxRecDepth 20000 in
theorem gX0_hoursTillAllOver_X8_over : GoodIn wsX0_hoursTillAllOver (wsV RX0 33 RX8 yX8_over wsX8_over) := goodIn_app (goodIn_of _ (by decide +kernel)) ggX0_hoursTillAllOver_X8_over
set_option maxRecDepth 20000 in
theorem ggX0_hoursTillAllOver_X8_passHour : GoodIn wsX0_hoursTillAllOver wsX8_passHour := goodIn_r _ [30, 20, 31, 19, 18, 15, 22, 32, 33, 34, 6, 35, 21, 36, 37, 38, 39, 16, 40, 41, 42, 43, 17, 44, 45, 46, 47, 48, 49, 50, 51, 13, 8, 52, 53, 54, 55, 56, 57, 58, 59, 60, 61, 62, 67, 68, 69, 70, 71, 72, 73, 74, 75, 76, 77, 78] rfl (by decide +kernel)
set_option maxRecDepth 20000 in
theorem gX0_hoursTillAllOver_X8_passHour : GoodIn wsX0_hoursTillAllOver (wsV RX0 30 RX8 yX8_passHour wsX8_passHour) := goodIn_app (goodIn_of _ (by decide +kernel)) ggX0_hoursTillAllOver_X8_passHour
theorem dX0_hoursTillAllOver_0 : decode cX0_hoursTillAllOver 0 = .ok (.aload_n 0, 1) := by decide +kernel
theorem dX0_hoursTillAllOver_1 : decode cX0_hoursTillAllOver 1 = .ok (.getfield 12, 3) := by decide +kernel
theorem dX0_hoursTillAllOver_4 : decode cX0_hoursTillAllOver 4 = .ok (.aload_n 1, 1) := by decide +kernel
theorem dX0_hoursTillAllOver_5 : decode cX0_hoursTillAllOver 5 = .ok (.invokevirtual 18, 3) := by decide +kernel
theorem dX0_hoursTillAllOver_8 : decode cX0_hoursTillAllOver 8 = .ok (.iconst 0, 1) := by decide +kernel
theorem dX0_hoursTillAllOver_9 : decode cX0_hoursTillAllOver 9 = .ok (.istore_n 2, 1) := by decide +kernel
theorem dX0_hoursTillAllOver_10 : decode cX0_hoursTillAllOver 10 = .ok (.iload_n 2, 1) := by decide +kernel
theorem dX0_hoursTillAllOver_11 : decode cX0_hoursTillAllOver 11 = .ok (.bipush 60, 2) := by decide +kernel
theorem dX0_hoursTillAllOver_13 : decode cX0_hoursTillAllOver 13 = .ok (.if_icmp .gt 35, 3) := by decide +kernel
theorem dX0_hoursTillAllOver_16 : decode cX0_hoursTillAllOver 16 = .ok (.aload_n 0, 1) := by decide +kernel
theorem dX0_hoursTillAllOver_17 : decode cX0_hoursTillAllOver 17 = .ok (.getfield 12, 3) := by decide +kernel
theorem dX0_hoursTillAllOver_20 : decode cX0_hoursTillAllOver 20 = .ok (.invokevirtual 33, 3) := by decide +kernel
theorem dX0_hoursTillAllOver_23 : decode cX0_hoursTillAllOver 23 = .ok (.aload_n 0, 1) := by decide +kernel
theorem dX0_hoursTillAllOver_24 : decode cX0_hoursTillAllOver 24 = .ok (.getfield 12, 3) := by decide +kernel
theorem dX0_hoursTillAllOver_27 : decode cX0_hoursTillAllOver 27 = .ok (.getfield 37, 3) := by decide +kernel
theorem dX0_hoursTillAllOver_30 : decode cX0_hoursTillAllOver 30 = .ok (.if_icmp .ne 5, 3) := by decide +kernel
theorem dX0_hoursTillAllOver_33 : decode cX0_hoursTillAllOver 33 = .ok (.iload_n 2, 1) := by decide +kernel
theorem dX0_hoursTillAllOver_34 : decode cX0_hoursTillAllOver 34 = .ok (.ireturn, 1) := by decide +kernel
theorem dX0_hoursTillAllOver_35 : decode cX0_hoursTillAllOver 35 = .ok (.aload_n 0, 1) := by decide +kernel
theorem dX0_hoursTillAllOver_36 : decode cX0_hoursTillAllOver 36 = .ok (.getfield 12, 3) := by decide +kernel
theorem dX0_hoursTillAllOver_39 : decode cX0_hoursTillAllOver 39 = .ok (.invokevirtual 30, 3) := by decide +kernel
theorem dX0_hoursTillAllOver_42 : decode cX0_hoursTillAllOver 42 = .ok (.iinc 2 1, 3) := by decide +kernel
theorem dX0_hoursTillAllOver_45 : decode cX0_hoursTillAllOver 45 = .ok (.goto (-35), 3) := by decide +kernel
theorem dX0_hoursTillAllOver_48 : decode cX0_hoursTillAllOver 48 = .ok (.iconst (-1), 1) := by decide +kernel
theorem dX0_hoursTillAllOver_49 : decode cX0_hoursTillAllOver 49 = .ok (.ireturn, 1) := by decide +kernel
set_option maxRecDepth 20000 in
theorem ggX0_findHeap_X8_copy : GoodIn wsX0_findHeap wsX8_copy := goodIn_r _ [11, 12, 13, 14, 15, 16, 17, 18, 19, 20, 21, 22, 23, 24, 25, 26, 73, 74, 75, 76, 77, 78, 79, 80, 81, 82, 83, 84] rfl (by decide +kernel)
set_option maxRecDepth 20000 in
theorem gX0_findHeap_X8_copy : GoodIn wsX0_findHeap (wsV RX0 18 RX8 yX8_copy wsX8_copy) := goodIn_app (goodIn_of _ (by decide +kernel)) ggX0_findHeap_X8_copy
set_option maxRecDepth 20000 in
theorem ggX0_findHeap_X8_waitingBehind : GoodIn wsX0_findHeap wsX8_waitingBehind := goodIn_r _ [30, 23, 19, 21, 73, 74, 75, 76, 77, 78, 79, 80, 81, 82, 83, 84] rfl (by decide +kernel)
set_option maxRecDepth 20000 in
theorem gX0_findHeap_X8_waitingBehind : GoodIn wsX0_findHeap (wsV RX0 53 RX8 yX8_waitingBehind wsX8_waitingBehind) := goodIn_app (goodIn_of _ (by decide +kernel)) ggX0_findHeap_X8_waitingBehind
set_option maxRecDepth 20000 in
theorem ggX0_findHeap_X0_takeGreaterHeap : GoodIn wsX0_findHeap wsX0_takeGreaterHeap := goodIn_r _ [35, 1, 2, 3, 69, 70, 71, 72] rfl (by decide +kernel)
set_option maxRecDepth 20000 in
theorem gX0_findHeap_X0_takeGreaterHeap : GoodIn wsX0_findHeap (wsV RX0 60 RX0 yX0_takeGreaterHeap wsX0_takeGreaterHeap) := goodIn_app (goodIn_of _ (by decide +kernel)) ggX0_findHeap_X0_takeGreaterHeap
set_option maxRecDepth 20000 in
theorem ggX0_findHeap_X8_passHour : GoodIn wsX0_findHeap wsX8_passHour := goodIn_r _ [39, 24, 40, 23, 22, 19, 26, 41, 42, 43, 10, 44, 25, 45, 46, 47, 48, 20, 49, 28, 29, 30, 21, 50, 51, 52, 53, 54, 55, 56, 57, 17, 12, 58, 59, 60, 61, 62, 63, 64, 65, 66, 67, 68, 73, 74, 75, 76, 77, 78, 79, 80, 81, 82, 83, 84] rfl (by decide +kernel)
set_option maxRecDepth 20000 in
theorem gX0_findHeap_X8_passHour : GoodIn wsX0_findHeap (wsV RX0 30 RX8 yX8_passHour wsX8_passHour) := goodIn_app (goodIn_of _ (by decide +kernel)) ggX0_findHeap_X8_passHour
theorem dX0_findHeap_0 : decode cX0_findHeap 0 = .ok (.aload_n 0, 1) := by decide +kernel
theorem dX0_findHeap_1 : decode cX0_findHeap 1 = .ok (.iconst 0, 1) := by decide +kernel
theorem dX0_findHeap_2 : decode cX0_findHeap 2 = .ok (.putfield 41, 3) := by decide +kernel
theorem dX0_findHeap_5 : decode cX0_findHeap 5 = .ok (.aload_n 0, 1) := by decide +kernel
theorem dX0_findHeap_6 : decode cX0_findHeap 6 = .ok (.iconst 0, 1) := by decide +kernel
theorem dX0_findHeap_7 : decode cX0_findHeap 7 = .ok (.putfield 44, 3) := by decide +kernel
theorem dX0_findHeap_10 : decode cX0_findHeap 10 = .ok (.aload_n 0, 1) := by decide +kernel
theorem dX0_findHeap_11 : decode cX0_findHeap 11 = .ok (.iconst (-1), 1) := by decide +kernel
theorem dX0_findHeap_12 : decode cX0_findHeap 12 = .ok (.putfield 47, 3) := by decide +kernel
theorem dX0_findHeap_15 : decode cX0_findHeap 15 = .ok (.aload_n 0, 1) := by decide +kernel
theorem dX0_findHeap_16 : decode cX0_findHeap 16 = .ok (.getfield 12, 3) := by decide +kernel
theorem dX0_findHeap_19 : decode cX0_findHeap 19 = .ok (.aload_n 1, 1) := by decide +kernel
theorem dX0_findHeap_20 : decode cX0_findHeap 20 = .ok (.invokevirtual 18, 3) := by decide +kernel
theorem dX0_findHeap_23 : decode cX0_findHeap 23 = .ok (.iconst 0, 1) := by decide +kernel
theorem dX0_findHeap_24 : decode cX0_findHeap 24 = .ok (.istore_n 2, 1) := by decide +kernel
theorem dX0_findHeap_25 : decode cX0_findHeap 25 = .ok (.iload_n 2, 1) := by decide +kernel
theorem dX0_findHeap_26 : decode cX0_findHeap 26 = .ok (.bipush 30, 2) := by decide +kernel
theorem dX0_findHeap_28 : decode cX0_findHeap 28 = .ok (.if_icmp .gt 57, 3) := by decide +kernel
theorem dX0_findHeap_31 : decode cX0_findHeap 31 = .ok (.iconst 0, 1) := by decide +kernel
theorem dX0_findHeap_32 : decode cX0_findHeap 32 = .ok (.istore_n 3, 1) := by decide +kernel
theorem dX0_findHeap_33 : decode cX0_findHeap 33 = .ok (.iload_n 3, 1) := by decide +kernel
theorem dX0_findHeap_34 : decode cX0_findHeap 34 = .ok (.aload_n 0, 1) := by decide +kernel
theorem dX0_findHeap_35 : decode cX0_findHeap 35 = .ok (.getfield 12, 3) := by decide +kernel
theorem dX0_findHeap_38 : decode cX0_findHeap 38 = .ok (.getfield 50, 3) := by decide +kernel
theorem dX0_findHeap_41 : decode cX0_findHeap 41 = .ok (.if_icmp .ge 31, 3) := by decide +kernel
theorem dX0_findHeap_44 : decode cX0_findHeap 44 = .ok (.aload_n 0, 1) := by decide +kernel
theorem dX0_findHeap_45 : decode cX0_findHeap 45 = .ok (.aload_n 0, 1) := by decide +kernel
theorem dX0_findHeap_46 : decode cX0_findHeap 46 = .ok (.getfield 12, 3) := by decide +kernel
theorem dX0_findHeap_49 : decode cX0_findHeap 49 = .ok (.iload_n 3, 1) := by decide +kernel
theorem dX0_findHeap_50 : decode cX0_findHeap 50 = .ok (.invokevirtual 53, 3) := by decide +kernel
theorem dX0_findHeap_53 : decode cX0_findHeap 53 = .ok (.iload_n 2, 1) := by decide +kernel
theorem dX0_findHeap_54 : decode cX0_findHeap 54 = .ok (.aload_n 0, 1) := by decide +kernel
theorem dX0_findHeap_55 : decode cX0_findHeap 55 = .ok (.getfield 12, 3) := by decide +kernel
theorem dX0_findHeap_58 : decode cX0_findHeap 58 = .ok (.getfield 57, 3) := by decide +kernel
theorem dX0_findHeap_61 : decode cX0_findHeap 61 = .ok (.iload_n 3, 1) := by decide +kernel
theorem dX0_findHeap_62 : decode cX0_findHeap 62 = .ok (.iaload, 1) := by decide +kernel
theorem dX0_findHeap_63 : decode cX0_findHeap 63 = .ok (.invokevirtual 60, 3) := by decide +kernel
theorem dX0_findHeap_66 : decode cX0_findHeap 66 = .ok (.iinc 3 1, 3) := by decide +kernel
theorem dX0_findHeap_69 : decode cX0_findHeap 69 = .ok (.goto (-36), 3) := by decide +kernel
theorem dX0_findHeap_72 : decode cX0_findHeap 72 = .ok (.aload_n 0, 1) := by decide +kernel
theorem dX0_findHeap_73 : decode cX0_findHeap 73 = .ok (.getfield 12, 3) := by decide +kernel
theorem dX0_findHeap_76 : decode cX0_findHeap 76 = .ok (.invokevirtual 30, 3) := by decide +kernel
theorem dX0_findHeap_79 : decode cX0_findHeap 79 = .ok (.iinc 2 1, 3) := by decide +kernel
theorem dX0_findHeap_82 : decode cX0_findHeap 82 = .ok (.goto (-57), 3) := by decide +kernel
theorem dX0_findHeap_85 : decode cX0_findHeap 85 = .ok (.return_, 1) := by decide +kernel
theorem dX0_takeGreaterHeap_0 : decode cX0_takeGreaterHeap 0 = .ok (.iload_n 1, 1) := by decide +kernel
theorem dX0_takeGreaterHeap_1 : decode cX0_takeGreaterHeap 1 = .ok (.aload_n 0, 1) := by decide +kernel
theorem dX0_takeGreaterHeap_2 : decode cX0_takeGreaterHeap 2 = .ok (.getfield 41, 3) := by decide +kernel
theorem dX0_takeGreaterHeap_5 : decode cX0_takeGreaterHeap 5 = .ok (.if_icmp .ne 23, 3) := by decide +kernel
theorem dX0_takeGreaterHeap_8 : decode cX0_takeGreaterHeap 8 = .ok (.iload_n 2, 1) := by decide +kernel
theorem dX0_takeGreaterHeap_9 : decode cX0_takeGreaterHeap 9 = .ok (.aload_n 0, 1) := by decide +kernel
theorem dX0_takeGreaterHeap_10 : decode cX0_takeGreaterHeap 10 = .ok (.getfield 44, 3) := by decide +kernel
theorem dX0_takeGreaterHeap_13 : decode cX0_takeGreaterHeap 13 = .ok (.if_icmp .ne 15, 3) := by decide +kernel
theorem dX0_takeGreaterHeap_16 : decode cX0_takeGreaterHeap 16 = .ok (.iload_n 3, 1) := by decide +kernel
theorem dX0_takeGreaterHeap_17 : decode cX0_takeGreaterHeap 17 = .ok (.aload_n 0, 1) := by decide +kernel
theorem dX0_takeGreaterHeap_18 : decode cX0_takeGreaterHeap 18 = .ok (.getfield 47, 3) := by decide +kernel
theorem dX0_takeGreaterHeap_21 : decode cX0_takeGreaterHeap 21 = .ok (.if_icmp .ge 7, 3) := by decide +kernel
theorem dX0_takeGreaterHeap_24 : decode cX0_takeGreaterHeap 24 = .ok (.iconst 1, 1) := by decide +kernel
theorem dX0_takeGreaterHeap_25 : decode cX0_takeGreaterHeap 25 = .ok (.goto 4, 3) := by decide +kernel
theorem dX0_takeGreaterHeap_28 : decode cX0_takeGreaterHeap 28 = .ok (.iconst 0, 1) := by decide +kernel
theorem dX0_takeGreaterHeap_29 : decode cX0_takeGreaterHeap 29 = .ok (.istore 4, 2) := by decide +kernel
theorem dX0_takeGreaterHeap_31 : decode cX0_takeGreaterHeap 31 = .ok (.iload_n 1, 1) := by decide +kernel
theorem dX0_takeGreaterHeap_32 : decode cX0_takeGreaterHeap 32 = .ok (.aload_n 0, 1) := by decide +kernel
theorem dX0_takeGreaterHeap_33 : decode cX0_takeGreaterHeap 33 = .ok (.getfield 41, 3) := by decide +kernel
theorem dX0_takeGreaterHeap_36 : decode cX0_takeGreaterHeap 36 = .ok (.if_icmp .gt 8, 3) := by decide +kernel
theorem dX0_takeGreaterHeap_39 : decode cX0_takeGreaterHeap 39 = .ok (.iload 4, 2) := by decide +kernel
theorem dX0_takeGreaterHeap_41 : decode cX0_takeGreaterHeap 41 = .ok (.ifCond .eq 18, 3) := by decide +kernel
theorem dX0_takeGreaterHeap_44 : decode cX0_takeGreaterHeap 44 = .ok (.aload_n 0, 1) := by decide +kernel
theorem dX0_takeGreaterHeap_45 : decode cX0_takeGreaterHeap 45 = .ok (.iload_n 1, 1) := by decide +kernel
theorem dX0_takeGreaterHeap_46 : decode cX0_takeGreaterHeap 46 = .ok (.putfield 41, 3) := by decide +kernel
theorem dX0_takeGreaterHeap_49 : decode cX0_takeGreaterHeap 49 = .ok (.aload_n 0, 1) := by decide +kernel
theorem dX0_takeGreaterHeap_50 : decode cX0_takeGreaterHeap 50 = .ok (.iload_n 2, 1) := by decide +kernel
theorem dX0_takeGreaterHeap_51 : decode cX0_takeGreaterHeap 51 = .ok (.putfield 44, 3) := by decide +kernel
theorem dX0_takeGreaterHeap_54 : decode cX0_takeGreaterHeap 54 = .ok (.aload_n 0, 1) := by decide +kernel
theorem dX0_takeGreaterHeap_55 : decode cX0_takeGreaterHeap 55 = .ok (.iload_n 3, 1) := by decide +kernel
theorem dX0_takeGreaterHeap_56 : decode cX0_takeGreaterHeap 56 = .ok (.putfield 47, 3) := by decide +kernel
theorem dX0_takeGreaterHeap_59 : decode cX0_takeGreaterHeap 59 = .ok (.return_, 1) := by decide +kernel
set_option maxRecDepth 20000 in
theorem ggX0_fewestThatHold_J6_bitCount_0f7a4 : GoodIn wsX0_fewestThatHold wsJ6_bitCount_0f7a4 := goodIn_r _ [5, 6, 7, 8] rfl (by decide +kernel)
set_option maxRecDepth 20000 in
theorem gX0_fewestThatHold_J6_bitCount_0f7a4 : GoodIn wsX0_fewestThatHold (va_wsS RX0 64 yJ6_bitCount_0f7a4 wsJ6_bitCount_0f7a4) := goodIn_app (goodIn_of _ (by decide +kernel)) ggX0_fewestThatHold_J6_bitCount_0f7a4
set_option maxRecDepth 20000 in
theorem ggX0_fewestThatHold_X0_holds : GoodIn wsX0_fewestThatHold wsX0_holds := goodIn_r _ [13, 14, 15, 16, 17, 18, 19, 20, 21, 22, 23, 24, 25, 26, 27, 28, 29, 30, 31, 32, 33, 34, 35, 36, 37, 38, 39, 40, 41, 42, 43, 44, 45, 46, 47, 48, 49, 50, 51, 52, 53, 54, 55, 56, 57, 58, 59, 60, 61, 62, 63, 64, 65, 66, 67, 68, 69, 70, 71, 72, 73, 74, 75, 76, 77, 78, 79, 92, 93, 94, 95, 80, 81, 82, 83, 84, 85, 86, 87, 88, 89, 90, 91] rfl (by decide +kernel)
set_option maxRecDepth 20000 in
theorem gX0_fewestThatHold_X0_holds : GoodIn wsX0_fewestThatHold (wsV RX0 69 RX0 yX0_holds wsX0_holds) := goodIn_app (goodIn_of _ (by decide +kernel)) ggX0_fewestThatHold_X0_holds
theorem dX0_fewestThatHold_0 : decode cX0_fewestThatHold 0 = .ok (.iconst (-1), 1) := by decide +kernel
theorem dX0_fewestThatHold_1 : decode cX0_fewestThatHold 1 = .ok (.istore_n 3, 1) := by decide +kernel
theorem dX0_fewestThatHold_2 : decode cX0_fewestThatHold 2 = .ok (.iconst 4, 1) := by decide +kernel
theorem dX0_fewestThatHold_3 : decode cX0_fewestThatHold 3 = .ok (.istore 4, 2) := by decide +kernel
theorem dX0_fewestThatHold_5 : decode cX0_fewestThatHold 5 = .ok (.iconst 0, 1) := by decide +kernel
theorem dX0_fewestThatHold_6 : decode cX0_fewestThatHold 6 = .ok (.istore 5, 2) := by decide +kernel
theorem dX0_fewestThatHold_8 : decode cX0_fewestThatHold 8 = .ok (.iload 5, 2) := by decide +kernel
theorem dX0_fewestThatHold_10 : decode cX0_fewestThatHold 10 = .ok (.iconst 1, 1) := by decide +kernel
theorem dX0_fewestThatHold_11 : decode cX0_fewestThatHold 11 = .ok (.aload_n 1, 1) := by decide +kernel
theorem dX0_fewestThatHold_12 : decode cX0_fewestThatHold 12 = .ok (.getfield 50, 3) := by decide +kernel
theorem dX0_fewestThatHold_15 : decode cX0_fewestThatHold 15 = .ok (.ishl, 1) := by decide +kernel
theorem dX0_fewestThatHold_16 : decode cX0_fewestThatHold 16 = .ok (.if_icmp .ge 41, 3) := by decide +kernel
theorem dX0_fewestThatHold_19 : decode cX0_fewestThatHold 19 = .ok (.iload 5, 2) := by decide +kernel
theorem dX0_fewestThatHold_21 : decode cX0_fewestThatHold 21 = .ok (.invokestatic 64, 3) := by decide +kernel
theorem dX0_fewestThatHold_24 : decode cX0_fewestThatHold 24 = .ok (.istore 6, 2) := by decide +kernel
theorem dX0_fewestThatHold_26 : decode cX0_fewestThatHold 26 = .ok (.iload 6, 2) := by decide +kernel
theorem dX0_fewestThatHold_28 : decode cX0_fewestThatHold 28 = .ok (.iload 4, 2) := by decide +kernel
theorem dX0_fewestThatHold_30 : decode cX0_fewestThatHold 30 = .ok (.if_icmp .ge 21, 3) := by decide +kernel
theorem dX0_fewestThatHold_33 : decode cX0_fewestThatHold 33 = .ok (.aload_n 0, 1) := by decide +kernel
theorem dX0_fewestThatHold_34 : decode cX0_fewestThatHold 34 = .ok (.aload_n 1, 1) := by decide +kernel
theorem dX0_fewestThatHold_35 : decode cX0_fewestThatHold 35 = .ok (.iload 5, 2) := by decide +kernel
theorem dX0_fewestThatHold_37 : decode cX0_fewestThatHold 37 = .ok (.iload_n 2, 1) := by decide +kernel
theorem dX0_fewestThatHold_38 : decode cX0_fewestThatHold 38 = .ok (.invokevirtual 69, 3) := by decide +kernel
theorem dX0_fewestThatHold_41 : decode cX0_fewestThatHold 41 = .ok (.ifCond .eq 10, 3) := by decide +kernel
theorem dX0_fewestThatHold_44 : decode cX0_fewestThatHold 44 = .ok (.iload 6, 2) := by decide +kernel
theorem dX0_fewestThatHold_46 : decode cX0_fewestThatHold 46 = .ok (.istore 4, 2) := by decide +kernel
theorem dX0_fewestThatHold_48 : decode cX0_fewestThatHold 48 = .ok (.iload 5, 2) := by decide +kernel
theorem dX0_fewestThatHold_50 : decode cX0_fewestThatHold 50 = .ok (.istore_n 3, 1) := by decide +kernel
theorem dX0_fewestThatHold_51 : decode cX0_fewestThatHold 51 = .ok (.iinc 5 1, 3) := by decide +kernel
theorem dX0_fewestThatHold_54 : decode cX0_fewestThatHold 54 = .ok (.goto (-46), 3) := by decide +kernel
theorem dX0_fewestThatHold_57 : decode cX0_fewestThatHold 57 = .ok (.iload_n 3, 1) := by decide +kernel
theorem dX0_fewestThatHold_58 : decode cX0_fewestThatHold 58 = .ok (.ireturn, 1) := by decide +kernel
set_option maxRecDepth 20000 in
theorem ggX0_holds_X8_copy : GoodIn wsX0_holds wsX8_copy := goodIn_r _ [7, 8, 9, 10, 11, 12, 13, 14, 15, 16, 17, 18, 19, 20, 21, 22, 71, 72, 73, 74, 75, 76, 77, 78, 79, 80, 81, 82] rfl (by decide +kernel)
set_option maxRecDepth 20000 in
theorem gX0_holds_X8_copy : GoodIn wsX0_holds (wsV RX0 18 RX8 yX8_copy wsX8_copy) := goodIn_app (goodIn_of _ (by decide +kernel)) ggX0_holds_X8_copy
set_option maxRecDepth 20000 in
theorem ggX0_holds_X8_pass : GoodIn wsX0_holds wsX8_pass := goodIn_r _ [26, 27, 28, 29, 6, 30, 20, 31, 19, 18, 15, 22, 32, 33, 34, 35, 21, 36, 37, 38, 39, 16, 40, 41, 42, 43, 17, 44, 45, 46, 47, 48, 49, 50, 51, 13, 8, 52, 53, 54, 55, 56, 57, 58, 59, 60, 61, 62, 71, 72, 73, 74, 75, 76, 77, 78, 79, 80, 81, 82] rfl (by decide +kernel)
set_option maxRecDepth 20000 in
theorem gX0_holds_X8_pass : GoodIn wsX0_holds (wsV RX0 22 RX8 yX8_pass wsX8_pass) := goodIn_app (goodIn_of _ (by decide +kernel)) ggX0_holds_X8_pass
set_option maxRecDepth 20000 in
theorem ggX0_holds_X8_over : GoodIn wsX0_holds wsX8_over := goodIn_r _ [66, 19, 15, 71, 72, 73, 74, 75, 76, 77, 78, 79, 80, 81, 82] rfl (by decide +kernel)
set_option maxRecDepth 20000 in
theorem gX0_holds_X8_over : GoodIn wsX0_holds (wsV RX0 33 RX8 yX8_over wsX8_over) := goodIn_app (goodIn_of _ (by decide +kernel)) ggX0_holds_X8_over
theorem dX0_holds_0 : decode cX0_holds 0 = .ok (.aload_n 0, 1) := by decide +kernel
theorem dX0_holds_1 : decode cX0_holds 1 = .ok (.getfield 12, 3) := by decide +kernel
theorem dX0_holds_4 : decode cX0_holds 4 = .ok (.aload_n 1, 1) := by decide +kernel
theorem dX0_holds_5 : decode cX0_holds 5 = .ok (.invokevirtual 18, 3) := by decide +kernel
theorem dX0_holds_8 : decode cX0_holds 8 = .ok (.aload_n 0, 1) := by decide +kernel
theorem dX0_holds_9 : decode cX0_holds 9 = .ok (.getfield 12, 3) := by decide +kernel
theorem dX0_holds_12 : decode cX0_holds 12 = .ok (.iload_n 2, 1) := by decide +kernel
theorem dX0_holds_13 : decode cX0_holds 13 = .ok (.putfield 73, 3) := by decide +kernel
theorem dX0_holds_16 : decode cX0_holds 16 = .ok (.aload_n 0, 1) := by decide +kernel
theorem dX0_holds_17 : decode cX0_holds 17 = .ok (.getfield 12, 3) := by decide +kernel
theorem dX0_holds_20 : decode cX0_holds 20 = .ok (.iload_n 3, 1) := by decide +kernel
theorem dX0_holds_21 : decode cX0_holds 21 = .ok (.invokevirtual 22, 3) := by decide +kernel
theorem dX0_holds_24 : decode cX0_holds 24 = .ok (.aload_n 0, 1) := by decide +kernel
theorem dX0_holds_25 : decode cX0_holds 25 = .ok (.getfield 12, 3) := by decide +kernel
theorem dX0_holds_28 : decode cX0_holds 28 = .ok (.invokevirtual 33, 3) := by decide +kernel
theorem dX0_holds_31 : decode cX0_holds 31 = .ok (.aload_n 1, 1) := by decide +kernel
theorem dX0_holds_32 : decode cX0_holds 32 = .ok (.invokevirtual 33, 3) := by decide +kernel
theorem dX0_holds_35 : decode cX0_holds 35 = .ok (.if_icmp .ne 7, 3) := by decide +kernel
theorem dX0_holds_38 : decode cX0_holds 38 = .ok (.iconst 1, 1) := by decide +kernel
theorem dX0_holds_39 : decode cX0_holds 39 = .ok (.goto 4, 3) := by decide +kernel
theorem dX0_holds_42 : decode cX0_holds 42 = .ok (.iconst 0, 1) := by decide +kernel
theorem dX0_holds_43 : decode cX0_holds 43 = .ok (.ireturn, 1) := by decide +kernel
set_option maxRecDepth 20000 in
theorem ggX0_meetings_X8_copy : GoodIn wsX0_meetings wsX8_copy := goodIn_r _ [8, 9, 10, 11, 12, 13, 14, 15, 16, 17, 18, 19, 20, 21, 22, 23, 72, 73, 74, 75, 76, 77, 78, 79, 80, 81, 82, 83] rfl (by decide +kernel)
set_option maxRecDepth 20000 in
theorem gX0_meetings_X8_copy : GoodIn wsX0_meetings (wsV RX0 18 RX8 yX8_copy wsX8_copy) := goodIn_app (goodIn_of _ (by decide +kernel)) ggX0_meetings_X8_copy
set_option maxRecDepth 20000 in
theorem ggX0_meetings_X8_addGlove : GoodIn wsX0_meetings wsX8_addGlove := goodIn_r _ [27, 20, 14, 15, 16, 72, 73, 74, 75, 76, 77, 78, 79, 80, 81, 82, 83] rfl (by decide +kernel)
set_option maxRecDepth 20000 in
theorem gX0_meetings_X8_addGlove : GoodIn wsX0_meetings (wsV RX0 76 RX8 yX8_addGlove wsX8_addGlove) := goodIn_app (goodIn_of _ (by decide +kernel)) ggX0_meetings_X8_addGlove
set_option maxRecDepth 20000 in
theorem ggX0_meetings_X8_pass : GoodIn wsX0_meetings wsX8_pass := goodIn_r _ [31, 32, 33, 34, 7, 35, 21, 36, 20, 19, 16, 23, 37, 38, 39, 40, 22, 41, 42, 43, 44, 17, 45, 46, 47, 48, 18, 49, 50, 51, 52, 53, 54, 55, 56, 14, 9, 57, 58, 59, 60, 61, 62, 63, 64, 65, 66, 67, 72, 73, 74, 75, 76, 77, 78, 79, 80, 81, 82, 83] rfl (by decide +kernel)
set_option maxRecDepth 20000 in
theorem gX0_meetings_X8_pass : GoodIn wsX0_meetings (wsV RX0 22 RX8 yX8_pass wsX8_pass) := goodIn_app (goodIn_of _ (by decide +kernel)) ggX0_meetings_X8_pass
theorem dX0_meetings_0 : decode cX0_meetings 0 = .ok (.iconst 0, 1) := by decide +kernel
theorem dX0_meetings_1 : decode cX0_meetings 1 = .ok (.istore 5, 2) := by decide +kernel
theorem dX0_meetings_3 : decode cX0_meetings 3 = .ok (.iconst 0, 1) := by decide +kernel
theorem dX0_meetings_4 : decode cX0_meetings 4 = .ok (.istore 6, 2) := by decide +kernel
theorem dX0_meetings_6 : decode cX0_meetings 6 = .ok (.iload 6, 2) := by decide +kernel
theorem dX0_meetings_8 : decode cX0_meetings 8 = .ok (.bipush 23, 2) := by decide +kernel
theorem dX0_meetings_10 : decode cX0_meetings 10 = .ok (.if_icmp .ge 76, 3) := by decide +kernel
theorem dX0_meetings_13 : decode cX0_meetings 13 = .ok (.aload_n 0, 1) := by decide +kernel
theorem dX0_meetings_14 : decode cX0_meetings 14 = .ok (.getfield 12, 3) := by decide +kernel
theorem dX0_meetings_17 : decode cX0_meetings 17 = .ok (.aload_n 1, 1) := by decide +kernel
theorem dX0_meetings_18 : decode cX0_meetings 18 = .ok (.invokevirtual 18, 3) := by decide +kernel
theorem dX0_meetings_21 : decode cX0_meetings 21 = .ok (.aload_n 0, 1) := by decide +kernel
theorem dX0_meetings_22 : decode cX0_meetings 22 = .ok (.getfield 12, 3) := by decide +kernel
theorem dX0_meetings_25 : decode cX0_meetings 25 = .ok (.iload_n 2, 1) := by decide +kernel
theorem dX0_meetings_26 : decode cX0_meetings 26 = .ok (.iconst 1, 1) := by decide +kernel
theorem dX0_meetings_27 : decode cX0_meetings 27 = .ok (.iload 6, 2) := by decide +kernel
theorem dX0_meetings_29 : decode cX0_meetings 29 = .ok (.invokevirtual 76, 3) := by decide +kernel
theorem dX0_meetings_32 : decode cX0_meetings 32 = .ok (.pop, 1) := by decide +kernel
theorem dX0_meetings_33 : decode cX0_meetings 33 = .ok (.aload_n 0, 1) := by decide +kernel
theorem dX0_meetings_34 : decode cX0_meetings 34 = .ok (.getfield 12, 3) := by decide +kernel
theorem dX0_meetings_37 : decode cX0_meetings 37 = .ok (.iload 4, 2) := by decide +kernel
theorem dX0_meetings_39 : decode cX0_meetings 39 = .ok (.invokevirtual 22, 3) := by decide +kernel
theorem dX0_meetings_42 : decode cX0_meetings 42 = .ok (.aload_n 0, 1) := by decide +kernel
theorem dX0_meetings_43 : decode cX0_meetings 43 = .ok (.getfield 12, 3) := by decide +kernel
theorem dX0_meetings_46 : decode cX0_meetings 46 = .ok (.getfield 26, 3) := by decide +kernel
theorem dX0_meetings_49 : decode cX0_meetings 49 = .ok (.aload_n 0, 1) := by decide +kernel
theorem dX0_meetings_50 : decode cX0_meetings 50 = .ok (.getfield 12, 3) := by decide +kernel
theorem dX0_meetings_53 : decode cX0_meetings 53 = .ok (.getfield 37, 3) := by decide +kernel
theorem dX0_meetings_56 : decode cX0_meetings 56 = .ok (.iconst 1, 1) := by decide +kernel
theorem dX0_meetings_57 : decode cX0_meetings 57 = .ok (.isub, 1) := by decide +kernel
theorem dX0_meetings_58 : decode cX0_meetings 58 = .ok (.iaload, 1) := by decide +kernel
theorem dX0_meetings_59 : decode cX0_meetings 59 = .ok (.aload_n 0, 1) := by decide +kernel
theorem dX0_meetings_60 : decode cX0_meetings 60 = .ok (.getfield 12, 3) := by decide +kernel
theorem dX0_meetings_63 : decode cX0_meetings 63 = .ok (.getfield 26, 3) := by decide +kernel
theorem dX0_meetings_66 : decode cX0_meetings 66 = .ok (.iload_n 3, 1) := by decide +kernel
theorem dX0_meetings_67 : decode cX0_meetings 67 = .ok (.iaload, 1) := by decide +kernel
theorem dX0_meetings_68 : decode cX0_meetings 68 = .ok (.if_icmp .ne 12, 3) := by decide +kernel
theorem dX0_meetings_71 : decode cX0_meetings 71 = .ok (.iload 5, 2) := by decide +kernel
theorem dX0_meetings_73 : decode cX0_meetings 73 = .ok (.iconst 1, 1) := by decide +kernel
theorem dX0_meetings_74 : decode cX0_meetings 74 = .ok (.iload 6, 2) := by decide +kernel
theorem dX0_meetings_76 : decode cX0_meetings 76 = .ok (.ishl, 1) := by decide +kernel
theorem dX0_meetings_77 : decode cX0_meetings 77 = .ok (.ior, 1) := by decide +kernel
theorem dX0_meetings_78 : decode cX0_meetings 78 = .ok (.istore 5, 2) := by decide +kernel
theorem dX0_meetings_80 : decode cX0_meetings 80 = .ok (.iinc 6 1, 3) := by decide +kernel
theorem dX0_meetings_83 : decode cX0_meetings 83 = .ok (.goto (-77), 3) := by decide +kernel
theorem dX0_meetings_86 : decode cX0_meetings 86 = .ok (.iload 5, 2) := by decide +kernel
theorem dX0_meetings_88 : decode cX0_meetings 88 = .ok (.ireturn, 1) := by decide +kernel
set_option maxRecDepth 20000 in
theorem ggX0_seenThere_X8_copy : GoodIn wsX0_seenThere wsX8_copy := goodIn_r _ [8, 9, 10, 11, 12, 13, 14, 15, 16, 17, 18, 19, 20, 21, 22, 23, 72, 73, 74, 75, 76, 77, 78, 79, 80, 81, 82, 83] rfl (by decide +kernel)
set_option maxRecDepth 20000 in
theorem gX0_seenThere_X8_copy : GoodIn wsX0_seenThere (wsV RX0 18 RX8 yX8_copy wsX8_copy) := goodIn_app (goodIn_of _ (by decide +kernel)) ggX0_seenThere_X8_copy
set_option maxRecDepth 20000 in
theorem ggX0_seenThere_X6_cell : GoodIn wsX0_seenThere wsX6_cell := goodIn_r _ [28, 29, 88, 89, 90, 91] rfl (by decide +kernel)
set_option maxRecDepth 20000 in
theorem gX0_seenThere_X6_cell : GoodIn wsX0_seenThere (wsV RX0 85 RX6 yX6_cell wsX6_cell) := goodIn_app (goodIn_of _ (by decide +kernel)) ggX0_seenThere_X6_cell
set_option maxRecDepth 20000 in
theorem ggX0_seenThere_X0_thoseAt : GoodIn wsX0_seenThere wsX0_thoseAt := goodIn_r _ [34, 2, 1, 35, 84, 85, 86, 87, 72, 73, 74, 75, 76, 77, 78, 79, 80, 81, 82, 83] rfl (by decide +kernel)
set_option maxRecDepth 20000 in
theorem gX0_seenThere_X0_thoseAt : GoodIn wsX0_seenThere (wsV RX0 89 RX0 yX0_thoseAt wsX0_thoseAt) := goodIn_app (goodIn_of _ (by decide +kernel)) ggX0_seenThere_X0_thoseAt
set_option maxRecDepth 20000 in
theorem ggX0_seenThere_X8_passHour : GoodIn wsX0_seenThere wsX8_passHour := goodIn_r _ [39, 21, 40, 20, 19, 16, 23, 41, 42, 43, 7, 44, 22, 45, 46, 47, 48, 17, 49, 50, 51, 52, 18, 53, 54, 55, 56, 57, 58, 59, 60, 14, 9, 61, 62, 63, 64, 65, 66, 67, 68, 69, 70, 71, 72, 73, 74, 75, 76, 77, 78, 79, 80, 81, 82, 83] rfl (by decide +kernel)
set_option maxRecDepth 20000 in
theorem gX0_seenThere_X8_passHour : GoodIn wsX0_seenThere (wsV RX0 30 RX8 yX8_passHour wsX8_passHour) := goodIn_app (goodIn_of _ (by decide +kernel)) ggX0_seenThere_X8_passHour
theorem dX0_seenThere_0 : decode cX0_seenThere 0 = .ok (.iconst 1, 1) := by decide +kernel
theorem dX0_seenThere_1 : decode cX0_seenThere 1 = .ok (.aload_n 1, 1) := by decide +kernel
theorem dX0_seenThere_2 : decode cX0_seenThere 2 = .ok (.getfield 37, 3) := by decide +kernel
theorem dX0_seenThere_5 : decode cX0_seenThere 5 = .ok (.ishl, 1) := by decide +kernel
theorem dX0_seenThere_6 : decode cX0_seenThere 6 = .ok (.iconst 1, 1) := by decide +kernel
theorem dX0_seenThere_7 : decode cX0_seenThere 7 = .ok (.isub, 1) := by decide +kernel
theorem dX0_seenThere_8 : decode cX0_seenThere 8 = .ok (.istore_n 3, 1) := by decide +kernel
theorem dX0_seenThere_9 : decode cX0_seenThere 9 = .ok (.aload_n 0, 1) := by decide +kernel
theorem dX0_seenThere_10 : decode cX0_seenThere 10 = .ok (.getfield 12, 3) := by decide +kernel
theorem dX0_seenThere_13 : decode cX0_seenThere 13 = .ok (.aload_n 1, 1) := by decide +kernel
theorem dX0_seenThere_14 : decode cX0_seenThere 14 = .ok (.invokevirtual 18, 3) := by decide +kernel
theorem dX0_seenThere_17 : decode cX0_seenThere 17 = .ok (.iconst 0, 1) := by decide +kernel
theorem dX0_seenThere_18 : decode cX0_seenThere 18 = .ok (.istore 4, 2) := by decide +kernel
theorem dX0_seenThere_20 : decode cX0_seenThere 20 = .ok (.iload 4, 2) := by decide +kernel
theorem dX0_seenThere_22 : decode cX0_seenThere 22 = .ok (.bipush 60, 2) := by decide +kernel
theorem dX0_seenThere_24 : decode cX0_seenThere 24 = .ok (.if_icmp .gt 60, 3) := by decide +kernel
theorem dX0_seenThere_27 : decode cX0_seenThere 27 = .ok (.iconst 0, 1) := by decide +kernel
theorem dX0_seenThere_28 : decode cX0_seenThere 28 = .ok (.istore 5, 2) := by decide +kernel
theorem dX0_seenThere_30 : decode cX0_seenThere 30 = .ok (.iload 5, 2) := by decide +kernel
theorem dX0_seenThere_32 : decode cX0_seenThere 32 = .ok (.aload_n 2, 1) := by decide +kernel
theorem dX0_seenThere_33 : decode cX0_seenThere 33 = .ok (.getfield 80, 3) := by decide +kernel
theorem dX0_seenThere_36 : decode cX0_seenThere 36 = .ok (.if_icmp .ge 35, 3) := by decide +kernel
theorem dX0_seenThere_39 : decode cX0_seenThere 39 = .ok (.aload_n 2, 1) := by decide +kernel
theorem dX0_seenThere_40 : decode cX0_seenThere 40 = .ok (.iload 5, 2) := by decide +kernel
theorem dX0_seenThere_42 : decode cX0_seenThere 42 = .ok (.iconst 0, 1) := by decide +kernel
theorem dX0_seenThere_43 : decode cX0_seenThere 43 = .ok (.invokevirtual 85, 3) := by decide +kernel
theorem dX0_seenThere_46 : decode cX0_seenThere 46 = .ok (.iload 4, 2) := by decide +kernel
theorem dX0_seenThere_48 : decode cX0_seenThere 48 = .ok (.if_icmp .ne 17, 3) := by decide +kernel
theorem dX0_seenThere_51 : decode cX0_seenThere 51 = .ok (.iload_n 3, 1) := by decide +kernel
theorem dX0_seenThere_52 : decode cX0_seenThere 52 = .ok (.aload_n 0, 1) := by decide +kernel
theorem dX0_seenThere_53 : decode cX0_seenThere 53 = .ok (.aload_n 2, 1) := by decide +kernel
theorem dX0_seenThere_54 : decode cX0_seenThere 54 = .ok (.iload 5, 2) := by decide +kernel
theorem dX0_seenThere_56 : decode cX0_seenThere 56 = .ok (.iconst 1, 1) := by decide +kernel
theorem dX0_seenThere_57 : decode cX0_seenThere 57 = .ok (.invokevirtual 85, 3) := by decide +kernel
theorem dX0_seenThere_60 : decode cX0_seenThere 60 = .ok (.invokevirtual 89, 3) := by decide +kernel
theorem dX0_seenThere_63 : decode cX0_seenThere 63 = .ok (.iand, 1) := by decide +kernel
theorem dX0_seenThere_64 : decode cX0_seenThere 64 = .ok (.istore_n 3, 1) := by decide +kernel
theorem dX0_seenThere_65 : decode cX0_seenThere 65 = .ok (.iinc 5 1, 3) := by decide +kernel
theorem dX0_seenThere_68 : decode cX0_seenThere 68 = .ok (.goto (-38), 3) := by decide +kernel
theorem dX0_seenThere_71 : decode cX0_seenThere 71 = .ok (.aload_n 0, 1) := by decide +kernel
theorem dX0_seenThere_72 : decode cX0_seenThere 72 = .ok (.getfield 12, 3) := by decide +kernel
theorem dX0_seenThere_75 : decode cX0_seenThere 75 = .ok (.invokevirtual 30, 3) := by decide +kernel
theorem dX0_seenThere_78 : decode cX0_seenThere 78 = .ok (.iinc 4 1, 3) := by decide +kernel
theorem dX0_seenThere_81 : decode cX0_seenThere 81 = .ok (.goto (-61), 3) := by decide +kernel
theorem dX0_seenThere_84 : decode cX0_seenThere 84 = .ok (.iload_n 3, 1) := by decide +kernel
theorem dX0_seenThere_85 : decode cX0_seenThere 85 = .ok (.ireturn, 1) := by decide +kernel
theorem dX0_thoseAt_0 : decode cX0_thoseAt 0 = .ok (.iconst 0, 1) := by decide +kernel
theorem dX0_thoseAt_1 : decode cX0_thoseAt 1 = .ok (.istore_n 2, 1) := by decide +kernel
theorem dX0_thoseAt_2 : decode cX0_thoseAt 2 = .ok (.iconst 0, 1) := by decide +kernel
theorem dX0_thoseAt_3 : decode cX0_thoseAt 3 = .ok (.istore_n 3, 1) := by decide +kernel
theorem dX0_thoseAt_4 : decode cX0_thoseAt 4 = .ok (.iload_n 3, 1) := by decide +kernel
theorem dX0_thoseAt_5 : decode cX0_thoseAt 5 = .ok (.aload_n 0, 1) := by decide +kernel
theorem dX0_thoseAt_6 : decode cX0_thoseAt 6 = .ok (.getfield 12, 3) := by decide +kernel
theorem dX0_thoseAt_9 : decode cX0_thoseAt 9 = .ok (.getfield 37, 3) := by decide +kernel
theorem dX0_thoseAt_12 : decode cX0_thoseAt 12 = .ok (.if_icmp .ge 28, 3) := by decide +kernel
theorem dX0_thoseAt_15 : decode cX0_thoseAt 15 = .ok (.aload_n 0, 1) := by decide +kernel
theorem dX0_thoseAt_16 : decode cX0_thoseAt 16 = .ok (.getfield 12, 3) := by decide +kernel
theorem dX0_thoseAt_19 : decode cX0_thoseAt 19 = .ok (.getfield 26, 3) := by decide +kernel
theorem dX0_thoseAt_22 : decode cX0_thoseAt 22 = .ok (.iload_n 3, 1) := by decide +kernel
theorem dX0_thoseAt_23 : decode cX0_thoseAt 23 = .ok (.iaload, 1) := by decide +kernel
theorem dX0_thoseAt_24 : decode cX0_thoseAt 24 = .ok (.iload_n 1, 1) := by decide +kernel
theorem dX0_thoseAt_25 : decode cX0_thoseAt 25 = .ok (.if_icmp .ne 9, 3) := by decide +kernel
theorem dX0_thoseAt_28 : decode cX0_thoseAt 28 = .ok (.iload_n 2, 1) := by decide +kernel
theorem dX0_thoseAt_29 : decode cX0_thoseAt 29 = .ok (.iconst 1, 1) := by decide +kernel
theorem dX0_thoseAt_30 : decode cX0_thoseAt 30 = .ok (.iload_n 3, 1) := by decide +kernel
theorem dX0_thoseAt_31 : decode cX0_thoseAt 31 = .ok (.ishl, 1) := by decide +kernel
theorem dX0_thoseAt_32 : decode cX0_thoseAt 32 = .ok (.ior, 1) := by decide +kernel
theorem dX0_thoseAt_33 : decode cX0_thoseAt 33 = .ok (.istore_n 2, 1) := by decide +kernel
theorem dX0_thoseAt_34 : decode cX0_thoseAt 34 = .ok (.iinc 3 1, 3) := by decide +kernel
theorem dX0_thoseAt_37 : decode cX0_thoseAt 37 = .ok (.goto (-33), 3) := by decide +kernel
theorem dX0_thoseAt_40 : decode cX0_thoseAt 40 = .ok (.iload_n 2, 1) := by decide +kernel
theorem dX0_thoseAt_41 : decode cX0_thoseAt 41 = .ok (.ireturn, 1) := by decide +kernel
set_option maxRecDepth 20000 in
theorem ggX0_hoursThatPart_X8_copy : GoodIn wsX0_hoursThatPart wsX8_copy := goodIn_r _ [9, 10, 11, 12, 13, 14, 15, 16, 17, 18, 19, 20, 21, 22, 23, 24, 90, 91, 92, 93, 94, 95, 96, 97, 98, 99, 100, 101] rfl (by decide +kernel)
set_option maxRecDepth 20000 in
theorem gX0_hoursThatPart_X8_copy : GoodIn wsX0_hoursThatPart (wsV RX0 18 RX8 yX8_copy wsX8_copy) := goodIn_app (goodIn_of _ (by decide +kernel)) ggX0_hoursThatPart_X8_copy
set_option maxRecDepth 20000 in
theorem ggX0_hoursThatPart_X3_begin : GoodIn wsX0_hoursThatPart wsX3_begin := goodIn_r _ [29, 30, 31, 32, 102, 103, 104, 105] rfl (by decide +kernel)
set_option maxRecDepth 20000 in
theorem gX0_hoursThatPart_X3_begin : GoodIn wsX0_hoursThatPart (wsV RX0 92 RX3 yX3_begin wsX3_begin) := goodIn_app (goodIn_of _ (by decide +kernel)) ggX0_hoursThatPart_X3_begin
set_option maxRecDepth 20000 in
theorem ggX0_hoursThatPart_X3_empty : GoodIn wsX0_hoursThatPart wsX3_empty := goodIn_r _ [36, 31, 37, 102, 103, 104, 105] rfl (by decide +kernel)
set_option maxRecDepth 20000 in
theorem gX0_hoursThatPart_X3_empty : GoodIn wsX0_hoursThatPart (wsV RX0 97 RX3 yX3_empty wsX3_empty) := goodIn_app (goodIn_of _ (by decide +kernel)) ggX0_hoursThatPart_X3_empty
set_option maxRecDepth 20000 in
theorem ggX0_hoursThatPart_X3_add : GoodIn wsX0_hoursThatPart wsX3_add := goodIn_r _ [41, 31, 37, 42, 43, 44, 45, 102, 103, 104, 105] rfl (by decide +kernel)
set_option maxRecDepth 20000 in
theorem gX0_hoursThatPart_X3_add : GoodIn wsX0_hoursThatPart (wsV RX0 100 RX3 yX3_add wsX3_add) := goodIn_app (goodIn_of _ (by decide +kernel)) ggX0_hoursThatPart_X3_add
set_option maxRecDepth 20000 in
theorem ggX0_hoursThatPart_X3_offer : GoodIn wsX0_hoursThatPart wsX3_offer := goodIn_r _ [49, 37, 32, 30, 102, 103, 104, 105] rfl (by decide +kernel)
set_option maxRecDepth 20000 in
theorem gX0_hoursThatPart_X3_offer : GoodIn wsX0_hoursThatPart (wsV RX0 103 RX3 yX3_offer wsX3_offer) := goodIn_app (goodIn_of _ (by decide +kernel)) ggX0_hoursThatPart_X3_offer
set_option maxRecDepth 20000 in
theorem ggX0_hoursThatPart_X8_passHour : GoodIn wsX0_hoursThatPart wsX8_passHour := goodIn_r _ [53, 22, 54, 21, 20, 17, 24, 55, 56, 57, 8, 58, 23, 59, 60, 61, 62, 18, 63, 64, 65, 66, 19, 67, 68, 69, 70, 71, 72, 73, 74, 15, 10, 75, 76, 77, 78, 79, 80, 81, 82, 83, 84, 85, 90, 91, 92, 93, 94, 95, 96, 97, 98, 99, 100, 101] rfl (by decide +kernel)
set_option maxRecDepth 20000 in
theorem gX0_hoursThatPart_X8_passHour : GoodIn wsX0_hoursThatPart (wsV RX0 30 RX8 yX8_passHour wsX8_passHour) := goodIn_app (goodIn_of _ (by decide +kernel)) ggX0_hoursThatPart_X8_passHour
theorem dX0_hoursThatPart_0 : decode cX0_hoursThatPart 0 = .ok (.aload_n 0, 1) := by decide +kernel
theorem dX0_hoursThatPart_1 : decode cX0_hoursThatPart 1 = .ok (.getfield 12, 3) := by decide +kernel
theorem dX0_hoursThatPart_4 : decode cX0_hoursThatPart 4 = .ok (.aload_n 1, 1) := by decide +kernel
theorem dX0_hoursThatPart_5 : decode cX0_hoursThatPart 5 = .ok (.invokevirtual 18, 3) := by decide +kernel
theorem dX0_hoursThatPart_8 : decode cX0_hoursThatPart 8 = .ok (.aload_n 3, 1) := by decide +kernel
theorem dX0_hoursThatPart_9 : decode cX0_hoursThatPart 9 = .ok (.invokevirtual 92, 3) := by decide +kernel
theorem dX0_hoursThatPart_12 : decode cX0_hoursThatPart 12 = .ok (.iconst 0, 1) := by decide +kernel
theorem dX0_hoursThatPart_13 : decode cX0_hoursThatPart 13 = .ok (.istore 4, 2) := by decide +kernel
theorem dX0_hoursThatPart_15 : decode cX0_hoursThatPart 15 = .ok (.iload 4, 2) := by decide +kernel
theorem dX0_hoursThatPart_17 : decode cX0_hoursThatPart 17 = .ok (.bipush 20, 2) := by decide +kernel
theorem dX0_hoursThatPart_19 : decode cX0_hoursThatPart 19 = .ok (.if_icmp .gt 71, 3) := by decide +kernel
theorem dX0_hoursThatPart_22 : decode cX0_hoursThatPart 22 = .ok (.aload_n 3, 1) := by decide +kernel
theorem dX0_hoursThatPart_23 : decode cX0_hoursThatPart 23 = .ok (.invokevirtual 97, 3) := by decide +kernel
theorem dX0_hoursThatPart_26 : decode cX0_hoursThatPart 26 = .ok (.iconst 0, 1) := by decide +kernel
theorem dX0_hoursThatPart_27 : decode cX0_hoursThatPart 27 = .ok (.istore 5, 2) := by decide +kernel
theorem dX0_hoursThatPart_29 : decode cX0_hoursThatPart 29 = .ok (.iload 5, 2) := by decide +kernel
theorem dX0_hoursThatPart_31 : decode cX0_hoursThatPart 31 = .ok (.aload_n 0, 1) := by decide +kernel
theorem dX0_hoursThatPart_32 : decode cX0_hoursThatPart 32 = .ok (.getfield 12, 3) := by decide +kernel
theorem dX0_hoursThatPart_35 : decode cX0_hoursThatPart 35 = .ok (.getfield 37, 3) := by decide +kernel
theorem dX0_hoursThatPart_38 : decode cX0_hoursThatPart 38 = .ok (.if_icmp .ge 33, 3) := by decide +kernel
theorem dX0_hoursThatPart_41 : decode cX0_hoursThatPart 41 = .ok (.iload_n 2, 1) := by decide +kernel
theorem dX0_hoursThatPart_42 : decode cX0_hoursThatPart 42 = .ok (.iload 5, 2) := by decide +kernel
theorem dX0_hoursThatPart_44 : decode cX0_hoursThatPart 44 = .ok (.ishr, 1) := by decide +kernel
theorem dX0_hoursThatPart_45 : decode cX0_hoursThatPart 45 = .ok (.iconst 1, 1) := by decide +kernel
theorem dX0_hoursThatPart_46 : decode cX0_hoursThatPart 46 = .ok (.iand, 1) := by decide +kernel
theorem dX0_hoursThatPart_47 : decode cX0_hoursThatPart 47 = .ok (.iconst 1, 1) := by decide +kernel
theorem dX0_hoursThatPart_48 : decode cX0_hoursThatPart 48 = .ok (.if_icmp .ne 17, 3) := by decide +kernel
theorem dX0_hoursThatPart_51 : decode cX0_hoursThatPart 51 = .ok (.aload_n 3, 1) := by decide +kernel
theorem dX0_hoursThatPart_52 : decode cX0_hoursThatPart 52 = .ok (.aload_n 0, 1) := by decide +kernel
theorem dX0_hoursThatPart_53 : decode cX0_hoursThatPart 53 = .ok (.getfield 12, 3) := by decide +kernel
theorem dX0_hoursThatPart_56 : decode cX0_hoursThatPart 56 = .ok (.getfield 26, 3) := by decide +kernel
theorem dX0_hoursThatPart_59 : decode cX0_hoursThatPart 59 = .ok (.iload 5, 2) := by decide +kernel
theorem dX0_hoursThatPart_61 : decode cX0_hoursThatPart 61 = .ok (.iaload, 1) := by decide +kernel
theorem dX0_hoursThatPart_62 : decode cX0_hoursThatPart 62 = .ok (.invokevirtual 100, 3) := by decide +kernel
theorem dX0_hoursThatPart_65 : decode cX0_hoursThatPart 65 = .ok (.iinc 5 1, 3) := by decide +kernel
theorem dX0_hoursThatPart_68 : decode cX0_hoursThatPart 68 = .ok (.goto (-39), 3) := by decide +kernel
theorem dX0_hoursThatPart_71 : decode cX0_hoursThatPart 71 = .ok (.aload_n 3, 1) := by decide +kernel
theorem dX0_hoursThatPart_72 : decode cX0_hoursThatPart 72 = .ok (.iload 4, 2) := by decide +kernel
theorem dX0_hoursThatPart_74 : decode cX0_hoursThatPart 74 = .ok (.invokevirtual 103, 3) := by decide +kernel
theorem dX0_hoursThatPart_77 : decode cX0_hoursThatPart 77 = .ok (.aload_n 0, 1) := by decide +kernel
theorem dX0_hoursThatPart_78 : decode cX0_hoursThatPart 78 = .ok (.getfield 12, 3) := by decide +kernel
theorem dX0_hoursThatPart_81 : decode cX0_hoursThatPart 81 = .ok (.invokevirtual 30, 3) := by decide +kernel
theorem dX0_hoursThatPart_84 : decode cX0_hoursThatPart 84 = .ok (.iinc 4 1, 3) := by decide +kernel
theorem dX0_hoursThatPart_87 : decode cX0_hoursThatPart 87 = .ok (.goto (-72), 3) := by decide +kernel
theorem dX0_hoursThatPart_90 : decode cX0_hoursThatPart 90 = .ok (.aload_n 3, 1) := by decide +kernel
theorem dX0_hoursThatPart_91 : decode cX0_hoursThatPart 91 = .ok (.getfield 106, 3) := by decide +kernel
theorem dX0_hoursThatPart_94 : decode cX0_hoursThatPart 94 = .ok (.ireturn, 1) := by decide +kernel
set_option maxRecDepth 20000 in
theorem ggX0_visited_X8_copy : GoodIn wsX0_visited wsX8_copy := goodIn_r _ [7, 8, 9, 10, 11, 12, 13, 14, 15, 16, 17, 18, 19, 20, 21, 22, 63, 64, 65, 66, 67, 68, 69, 70, 71, 72, 73, 74] rfl (by decide +kernel)
set_option maxRecDepth 20000 in
theorem gX0_visited_X8_copy : GoodIn wsX0_visited (wsV RX0 18 RX8 yX8_copy wsX8_copy) := goodIn_app (goodIn_of _ (by decide +kernel)) ggX0_visited_X8_copy
set_option maxRecDepth 20000 in
theorem ggX0_visited_X8_passHour : GoodIn wsX0_visited wsX8_passHour := goodIn_r _ [26, 20, 27, 19, 18, 15, 22, 28, 29, 30, 6, 31, 21, 32, 33, 34, 35, 16, 36, 37, 38, 39, 17, 40, 41, 42, 43, 44, 45, 46, 47, 13, 8, 48, 49, 50, 51, 52, 53, 54, 55, 56, 57, 58, 63, 64, 65, 66, 67, 68, 69, 70, 71, 72, 73, 74] rfl (by decide +kernel)
set_option maxRecDepth 20000 in
theorem gX0_visited_X8_passHour : GoodIn wsX0_visited (wsV RX0 30 RX8 yX8_passHour wsX8_passHour) := goodIn_app (goodIn_of _ (by decide +kernel)) ggX0_visited_X8_passHour
theorem dX0_visited_0 : decode cX0_visited 0 = .ok (.iconst 0, 1) := by decide +kernel
theorem dX0_visited_1 : decode cX0_visited 1 = .ok (.istore_n 3, 1) := by decide +kernel
theorem dX0_visited_2 : decode cX0_visited 2 = .ok (.aload_n 0, 1) := by decide +kernel
theorem dX0_visited_3 : decode cX0_visited 3 = .ok (.getfield 12, 3) := by decide +kernel
theorem dX0_visited_6 : decode cX0_visited 6 = .ok (.aload_n 1, 1) := by decide +kernel
theorem dX0_visited_7 : decode cX0_visited 7 = .ok (.invokevirtual 18, 3) := by decide +kernel
theorem dX0_visited_10 : decode cX0_visited 10 = .ok (.iconst 0, 1) := by decide +kernel
theorem dX0_visited_11 : decode cX0_visited 11 = .ok (.istore 4, 2) := by decide +kernel
theorem dX0_visited_13 : decode cX0_visited 13 = .ok (.iload 4, 2) := by decide +kernel
theorem dX0_visited_15 : decode cX0_visited 15 = .ok (.bipush 30, 2) := by decide +kernel
theorem dX0_visited_17 : decode cX0_visited 17 = .ok (.if_icmp .gt 30, 3) := by decide +kernel
theorem dX0_visited_20 : decode cX0_visited 20 = .ok (.iload_n 3, 1) := by decide +kernel
theorem dX0_visited_21 : decode cX0_visited 21 = .ok (.iconst 1, 1) := by decide +kernel
theorem dX0_visited_22 : decode cX0_visited 22 = .ok (.aload_n 0, 1) := by decide +kernel
theorem dX0_visited_23 : decode cX0_visited 23 = .ok (.getfield 12, 3) := by decide +kernel
theorem dX0_visited_26 : decode cX0_visited 26 = .ok (.getfield 26, 3) := by decide +kernel
theorem dX0_visited_29 : decode cX0_visited 29 = .ok (.iload_n 2, 1) := by decide +kernel
theorem dX0_visited_30 : decode cX0_visited 30 = .ok (.iaload, 1) := by decide +kernel
theorem dX0_visited_31 : decode cX0_visited 31 = .ok (.ishl, 1) := by decide +kernel
theorem dX0_visited_32 : decode cX0_visited 32 = .ok (.ior, 1) := by decide +kernel
theorem dX0_visited_33 : decode cX0_visited 33 = .ok (.istore_n 3, 1) := by decide +kernel
theorem dX0_visited_34 : decode cX0_visited 34 = .ok (.aload_n 0, 1) := by decide +kernel
theorem dX0_visited_35 : decode cX0_visited 35 = .ok (.getfield 12, 3) := by decide +kernel
theorem dX0_visited_38 : decode cX0_visited 38 = .ok (.invokevirtual 30, 3) := by decide +kernel
theorem dX0_visited_41 : decode cX0_visited 41 = .ok (.iinc 4 1, 3) := by decide +kernel
theorem dX0_visited_44 : decode cX0_visited 44 = .ok (.goto (-31), 3) := by decide +kernel
theorem dX0_visited_47 : decode cX0_visited 47 = .ok (.iload_n 3, 1) := by decide +kernel
theorem dX0_visited_48 : decode cX0_visited 48 = .ok (.ireturn, 1) := by decide +kernel
set_option maxRecDepth 20000 in
theorem ggX0_overBehindWinter_X8_copy : GoodIn wsX0_overBehindWinter wsX8_copy := goodIn_r _ [12, 13, 14, 15, 16, 17, 18, 19, 20, 21, 22, 23, 24, 25, 26, 27, 76, 77, 78, 79, 80, 81, 82, 83, 84, 85, 86, 87] rfl (by decide +kernel)
set_option maxRecDepth 20000 in
theorem gX0_overBehindWinter_X8_copy : GoodIn wsX0_overBehindWinter (wsV RX0 18 RX8 yX8_copy wsX8_copy) := goodIn_app (goodIn_of _ (by decide +kernel)) ggX0_overBehindWinter_X8_copy
set_option maxRecDepth 20000 in
theorem ggX0_overBehindWinter_X8_turn : GoodIn wsX0_overBehindWinter wsX8_turn := goodIn_r _ [31, 26, 76, 77, 78, 79, 80, 81, 82, 83, 84, 85, 86, 87] rfl (by decide +kernel)
set_option maxRecDepth 20000 in
theorem gX0_overBehindWinter_X8_turn : GoodIn wsX0_overBehindWinter (wsV RX0 119 RX8 yX8_turn wsX8_turn) := goodIn_app (goodIn_of _ (by decide +kernel)) ggX0_overBehindWinter_X8_turn
set_option maxRecDepth 20000 in
theorem ggX0_overBehindWinter_X8_passHour : GoodIn wsX0_overBehindWinter wsX8_passHour := goodIn_r _ [35, 25, 36, 24, 23, 20, 27, 37, 38, 39, 11, 40, 26, 41, 42, 43, 44, 21, 45, 46, 47, 48, 22, 49, 50, 51, 52, 53, 54, 55, 56, 18, 13, 57, 58, 59, 60, 61, 62, 63, 64, 65, 66, 67, 76, 77, 78, 79, 80, 81, 82, 83, 84, 85, 86, 87] rfl (by decide +kernel)
set_option maxRecDepth 20000 in
theorem gX0_overBehindWinter_X8_passHour : GoodIn wsX0_overBehindWinter (wsV RX0 30 RX8 yX8_passHour wsX8_passHour) := goodIn_app (goodIn_of _ (by decide +kernel)) ggX0_overBehindWinter_X8_passHour
set_option maxRecDepth 20000 in
theorem ggX0_overBehindWinter_X8_over : GoodIn wsX0_overBehindWinter wsX8_over := goodIn_r _ [71, 24, 20, 76, 77, 78, 79, 80, 81, 82, 83, 84, 85, 86, 87] rfl (by decide +kernel)
set_option maxRecDepth 20000 in
theorem gX0_overBehindWinter_X8_over : GoodIn wsX0_overBehindWinter (wsV RX0 33 RX8 yX8_over wsX8_over) := goodIn_app (goodIn_of _ (by decide +kernel)) ggX0_overBehindWinter_X8_over
theorem dX0_overBehindWinter_0 : decode cX0_overBehindWinter 0 = .ok (.aload_n 0, 1) := by decide +kernel
theorem dX0_overBehindWinter_1 : decode cX0_overBehindWinter 1 = .ok (.getfield 12, 3) := by decide +kernel
theorem dX0_overBehindWinter_4 : decode cX0_overBehindWinter 4 = .ok (.aload_n 1, 1) := by decide +kernel
theorem dX0_overBehindWinter_5 : decode cX0_overBehindWinter 5 = .ok (.invokevirtual 18, 3) := by decide +kernel
theorem dX0_overBehindWinter_8 : decode cX0_overBehindWinter 8 = .ok (.iload_n 2, 1) := by decide +kernel
theorem dX0_overBehindWinter_9 : decode cX0_overBehindWinter 9 = .ok (.i2l, 1) := by decide +kernel
theorem dX0_overBehindWinter_10 : decode cX0_overBehindWinter 10 = .ok (.lstore 4, 2) := by decide +kernel
theorem dX0_overBehindWinter_12 : decode cX0_overBehindWinter 12 = .ok (.iconst 0, 1) := by decide +kernel
theorem dX0_overBehindWinter_13 : decode cX0_overBehindWinter 13 = .ok (.istore 6, 2) := by decide +kernel
theorem dX0_overBehindWinter_15 : decode cX0_overBehindWinter 15 = .ok (.iload 6, 2) := by decide +kernel
theorem dX0_overBehindWinter_17 : decode cX0_overBehindWinter 17 = .ok (.iload_n 3, 1) := by decide +kernel
theorem dX0_overBehindWinter_18 : decode cX0_overBehindWinter 18 = .ok (.if_icmp .ge 66, 3) := by decide +kernel
theorem dX0_overBehindWinter_21 : decode cX0_overBehindWinter 21 = .ok (.lload 4, 2) := by decide +kernel
theorem dX0_overBehindWinter_23 : decode cX0_overBehindWinter 23 = .ok (.ldc2_w 109, 3) := by decide +kernel
theorem dX0_overBehindWinter_26 : decode cX0_overBehindWinter 26 = .ok (.lmul, 1) := by decide +kernel
theorem dX0_overBehindWinter_27 : decode cX0_overBehindWinter 27 = .ok (.ldc2_w 111, 3) := by decide +kernel
theorem dX0_overBehindWinter_30 : decode cX0_overBehindWinter 30 = .ok (.ladd, 1) := by decide +kernel
theorem dX0_overBehindWinter_31 : decode cX0_overBehindWinter 31 = .ok (.ldc2_w 113, 3) := by decide +kernel
theorem dX0_overBehindWinter_34 : decode cX0_overBehindWinter 34 = .ok (.lrem, 1) := by decide +kernel
theorem dX0_overBehindWinter_35 : decode cX0_overBehindWinter 35 = .ok (.lstore 4, 2) := by decide +kernel
theorem dX0_overBehindWinter_37 : decode cX0_overBehindWinter 37 = .ok (.lload 4, 2) := by decide +kernel
theorem dX0_overBehindWinter_39 : decode cX0_overBehindWinter 39 = .ok (.ldc2_w 115, 3) := by decide +kernel
theorem dX0_overBehindWinter_42 : decode cX0_overBehindWinter 42 = .ok (.ldiv, 1) := by decide +kernel
theorem dX0_overBehindWinter_43 : decode cX0_overBehindWinter 43 = .ok (.ldc2_w 117, 3) := by decide +kernel
theorem dX0_overBehindWinter_46 : decode cX0_overBehindWinter 46 = .ok (.lrem, 1) := by decide +kernel
theorem dX0_overBehindWinter_47 : decode cX0_overBehindWinter 47 = .ok (.l2i, 1) := by decide +kernel
theorem dX0_overBehindWinter_48 : decode cX0_overBehindWinter 48 = .ok (.istore 7, 2) := by decide +kernel
theorem dX0_overBehindWinter_50 : decode cX0_overBehindWinter 50 = .ok (.iload 7, 2) := by decide +kernel
theorem dX0_overBehindWinter_52 : decode cX0_overBehindWinter 52 = .ok (.aload_n 0, 1) := by decide +kernel
theorem dX0_overBehindWinter_53 : decode cX0_overBehindWinter 53 = .ok (.getfield 12, 3) := by decide +kernel
theorem dX0_overBehindWinter_56 : decode cX0_overBehindWinter 56 = .ok (.getfield 50, 3) := by decide +kernel
theorem dX0_overBehindWinter_59 : decode cX0_overBehindWinter 59 = .ok (.if_icmp .ge 12, 3) := by decide +kernel
theorem dX0_overBehindWinter_62 : decode cX0_overBehindWinter 62 = .ok (.aload_n 0, 1) := by decide +kernel
theorem dX0_overBehindWinter_63 : decode cX0_overBehindWinter 63 = .ok (.getfield 12, 3) := by decide +kernel
theorem dX0_overBehindWinter_66 : decode cX0_overBehindWinter 66 = .ok (.iload 7, 2) := by decide +kernel
theorem dX0_overBehindWinter_68 : decode cX0_overBehindWinter 68 = .ok (.invokevirtual 119, 3) := by decide +kernel
theorem dX0_overBehindWinter_71 : decode cX0_overBehindWinter 71 = .ok (.aload_n 0, 1) := by decide +kernel
theorem dX0_overBehindWinter_72 : decode cX0_overBehindWinter 72 = .ok (.getfield 12, 3) := by decide +kernel
theorem dX0_overBehindWinter_75 : decode cX0_overBehindWinter 75 = .ok (.invokevirtual 30, 3) := by decide +kernel
theorem dX0_overBehindWinter_78 : decode cX0_overBehindWinter 78 = .ok (.iinc 6 1, 3) := by decide +kernel
theorem dX0_overBehindWinter_81 : decode cX0_overBehindWinter 81 = .ok (.goto (-66), 3) := by decide +kernel
theorem dX0_overBehindWinter_84 : decode cX0_overBehindWinter 84 = .ok (.aload_n 0, 1) := by decide +kernel
theorem dX0_overBehindWinter_85 : decode cX0_overBehindWinter 85 = .ok (.getfield 12, 3) := by decide +kernel
theorem dX0_overBehindWinter_88 : decode cX0_overBehindWinter 88 = .ok (.invokevirtual 33, 3) := by decide +kernel
theorem dX0_overBehindWinter_91 : decode cX0_overBehindWinter 91 = .ok (.ireturn, 1) := by decide +kernel
set_option maxRecDepth 20000 in
theorem ggX1_says_X1_spikesGone : GoodIn wsX1_says wsX1_spikesGone := goodIn_r _ [4] rfl (by decide +kernel)
set_option maxRecDepth 20000 in
theorem gX1_says_X1_spikesGone : GoodIn wsX1_says (va_wsS RX1 7 yX1_spikesGone wsX1_spikesGone) := goodIn_app (goodIn_of _ (by decide +kernel)) ggX1_says_X1_spikesGone
set_option maxRecDepth 20000 in
theorem ggX1_says_X1_letOver : GoodIn wsX1_says wsX1_letOver := goodIn_r _ [7] rfl (by decide +kernel)
set_option maxRecDepth 20000 in
theorem gX1_says_X1_letOver : GoodIn wsX1_says (va_wsS RX1 13 yX1_letOver wsX1_letOver) := goodIn_app (goodIn_of _ (by decide +kernel)) ggX1_says_X1_letOver
theorem dX1_says_0 : decode cX1_says 0 = .ok (.iload_n 0, 1) := by decide +kernel
theorem dX1_says_1 : decode cX1_says 1 = .ok (.ifCond .eq 12, 3) := by decide +kernel
theorem dX1_says_4 : decode cX1_says 4 = .ok (.iload_n 1, 1) := by decide +kernel
theorem dX1_says_5 : decode cX1_says 5 = .ok (.iload_n 2, 1) := by decide +kernel
theorem dX1_says_6 : decode cX1_says 6 = .ok (.iload_n 3, 1) := by decide +kernel
theorem dX1_says_7 : decode cX1_says 7 = .ok (.invokestatic 7, 3) := by decide +kernel
theorem dX1_says_10 : decode cX1_says 10 = .ok (.goto 9, 3) := by decide +kernel
theorem dX1_says_13 : decode cX1_says 13 = .ok (.iload_n 1, 1) := by decide +kernel
theorem dX1_says_14 : decode cX1_says 14 = .ok (.iload_n 2, 1) := by decide +kernel
theorem dX1_says_15 : decode cX1_says 15 = .ok (.iload_n 3, 1) := by decide +kernel
theorem dX1_says_16 : decode cX1_says 16 = .ok (.invokestatic 13, 3) := by decide +kernel
theorem dX1_says_19 : decode cX1_says 19 = .ok (.ireturn, 1) := by decide +kernel
theorem dX1_spikesGone_0 : decode cX1_spikesGone 0 = .ok (.iconst 1, 1) := by decide +kernel
theorem dX1_spikesGone_1 : decode cX1_spikesGone 1 = .ok (.istore_n 3, 1) := by decide +kernel
theorem dX1_spikesGone_2 : decode cX1_spikesGone 2 = .ok (.iload_n 2, 1) := by decide +kernel
theorem dX1_spikesGone_3 : decode cX1_spikesGone 3 = .ok (.ifCond .ne 9, 3) := by decide +kernel
theorem dX1_spikesGone_6 : decode cX1_spikesGone 6 = .ok (.iload_n 3, 1) := by decide +kernel
theorem dX1_spikesGone_7 : decode cX1_spikesGone 7 = .ok (.iconst 1, 1) := by decide +kernel
theorem dX1_spikesGone_8 : decode cX1_spikesGone 8 = .ok (.iadd, 1) := by decide +kernel
theorem dX1_spikesGone_9 : decode cX1_spikesGone 9 = .ok (.goto 4, 3) := by decide +kernel
theorem dX1_spikesGone_12 : decode cX1_spikesGone 12 = .ok (.iload_n 3, 1) := by decide +kernel
theorem dX1_spikesGone_13 : decode cX1_spikesGone 13 = .ok (.istore 4, 2) := by decide +kernel
theorem dX1_spikesGone_15 : decode cX1_spikesGone 15 = .ok (.iload_n 1, 1) := by decide +kernel
theorem dX1_spikesGone_16 : decode cX1_spikesGone 16 = .ok (.iconst 2, 1) := by decide +kernel
theorem dX1_spikesGone_17 : decode cX1_spikesGone 17 = .ok (.irem, 1) := by decide +kernel
theorem dX1_spikesGone_18 : decode cX1_spikesGone 18 = .ok (.ifCond .ne 10, 3) := by decide +kernel
theorem dX1_spikesGone_21 : decode cX1_spikesGone 21 = .ok (.iconst 2, 1) := by decide +kernel
theorem dX1_spikesGone_22 : decode cX1_spikesGone 22 = .ok (.iload 4, 2) := by decide +kernel
theorem dX1_spikesGone_24 : decode cX1_spikesGone 24 = .ok (.imul, 1) := by decide +kernel
theorem dX1_spikesGone_25 : decode cX1_spikesGone 25 = .ok (.goto 5, 3) := by decide +kernel
theorem dX1_spikesGone_28 : decode cX1_spikesGone 28 = .ok (.iload 4, 2) := by decide +kernel
theorem dX1_spikesGone_30 : decode cX1_spikesGone 30 = .ok (.istore 5, 2) := by decide +kernel
theorem dX1_spikesGone_32 : decode cX1_spikesGone 32 = .ok (.iload_n 0, 1) := by decide +kernel
theorem dX1_spikesGone_33 : decode cX1_spikesGone 33 = .ok (.tableswitch 81 1 5 #[35, 38, 49, 52, 66], 35) := by decide +kernel
theorem dX1_spikesGone_68 : decode cX1_spikesGone 68 = .ok (.iload 4, 2) := by decide +kernel
theorem dX1_spikesGone_70 : decode cX1_spikesGone 70 = .ok (.ireturn, 1) := by decide +kernel
theorem dX1_spikesGone_71 : decode cX1_spikesGone 71 = .ok (.iload_n 2, 1) := by decide +kernel
theorem dX1_spikesGone_72 : decode cX1_spikesGone 72 = .ok (.iconst 3, 1) := by decide +kernel
theorem dX1_spikesGone_73 : decode cX1_spikesGone 73 = .ok (.if_icmp .lt 7, 3) := by decide +kernel
theorem dX1_spikesGone_76 : decode cX1_spikesGone 76 = .ok (.iconst 0, 1) := by decide +kernel
theorem dX1_spikesGone_77 : decode cX1_spikesGone 77 = .ok (.goto 4, 3) := by decide +kernel
theorem dX1_spikesGone_80 : decode cX1_spikesGone 80 = .ok (.iload_n 3, 1) := by decide +kernel
theorem dX1_spikesGone_81 : decode cX1_spikesGone 81 = .ok (.ireturn, 1) := by decide +kernel
theorem dX1_spikesGone_82 : decode cX1_spikesGone 82 = .ok (.iload 5, 2) := by decide +kernel
theorem dX1_spikesGone_84 : decode cX1_spikesGone 84 = .ok (.ireturn, 1) := by decide +kernel
theorem dX1_spikesGone_85 : decode cX1_spikesGone 85 = .ok (.iload_n 1, 1) := by decide +kernel
theorem dX1_spikesGone_86 : decode cX1_spikesGone 86 = .ok (.iconst 5, 1) := by decide +kernel
theorem dX1_spikesGone_87 : decode cX1_spikesGone 87 = .ok (.irem, 1) := by decide +kernel
theorem dX1_spikesGone_88 : decode cX1_spikesGone 88 = .ok (.ifCond .ne 9, 3) := by decide +kernel
theorem dX1_spikesGone_91 : decode cX1_spikesGone 91 = .ok (.iload_n 3, 1) := by decide +kernel
theorem dX1_spikesGone_92 : decode cX1_spikesGone 92 = .ok (.iconst 3, 1) := by decide +kernel
theorem dX1_spikesGone_93 : decode cX1_spikesGone 93 = .ok (.iadd, 1) := by decide +kernel
theorem dX1_spikesGone_94 : decode cX1_spikesGone 94 = .ok (.goto 4, 3) := by decide +kernel
theorem dX1_spikesGone_97 : decode cX1_spikesGone 97 = .ok (.iload_n 3, 1) := by decide +kernel
theorem dX1_spikesGone_98 : decode cX1_spikesGone 98 = .ok (.ireturn, 1) := by decide +kernel
theorem dX1_spikesGone_99 : decode cX1_spikesGone 99 = .ok (.iload 5, 2) := by decide +kernel
theorem dX1_spikesGone_101 : decode cX1_spikesGone 101 = .ok (.iload_n 2, 1) := by decide +kernel
theorem dX1_spikesGone_102 : decode cX1_spikesGone 102 = .ok (.if_icmp .le 10, 3) := by decide +kernel
theorem dX1_spikesGone_105 : decode cX1_spikesGone 105 = .ok (.iload 5, 2) := by decide +kernel
theorem dX1_spikesGone_107 : decode cX1_spikesGone 107 = .ok (.iload_n 2, 1) := by decide +kernel
theorem dX1_spikesGone_108 : decode cX1_spikesGone 108 = .ok (.isub, 1) := by decide +kernel
theorem dX1_spikesGone_109 : decode cX1_spikesGone 109 = .ok (.goto 4, 3) := by decide +kernel
theorem dX1_spikesGone_112 : decode cX1_spikesGone 112 = .ok (.iconst 0, 1) := by decide +kernel
theorem dX1_spikesGone_113 : decode cX1_spikesGone 113 = .ok (.ireturn, 1) := by decide +kernel
theorem dX1_spikesGone_114 : decode cX1_spikesGone 114 = .ok (.iload_n 3, 1) := by decide +kernel
theorem dX1_spikesGone_115 : decode cX1_spikesGone 115 = .ok (.ireturn, 1) := by decide +kernel
theorem dX1_letOver_0 : decode cX1_letOver 0 = .ok (.iload_n 1, 1) := by decide +kernel
theorem dX1_letOver_1 : decode cX1_letOver 1 = .ok (.iconst 2, 1) := by decide +kernel
theorem dX1_letOver_2 : decode cX1_letOver 2 = .ok (.irem, 1) := by decide +kernel
theorem dX1_letOver_3 : decode cX1_letOver 3 = .ok (.ifCond .ne 7, 3) := by decide +kernel
theorem dX1_letOver_6 : decode cX1_letOver 6 = .ok (.iconst 2, 1) := by decide +kernel
theorem dX1_letOver_7 : decode cX1_letOver 7 = .ok (.goto 4, 3) := by decide +kernel
theorem dX1_letOver_10 : decode cX1_letOver 10 = .ok (.iconst 0, 1) := by decide +kernel
theorem dX1_letOver_11 : decode cX1_letOver 11 = .ok (.istore_n 3, 1) := by decide +kernel
theorem dX1_letOver_12 : decode cX1_letOver 12 = .ok (.iload_n 3, 1) := by decide +kernel
theorem dX1_letOver_13 : decode cX1_letOver 13 = .ok (.ifCond .le 9, 3) := by decide +kernel
theorem dX1_letOver_16 : decode cX1_letOver 16 = .ok (.iload_n 3, 1) := by decide +kernel
theorem dX1_letOver_17 : decode cX1_letOver 17 = .ok (.iconst 1, 1) := by decide +kernel
theorem dX1_letOver_18 : decode cX1_letOver 18 = .ok (.isub, 1) := by decide +kernel
theorem dX1_letOver_19 : decode cX1_letOver 19 = .ok (.goto 4, 3) := by decide +kernel
theorem dX1_letOver_22 : decode cX1_letOver 22 = .ok (.iconst 0, 1) := by decide +kernel
theorem dX1_letOver_23 : decode cX1_letOver 23 = .ok (.istore 4, 2) := by decide +kernel
theorem dX1_letOver_25 : decode cX1_letOver 25 = .ok (.iload_n 3, 1) := by decide +kernel
theorem dX1_letOver_26 : decode cX1_letOver 26 = .ok (.iload_n 2, 1) := by decide +kernel
theorem dX1_letOver_27 : decode cX1_letOver 27 = .ok (.iconst 2, 1) := by decide +kernel
theorem dX1_letOver_28 : decode cX1_letOver 28 = .ok (.idiv, 1) := by decide +kernel
theorem dX1_letOver_29 : decode cX1_letOver 29 = .ok (.iadd, 1) := by decide +kernel
theorem dX1_letOver_30 : decode cX1_letOver 30 = .ok (.istore 5, 2) := by decide +kernel
theorem dX1_letOver_32 : decode cX1_letOver 32 = .ok (.iload_n 0, 1) := by decide +kernel
theorem dX1_letOver_33 : decode cX1_letOver 33 = .ok (.tableswitch 84 1 5 #[35, 38, 41, 56, 71], 35) := by decide +kernel
theorem dX1_letOver_68 : decode cX1_letOver 68 = .ok (.iload 4, 2) := by decide +kernel
theorem dX1_letOver_70 : decode cX1_letOver 70 = .ok (.ireturn, 1) := by decide +kernel
theorem dX1_letOver_71 : decode cX1_letOver 71 = .ok (.iload 5, 2) := by decide +kernel
theorem dX1_letOver_73 : decode cX1_letOver 73 = .ok (.ireturn, 1) := by decide +kernel
theorem dX1_letOver_74 : decode cX1_letOver 74 = .ok (.iload_n 2, 1) := by decide +kernel
theorem dX1_letOver_75 : decode cX1_letOver 75 = .ok (.iconst 4, 1) := by decide +kernel
theorem dX1_letOver_76 : decode cX1_letOver 76 = .ok (.if_icmp .lt 10, 3) := by decide +kernel
theorem dX1_letOver_79 : decode cX1_letOver 79 = .ok (.iload 4, 2) := by decide +kernel
theorem dX1_letOver_81 : decode cX1_letOver 81 = .ok (.iconst 1, 1) := by decide +kernel
theorem dX1_letOver_82 : decode cX1_letOver 82 = .ok (.iadd, 1) := by decide +kernel
theorem dX1_letOver_83 : decode cX1_letOver 83 = .ok (.goto 5, 3) := by decide +kernel
theorem dX1_letOver_86 : decode cX1_letOver 86 = .ok (.iload 4, 2) := by decide +kernel
theorem dX1_letOver_88 : decode cX1_letOver 88 = .ok (.ireturn, 1) := by decide +kernel
theorem dX1_letOver_89 : decode cX1_letOver 89 = .ok (.iload_n 1, 1) := by decide +kernel
theorem dX1_letOver_90 : decode cX1_letOver 90 = .ok (.bipush 8, 2) := by decide +kernel
theorem dX1_letOver_92 : decode cX1_letOver 92 = .ok (.irem, 1) := by decide +kernel
theorem dX1_letOver_93 : decode cX1_letOver 93 = .ok (.bipush 6, 2) := by decide +kernel
theorem dX1_letOver_95 : decode cX1_letOver 95 = .ok (.if_icmp .lt 7, 3) := by decide +kernel
theorem dX1_letOver_98 : decode cX1_letOver 98 = .ok (.iload_n 2, 1) := by decide +kernel
theorem dX1_letOver_99 : decode cX1_letOver 99 = .ok (.goto 4, 3) := by decide +kernel
theorem dX1_letOver_102 : decode cX1_letOver 102 = .ok (.iload_n 3, 1) := by decide +kernel
theorem dX1_letOver_103 : decode cX1_letOver 103 = .ok (.ireturn, 1) := by decide +kernel
theorem dX1_letOver_104 : decode cX1_letOver 104 = .ok (.iload_n 1, 1) := by decide +kernel
theorem dX1_letOver_105 : decode cX1_letOver 105 = .ok (.iconst 3, 1) := by decide +kernel
theorem dX1_letOver_106 : decode cX1_letOver 106 = .ok (.irem, 1) := by decide +kernel
theorem dX1_letOver_107 : decode cX1_letOver 107 = .ok (.ifCond .ne 7, 3) := by decide +kernel
theorem dX1_letOver_110 : decode cX1_letOver 110 = .ok (.iconst 0, 1) := by decide +kernel
theorem dX1_letOver_111 : decode cX1_letOver 111 = .ok (.goto 5, 3) := by decide +kernel
theorem dX1_letOver_114 : decode cX1_letOver 114 = .ok (.iload 5, 2) := by decide +kernel
theorem dX1_letOver_116 : decode cX1_letOver 116 = .ok (.ireturn, 1) := by decide +kernel
theorem dX1_letOver_117 : decode cX1_letOver 117 = .ok (.iload_n 3, 1) := by decide +kernel
theorem dX1_letOver_118 : decode cX1_letOver 118 = .ok (.ireturn, 1) := by decide +kernel
theorem dX2_init_0 : decode cX2_init 0 = .ok (.aload_n 0, 1) := by decide +kernel
theorem dX2_init_1 : decode cX2_init 1 = .ok (.invokespecial 3, 3) := by decide +kernel
theorem dX2_init_4 : decode cX2_init 4 = .ok (.aload_n 0, 1) := by decide +kernel
theorem dX2_init_5 : decode cX2_init 5 = .ok (.sipush 128, 3) := by decide +kernel
theorem dX2_init_8 : decode cX2_init 8 = .ok (.newarray .int, 2) := by decide +kernel
theorem dX2_init_10 : decode cX2_init 10 = .ok (.putfield 11, 3) := by decide +kernel
theorem dX2_init_13 : decode cX2_init 13 = .ok (.return_, 1) := by decide +kernel
set_option maxRecDepth 20000 in
theorem ggX2_countAll_J6_numberOfTrailingZeros_0f7a4 : GoodIn wsX2_countAll wsJ6_numberOfTrailingZeros_0f7a4 := goodIn_r _ [11, 12] rfl (by decide +kernel)
set_option maxRecDepth 20000 in
theorem gX2_countAll_J6_numberOfTrailingZeros_0f7a4 : GoodIn wsX2_countAll (va_wsS RX2 24 yJ6_numberOfTrailingZeros_0f7a4 wsJ6_numberOfTrailingZeros_0f7a4) := goodIn_app (goodIn_of _ (by decide +kernel)) ggX2_countAll_J6_numberOfTrailingZeros_0f7a4
set_option maxRecDepth 20000 in
theorem ggX2_countAll_X2_fit : GoodIn wsX2_countAll wsX2_fit := goodIn_r _ [16, 17, 18, 19, 20, 6, 21, 22, 23, 24, 25, 26, 27, 28, 29, 30, 31, 32, 33] rfl (by decide +kernel)
set_option maxRecDepth 20000 in
theorem gX2_countAll_X2_fit : GoodIn wsX2_countAll (va_wsS RX2 30 yX2_fit wsX2_fit) := goodIn_app (goodIn_of _ (by decide +kernel)) ggX2_countAll_X2_fit
theorem dX2_countAll_0 : decode cX2_countAll 0 = .ok (.aload_n 0, 1) := by decide +kernel
theorem dX2_countAll_1 : decode cX2_countAll 1 = .ok (.iconst 1, 1) := by decide +kernel
theorem dX2_countAll_2 : decode cX2_countAll 2 = .ok (.aload_n 1, 1) := by decide +kernel
theorem dX2_countAll_3 : decode cX2_countAll 3 = .ok (.getfield 17, 3) := by decide +kernel
theorem dX2_countAll_6 : decode cX2_countAll 6 = .ok (.ishl, 1) := by decide +kernel
theorem dX2_countAll_7 : decode cX2_countAll 7 = .ok (.iconst 1, 1) := by decide +kernel
theorem dX2_countAll_8 : decode cX2_countAll 8 = .ok (.isub, 1) := by decide +kernel
theorem dX2_countAll_9 : decode cX2_countAll 9 = .ok (.putfield 21, 3) := by decide +kernel
theorem dX2_countAll_12 : decode cX2_countAll 12 = .ok (.aload_n 0, 1) := by decide +kernel
theorem dX2_countAll_13 : decode cX2_countAll 13 = .ok (.getfield 11, 3) := by decide +kernel
theorem dX2_countAll_16 : decode cX2_countAll 16 = .ok (.iconst 0, 1) := by decide +kernel
theorem dX2_countAll_17 : decode cX2_countAll 17 = .ok (.iconst 0, 1) := by decide +kernel
theorem dX2_countAll_18 : decode cX2_countAll 18 = .ok (.iastore, 1) := by decide +kernel
theorem dX2_countAll_19 : decode cX2_countAll 19 = .ok (.iconst 1, 1) := by decide +kernel
theorem dX2_countAll_20 : decode cX2_countAll 20 = .ok (.istore_n 2, 1) := by decide +kernel
theorem dX2_countAll_21 : decode cX2_countAll 21 = .ok (.iload_n 2, 1) := by decide +kernel
theorem dX2_countAll_22 : decode cX2_countAll 22 = .ok (.aload_n 0, 1) := by decide +kernel
theorem dX2_countAll_23 : decode cX2_countAll 23 = .ok (.getfield 21, 3) := by decide +kernel
theorem dX2_countAll_26 : decode cX2_countAll 26 = .ok (.if_icmp .gt 99, 3) := by decide +kernel
theorem dX2_countAll_29 : decode cX2_countAll 29 = .ok (.iload_n 2, 1) := by decide +kernel
theorem dX2_countAll_30 : decode cX2_countAll 30 = .ok (.invokestatic 24, 3) := by decide +kernel
theorem dX2_countAll_33 : decode cX2_countAll 33 = .ok (.istore_n 3, 1) := by decide +kernel
theorem dX2_countAll_34 : decode cX2_countAll 34 = .ok (.iload_n 2, 1) := by decide +kernel
theorem dX2_countAll_35 : decode cX2_countAll 35 = .ok (.iconst 1, 1) := by decide +kernel
theorem dX2_countAll_36 : decode cX2_countAll 36 = .ok (.iload_n 3, 1) := by decide +kernel
theorem dX2_countAll_37 : decode cX2_countAll 37 = .ok (.ishl, 1) := by decide +kernel
theorem dX2_countAll_38 : decode cX2_countAll 38 = .ok (.iconst (-1), 1) := by decide +kernel
theorem dX2_countAll_39 : decode cX2_countAll 39 = .ok (.ixor, 1) := by decide +kernel
theorem dX2_countAll_40 : decode cX2_countAll 40 = .ok (.iand, 1) := by decide +kernel
theorem dX2_countAll_41 : decode cX2_countAll 41 = .ok (.istore 4, 2) := by decide +kernel
theorem dX2_countAll_43 : decode cX2_countAll 43 = .ok (.aload_n 0, 1) := by decide +kernel
theorem dX2_countAll_44 : decode cX2_countAll 44 = .ok (.getfield 11, 3) := by decide +kernel
theorem dX2_countAll_47 : decode cX2_countAll 47 = .ok (.iload_n 2, 1) := by decide +kernel
theorem dX2_countAll_48 : decode cX2_countAll 48 = .ok (.aload_n 0, 1) := by decide +kernel
theorem dX2_countAll_49 : decode cX2_countAll 49 = .ok (.getfield 11, 3) := by decide +kernel
theorem dX2_countAll_52 : decode cX2_countAll 52 = .ok (.iload 4, 2) := by decide +kernel
theorem dX2_countAll_54 : decode cX2_countAll 54 = .ok (.iaload, 1) := by decide +kernel
theorem dX2_countAll_55 : decode cX2_countAll 55 = .ok (.iastore, 1) := by decide +kernel
theorem dX2_countAll_56 : decode cX2_countAll 56 = .ok (.iload_n 3, 1) := by decide +kernel
theorem dX2_countAll_57 : decode cX2_countAll 57 = .ok (.iconst 1, 1) := by decide +kernel
theorem dX2_countAll_58 : decode cX2_countAll 58 = .ok (.iadd, 1) := by decide +kernel
theorem dX2_countAll_59 : decode cX2_countAll 59 = .ok (.istore 5, 2) := by decide +kernel
theorem dX2_countAll_61 : decode cX2_countAll 61 = .ok (.iload 5, 2) := by decide +kernel
theorem dX2_countAll_63 : decode cX2_countAll 63 = .ok (.aload_n 1, 1) := by decide +kernel
theorem dX2_countAll_64 : decode cX2_countAll 64 = .ok (.getfield 17, 3) := by decide +kernel
theorem dX2_countAll_67 : decode cX2_countAll 67 = .ok (.if_icmp .ge 52, 3) := by decide +kernel
theorem dX2_countAll_70 : decode cX2_countAll 70 = .ok (.aload_n 1, 1) := by decide +kernel
theorem dX2_countAll_71 : decode cX2_countAll 71 = .ok (.iload 4, 2) := by decide +kernel
theorem dX2_countAll_73 : decode cX2_countAll 73 = .ok (.iload_n 3, 1) := by decide +kernel
theorem dX2_countAll_74 : decode cX2_countAll 74 = .ok (.iload 5, 2) := by decide +kernel
theorem dX2_countAll_76 : decode cX2_countAll 76 = .ok (.invokestatic 30, 3) := by decide +kernel
theorem dX2_countAll_79 : decode cX2_countAll 79 = .ok (.ifCond .eq 34, 3) := by decide +kernel
theorem dX2_countAll_82 : decode cX2_countAll 82 = .ok (.aload_n 0, 1) := by decide +kernel
theorem dX2_countAll_83 : decode cX2_countAll 83 = .ok (.getfield 11, 3) := by decide +kernel
theorem dX2_countAll_86 : decode cX2_countAll 86 = .ok (.iload_n 2, 1) := by decide +kernel
theorem dX2_countAll_87 : decode cX2_countAll 87 = .ok (.aload_n 0, 1) := by decide +kernel
theorem dX2_countAll_88 : decode cX2_countAll 88 = .ok (.getfield 11, 3) := by decide +kernel
theorem dX2_countAll_91 : decode cX2_countAll 91 = .ok (.iload_n 2, 1) := by decide +kernel
theorem dX2_countAll_92 : decode cX2_countAll 92 = .ok (.iaload, 1) := by decide +kernel
theorem dX2_countAll_93 : decode cX2_countAll 93 = .ok (.iconst 1, 1) := by decide +kernel
theorem dX2_countAll_94 : decode cX2_countAll 94 = .ok (.aload_n 0, 1) := by decide +kernel
theorem dX2_countAll_95 : decode cX2_countAll 95 = .ok (.getfield 11, 3) := by decide +kernel
theorem dX2_countAll_98 : decode cX2_countAll 98 = .ok (.iload 4, 2) := by decide +kernel
theorem dX2_countAll_100 : decode cX2_countAll 100 = .ok (.iconst 1, 1) := by decide +kernel
theorem dX2_countAll_101 : decode cX2_countAll 101 = .ok (.iload 5, 2) := by decide +kernel
theorem dX2_countAll_103 : decode cX2_countAll 103 = .ok (.ishl, 1) := by decide +kernel
theorem dX2_countAll_104 : decode cX2_countAll 104 = .ok (.iconst (-1), 1) := by decide +kernel
theorem dX2_countAll_105 : decode cX2_countAll 105 = .ok (.ixor, 1) := by decide +kernel
theorem dX2_countAll_106 : decode cX2_countAll 106 = .ok (.iand, 1) := by decide +kernel
theorem dX2_countAll_107 : decode cX2_countAll 107 = .ok (.iaload, 1) := by decide +kernel
theorem dX2_countAll_108 : decode cX2_countAll 108 = .ok (.iadd, 1) := by decide +kernel
theorem dX2_countAll_109 : decode cX2_countAll 109 = .ok (.invokestatic 34, 3) := by decide +kernel
theorem dX2_countAll_112 : decode cX2_countAll 112 = .ok (.iastore, 1) := by decide +kernel
theorem dX2_countAll_113 : decode cX2_countAll 113 = .ok (.iinc 5 1, 3) := by decide +kernel
theorem dX2_countAll_116 : decode cX2_countAll 116 = .ok (.goto (-55), 3) := by decide +kernel
theorem dX2_countAll_119 : decode cX2_countAll 119 = .ok (.iinc 2 1, 3) := by decide +kernel
theorem dX2_countAll_122 : decode cX2_countAll 122 = .ok (.goto (-101), 3) := by decide +kernel
theorem dX2_countAll_125 : decode cX2_countAll 125 = .ok (.return_, 1) := by decide +kernel
theorem dX2_most_0 : decode cX2_most 0 = .ok (.aload_n 0, 1) := by decide +kernel
theorem dX2_most_1 : decode cX2_most 1 = .ok (.getfield 11, 3) := by decide +kernel
theorem dX2_most_4 : decode cX2_most 4 = .ok (.aload_n 0, 1) := by decide +kernel
theorem dX2_most_5 : decode cX2_most 5 = .ok (.getfield 21, 3) := by decide +kernel
theorem dX2_most_8 : decode cX2_most 8 = .ok (.iaload, 1) := by decide +kernel
theorem dX2_most_9 : decode cX2_most 9 = .ok (.ireturn, 1) := by decide +kernel
set_option maxRecDepth 20000 in
theorem ggX2_partner_X2_firstPartner : GoodIn wsX2_partner wsX2_firstPartner := goodIn_r _ [7, 8, 2, 9, 10, 6, 11, 12, 13, 14, 15, 16, 17, 21, 22, 23, 24, 25, 26, 27, 28, 29, 30, 31, 32, 33, 34] rfl (by decide +kernel)
set_option maxRecDepth 20000 in
theorem gX2_partner_X2_firstPartner : GoodIn wsX2_partner (wsV RX2 40 RX2 yX2_firstPartner wsX2_firstPartner) := goodIn_app (goodIn_of _ (by decide +kernel)) ggX2_partner_X2_firstPartner
set_option maxRecDepth 20000 in
theorem ggX2_partner_X2_without : GoodIn wsX2_partner wsX2_without := goodIn_r _ [20] rfl (by decide +kernel)
set_option maxRecDepth 20000 in
theorem gX2_partner_X2_without : GoodIn wsX2_partner (va_wsS RX2 44 yX2_without wsX2_without) := goodIn_app (goodIn_of _ (by decide +kernel)) ggX2_partner_X2_without
theorem dX2_partner_0 : decode cX2_partner 0 = .ok (.aload_n 0, 1) := by decide +kernel
theorem dX2_partner_1 : decode cX2_partner 1 = .ok (.getfield 21, 3) := by decide +kernel
theorem dX2_partner_4 : decode cX2_partner 4 = .ok (.istore_n 3, 1) := by decide +kernel
theorem dX2_partner_5 : decode cX2_partner 5 = .ok (.iconst 0, 1) := by decide +kernel
theorem dX2_partner_6 : decode cX2_partner 6 = .ok (.istore 4, 2) := by decide +kernel
theorem dX2_partner_8 : decode cX2_partner 8 = .ok (.iload 4, 2) := by decide +kernel
theorem dX2_partner_10 : decode cX2_partner 10 = .ok (.aload_n 1, 1) := by decide +kernel
theorem dX2_partner_11 : decode cX2_partner 11 = .ok (.getfield 17, 3) := by decide +kernel
theorem dX2_partner_14 : decode cX2_partner 14 = .ok (.if_icmp .ge 56, 3) := by decide +kernel
theorem dX2_partner_17 : decode cX2_partner 17 = .ok (.iload_n 3, 1) := by decide +kernel
theorem dX2_partner_18 : decode cX2_partner 18 = .ok (.iload 4, 2) := by decide +kernel
theorem dX2_partner_20 : decode cX2_partner 20 = .ok (.ishr, 1) := by decide +kernel
theorem dX2_partner_21 : decode cX2_partner 21 = .ok (.iconst 1, 1) := by decide +kernel
theorem dX2_partner_22 : decode cX2_partner 22 = .ok (.iand, 1) := by decide +kernel
theorem dX2_partner_23 : decode cX2_partner 23 = .ok (.iconst 1, 1) := by decide +kernel
theorem dX2_partner_24 : decode cX2_partner 24 = .ok (.if_icmp .ne 40, 3) := by decide +kernel
theorem dX2_partner_27 : decode cX2_partner 27 = .ok (.aload_n 0, 1) := by decide +kernel
theorem dX2_partner_28 : decode cX2_partner 28 = .ok (.aload_n 1, 1) := by decide +kernel
theorem dX2_partner_29 : decode cX2_partner 29 = .ok (.iload_n 3, 1) := by decide +kernel
theorem dX2_partner_30 : decode cX2_partner 30 = .ok (.iload 4, 2) := by decide +kernel
theorem dX2_partner_32 : decode cX2_partner 32 = .ok (.invokevirtual 40, 3) := by decide +kernel
theorem dX2_partner_35 : decode cX2_partner 35 = .ok (.istore 5, 2) := by decide +kernel
theorem dX2_partner_37 : decode cX2_partner 37 = .ok (.iload 4, 2) := by decide +kernel
theorem dX2_partner_39 : decode cX2_partner 39 = .ok (.iload_n 2, 1) := by decide +kernel
theorem dX2_partner_40 : decode cX2_partner 40 = .ok (.if_icmp .ne 6, 3) := by decide +kernel
theorem dX2_partner_43 : decode cX2_partner 43 = .ok (.iload 5, 2) := by decide +kernel
theorem dX2_partner_45 : decode cX2_partner 45 = .ok (.ireturn, 1) := by decide +kernel
theorem dX2_partner_46 : decode cX2_partner 46 = .ok (.iload 5, 2) := by decide +kernel
theorem dX2_partner_48 : decode cX2_partner 48 = .ok (.iload_n 2, 1) := by decide +kernel
theorem dX2_partner_49 : decode cX2_partner 49 = .ok (.if_icmp .ne 6, 3) := by decide +kernel
theorem dX2_partner_52 : decode cX2_partner 52 = .ok (.iload 4, 2) := by decide +kernel
theorem dX2_partner_54 : decode cX2_partner 54 = .ok (.ireturn, 1) := by decide +kernel
theorem dX2_partner_55 : decode cX2_partner 55 = .ok (.iload_n 3, 1) := by decide +kernel
theorem dX2_partner_56 : decode cX2_partner 56 = .ok (.iload 4, 2) := by decide +kernel
theorem dX2_partner_58 : decode cX2_partner 58 = .ok (.iload 5, 2) := by decide +kernel
theorem dX2_partner_60 : decode cX2_partner 60 = .ok (.invokestatic 44, 3) := by decide +kernel
theorem dX2_partner_63 : decode cX2_partner 63 = .ok (.istore_n 3, 1) := by decide +kernel
theorem dX2_partner_64 : decode cX2_partner 64 = .ok (.iinc 4 1, 3) := by decide +kernel
theorem dX2_partner_67 : decode cX2_partner 67 = .ok (.goto (-59), 3) := by decide +kernel
theorem dX2_partner_70 : decode cX2_partner 70 = .ok (.iconst (-1), 1) := by decide +kernel
theorem dX2_partner_71 : decode cX2_partner 71 = .ok (.ireturn, 1) := by decide +kernel
set_option maxRecDepth 20000 in
theorem ggX2_firstPartner_X2_fit : GoodIn wsX2_firstPartner wsX2_fit := goodIn_r _ [6, 7, 8, 9, 10, 11, 12, 15, 16, 17, 18, 19, 20, 21, 22, 23, 24, 25, 26] rfl (by decide +kernel)
set_option maxRecDepth 20000 in
theorem gX2_firstPartner_X2_fit : GoodIn wsX2_firstPartner (va_wsS RX2 30 yX2_fit wsX2_fit) := goodIn_app (goodIn_of _ (by decide +kernel)) ggX2_firstPartner_X2_fit
theorem dX2_firstPartner_0 : decode cX2_firstPartner 0 = .ok (.iload_n 2, 1) := by decide +kernel
theorem dX2_firstPartner_1 : decode cX2_firstPartner 1 = .ok (.iconst 1, 1) := by decide +kernel
theorem dX2_firstPartner_2 : decode cX2_firstPartner 2 = .ok (.iload_n 3, 1) := by decide +kernel
theorem dX2_firstPartner_3 : decode cX2_firstPartner 3 = .ok (.ishl, 1) := by decide +kernel
theorem dX2_firstPartner_4 : decode cX2_firstPartner 4 = .ok (.iconst (-1), 1) := by decide +kernel
theorem dX2_firstPartner_5 : decode cX2_firstPartner 5 = .ok (.ixor, 1) := by decide +kernel
theorem dX2_firstPartner_6 : decode cX2_firstPartner 6 = .ok (.iand, 1) := by decide +kernel
theorem dX2_firstPartner_7 : decode cX2_firstPartner 7 = .ok (.istore 4, 2) := by decide +kernel
theorem dX2_firstPartner_9 : decode cX2_firstPartner 9 = .ok (.aload_n 0, 1) := by decide +kernel
theorem dX2_firstPartner_10 : decode cX2_firstPartner 10 = .ok (.getfield 11, 3) := by decide +kernel
theorem dX2_firstPartner_13 : decode cX2_firstPartner 13 = .ok (.iload 4, 2) := by decide +kernel
theorem dX2_firstPartner_15 : decode cX2_firstPartner 15 = .ok (.iaload, 1) := by decide +kernel
theorem dX2_firstPartner_16 : decode cX2_firstPartner 16 = .ok (.aload_n 0, 1) := by decide +kernel
theorem dX2_firstPartner_17 : decode cX2_firstPartner 17 = .ok (.getfield 11, 3) := by decide +kernel
theorem dX2_firstPartner_20 : decode cX2_firstPartner 20 = .ok (.iload_n 2, 1) := by decide +kernel
theorem dX2_firstPartner_21 : decode cX2_firstPartner 21 = .ok (.iaload, 1) := by decide +kernel
theorem dX2_firstPartner_22 : decode cX2_firstPartner 22 = .ok (.if_icmp .ne 5, 3) := by decide +kernel
theorem dX2_firstPartner_25 : decode cX2_firstPartner 25 = .ok (.iconst (-1), 1) := by decide +kernel
theorem dX2_firstPartner_26 : decode cX2_firstPartner 26 = .ok (.ireturn, 1) := by decide +kernel
theorem dX2_firstPartner_27 : decode cX2_firstPartner 27 = .ok (.iload_n 3, 1) := by decide +kernel
theorem dX2_firstPartner_28 : decode cX2_firstPartner 28 = .ok (.iconst 1, 1) := by decide +kernel
theorem dX2_firstPartner_29 : decode cX2_firstPartner 29 = .ok (.iadd, 1) := by decide +kernel
theorem dX2_firstPartner_30 : decode cX2_firstPartner 30 = .ok (.istore 5, 2) := by decide +kernel
theorem dX2_firstPartner_32 : decode cX2_firstPartner 32 = .ok (.iload 5, 2) := by decide +kernel
theorem dX2_firstPartner_34 : decode cX2_firstPartner 34 = .ok (.aload_n 1, 1) := by decide +kernel
theorem dX2_firstPartner_35 : decode cX2_firstPartner 35 = .ok (.getfield 17, 3) := by decide +kernel
theorem dX2_firstPartner_38 : decode cX2_firstPartner 38 = .ok (.if_icmp .ge 49, 3) := by decide +kernel
theorem dX2_firstPartner_41 : decode cX2_firstPartner 41 = .ok (.aload_n 1, 1) := by decide +kernel
theorem dX2_firstPartner_42 : decode cX2_firstPartner 42 = .ok (.iload 4, 2) := by decide +kernel
theorem dX2_firstPartner_44 : decode cX2_firstPartner 44 = .ok (.iload_n 3, 1) := by decide +kernel
theorem dX2_firstPartner_45 : decode cX2_firstPartner 45 = .ok (.iload 5, 2) := by decide +kernel
theorem dX2_firstPartner_47 : decode cX2_firstPartner 47 = .ok (.invokestatic 30, 3) := by decide +kernel
theorem dX2_firstPartner_50 : decode cX2_firstPartner 50 = .ok (.ifCond .eq 31, 3) := by decide +kernel
theorem dX2_firstPartner_53 : decode cX2_firstPartner 53 = .ok (.iconst 1, 1) := by decide +kernel
theorem dX2_firstPartner_54 : decode cX2_firstPartner 54 = .ok (.aload_n 0, 1) := by decide +kernel
theorem dX2_firstPartner_55 : decode cX2_firstPartner 55 = .ok (.getfield 11, 3) := by decide +kernel
theorem dX2_firstPartner_58 : decode cX2_firstPartner 58 = .ok (.iload 4, 2) := by decide +kernel
theorem dX2_firstPartner_60 : decode cX2_firstPartner 60 = .ok (.iconst 1, 1) := by decide +kernel
theorem dX2_firstPartner_61 : decode cX2_firstPartner 61 = .ok (.iload 5, 2) := by decide +kernel
theorem dX2_firstPartner_63 : decode cX2_firstPartner 63 = .ok (.ishl, 1) := by decide +kernel
theorem dX2_firstPartner_64 : decode cX2_firstPartner 64 = .ok (.iconst (-1), 1) := by decide +kernel
theorem dX2_firstPartner_65 : decode cX2_firstPartner 65 = .ok (.ixor, 1) := by decide +kernel
theorem dX2_firstPartner_66 : decode cX2_firstPartner 66 = .ok (.iand, 1) := by decide +kernel
theorem dX2_firstPartner_67 : decode cX2_firstPartner 67 = .ok (.iaload, 1) := by decide +kernel
theorem dX2_firstPartner_68 : decode cX2_firstPartner 68 = .ok (.iadd, 1) := by decide +kernel
theorem dX2_firstPartner_69 : decode cX2_firstPartner 69 = .ok (.aload_n 0, 1) := by decide +kernel
theorem dX2_firstPartner_70 : decode cX2_firstPartner 70 = .ok (.getfield 11, 3) := by decide +kernel
theorem dX2_firstPartner_73 : decode cX2_firstPartner 73 = .ok (.iload_n 2, 1) := by decide +kernel
theorem dX2_firstPartner_74 : decode cX2_firstPartner 74 = .ok (.iaload, 1) := by decide +kernel
theorem dX2_firstPartner_75 : decode cX2_firstPartner 75 = .ok (.if_icmp .ne 6, 3) := by decide +kernel
theorem dX2_firstPartner_78 : decode cX2_firstPartner 78 = .ok (.iload 5, 2) := by decide +kernel
theorem dX2_firstPartner_80 : decode cX2_firstPartner 80 = .ok (.ireturn, 1) := by decide +kernel
theorem dX2_firstPartner_81 : decode cX2_firstPartner 81 = .ok (.iinc 5 1, 3) := by decide +kernel
theorem dX2_firstPartner_84 : decode cX2_firstPartner 84 = .ok (.goto (-52), 3) := by decide +kernel
theorem dX2_firstPartner_87 : decode cX2_firstPartner 87 = .ok (.iconst (-1), 1) := by decide +kernel
theorem dX2_firstPartner_88 : decode cX2_firstPartner 88 = .ok (.ireturn, 1) := by decide +kernel
theorem dX2_without_0 : decode cX2_without 0 = .ok (.iload_n 0, 1) := by decide +kernel
theorem dX2_without_1 : decode cX2_without 1 = .ok (.iconst 1, 1) := by decide +kernel
theorem dX2_without_2 : decode cX2_without 2 = .ok (.iload_n 1, 1) := by decide +kernel
theorem dX2_without_3 : decode cX2_without 3 = .ok (.ishl, 1) := by decide +kernel
theorem dX2_without_4 : decode cX2_without 4 = .ok (.iconst (-1), 1) := by decide +kernel
theorem dX2_without_5 : decode cX2_without 5 = .ok (.ixor, 1) := by decide +kernel
theorem dX2_without_6 : decode cX2_without 6 = .ok (.iand, 1) := by decide +kernel
theorem dX2_without_7 : decode cX2_without 7 = .ok (.istore_n 3, 1) := by decide +kernel
theorem dX2_without_8 : decode cX2_without 8 = .ok (.iload_n 2, 1) := by decide +kernel
theorem dX2_without_9 : decode cX2_without 9 = .ok (.iconst (-1), 1) := by decide +kernel
theorem dX2_without_10 : decode cX2_without 10 = .ok (.if_icmp .ne 7, 3) := by decide +kernel
theorem dX2_without_13 : decode cX2_without 13 = .ok (.iload_n 3, 1) := by decide +kernel
theorem dX2_without_14 : decode cX2_without 14 = .ok (.goto 10, 3) := by decide +kernel
theorem dX2_without_17 : decode cX2_without 17 = .ok (.iload_n 3, 1) := by decide +kernel
theorem dX2_without_18 : decode cX2_without 18 = .ok (.iconst 1, 1) := by decide +kernel
theorem dX2_without_19 : decode cX2_without 19 = .ok (.iload_n 2, 1) := by decide +kernel
theorem dX2_without_20 : decode cX2_without 20 = .ok (.ishl, 1) := by decide +kernel
theorem dX2_without_21 : decode cX2_without 21 = .ok (.iconst (-1), 1) := by decide +kernel
theorem dX2_without_22 : decode cX2_without 22 = .ok (.ixor, 1) := by decide +kernel
theorem dX2_without_23 : decode cX2_without 23 = .ok (.iand, 1) := by decide +kernel
theorem dX2_without_24 : decode cX2_without 24 = .ok (.ireturn, 1) := by decide +kernel
theorem dX2_fit_0 : decode cX2_fit 0 = .ok (.iload_n 1, 1) := by decide +kernel
theorem dX2_fit_1 : decode cX2_fit 1 = .ok (.iload_n 3, 1) := by decide +kernel
theorem dX2_fit_2 : decode cX2_fit 2 = .ok (.ishr, 1) := by decide +kernel
theorem dX2_fit_3 : decode cX2_fit 3 = .ok (.iconst 1, 1) := by decide +kernel
theorem dX2_fit_4 : decode cX2_fit 4 = .ok (.iand, 1) := by decide +kernel
theorem dX2_fit_5 : decode cX2_fit 5 = .ok (.iconst 1, 1) := by decide +kernel
theorem dX2_fit_6 : decode cX2_fit 6 = .ok (.if_icmp .ne 42, 3) := by decide +kernel
theorem dX2_fit_9 : decode cX2_fit 9 = .ok (.aload_n 0, 1) := by decide +kernel
theorem dX2_fit_10 : decode cX2_fit 10 = .ok (.getfield 48, 3) := by decide +kernel
theorem dX2_fit_13 : decode cX2_fit 13 = .ok (.iload_n 2, 1) := by decide +kernel
theorem dX2_fit_14 : decode cX2_fit 14 = .ok (.iaload, 1) := by decide +kernel
theorem dX2_fit_15 : decode cX2_fit 15 = .ok (.aload_n 0, 1) := by decide +kernel
theorem dX2_fit_16 : decode cX2_fit 16 = .ok (.getfield 48, 3) := by decide +kernel
theorem dX2_fit_19 : decode cX2_fit 19 = .ok (.iload_n 3, 1) := by decide +kernel
theorem dX2_fit_20 : decode cX2_fit 20 = .ok (.iaload, 1) := by decide +kernel
theorem dX2_fit_21 : decode cX2_fit 21 = .ok (.if_icmp .ne 27, 3) := by decide +kernel
theorem dX2_fit_24 : decode cX2_fit 24 = .ok (.aload_n 0, 1) := by decide +kernel
theorem dX2_fit_25 : decode cX2_fit 25 = .ok (.getfield 51, 3) := by decide +kernel
theorem dX2_fit_28 : decode cX2_fit 28 = .ok (.iload_n 2, 1) := by decide +kernel
theorem dX2_fit_29 : decode cX2_fit 29 = .ok (.iaload, 1) := by decide +kernel
theorem dX2_fit_30 : decode cX2_fit 30 = .ok (.aload_n 0, 1) := by decide +kernel
theorem dX2_fit_31 : decode cX2_fit 31 = .ok (.getfield 51, 3) := by decide +kernel
theorem dX2_fit_34 : decode cX2_fit 34 = .ok (.iload_n 3, 1) := by decide +kernel
theorem dX2_fit_35 : decode cX2_fit 35 = .ok (.iaload, 1) := by decide +kernel
theorem dX2_fit_36 : decode cX2_fit 36 = .ok (.isub, 1) := by decide +kernel
theorem dX2_fit_37 : decode cX2_fit 37 = .ok (.invokestatic 54, 3) := by decide +kernel
theorem dX2_fit_40 : decode cX2_fit 40 = .ok (.iconst 1, 1) := by decide +kernel
theorem dX2_fit_41 : decode cX2_fit 41 = .ok (.if_icmp .gt 7, 3) := by decide +kernel
theorem dX2_fit_44 : decode cX2_fit 44 = .ok (.iconst 1, 1) := by decide +kernel
theorem dX2_fit_45 : decode cX2_fit 45 = .ok (.goto 4, 3) := by decide +kernel
theorem dX2_fit_48 : decode cX2_fit 48 = .ok (.iconst 0, 1) := by decide +kernel
theorem dX2_fit_49 : decode cX2_fit 49 = .ok (.ireturn, 1) := by decide +kernel
theorem dX3_init_0 : decode cX3_init 0 = .ok (.aload_n 0, 1) := by decide +kernel
theorem dX3_init_1 : decode cX3_init 1 = .ok (.invokespecial 3, 3) := by decide +kernel
theorem dX3_init_4 : decode cX3_init 4 = .ok (.aload_n 0, 1) := by decide +kernel
theorem dX3_init_5 : decode cX3_init 5 = .ok (.bipush 24, 2) := by decide +kernel
theorem dX3_init_7 : decode cX3_init 7 = .ok (.newarray .int, 2) := by decide +kernel
theorem dX3_init_9 : decode cX3_init 9 = .ok (.putfield 11, 3) := by decide +kernel
theorem dX3_init_12 : decode cX3_init 12 = .ok (.return_, 1) := by decide +kernel
theorem dX3_begin_0 : decode cX3_begin 0 = .ok (.aload_n 0, 1) := by decide +kernel
theorem dX3_begin_1 : decode cX3_begin 1 = .ok (.iconst (-1), 1) := by decide +kernel
theorem dX3_begin_2 : decode cX3_begin 2 = .ok (.putfield 17, 3) := by decide +kernel
theorem dX3_begin_5 : decode cX3_begin 5 = .ok (.aload_n 0, 1) := by decide +kernel
theorem dX3_begin_6 : decode cX3_begin 6 = .ok (.aload_n 0, 1) := by decide +kernel
theorem dX3_begin_7 : decode cX3_begin 7 = .ok (.getfield 11, 3) := by decide +kernel
theorem dX3_begin_10 : decode cX3_begin 10 = .ok (.arraylength, 1) := by decide +kernel
theorem dX3_begin_11 : decode cX3_begin 11 = .ok (.putfield 21, 3) := by decide +kernel
theorem dX3_begin_14 : decode cX3_begin 14 = .ok (.return_, 1) := by decide +kernel
theorem dX3_empty_0 : decode cX3_empty 0 = .ok (.iconst 0, 1) := by decide +kernel
theorem dX3_empty_1 : decode cX3_empty 1 = .ok (.istore_n 1, 1) := by decide +kernel
theorem dX3_empty_2 : decode cX3_empty 2 = .ok (.iload_n 1, 1) := by decide +kernel
theorem dX3_empty_3 : decode cX3_empty 3 = .ok (.aload_n 0, 1) := by decide +kernel
theorem dX3_empty_4 : decode cX3_empty 4 = .ok (.getfield 11, 3) := by decide +kernel
theorem dX3_empty_7 : decode cX3_empty 7 = .ok (.arraylength, 1) := by decide +kernel
theorem dX3_empty_8 : decode cX3_empty 8 = .ok (.if_icmp .ge 16, 3) := by decide +kernel
theorem dX3_empty_11 : decode cX3_empty 11 = .ok (.aload_n 0, 1) := by decide +kernel
theorem dX3_empty_12 : decode cX3_empty 12 = .ok (.getfield 11, 3) := by decide +kernel
theorem dX3_empty_15 : decode cX3_empty 15 = .ok (.iload_n 1, 1) := by decide +kernel
theorem dX3_empty_16 : decode cX3_empty 16 = .ok (.iconst 0, 1) := by decide +kernel
theorem dX3_empty_17 : decode cX3_empty 17 = .ok (.iastore, 1) := by decide +kernel
theorem dX3_empty_18 : decode cX3_empty 18 = .ok (.iinc 1 1, 3) := by decide +kernel
theorem dX3_empty_21 : decode cX3_empty 21 = .ok (.goto (-19), 3) := by decide +kernel
theorem dX3_empty_24 : decode cX3_empty 24 = .ok (.aload_n 0, 1) := by decide +kernel
theorem dX3_empty_25 : decode cX3_empty 25 = .ok (.iconst 0, 1) := by decide +kernel
theorem dX3_empty_26 : decode cX3_empty 26 = .ok (.putfield 24, 3) := by decide +kernel
theorem dX3_empty_29 : decode cX3_empty 29 = .ok (.return_, 1) := by decide +kernel
theorem dX3_add_0 : decode cX3_add 0 = .ok (.iload_n 1, 1) := by decide +kernel
theorem dX3_add_1 : decode cX3_add 1 = .ok (.ifCond .lt 39, 3) := by decide +kernel
theorem dX3_add_4 : decode cX3_add 4 = .ok (.iload_n 1, 1) := by decide +kernel
theorem dX3_add_5 : decode cX3_add 5 = .ok (.aload_n 0, 1) := by decide +kernel
theorem dX3_add_6 : decode cX3_add 6 = .ok (.getfield 11, 3) := by decide +kernel
theorem dX3_add_9 : decode cX3_add 9 = .ok (.arraylength, 1) := by decide +kernel
theorem dX3_add_10 : decode cX3_add 10 = .ok (.if_icmp .ge 30, 3) := by decide +kernel
theorem dX3_add_13 : decode cX3_add 13 = .ok (.aload_n 0, 1) := by decide +kernel
theorem dX3_add_14 : decode cX3_add 14 = .ok (.getfield 11, 3) := by decide +kernel
theorem dX3_add_17 : decode cX3_add 17 = .ok (.iload_n 1, 1) := by decide +kernel
theorem dX3_add_18 : decode cX3_add 18 = .ok (.dup2, 1) := by decide +kernel
theorem dX3_add_19 : decode cX3_add 19 = .ok (.iaload, 1) := by decide +kernel
theorem dX3_add_20 : decode cX3_add 20 = .ok (.iconst 1, 1) := by decide +kernel
theorem dX3_add_21 : decode cX3_add 21 = .ok (.iadd, 1) := by decide +kernel
theorem dX3_add_22 : decode cX3_add 22 = .ok (.iastore, 1) := by decide +kernel
theorem dX3_add_23 : decode cX3_add 23 = .ok (.aload_n 0, 1) := by decide +kernel
theorem dX3_add_24 : decode cX3_add 24 = .ok (.aload_n 0, 1) := by decide +kernel
theorem dX3_add_25 : decode cX3_add 25 = .ok (.getfield 24, 3) := by decide +kernel
theorem dX3_add_28 : decode cX3_add 28 = .ok (.aload_n 0, 1) := by decide +kernel
theorem dX3_add_29 : decode cX3_add 29 = .ok (.getfield 11, 3) := by decide +kernel
theorem dX3_add_32 : decode cX3_add 32 = .ok (.iload_n 1, 1) := by decide +kernel
theorem dX3_add_33 : decode cX3_add 33 = .ok (.iaload, 1) := by decide +kernel
theorem dX3_add_34 : decode cX3_add 34 = .ok (.invokestatic 27, 3) := by decide +kernel
theorem dX3_add_37 : decode cX3_add 37 = .ok (.putfield 24, 3) := by decide +kernel
theorem dX3_add_40 : decode cX3_add 40 = .ok (.return_, 1) := by decide +kernel
theorem dX3_offer_0 : decode cX3_offer 0 = .ok (.aload_n 0, 1) := by decide +kernel
theorem dX3_offer_1 : decode cX3_offer 1 = .ok (.getfield 24, 3) := by decide +kernel
theorem dX3_offer_4 : decode cX3_offer 4 = .ok (.ifCond .le 27, 3) := by decide +kernel
theorem dX3_offer_7 : decode cX3_offer 7 = .ok (.aload_n 0, 1) := by decide +kernel
theorem dX3_offer_8 : decode cX3_offer 8 = .ok (.getfield 24, 3) := by decide +kernel
theorem dX3_offer_11 : decode cX3_offer 11 = .ok (.aload_n 0, 1) := by decide +kernel
theorem dX3_offer_12 : decode cX3_offer 12 = .ok (.getfield 21, 3) := by decide +kernel
theorem dX3_offer_15 : decode cX3_offer 15 = .ok (.if_icmp .ge 16, 3) := by decide +kernel
theorem dX3_offer_18 : decode cX3_offer 18 = .ok (.aload_n 0, 1) := by decide +kernel
theorem dX3_offer_19 : decode cX3_offer 19 = .ok (.aload_n 0, 1) := by decide +kernel
theorem dX3_offer_20 : decode cX3_offer 20 = .ok (.getfield 24, 3) := by decide +kernel
theorem dX3_offer_23 : decode cX3_offer 23 = .ok (.putfield 21, 3) := by decide +kernel
theorem dX3_offer_26 : decode cX3_offer 26 = .ok (.aload_n 0, 1) := by decide +kernel
theorem dX3_offer_27 : decode cX3_offer 27 = .ok (.iload_n 1, 1) := by decide +kernel
theorem dX3_offer_28 : decode cX3_offer 28 = .ok (.putfield 17, 3) := by decide +kernel
theorem dX3_offer_31 : decode cX3_offer 31 = .ok (.return_, 1) := by decide +kernel
theorem dX4_init_0 : decode cX4_init 0 = .ok (.aload_n 0, 1) := by decide +kernel
theorem dX4_init_1 : decode cX4_init 1 = .ok (.invokespecial 5, 3) := by decide +kernel
theorem dX4_init_4 : decode cX4_init 4 = .ok (.aload_n 0, 1) := by decide +kernel
theorem dX4_init_5 : decode cX4_init 5 = .ok (.bipush 72, 2) := by decide +kernel
theorem dX4_init_7 : decode cX4_init 7 = .ok (.newarray .int, 2) := by decide +kernel
theorem dX4_init_9 : decode cX4_init 9 = .ok (.putfield 11, 3) := by decide +kernel
theorem dX4_init_12 : decode cX4_init 12 = .ok (.return_, 1) := by decide +kernel
theorem dX4_copy_0 : decode cX4_copy 0 = .ok (.aload_n 1, 1) := by decide +kernel
theorem dX4_copy_1 : decode cX4_copy 1 = .ok (.getfield 11, 3) := by decide +kernel
theorem dX4_copy_4 : decode cX4_copy 4 = .ok (.iconst 0, 1) := by decide +kernel
theorem dX4_copy_5 : decode cX4_copy 5 = .ok (.aload_n 0, 1) := by decide +kernel
theorem dX4_copy_6 : decode cX4_copy 6 = .ok (.getfield 11, 3) := by decide +kernel
theorem dX4_copy_9 : decode cX4_copy 9 = .ok (.iconst 0, 1) := by decide +kernel
theorem dX4_copy_10 : decode cX4_copy 10 = .ok (.bipush 72, 2) := by decide +kernel
theorem dX4_copy_12 : decode cX4_copy 12 = .ok (.invokestatic 15, 3) := by decide +kernel
theorem dX4_copy_15 : decode cX4_copy 15 = .ok (.aload_n 0, 1) := by decide +kernel
theorem dX4_copy_16 : decode cX4_copy 16 = .ok (.aload_n 1, 1) := by decide +kernel
theorem dX4_copy_17 : decode cX4_copy 17 = .ok (.getfield 21, 3) := by decide +kernel
theorem dX4_copy_20 : decode cX4_copy 20 = .ok (.putfield 21, 3) := by decide +kernel
theorem dX4_copy_23 : decode cX4_copy 23 = .ok (.return_, 1) := by decide +kernel
theorem dX4_keep_0 : decode cX4_keep 0 = .ok (.aload_n 0, 1) := by decide +kernel
theorem dX4_keep_1 : decode cX4_keep 1 = .ok (.getfield 21, 3) := by decide +kernel
theorem dX4_keep_4 : decode cX4_keep 4 = .ok (.bipush 8, 2) := by decide +kernel
theorem dX4_keep_6 : decode cX4_keep 6 = .ok (.if_icmp .lt 25, 3) := by decide +kernel
theorem dX4_keep_9 : decode cX4_keep 9 = .ok (.aload_n 0, 1) := by decide +kernel
theorem dX4_keep_10 : decode cX4_keep 10 = .ok (.getfield 11, 3) := by decide +kernel
theorem dX4_keep_13 : decode cX4_keep 13 = .ok (.bipush 9, 2) := by decide +kernel
theorem dX4_keep_15 : decode cX4_keep 15 = .ok (.aload_n 0, 1) := by decide +kernel
theorem dX4_keep_16 : decode cX4_keep 16 = .ok (.getfield 11, 3) := by decide +kernel
theorem dX4_keep_19 : decode cX4_keep 19 = .ok (.iconst 0, 1) := by decide +kernel
theorem dX4_keep_20 : decode cX4_keep 20 = .ok (.bipush 63, 2) := by decide +kernel
theorem dX4_keep_22 : decode cX4_keep 22 = .ok (.invokestatic 15, 3) := by decide +kernel
theorem dX4_keep_25 : decode cX4_keep 25 = .ok (.aload_n 0, 1) := by decide +kernel
theorem dX4_keep_26 : decode cX4_keep 26 = .ok (.bipush 7, 2) := by decide +kernel
theorem dX4_keep_28 : decode cX4_keep 28 = .ok (.putfield 21, 3) := by decide +kernel
theorem dX4_keep_31 : decode cX4_keep 31 = .ok (.aload_n 0, 1) := by decide +kernel
theorem dX4_keep_32 : decode cX4_keep 32 = .ok (.getfield 21, 3) := by decide +kernel
theorem dX4_keep_35 : decode cX4_keep 35 = .ok (.bipush 9, 2) := by decide +kernel
theorem dX4_keep_37 : decode cX4_keep 37 = .ok (.imul, 1) := by decide +kernel
theorem dX4_keep_38 : decode cX4_keep 38 = .ok (.istore_n 2, 1) := by decide +kernel
theorem dX4_keep_39 : decode cX4_keep 39 = .ok (.aload_n 1, 1) := by decide +kernel
theorem dX4_keep_40 : decode cX4_keep 40 = .ok (.getfield 25, 3) := by decide +kernel
theorem dX4_keep_43 : decode cX4_keep 43 = .ok (.iconst 0, 1) := by decide +kernel
theorem dX4_keep_44 : decode cX4_keep 44 = .ok (.aload_n 0, 1) := by decide +kernel
theorem dX4_keep_45 : decode cX4_keep 45 = .ok (.getfield 11, 3) := by decide +kernel
theorem dX4_keep_48 : decode cX4_keep 48 = .ok (.iload_n 2, 1) := by decide +kernel
theorem dX4_keep_49 : decode cX4_keep 49 = .ok (.bipush 7, 2) := by decide +kernel
theorem dX4_keep_51 : decode cX4_keep 51 = .ok (.invokestatic 15, 3) := by decide +kernel
theorem dX4_keep_54 : decode cX4_keep 54 = .ok (.aload_n 0, 1) := by decide +kernel
theorem dX4_keep_55 : decode cX4_keep 55 = .ok (.getfield 11, 3) := by decide +kernel
theorem dX4_keep_58 : decode cX4_keep 58 = .ok (.iload_n 2, 1) := by decide +kernel
theorem dX4_keep_59 : decode cX4_keep 59 = .ok (.bipush 7, 2) := by decide +kernel
theorem dX4_keep_61 : decode cX4_keep 61 = .ok (.iadd, 1) := by decide +kernel
theorem dX4_keep_62 : decode cX4_keep 62 = .ok (.aload_n 1, 1) := by decide +kernel
theorem dX4_keep_63 : decode cX4_keep 63 = .ok (.getfield 28, 3) := by decide +kernel
theorem dX4_keep_66 : decode cX4_keep 66 = .ok (.iastore, 1) := by decide +kernel
theorem dX4_keep_67 : decode cX4_keep 67 = .ok (.aload_n 0, 1) := by decide +kernel
theorem dX4_keep_68 : decode cX4_keep 68 = .ok (.getfield 11, 3) := by decide +kernel
theorem dX4_keep_71 : decode cX4_keep 71 = .ok (.iload_n 2, 1) := by decide +kernel
theorem dX4_keep_72 : decode cX4_keep 72 = .ok (.bipush 8, 2) := by decide +kernel
theorem dX4_keep_74 : decode cX4_keep 74 = .ok (.iadd, 1) := by decide +kernel
theorem dX4_keep_75 : decode cX4_keep 75 = .ok (.aload_n 1, 1) := by decide +kernel
theorem dX4_keep_76 : decode cX4_keep 76 = .ok (.getfield 31, 3) := by decide +kernel
theorem dX4_keep_79 : decode cX4_keep 79 = .ok (.iastore, 1) := by decide +kernel
theorem dX4_keep_80 : decode cX4_keep 80 = .ok (.aload_n 0, 1) := by decide +kernel
theorem dX4_keep_81 : decode cX4_keep 81 = .ok (.dup, 1) := by decide +kernel
theorem dX4_keep_82 : decode cX4_keep 82 = .ok (.getfield 21, 3) := by decide +kernel
theorem dX4_keep_85 : decode cX4_keep 85 = .ok (.iconst 1, 1) := by decide +kernel
theorem dX4_keep_86 : decode cX4_keep 86 = .ok (.iadd, 1) := by decide +kernel
theorem dX4_keep_87 : decode cX4_keep 87 = .ok (.putfield 21, 3) := by decide +kernel
theorem dX4_keep_90 : decode cX4_keep 90 = .ok (.return_, 1) := by decide +kernel
theorem dX4_bringBack_0 : decode cX4_bringBack 0 = .ok (.aload_n 0, 1) := by decide +kernel
theorem dX4_bringBack_1 : decode cX4_bringBack 1 = .ok (.getfield 21, 3) := by decide +kernel
theorem dX4_bringBack_4 : decode cX4_bringBack 4 = .ok (.ifCond .gt 4, 3) := by decide +kernel
theorem dX4_bringBack_7 : decode cX4_bringBack 7 = .ok (.return_, 1) := by decide +kernel
theorem dX4_bringBack_8 : decode cX4_bringBack 8 = .ok (.aload_n 0, 1) := by decide +kernel
theorem dX4_bringBack_9 : decode cX4_bringBack 9 = .ok (.dup, 1) := by decide +kernel
theorem dX4_bringBack_10 : decode cX4_bringBack 10 = .ok (.getfield 21, 3) := by decide +kernel
theorem dX4_bringBack_13 : decode cX4_bringBack 13 = .ok (.iconst 1, 1) := by decide +kernel
theorem dX4_bringBack_14 : decode cX4_bringBack 14 = .ok (.isub, 1) := by decide +kernel
theorem dX4_bringBack_15 : decode cX4_bringBack 15 = .ok (.putfield 21, 3) := by decide +kernel
theorem dX4_bringBack_18 : decode cX4_bringBack 18 = .ok (.aload_n 0, 1) := by decide +kernel
theorem dX4_bringBack_19 : decode cX4_bringBack 19 = .ok (.getfield 21, 3) := by decide +kernel
theorem dX4_bringBack_22 : decode cX4_bringBack 22 = .ok (.bipush 9, 2) := by decide +kernel
theorem dX4_bringBack_24 : decode cX4_bringBack 24 = .ok (.imul, 1) := by decide +kernel
theorem dX4_bringBack_25 : decode cX4_bringBack 25 = .ok (.istore_n 2, 1) := by decide +kernel
theorem dX4_bringBack_26 : decode cX4_bringBack 26 = .ok (.aload_n 0, 1) := by decide +kernel
theorem dX4_bringBack_27 : decode cX4_bringBack 27 = .ok (.getfield 11, 3) := by decide +kernel
theorem dX4_bringBack_30 : decode cX4_bringBack 30 = .ok (.iload_n 2, 1) := by decide +kernel
theorem dX4_bringBack_31 : decode cX4_bringBack 31 = .ok (.aload_n 1, 1) := by decide +kernel
theorem dX4_bringBack_32 : decode cX4_bringBack 32 = .ok (.getfield 25, 3) := by decide +kernel
theorem dX4_bringBack_35 : decode cX4_bringBack 35 = .ok (.iconst 0, 1) := by decide +kernel
theorem dX4_bringBack_36 : decode cX4_bringBack 36 = .ok (.bipush 7, 2) := by decide +kernel
theorem dX4_bringBack_38 : decode cX4_bringBack 38 = .ok (.invokestatic 15, 3) := by decide +kernel
theorem dX4_bringBack_41 : decode cX4_bringBack 41 = .ok (.aload_n 1, 1) := by decide +kernel
theorem dX4_bringBack_42 : decode cX4_bringBack 42 = .ok (.aload_n 0, 1) := by decide +kernel
theorem dX4_bringBack_43 : decode cX4_bringBack 43 = .ok (.getfield 11, 3) := by decide +kernel
theorem dX4_bringBack_46 : decode cX4_bringBack 46 = .ok (.iload_n 2, 1) := by decide +kernel
theorem dX4_bringBack_47 : decode cX4_bringBack 47 = .ok (.bipush 7, 2) := by decide +kernel
theorem dX4_bringBack_49 : decode cX4_bringBack 49 = .ok (.iadd, 1) := by decide +kernel
theorem dX4_bringBack_50 : decode cX4_bringBack 50 = .ok (.iaload, 1) := by decide +kernel
theorem dX4_bringBack_51 : decode cX4_bringBack 51 = .ok (.putfield 28, 3) := by decide +kernel
theorem dX4_bringBack_54 : decode cX4_bringBack 54 = .ok (.aload_n 1, 1) := by decide +kernel
theorem dX4_bringBack_55 : decode cX4_bringBack 55 = .ok (.aload_n 0, 1) := by decide +kernel
theorem dX4_bringBack_56 : decode cX4_bringBack 56 = .ok (.getfield 11, 3) := by decide +kernel
theorem dX4_bringBack_59 : decode cX4_bringBack 59 = .ok (.iload_n 2, 1) := by decide +kernel
theorem dX4_bringBack_60 : decode cX4_bringBack 60 = .ok (.bipush 8, 2) := by decide +kernel
theorem dX4_bringBack_62 : decode cX4_bringBack 62 = .ok (.iadd, 1) := by decide +kernel
theorem dX4_bringBack_63 : decode cX4_bringBack 63 = .ok (.iaload, 1) := by decide +kernel
theorem dX4_bringBack_64 : decode cX4_bringBack 64 = .ok (.putfield 31, 3) := by decide +kernel
theorem dX4_bringBack_67 : decode cX4_bringBack 67 = .ok (.return_, 1) := by decide +kernel
set_option maxRecDepth 20000 in
theorem ggX5_init_X9_init : GoodIn wsX5_init wsX9_init := goodIn_r _ [13, 14, 2, 3, 15, 16, 28, 29, 30, 31, 32, 33] rfl (by decide +kernel)
set_option maxRecDepth 20000 in
theorem gX5_init_X9_init_n11 : GoodIn wsX5_init (wsX9_init) := ggX5_init_X9_init
set_option maxRecDepth 20000 in
theorem ggX5_init_X8_init : GoodIn wsX5_init wsX8_init := goodIn_r _ [18, 19, 2, 3, 15, 20, 21, 22, 23, 24, 25, 26, 27, 36, 37, 38, 39, 40, 41, 42, 43, 44, 45, 46, 47] rfl (by decide +kernel)
set_option maxRecDepth 20000 in
theorem gX5_init_X8_init_n20 : GoodIn wsX5_init (wsX8_init) := ggX5_init_X8_init
theorem dX5_init_0 : decode cX5_init 0 = .ok (.aload_n 0, 1) := by decide +kernel
theorem dX5_init_1 : decode cX5_init 1 = .ok (.invokespecial 3, 3) := by decide +kernel
theorem dX5_init_4 : decode cX5_init 4 = .ok (.aload_n 0, 1) := by decide +kernel
theorem dX5_init_5 : decode cX5_init 5 = .ok (.new 9, 3) := by decide +kernel
theorem dX5_init_8 : decode cX5_init 8 = .ok (.dup, 1) := by decide +kernel
theorem dX5_init_9 : decode cX5_init 9 = .ok (.invokespecial 11, 3) := by decide +kernel
theorem dX5_init_12 : decode cX5_init 12 = .ok (.putfield 12, 3) := by decide +kernel
theorem dX5_init_15 : decode cX5_init 15 = .ok (.aload_n 0, 1) := by decide +kernel
theorem dX5_init_16 : decode cX5_init 16 = .ok (.new 18, 3) := by decide +kernel
theorem dX5_init_19 : decode cX5_init 19 = .ok (.dup, 1) := by decide +kernel
theorem dX5_init_20 : decode cX5_init 20 = .ok (.invokespecial 20, 3) := by decide +kernel
theorem dX5_init_23 : decode cX5_init 23 = .ok (.putfield 21, 3) := by decide +kernel
theorem dX5_init_26 : decode cX5_init 26 = .ok (.return_, 1) := by decide +kernel
theorem dX6_init_0 : decode cX6_init 0 = .ok (.aload_n 0, 1) := by decide +kernel
theorem dX6_init_1 : decode cX6_init 1 = .ok (.invokespecial 1, 3) := by decide +kernel
theorem dX6_init_4 : decode cX6_init 4 = .ok (.aload_n 0, 1) := by decide +kernel
theorem dX6_init_5 : decode cX6_init 5 = .ok (.bipush 24, 2) := by decide +kernel
theorem dX6_init_7 : decode cX6_init 7 = .ok (.newarray .int, 2) := by decide +kernel
theorem dX6_init_9 : decode cX6_init 9 = .ok (.putfield 9, 3) := by decide +kernel
theorem dX6_init_12 : decode cX6_init 12 = .ok (.aload_n 0, 1) := by decide +kernel
theorem dX6_init_13 : decode cX6_init 13 = .ok (.iload_n 1, 1) := by decide +kernel
theorem dX6_init_14 : decode cX6_init 14 = .ok (.bipush 6, 2) := by decide +kernel
theorem dX6_init_16 : decode cX6_init 16 = .ok (.invokestatic 13, 3) := by decide +kernel
theorem dX6_init_19 : decode cX6_init 19 = .ok (.putfield 19, 3) := by decide +kernel
theorem dX6_init_22 : decode cX6_init 22 = .ok (.aload_n 0, 1) := by decide +kernel
theorem dX6_init_23 : decode cX6_init 23 = .ok (.iload_n 2, 1) := by decide +kernel
theorem dX6_init_24 : decode cX6_init 24 = .ok (.iconst 4, 1) := by decide +kernel
theorem dX6_init_25 : decode cX6_init 25 = .ok (.invokestatic 13, 3) := by decide +kernel
theorem dX6_init_28 : decode cX6_init 28 = .ok (.putfield 23, 3) := by decide +kernel
theorem dX6_init_31 : decode cX6_init 31 = .ok (.return_, 1) := by decide +kernel
theorem dX6_copy_0 : decode cX6_copy 0 = .ok (.aload_n 1, 1) := by decide +kernel
theorem dX6_copy_1 : decode cX6_copy 1 = .ok (.getfield 9, 3) := by decide +kernel
theorem dX6_copy_4 : decode cX6_copy 4 = .ok (.iconst 0, 1) := by decide +kernel
theorem dX6_copy_5 : decode cX6_copy 5 = .ok (.aload_n 0, 1) := by decide +kernel
theorem dX6_copy_6 : decode cX6_copy 6 = .ok (.getfield 9, 3) := by decide +kernel
theorem dX6_copy_9 : decode cX6_copy 9 = .ok (.iconst 0, 1) := by decide +kernel
theorem dX6_copy_10 : decode cX6_copy 10 = .ok (.bipush 24, 2) := by decide +kernel
theorem dX6_copy_12 : decode cX6_copy 12 = .ok (.invokestatic 26, 3) := by decide +kernel
theorem dX6_copy_15 : decode cX6_copy 15 = .ok (.aload_n 0, 1) := by decide +kernel
theorem dX6_copy_16 : decode cX6_copy 16 = .ok (.aload_n 1, 1) := by decide +kernel
theorem dX6_copy_17 : decode cX6_copy 17 = .ok (.getfield 32, 3) := by decide +kernel
theorem dX6_copy_20 : decode cX6_copy 20 = .ok (.putfield 32, 3) := by decide +kernel
theorem dX6_copy_23 : decode cX6_copy 23 = .ok (.return_, 1) := by decide +kernel
theorem dX6_empty_0 : decode cX6_empty 0 = .ok (.aload_n 0, 1) := by decide +kernel
theorem dX6_empty_1 : decode cX6_empty 1 = .ok (.getfield 32, 3) := by decide +kernel
theorem dX6_empty_4 : decode cX6_empty 4 = .ok (.istore_n 1, 1) := by decide +kernel
theorem dX6_empty_5 : decode cX6_empty 5 = .ok (.aload_n 0, 1) := by decide +kernel
theorem dX6_empty_6 : decode cX6_empty 6 = .ok (.iconst 0, 1) := by decide +kernel
theorem dX6_empty_7 : decode cX6_empty 7 = .ok (.putfield 32, 3) := by decide +kernel
theorem dX6_empty_10 : decode cX6_empty 10 = .ok (.iload_n 1, 1) := by decide +kernel
theorem dX6_empty_11 : decode cX6_empty 11 = .ok (.ireturn, 1) := by decide +kernel
theorem dX6_add_0 : decode cX6_add 0 = .ok (.aload_n 0, 1) := by decide +kernel
theorem dX6_add_1 : decode cX6_add 1 = .ok (.getfield 32, 3) := by decide +kernel
theorem dX6_add_4 : decode cX6_add 4 = .ok (.aload_n 0, 1) := by decide +kernel
theorem dX6_add_5 : decode cX6_add 5 = .ok (.getfield 19, 3) := by decide +kernel
theorem dX6_add_8 : decode cX6_add 8 = .ok (.if_icmp .lt 5, 3) := by decide +kernel
theorem dX6_add_11 : decode cX6_add 11 = .ok (.iconst 0, 1) := by decide +kernel
theorem dX6_add_12 : decode cX6_add 12 = .ok (.ireturn, 1) := by decide +kernel
theorem dX6_add_13 : decode cX6_add 13 = .ok (.aload_n 0, 1) := by decide +kernel
theorem dX6_add_14 : decode cX6_add 14 = .ok (.getfield 32, 3) := by decide +kernel
theorem dX6_add_17 : decode cX6_add 17 = .ok (.iconst 4, 1) := by decide +kernel
theorem dX6_add_18 : decode cX6_add 18 = .ok (.imul, 1) := by decide +kernel
theorem dX6_add_19 : decode cX6_add 19 = .ok (.istore 5, 2) := by decide +kernel
theorem dX6_add_21 : decode cX6_add 21 = .ok (.aload_n 0, 1) := by decide +kernel
theorem dX6_add_22 : decode cX6_add 22 = .ok (.getfield 9, 3) := by decide +kernel
theorem dX6_add_25 : decode cX6_add 25 = .ok (.iload 5, 2) := by decide +kernel
theorem dX6_add_27 : decode cX6_add 27 = .ok (.iload_n 1, 1) := by decide +kernel
theorem dX6_add_28 : decode cX6_add 28 = .ok (.iastore, 1) := by decide +kernel
theorem dX6_add_29 : decode cX6_add 29 = .ok (.aload_n 0, 1) := by decide +kernel
theorem dX6_add_30 : decode cX6_add 30 = .ok (.getfield 9, 3) := by decide +kernel
theorem dX6_add_33 : decode cX6_add 33 = .ok (.iload 5, 2) := by decide +kernel
theorem dX6_add_35 : decode cX6_add 35 = .ok (.iconst 1, 1) := by decide +kernel
theorem dX6_add_36 : decode cX6_add 36 = .ok (.iadd, 1) := by decide +kernel
theorem dX6_add_37 : decode cX6_add 37 = .ok (.iload_n 2, 1) := by decide +kernel
theorem dX6_add_38 : decode cX6_add 38 = .ok (.iastore, 1) := by decide +kernel
theorem dX6_add_39 : decode cX6_add 39 = .ok (.aload_n 0, 1) := by decide +kernel
theorem dX6_add_40 : decode cX6_add 40 = .ok (.getfield 9, 3) := by decide +kernel
theorem dX6_add_43 : decode cX6_add 43 = .ok (.iload 5, 2) := by decide +kernel
theorem dX6_add_45 : decode cX6_add 45 = .ok (.iconst 2, 1) := by decide +kernel
theorem dX6_add_46 : decode cX6_add 46 = .ok (.iadd, 1) := by decide +kernel
theorem dX6_add_47 : decode cX6_add 47 = .ok (.iload_n 3, 1) := by decide +kernel
theorem dX6_add_48 : decode cX6_add 48 = .ok (.iastore, 1) := by decide +kernel
theorem dX6_add_49 : decode cX6_add 49 = .ok (.aload_n 0, 1) := by decide +kernel
theorem dX6_add_50 : decode cX6_add 50 = .ok (.getfield 9, 3) := by decide +kernel
theorem dX6_add_53 : decode cX6_add 53 = .ok (.iload 5, 2) := by decide +kernel
theorem dX6_add_55 : decode cX6_add 55 = .ok (.iconst 3, 1) := by decide +kernel
theorem dX6_add_56 : decode cX6_add 56 = .ok (.iadd, 1) := by decide +kernel
theorem dX6_add_57 : decode cX6_add 57 = .ok (.iload 4, 2) := by decide +kernel
theorem dX6_add_59 : decode cX6_add 59 = .ok (.iastore, 1) := by decide +kernel
theorem dX6_add_60 : decode cX6_add 60 = .ok (.aload_n 0, 1) := by decide +kernel
theorem dX6_add_61 : decode cX6_add 61 = .ok (.dup, 1) := by decide +kernel
theorem dX6_add_62 : decode cX6_add 62 = .ok (.getfield 32, 3) := by decide +kernel
theorem dX6_add_65 : decode cX6_add 65 = .ok (.iconst 1, 1) := by decide +kernel
theorem dX6_add_66 : decode cX6_add 66 = .ok (.iadd, 1) := by decide +kernel
theorem dX6_add_67 : decode cX6_add 67 = .ok (.putfield 32, 3) := by decide +kernel
theorem dX6_add_70 : decode cX6_add 70 = .ok (.iconst 1, 1) := by decide +kernel
theorem dX6_add_71 : decode cX6_add 71 = .ok (.ireturn, 1) := by decide +kernel
theorem dX6_cell_0 : decode cX6_cell 0 = .ok (.aload_n 0, 1) := by decide +kernel
theorem dX6_cell_1 : decode cX6_cell 1 = .ok (.getfield 9, 3) := by decide +kernel
theorem dX6_cell_4 : decode cX6_cell 4 = .ok (.iload_n 1, 1) := by decide +kernel
theorem dX6_cell_5 : decode cX6_cell 5 = .ok (.iconst 4, 1) := by decide +kernel
theorem dX6_cell_6 : decode cX6_cell 6 = .ok (.imul, 1) := by decide +kernel
theorem dX6_cell_7 : decode cX6_cell 7 = .ok (.iload_n 2, 1) := by decide +kernel
theorem dX6_cell_8 : decode cX6_cell 8 = .ok (.iadd, 1) := by decide +kernel
theorem dX6_cell_9 : decode cX6_cell 9 = .ok (.iaload, 1) := by decide +kernel
theorem dX6_cell_10 : decode cX6_cell 10 = .ok (.ireturn, 1) := by decide +kernel
set_option maxRecDepth 20000 in
theorem ggX7_init_X8_init : GoodIn wsX7_init wsX8_init := goodIn_r _ [19, 20, 2, 3, 21, 22, 23, 24, 25, 26, 27, 28, 29, 45, 46, 47, 48, 49, 50, 51, 52, 53, 54, 55, 56] rfl (by decide +kernel)
set_option maxRecDepth 20000 in
theorem gX7_init_X8_init_n9 : GoodIn wsX7_init (wsX8_init) := ggX7_init_X8_init
set_option maxRecDepth 20000 in
theorem ggX7_init_X4_init : GoodIn wsX7_init wsX4_init := goodIn_r _ [31, 32, 2, 3, 21, 33, 62, 63] rfl (by decide +kernel)
set_option maxRecDepth 20000 in
theorem gX7_init_X4_init_n18 : GoodIn wsX7_init (wsX4_init) := ggX7_init_X4_init
set_option maxRecDepth 20000 in
theorem ggX7_init_X6_init : GoodIn wsX7_init wsX6_init := goodIn_r _ [36, 37, 2, 3, 21, 38, 39, 40, 41, 42, 43, 44, 64, 65, 66, 67] rfl (by decide +kernel)
set_option maxRecDepth 20000 in
theorem gX7_init_X6_init : GoodIn wsX7_init (wsX6_init) := ggX7_init_X6_init
theorem dX7_init_0 : decode cX7_init 0 = .ok (.aload_n 0, 1) := by decide +kernel
theorem dX7_init_1 : decode cX7_init 1 = .ok (.invokespecial 1, 3) := by decide +kernel
theorem dX7_init_4 : decode cX7_init 4 = .ok (.aload_n 0, 1) := by decide +kernel
theorem dX7_init_5 : decode cX7_init 5 = .ok (.new 7, 3) := by decide +kernel
theorem dX7_init_8 : decode cX7_init 8 = .ok (.dup, 1) := by decide +kernel
theorem dX7_init_9 : decode cX7_init 9 = .ok (.invokespecial 9, 3) := by decide +kernel
theorem dX7_init_12 : decode cX7_init 12 = .ok (.putfield 10, 3) := by decide +kernel
theorem dX7_init_15 : decode cX7_init 15 = .ok (.aload_n 0, 1) := by decide +kernel
theorem dX7_init_16 : decode cX7_init 16 = .ok (.new 16, 3) := by decide +kernel
theorem dX7_init_19 : decode cX7_init 19 = .ok (.dup, 1) := by decide +kernel
theorem dX7_init_20 : decode cX7_init 20 = .ok (.invokespecial 18, 3) := by decide +kernel
theorem dX7_init_23 : decode cX7_init 23 = .ok (.putfield 19, 3) := by decide +kernel
theorem dX7_init_26 : decode cX7_init 26 = .ok (.aload_n 0, 1) := by decide +kernel
theorem dX7_init_27 : decode cX7_init 27 = .ok (.new 23, 3) := by decide +kernel
theorem dX7_init_30 : decode cX7_init 30 = .ok (.dup, 1) := by decide +kernel
theorem dX7_init_31 : decode cX7_init 31 = .ok (.iconst 5, 1) := by decide +kernel
theorem dX7_init_32 : decode cX7_init 32 = .ok (.iconst 2, 1) := by decide +kernel
theorem dX7_init_33 : decode cX7_init 33 = .ok (.invokespecial 25, 3) := by decide +kernel
theorem dX7_init_36 : decode cX7_init 36 = .ok (.putfield 28, 3) := by decide +kernel
theorem dX7_init_39 : decode cX7_init 39 = .ok (.aload_n 0, 1) := by decide +kernel
theorem dX7_init_40 : decode cX7_init 40 = .ok (.new 23, 3) := by decide +kernel
theorem dX7_init_43 : decode cX7_init 43 = .ok (.dup, 1) := by decide +kernel
theorem dX7_init_44 : decode cX7_init 44 = .ok (.bipush 6, 2) := by decide +kernel
theorem dX7_init_46 : decode cX7_init 46 = .ok (.iconst 4, 1) := by decide +kernel
theorem dX7_init_47 : decode cX7_init 47 = .ok (.invokespecial 25, 3) := by decide +kernel
theorem dX7_init_50 : decode cX7_init 50 = .ok (.putfield 32, 3) := by decide +kernel
theorem dX7_init_53 : decode cX7_init 53 = .ok (.aload_n 0, 1) := by decide +kernel
theorem dX7_init_54 : decode cX7_init 54 = .ok (.new 23, 3) := by decide +kernel
theorem dX7_init_57 : decode cX7_init 57 = .ok (.dup, 1) := by decide +kernel
theorem dX7_init_58 : decode cX7_init 58 = .ok (.bipush 6, 2) := by decide +kernel
theorem dX7_init_60 : decode cX7_init 60 = .ok (.iconst 4, 1) := by decide +kernel
theorem dX7_init_61 : decode cX7_init 61 = .ok (.invokespecial 25, 3) := by decide +kernel
theorem dX7_init_64 : decode cX7_init 64 = .ok (.putfield 35, 3) := by decide +kernel
theorem dX7_init_67 : decode cX7_init 67 = .ok (.return_, 1) := by decide +kernel
set_option maxRecDepth 20000 in
theorem ggX7_empty_X8_empty : GoodIn wsX7_empty wsX8_empty := goodIn_r _ [11, 12, 13, 14, 15, 16, 17, 31, 32, 33, 34, 35, 36, 37, 38, 39, 40, 41, 42] rfl (by decide +kernel)
set_option maxRecDepth 20000 in
theorem gX7_empty_X8_empty : GoodIn wsX7_empty (wsV RX7 38 RX8 yX8_empty wsX8_empty) := goodIn_app (goodIn_of _ (by decide +kernel)) ggX7_empty_X8_empty
set_option maxRecDepth 20000 in
theorem ggX7_empty_X6_empty : GoodIn wsX7_empty wsX6_empty := goodIn_r _ [22, 23, 43, 44, 45, 46] rfl (by decide +kernel)
set_option maxRecDepth 20000 in
theorem gX7_empty_X6_empty : GoodIn wsX7_empty (wsV RX7 45 RX6 yX6_empty wsX6_empty) := goodIn_app (goodIn_of _ (by decide +kernel)) ggX7_empty_X6_empty
theorem dX7_empty_0 : decode cX7_empty 0 = .ok (.aload_n 0, 1) := by decide +kernel
theorem dX7_empty_1 : decode cX7_empty 1 = .ok (.getfield 10, 3) := by decide +kernel
theorem dX7_empty_4 : decode cX7_empty 4 = .ok (.invokevirtual 38, 3) := by decide +kernel
theorem dX7_empty_7 : decode cX7_empty 7 = .ok (.aload_n 0, 1) := by decide +kernel
theorem dX7_empty_8 : decode cX7_empty 8 = .ok (.getfield 19, 3) := by decide +kernel
theorem dX7_empty_11 : decode cX7_empty 11 = .ok (.iconst 0, 1) := by decide +kernel
theorem dX7_empty_12 : decode cX7_empty 12 = .ok (.putfield 41, 3) := by decide +kernel
theorem dX7_empty_15 : decode cX7_empty 15 = .ok (.aload_n 0, 1) := by decide +kernel
theorem dX7_empty_16 : decode cX7_empty 16 = .ok (.getfield 28, 3) := by decide +kernel
theorem dX7_empty_19 : decode cX7_empty 19 = .ok (.invokevirtual 45, 3) := by decide +kernel
theorem dX7_empty_22 : decode cX7_empty 22 = .ok (.pop, 1) := by decide +kernel
theorem dX7_empty_23 : decode cX7_empty 23 = .ok (.aload_n 0, 1) := by decide +kernel
theorem dX7_empty_24 : decode cX7_empty 24 = .ok (.getfield 32, 3) := by decide +kernel
theorem dX7_empty_27 : decode cX7_empty 27 = .ok (.invokevirtual 45, 3) := by decide +kernel
theorem dX7_empty_30 : decode cX7_empty 30 = .ok (.pop, 1) := by decide +kernel
theorem dX7_empty_31 : decode cX7_empty 31 = .ok (.aload_n 0, 1) := by decide +kernel
theorem dX7_empty_32 : decode cX7_empty 32 = .ok (.getfield 35, 3) := by decide +kernel
theorem dX7_empty_35 : decode cX7_empty 35 = .ok (.invokevirtual 45, 3) := by decide +kernel
theorem dX7_empty_38 : decode cX7_empty 38 = .ok (.pop, 1) := by decide +kernel
theorem dX7_empty_39 : decode cX7_empty 39 = .ok (.return_, 1) := by decide +kernel
set_option maxRecDepth 20000 in
theorem ggX7_copy_X8_copy : GoodIn wsX7_copy wsX8_copy := goodIn_r _ [10, 11, 12, 13, 14, 15, 16, 17, 18, 19, 20, 21, 22, 23, 24, 25, 47, 48, 49, 50, 51, 52, 53, 54, 55, 56, 57, 58] rfl (by decide +kernel)
set_option maxRecDepth 20000 in
theorem gX7_copy_X8_copy : GoodIn wsX7_copy (wsV RX7 48 RX8 yX8_copy wsX8_copy) := goodIn_app (goodIn_of _ (by decide +kernel)) ggX7_copy_X8_copy
set_option maxRecDepth 20000 in
theorem ggX7_copy_X4_copy : GoodIn wsX7_copy wsX4_copy := goodIn_r _ [30, 31, 32, 13, 14, 15, 33, 59, 60] rfl (by decide +kernel)
set_option maxRecDepth 20000 in
theorem gX7_copy_X4_copy : GoodIn wsX7_copy (wsV RX7 52 RX4 yX4_copy wsX4_copy) := goodIn_app (goodIn_of _ (by decide +kernel)) ggX7_copy_X4_copy
set_option maxRecDepth 20000 in
theorem ggX7_copy_X6_copy : GoodIn wsX7_copy wsX6_copy := goodIn_r _ [38, 39, 40, 13, 14, 15, 41, 61, 62, 63, 64] rfl (by decide +kernel)
set_option maxRecDepth 20000 in
theorem gX7_copy_X6_copy : GoodIn wsX7_copy (wsV RX7 55 RX6 yX6_copy wsX6_copy) := goodIn_app (goodIn_of _ (by decide +kernel)) ggX7_copy_X6_copy
theorem dX7_copy_0 : decode cX7_copy 0 = .ok (.aload_n 0, 1) := by decide +kernel
theorem dX7_copy_1 : decode cX7_copy 1 = .ok (.getfield 10, 3) := by decide +kernel
theorem dX7_copy_4 : decode cX7_copy 4 = .ok (.aload_n 1, 1) := by decide +kernel
theorem dX7_copy_5 : decode cX7_copy 5 = .ok (.getfield 10, 3) := by decide +kernel
theorem dX7_copy_8 : decode cX7_copy 8 = .ok (.invokevirtual 48, 3) := by decide +kernel
theorem dX7_copy_11 : decode cX7_copy 11 = .ok (.aload_n 0, 1) := by decide +kernel
theorem dX7_copy_12 : decode cX7_copy 12 = .ok (.getfield 19, 3) := by decide +kernel
theorem dX7_copy_15 : decode cX7_copy 15 = .ok (.aload_n 1, 1) := by decide +kernel
theorem dX7_copy_16 : decode cX7_copy 16 = .ok (.getfield 19, 3) := by decide +kernel
theorem dX7_copy_19 : decode cX7_copy 19 = .ok (.invokevirtual 52, 3) := by decide +kernel
theorem dX7_copy_22 : decode cX7_copy 22 = .ok (.aload_n 0, 1) := by decide +kernel
theorem dX7_copy_23 : decode cX7_copy 23 = .ok (.getfield 28, 3) := by decide +kernel
theorem dX7_copy_26 : decode cX7_copy 26 = .ok (.aload_n 1, 1) := by decide +kernel
theorem dX7_copy_27 : decode cX7_copy 27 = .ok (.getfield 28, 3) := by decide +kernel
theorem dX7_copy_30 : decode cX7_copy 30 = .ok (.invokevirtual 55, 3) := by decide +kernel
theorem dX7_copy_33 : decode cX7_copy 33 = .ok (.aload_n 0, 1) := by decide +kernel
theorem dX7_copy_34 : decode cX7_copy 34 = .ok (.getfield 32, 3) := by decide +kernel
theorem dX7_copy_37 : decode cX7_copy 37 = .ok (.aload_n 1, 1) := by decide +kernel
theorem dX7_copy_38 : decode cX7_copy 38 = .ok (.getfield 32, 3) := by decide +kernel
theorem dX7_copy_41 : decode cX7_copy 41 = .ok (.invokevirtual 55, 3) := by decide +kernel
theorem dX7_copy_44 : decode cX7_copy 44 = .ok (.aload_n 0, 1) := by decide +kernel
theorem dX7_copy_45 : decode cX7_copy 45 = .ok (.getfield 35, 3) := by decide +kernel
theorem dX7_copy_48 : decode cX7_copy 48 = .ok (.aload_n 1, 1) := by decide +kernel
theorem dX7_copy_49 : decode cX7_copy 49 = .ok (.getfield 35, 3) := by decide +kernel
theorem dX7_copy_52 : decode cX7_copy 52 = .ok (.invokevirtual 55, 3) := by decide +kernel
theorem dX7_copy_55 : decode cX7_copy 55 = .ok (.return_, 1) := by decide +kernel
theorem dX8_init_0 : decode cX8_init 0 = .ok (.aload_n 0, 1) := by decide +kernel
theorem dX8_init_1 : decode cX8_init 1 = .ok (.invokespecial 3, 3) := by decide +kernel
theorem dX8_init_4 : decode cX8_init 4 = .ok (.aload_n 0, 1) := by decide +kernel
theorem dX8_init_5 : decode cX8_init 5 = .ok (.bipush 6, 2) := by decide +kernel
theorem dX8_init_7 : decode cX8_init 7 = .ok (.newarray .int, 2) := by decide +kernel
theorem dX8_init_9 : decode cX8_init 9 = .ok (.putfield 11, 3) := by decide +kernel
theorem dX8_init_12 : decode cX8_init 12 = .ok (.aload_n 0, 1) := by decide +kernel
theorem dX8_init_13 : decode cX8_init 13 = .ok (.bipush 8, 2) := by decide +kernel
theorem dX8_init_15 : decode cX8_init 15 = .ok (.newarray .int, 2) := by decide +kernel
theorem dX8_init_17 : decode cX8_init 17 = .ok (.putfield 15, 3) := by decide +kernel
theorem dX8_init_20 : decode cX8_init 20 = .ok (.aload_n 0, 1) := by decide +kernel
theorem dX8_init_21 : decode cX8_init 21 = .ok (.bipush 8, 2) := by decide +kernel
theorem dX8_init_23 : decode cX8_init 23 = .ok (.newarray .int, 2) := by decide +kernel
theorem dX8_init_25 : decode cX8_init 25 = .ok (.putfield 18, 3) := by decide +kernel
theorem dX8_init_28 : decode cX8_init 28 = .ok (.aload_n 0, 1) := by decide +kernel
theorem dX8_init_29 : decode cX8_init 29 = .ok (.bipush 8, 2) := by decide +kernel
theorem dX8_init_31 : decode cX8_init 31 = .ok (.newarray .int, 2) := by decide +kernel
theorem dX8_init_33 : decode cX8_init 33 = .ok (.putfield 21, 3) := by decide +kernel
theorem dX8_init_36 : decode cX8_init 36 = .ok (.aload_n 0, 1) := by decide +kernel
theorem dX8_init_37 : decode cX8_init 37 = .ok (.iconst 3, 1) := by decide +kernel
theorem dX8_init_38 : decode cX8_init 38 = .ok (.newarray .int, 2) := by decide +kernel
theorem dX8_init_40 : decode cX8_init 40 = .ok (.putfield 24, 3) := by decide +kernel
theorem dX8_init_43 : decode cX8_init 43 = .ok (.aload_n 0, 1) := by decide +kernel
theorem dX8_init_44 : decode cX8_init 44 = .ok (.iconst 3, 1) := by decide +kernel
theorem dX8_init_45 : decode cX8_init 45 = .ok (.newarray .int, 2) := by decide +kernel
theorem dX8_init_47 : decode cX8_init 47 = .ok (.putfield 27, 3) := by decide +kernel
theorem dX8_init_50 : decode cX8_init 50 = .ok (.aload_n 0, 1) := by decide +kernel
theorem dX8_init_51 : decode cX8_init 51 = .ok (.bipush 24, 2) := by decide +kernel
theorem dX8_init_53 : decode cX8_init 53 = .ok (.newarray .int, 2) := by decide +kernel
theorem dX8_init_55 : decode cX8_init 55 = .ok (.putfield 30, 3) := by decide +kernel
theorem dX8_init_58 : decode cX8_init 58 = .ok (.aload_n 0, 1) := by decide +kernel
theorem dX8_init_59 : decode cX8_init 59 = .ok (.iconst 3, 1) := by decide +kernel
theorem dX8_init_60 : decode cX8_init 60 = .ok (.newarray .int, 2) := by decide +kernel
theorem dX8_init_62 : decode cX8_init 62 = .ok (.putfield 33, 3) := by decide +kernel
theorem dX8_init_65 : decode cX8_init 65 = .ok (.return_, 1) := by decide +kernel
theorem dX8_empty_0 : decode cX8_empty 0 = .ok (.iconst 0, 1) := by decide +kernel
theorem dX8_empty_1 : decode cX8_empty 1 = .ok (.istore_n 1, 1) := by decide +kernel
theorem dX8_empty_2 : decode cX8_empty 2 = .ok (.iload_n 1, 1) := by decide +kernel
theorem dX8_empty_3 : decode cX8_empty 3 = .ok (.bipush 6, 2) := by decide +kernel
theorem dX8_empty_5 : decode cX8_empty 5 = .ok (.if_icmp .ge 16, 3) := by decide +kernel
theorem dX8_empty_8 : decode cX8_empty 8 = .ok (.aload_n 0, 1) := by decide +kernel
theorem dX8_empty_9 : decode cX8_empty 9 = .ok (.getfield 11, 3) := by decide +kernel
theorem dX8_empty_12 : decode cX8_empty 12 = .ok (.iload_n 1, 1) := by decide +kernel
theorem dX8_empty_13 : decode cX8_empty 13 = .ok (.iconst 0, 1) := by decide +kernel
theorem dX8_empty_14 : decode cX8_empty 14 = .ok (.iastore, 1) := by decide +kernel
theorem dX8_empty_15 : decode cX8_empty 15 = .ok (.iinc 1 1, 3) := by decide +kernel
theorem dX8_empty_18 : decode cX8_empty 18 = .ok (.goto (-16), 3) := by decide +kernel
theorem dX8_empty_21 : decode cX8_empty 21 = .ok (.iconst 0, 1) := by decide +kernel
theorem dX8_empty_22 : decode cX8_empty 22 = .ok (.istore_n 1, 1) := by decide +kernel
theorem dX8_empty_23 : decode cX8_empty 23 = .ok (.iload_n 1, 1) := by decide +kernel
theorem dX8_empty_24 : decode cX8_empty 24 = .ok (.bipush 23, 2) := by decide +kernel
theorem dX8_empty_26 : decode cX8_empty 26 = .ok (.if_icmp .gt 16, 3) := by decide +kernel
theorem dX8_empty_29 : decode cX8_empty 29 = .ok (.aload_n 0, 1) := by decide +kernel
theorem dX8_empty_30 : decode cX8_empty 30 = .ok (.getfield 30, 3) := by decide +kernel
theorem dX8_empty_33 : decode cX8_empty 33 = .ok (.iload_n 1, 1) := by decide +kernel
theorem dX8_empty_34 : decode cX8_empty 34 = .ok (.iconst 0, 1) := by decide +kernel
theorem dX8_empty_35 : decode cX8_empty 35 = .ok (.iastore, 1) := by decide +kernel
theorem dX8_empty_36 : decode cX8_empty 36 = .ok (.iinc 1 1, 3) := by decide +kernel
theorem dX8_empty_39 : decode cX8_empty 39 = .ok (.goto (-16), 3) := by decide +kernel
theorem dX8_empty_42 : decode cX8_empty 42 = .ok (.aload_n 0, 1) := by decide +kernel
theorem dX8_empty_43 : decode cX8_empty 43 = .ok (.iconst 0, 1) := by decide +kernel
theorem dX8_empty_44 : decode cX8_empty 44 = .ok (.putfield 36, 3) := by decide +kernel
theorem dX8_empty_47 : decode cX8_empty 47 = .ok (.aload_n 0, 1) := by decide +kernel
theorem dX8_empty_48 : decode cX8_empty 48 = .ok (.iconst 0, 1) := by decide +kernel
theorem dX8_empty_49 : decode cX8_empty 49 = .ok (.putfield 40, 3) := by decide +kernel
theorem dX8_empty_52 : decode cX8_empty 52 = .ok (.aload_n 0, 1) := by decide +kernel
theorem dX8_empty_53 : decode cX8_empty 53 = .ok (.iconst 0, 1) := by decide +kernel
theorem dX8_empty_54 : decode cX8_empty 54 = .ok (.putfield 43, 3) := by decide +kernel
theorem dX8_empty_57 : decode cX8_empty 57 = .ok (.aload_n 0, 1) := by decide +kernel
theorem dX8_empty_58 : decode cX8_empty 58 = .ok (.iconst 0, 1) := by decide +kernel
theorem dX8_empty_59 : decode cX8_empty 59 = .ok (.putfield 46, 3) := by decide +kernel
theorem dX8_empty_62 : decode cX8_empty 62 = .ok (.return_, 1) := by decide +kernel
theorem dX8_copy_0 : decode cX8_copy 0 = .ok (.aload_n 1, 1) := by decide +kernel
theorem dX8_copy_1 : decode cX8_copy 1 = .ok (.getfield 11, 3) := by decide +kernel
theorem dX8_copy_4 : decode cX8_copy 4 = .ok (.iconst 0, 1) := by decide +kernel
theorem dX8_copy_5 : decode cX8_copy 5 = .ok (.aload_n 0, 1) := by decide +kernel
theorem dX8_copy_6 : decode cX8_copy 6 = .ok (.getfield 11, 3) := by decide +kernel
theorem dX8_copy_9 : decode cX8_copy 9 = .ok (.iconst 0, 1) := by decide +kernel
theorem dX8_copy_10 : decode cX8_copy 10 = .ok (.bipush 6, 2) := by decide +kernel
theorem dX8_copy_12 : decode cX8_copy 12 = .ok (.invokestatic 49, 3) := by decide +kernel
theorem dX8_copy_15 : decode cX8_copy 15 = .ok (.aload_n 1, 1) := by decide +kernel
theorem dX8_copy_16 : decode cX8_copy 16 = .ok (.getfield 15, 3) := by decide +kernel
theorem dX8_copy_19 : decode cX8_copy 19 = .ok (.iconst 0, 1) := by decide +kernel
theorem dX8_copy_20 : decode cX8_copy 20 = .ok (.aload_n 0, 1) := by decide +kernel
theorem dX8_copy_21 : decode cX8_copy 21 = .ok (.getfield 15, 3) := by decide +kernel
theorem dX8_copy_24 : decode cX8_copy 24 = .ok (.iconst 0, 1) := by decide +kernel
theorem dX8_copy_25 : decode cX8_copy 25 = .ok (.bipush 7, 2) := by decide +kernel
theorem dX8_copy_27 : decode cX8_copy 27 = .ok (.invokestatic 49, 3) := by decide +kernel
theorem dX8_copy_30 : decode cX8_copy 30 = .ok (.aload_n 1, 1) := by decide +kernel
theorem dX8_copy_31 : decode cX8_copy 31 = .ok (.getfield 18, 3) := by decide +kernel
theorem dX8_copy_34 : decode cX8_copy 34 = .ok (.iconst 0, 1) := by decide +kernel
theorem dX8_copy_35 : decode cX8_copy 35 = .ok (.aload_n 0, 1) := by decide +kernel
theorem dX8_copy_36 : decode cX8_copy 36 = .ok (.getfield 18, 3) := by decide +kernel
theorem dX8_copy_39 : decode cX8_copy 39 = .ok (.iconst 0, 1) := by decide +kernel
theorem dX8_copy_40 : decode cX8_copy 40 = .ok (.bipush 7, 2) := by decide +kernel
theorem dX8_copy_42 : decode cX8_copy 42 = .ok (.invokestatic 49, 3) := by decide +kernel
theorem dX8_copy_45 : decode cX8_copy 45 = .ok (.aload_n 1, 1) := by decide +kernel
theorem dX8_copy_46 : decode cX8_copy 46 = .ok (.getfield 21, 3) := by decide +kernel
theorem dX8_copy_49 : decode cX8_copy 49 = .ok (.iconst 0, 1) := by decide +kernel
theorem dX8_copy_50 : decode cX8_copy 50 = .ok (.aload_n 0, 1) := by decide +kernel
theorem dX8_copy_51 : decode cX8_copy 51 = .ok (.getfield 21, 3) := by decide +kernel
theorem dX8_copy_54 : decode cX8_copy 54 = .ok (.iconst 0, 1) := by decide +kernel
theorem dX8_copy_55 : decode cX8_copy 55 = .ok (.bipush 7, 2) := by decide +kernel
theorem dX8_copy_57 : decode cX8_copy 57 = .ok (.invokestatic 49, 3) := by decide +kernel
theorem dX8_copy_60 : decode cX8_copy 60 = .ok (.aload_n 1, 1) := by decide +kernel
theorem dX8_copy_61 : decode cX8_copy 61 = .ok (.getfield 24, 3) := by decide +kernel
theorem dX8_copy_64 : decode cX8_copy 64 = .ok (.iconst 0, 1) := by decide +kernel
theorem dX8_copy_65 : decode cX8_copy 65 = .ok (.aload_n 0, 1) := by decide +kernel
theorem dX8_copy_66 : decode cX8_copy 66 = .ok (.getfield 24, 3) := by decide +kernel
theorem dX8_copy_69 : decode cX8_copy 69 = .ok (.iconst 0, 1) := by decide +kernel
theorem dX8_copy_70 : decode cX8_copy 70 = .ok (.iconst 3, 1) := by decide +kernel
theorem dX8_copy_71 : decode cX8_copy 71 = .ok (.invokestatic 49, 3) := by decide +kernel
theorem dX8_copy_74 : decode cX8_copy 74 = .ok (.aload_n 1, 1) := by decide +kernel
theorem dX8_copy_75 : decode cX8_copy 75 = .ok (.getfield 27, 3) := by decide +kernel
theorem dX8_copy_78 : decode cX8_copy 78 = .ok (.iconst 0, 1) := by decide +kernel
theorem dX8_copy_79 : decode cX8_copy 79 = .ok (.aload_n 0, 1) := by decide +kernel
theorem dX8_copy_80 : decode cX8_copy 80 = .ok (.getfield 27, 3) := by decide +kernel
theorem dX8_copy_83 : decode cX8_copy 83 = .ok (.iconst 0, 1) := by decide +kernel
theorem dX8_copy_84 : decode cX8_copy 84 = .ok (.iconst 3, 1) := by decide +kernel
theorem dX8_copy_85 : decode cX8_copy 85 = .ok (.invokestatic 49, 3) := by decide +kernel
theorem dX8_copy_88 : decode cX8_copy 88 = .ok (.aload_n 1, 1) := by decide +kernel
theorem dX8_copy_89 : decode cX8_copy 89 = .ok (.getfield 30, 3) := by decide +kernel
theorem dX8_copy_92 : decode cX8_copy 92 = .ok (.iconst 0, 1) := by decide +kernel
theorem dX8_copy_93 : decode cX8_copy 93 = .ok (.aload_n 0, 1) := by decide +kernel
theorem dX8_copy_94 : decode cX8_copy 94 = .ok (.getfield 30, 3) := by decide +kernel
theorem dX8_copy_97 : decode cX8_copy 97 = .ok (.iconst 0, 1) := by decide +kernel
theorem dX8_copy_98 : decode cX8_copy 98 = .ok (.bipush 24, 2) := by decide +kernel
theorem dX8_copy_100 : decode cX8_copy 100 = .ok (.invokestatic 49, 3) := by decide +kernel
theorem dX8_copy_103 : decode cX8_copy 103 = .ok (.aload_n 0, 1) := by decide +kernel
theorem dX8_copy_104 : decode cX8_copy 104 = .ok (.aload_n 1, 1) := by decide +kernel
theorem dX8_copy_105 : decode cX8_copy 105 = .ok (.getfield 36, 3) := by decide +kernel
theorem dX8_copy_108 : decode cX8_copy 108 = .ok (.putfield 36, 3) := by decide +kernel
theorem dX8_copy_111 : decode cX8_copy 111 = .ok (.aload_n 0, 1) := by decide +kernel
theorem dX8_copy_112 : decode cX8_copy 112 = .ok (.aload_n 1, 1) := by decide +kernel
theorem dX8_copy_113 : decode cX8_copy 113 = .ok (.getfield 40, 3) := by decide +kernel
theorem dX8_copy_116 : decode cX8_copy 116 = .ok (.putfield 40, 3) := by decide +kernel
theorem dX8_copy_119 : decode cX8_copy 119 = .ok (.aload_n 0, 1) := by decide +kernel
theorem dX8_copy_120 : decode cX8_copy 120 = .ok (.aload_n 1, 1) := by decide +kernel
theorem dX8_copy_121 : decode cX8_copy 121 = .ok (.getfield 43, 3) := by decide +kernel
theorem dX8_copy_124 : decode cX8_copy 124 = .ok (.putfield 43, 3) := by decide +kernel
theorem dX8_copy_127 : decode cX8_copy 127 = .ok (.aload_n 0, 1) := by decide +kernel
theorem dX8_copy_128 : decode cX8_copy 128 = .ok (.aload_n 1, 1) := by decide +kernel
theorem dX8_copy_129 : decode cX8_copy 129 = .ok (.getfield 46, 3) := by decide +kernel
theorem dX8_copy_132 : decode cX8_copy 132 = .ok (.putfield 46, 3) := by decide +kernel
theorem dX8_copy_135 : decode cX8_copy 135 = .ok (.return_, 1) := by decide +kernel
theorem dX8_addGlove_0 : decode cX8_addGlove 0 = .ok (.aload_n 0, 1) := by decide +kernel
theorem dX8_addGlove_1 : decode cX8_addGlove 1 = .ok (.getfield 36, 3) := by decide +kernel
theorem dX8_addGlove_4 : decode cX8_addGlove 4 = .ok (.bipush 7, 2) := by decide +kernel
theorem dX8_addGlove_6 : decode cX8_addGlove 6 = .ok (.if_icmp .le 6, 3) := by decide +kernel
theorem dX8_addGlove_9 : decode cX8_addGlove 9 = .ok (.bipush (-4), 2) := by decide +kernel
theorem dX8_addGlove_11 : decode cX8_addGlove 11 = .ok (.ireturn, 1) := by decide +kernel
theorem dX8_addGlove_12 : decode cX8_addGlove 12 = .ok (.aload_n 0, 1) := by decide +kernel
theorem dX8_addGlove_13 : decode cX8_addGlove 13 = .ok (.getfield 15, 3) := by decide +kernel
theorem dX8_addGlove_16 : decode cX8_addGlove 16 = .ok (.aload_n 0, 1) := by decide +kernel
theorem dX8_addGlove_17 : decode cX8_addGlove 17 = .ok (.getfield 36, 3) := by decide +kernel
theorem dX8_addGlove_20 : decode cX8_addGlove 20 = .ok (.iload_n 1, 1) := by decide +kernel
theorem dX8_addGlove_21 : decode cX8_addGlove 21 = .ok (.iastore, 1) := by decide +kernel
theorem dX8_addGlove_22 : decode cX8_addGlove 22 = .ok (.aload_n 0, 1) := by decide +kernel
theorem dX8_addGlove_23 : decode cX8_addGlove 23 = .ok (.getfield 18, 3) := by decide +kernel
theorem dX8_addGlove_26 : decode cX8_addGlove 26 = .ok (.aload_n 0, 1) := by decide +kernel
theorem dX8_addGlove_27 : decode cX8_addGlove 27 = .ok (.getfield 36, 3) := by decide +kernel
theorem dX8_addGlove_30 : decode cX8_addGlove 30 = .ok (.iload_n 2, 1) := by decide +kernel
theorem dX8_addGlove_31 : decode cX8_addGlove 31 = .ok (.iastore, 1) := by decide +kernel
theorem dX8_addGlove_32 : decode cX8_addGlove 32 = .ok (.aload_n 0, 1) := by decide +kernel
theorem dX8_addGlove_33 : decode cX8_addGlove 33 = .ok (.getfield 21, 3) := by decide +kernel
theorem dX8_addGlove_36 : decode cX8_addGlove 36 = .ok (.aload_n 0, 1) := by decide +kernel
theorem dX8_addGlove_37 : decode cX8_addGlove 37 = .ok (.getfield 36, 3) := by decide +kernel
theorem dX8_addGlove_40 : decode cX8_addGlove 40 = .ok (.iload_n 3, 1) := by decide +kernel
theorem dX8_addGlove_41 : decode cX8_addGlove 41 = .ok (.iastore, 1) := by decide +kernel
theorem dX8_addGlove_42 : decode cX8_addGlove 42 = .ok (.aload_n 0, 1) := by decide +kernel
theorem dX8_addGlove_43 : decode cX8_addGlove 43 = .ok (.dup, 1) := by decide +kernel
theorem dX8_addGlove_44 : decode cX8_addGlove 44 = .ok (.getfield 36, 3) := by decide +kernel
theorem dX8_addGlove_47 : decode cX8_addGlove 47 = .ok (.iconst 1, 1) := by decide +kernel
theorem dX8_addGlove_48 : decode cX8_addGlove 48 = .ok (.iadd, 1) := by decide +kernel
theorem dX8_addGlove_49 : decode cX8_addGlove 49 = .ok (.putfield 36, 3) := by decide +kernel
theorem dX8_addGlove_52 : decode cX8_addGlove 52 = .ok (.aload_n 0, 1) := by decide +kernel
theorem dX8_addGlove_53 : decode cX8_addGlove 53 = .ok (.getfield 36, 3) := by decide +kernel
theorem dX8_addGlove_56 : decode cX8_addGlove 56 = .ok (.iconst 1, 1) := by decide +kernel
theorem dX8_addGlove_57 : decode cX8_addGlove 57 = .ok (.isub, 1) := by decide +kernel
theorem dX8_addGlove_58 : decode cX8_addGlove 58 = .ok (.ireturn, 1) := by decide +kernel
theorem dX8_addCrossing_0 : decode cX8_addCrossing 0 = .ok (.aload_n 0, 1) := by decide +kernel
theorem dX8_addCrossing_1 : decode cX8_addCrossing 1 = .ok (.getfield 40, 3) := by decide +kernel
theorem dX8_addCrossing_4 : decode cX8_addCrossing 4 = .ok (.iconst 3, 1) := by decide +kernel
theorem dX8_addCrossing_5 : decode cX8_addCrossing 5 = .ok (.if_icmp .lt 6, 3) := by decide +kernel
theorem dX8_addCrossing_8 : decode cX8_addCrossing 8 = .ok (.bipush (-4), 2) := by decide +kernel
theorem dX8_addCrossing_10 : decode cX8_addCrossing 10 = .ok (.ireturn, 1) := by decide +kernel
theorem dX8_addCrossing_11 : decode cX8_addCrossing 11 = .ok (.aload_n 0, 1) := by decide +kernel
theorem dX8_addCrossing_12 : decode cX8_addCrossing 12 = .ok (.getfield 24, 3) := by decide +kernel
theorem dX8_addCrossing_15 : decode cX8_addCrossing 15 = .ok (.aload_n 0, 1) := by decide +kernel
theorem dX8_addCrossing_16 : decode cX8_addCrossing 16 = .ok (.getfield 40, 3) := by decide +kernel
theorem dX8_addCrossing_19 : decode cX8_addCrossing 19 = .ok (.iload_n 1, 1) := by decide +kernel
theorem dX8_addCrossing_20 : decode cX8_addCrossing 20 = .ok (.iastore, 1) := by decide +kernel
theorem dX8_addCrossing_21 : decode cX8_addCrossing 21 = .ok (.aload_n 0, 1) := by decide +kernel
theorem dX8_addCrossing_22 : decode cX8_addCrossing 22 = .ok (.getfield 27, 3) := by decide +kernel
theorem dX8_addCrossing_25 : decode cX8_addCrossing 25 = .ok (.aload_n 0, 1) := by decide +kernel
theorem dX8_addCrossing_26 : decode cX8_addCrossing 26 = .ok (.getfield 40, 3) := by decide +kernel
theorem dX8_addCrossing_29 : decode cX8_addCrossing 29 = .ok (.iload_n 2, 1) := by decide +kernel
theorem dX8_addCrossing_30 : decode cX8_addCrossing 30 = .ok (.iastore, 1) := by decide +kernel
theorem dX8_addCrossing_31 : decode cX8_addCrossing 31 = .ok (.aload_n 0, 1) := by decide +kernel
theorem dX8_addCrossing_32 : decode cX8_addCrossing 32 = .ok (.dup, 1) := by decide +kernel
theorem dX8_addCrossing_33 : decode cX8_addCrossing 33 = .ok (.getfield 40, 3) := by decide +kernel
theorem dX8_addCrossing_36 : decode cX8_addCrossing 36 = .ok (.iconst 1, 1) := by decide +kernel
theorem dX8_addCrossing_37 : decode cX8_addCrossing 37 = .ok (.iadd, 1) := by decide +kernel
theorem dX8_addCrossing_38 : decode cX8_addCrossing 38 = .ok (.putfield 40, 3) := by decide +kernel
theorem dX8_addCrossing_41 : decode cX8_addCrossing 41 = .ok (.aload_n 0, 1) := by decide +kernel
theorem dX8_addCrossing_42 : decode cX8_addCrossing 42 = .ok (.getfield 30, 3) := by decide +kernel
theorem dX8_addCrossing_45 : decode cX8_addCrossing 45 = .ok (.iload_n 2, 1) := by decide +kernel
theorem dX8_addCrossing_46 : decode cX8_addCrossing 46 = .ok (.aload_n 0, 1) := by decide +kernel
theorem dX8_addCrossing_47 : decode cX8_addCrossing 47 = .ok (.getfield 40, 3) := by decide +kernel
theorem dX8_addCrossing_50 : decode cX8_addCrossing 50 = .ok (.iastore, 1) := by decide +kernel
theorem dX8_addCrossing_51 : decode cX8_addCrossing 51 = .ok (.aload_n 0, 1) := by decide +kernel
theorem dX8_addCrossing_52 : decode cX8_addCrossing 52 = .ok (.getfield 40, 3) := by decide +kernel
theorem dX8_addCrossing_55 : decode cX8_addCrossing 55 = .ok (.iconst 1, 1) := by decide +kernel
theorem dX8_addCrossing_56 : decode cX8_addCrossing 56 = .ok (.isub, 1) := by decide +kernel
theorem dX8_addCrossing_57 : decode cX8_addCrossing 57 = .ok (.ireturn, 1) := by decide +kernel
set_option maxRecDepth 20000 in
theorem ggX8_hasCrossing_X10_within : GoodIn wsX8_hasCrossing wsX10_within := goodIn_r _ [4] rfl (by decide +kernel)
set_option maxRecDepth 20000 in
theorem gX8_hasCrossing_X10_within_n55 : GoodIn wsX8_hasCrossing (wsX10_within) := ggX8_hasCrossing_X10_within
theorem dX8_hasCrossing_0 : decode cX8_hasCrossing 0 = .ok (.iload_n 1, 1) := by decide +kernel
theorem dX8_hasCrossing_1 : decode cX8_hasCrossing 1 = .ok (.iconst 0, 1) := by decide +kernel
theorem dX8_hasCrossing_2 : decode cX8_hasCrossing 2 = .ok (.bipush 23, 2) := by decide +kernel
theorem dX8_hasCrossing_4 : decode cX8_hasCrossing 4 = .ok (.invokestatic 55, 3) := by decide +kernel
theorem dX8_hasCrossing_7 : decode cX8_hasCrossing 7 = .ok (.ifCond .eq 16, 3) := by decide +kernel
theorem dX8_hasCrossing_10 : decode cX8_hasCrossing 10 = .ok (.aload_n 0, 1) := by decide +kernel
theorem dX8_hasCrossing_11 : decode cX8_hasCrossing 11 = .ok (.getfield 30, 3) := by decide +kernel
theorem dX8_hasCrossing_14 : decode cX8_hasCrossing 14 = .ok (.iload_n 1, 1) := by decide +kernel
theorem dX8_hasCrossing_15 : decode cX8_hasCrossing 15 = .ok (.iaload, 1) := by decide +kernel
theorem dX8_hasCrossing_16 : decode cX8_hasCrossing 16 = .ok (.ifCond .eq 7, 3) := by decide +kernel
theorem dX8_hasCrossing_19 : decode cX8_hasCrossing 19 = .ok (.iconst 1, 1) := by decide +kernel
theorem dX8_hasCrossing_20 : decode cX8_hasCrossing 20 = .ok (.goto 4, 3) := by decide +kernel
theorem dX8_hasCrossing_23 : decode cX8_hasCrossing 23 = .ok (.iconst 0, 1) := by decide +kernel
theorem dX8_hasCrossing_24 : decode cX8_hasCrossing 24 = .ok (.ireturn, 1) := by decide +kernel
theorem dX8_turn_0 : decode cX8_turn 0 = .ok (.aload_n 0, 1) := by decide +kernel
theorem dX8_turn_1 : decode cX8_turn 1 = .ok (.dup, 1) := by decide +kernel
theorem dX8_turn_2 : decode cX8_turn 2 = .ok (.getfield 43, 3) := by decide +kernel
theorem dX8_turn_5 : decode cX8_turn 5 = .ok (.iconst 1, 1) := by decide +kernel
theorem dX8_turn_6 : decode cX8_turn 6 = .ok (.iload_n 1, 1) := by decide +kernel
theorem dX8_turn_7 : decode cX8_turn 7 = .ok (.ishl, 1) := by decide +kernel
theorem dX8_turn_8 : decode cX8_turn 8 = .ok (.ixor, 1) := by decide +kernel
theorem dX8_turn_9 : decode cX8_turn 9 = .ok (.putfield 43, 3) := by decide +kernel
theorem dX8_turn_12 : decode cX8_turn 12 = .ok (.return_, 1) := by decide +kernel
theorem dX8_shutBit_0 : decode cX8_shutBit 0 = .ok (.aload_n 0, 1) := by decide +kernel
theorem dX8_shutBit_1 : decode cX8_shutBit 1 = .ok (.getfield 43, 3) := by decide +kernel
theorem dX8_shutBit_4 : decode cX8_shutBit 4 = .ok (.iload_n 1, 1) := by decide +kernel
theorem dX8_shutBit_5 : decode cX8_shutBit 5 = .ok (.ishr, 1) := by decide +kernel
theorem dX8_shutBit_6 : decode cX8_shutBit 6 = .ok (.iconst 1, 1) := by decide +kernel
theorem dX8_shutBit_7 : decode cX8_shutBit 7 = .ok (.iand, 1) := by decide +kernel
theorem dX8_shutBit_8 : decode cX8_shutBit 8 = .ok (.ireturn, 1) := by decide +kernel
theorem dX8_waits_0 : decode cX8_waits 0 = .ok (.aload_n 0, 1) := by decide +kernel
theorem dX8_waits_1 : decode cX8_waits 1 = .ok (.getfield 30, 3) := by decide +kernel
theorem dX8_waits_4 : decode cX8_waits 4 = .ok (.aload_n 0, 1) := by decide +kernel
theorem dX8_waits_5 : decode cX8_waits 5 = .ok (.getfield 21, 3) := by decide +kernel
theorem dX8_waits_8 : decode cX8_waits 8 = .ok (.iload_n 1, 1) := by decide +kernel
theorem dX8_waits_9 : decode cX8_waits 9 = .ok (.iaload, 1) := by decide +kernel
theorem dX8_waits_10 : decode cX8_waits 10 = .ok (.iaload, 1) := by decide +kernel
theorem dX8_waits_11 : decode cX8_waits 11 = .ok (.ifCond .eq 7, 3) := by decide +kernel
theorem dX8_waits_14 : decode cX8_waits 14 = .ok (.iconst 1, 1) := by decide +kernel
theorem dX8_waits_15 : decode cX8_waits 15 = .ok (.goto 4, 3) := by decide +kernel
theorem dX8_waits_18 : decode cX8_waits 18 = .ok (.iconst 0, 1) := by decide +kernel
theorem dX8_waits_19 : decode cX8_waits 19 = .ok (.ireturn, 1) := by decide +kernel
theorem dX8_waitingBehind_0 : decode cX8_waitingBehind 0 = .ok (.iconst 0, 1) := by decide +kernel
theorem dX8_waitingBehind_1 : decode cX8_waitingBehind 1 = .ok (.istore_n 2, 1) := by decide +kernel
theorem dX8_waitingBehind_2 : decode cX8_waitingBehind 2 = .ok (.iconst 0, 1) := by decide +kernel
theorem dX8_waitingBehind_3 : decode cX8_waitingBehind 3 = .ok (.istore_n 3, 1) := by decide +kernel
theorem dX8_waitingBehind_4 : decode cX8_waitingBehind 4 = .ok (.iload_n 3, 1) := by decide +kernel
theorem dX8_waitingBehind_5 : decode cX8_waitingBehind 5 = .ok (.aload_n 0, 1) := by decide +kernel
theorem dX8_waitingBehind_6 : decode cX8_waitingBehind 6 = .ok (.getfield 36, 3) := by decide +kernel
theorem dX8_waitingBehind_9 : decode cX8_waitingBehind 9 = .ok (.if_icmp .ge 27, 3) := by decide +kernel
theorem dX8_waitingBehind_12 : decode cX8_waitingBehind 12 = .ok (.aload_n 0, 1) := by decide +kernel
theorem dX8_waitingBehind_13 : decode cX8_waitingBehind 13 = .ok (.getfield 21, 3) := by decide +kernel
theorem dX8_waitingBehind_16 : decode cX8_waitingBehind 16 = .ok (.iload_n 3, 1) := by decide +kernel
theorem dX8_waitingBehind_17 : decode cX8_waitingBehind 17 = .ok (.iaload, 1) := by decide +kernel
theorem dX8_waitingBehind_18 : decode cX8_waitingBehind 18 = .ok (.aload_n 0, 1) := by decide +kernel
theorem dX8_waitingBehind_19 : decode cX8_waitingBehind 19 = .ok (.getfield 27, 3) := by decide +kernel
theorem dX8_waitingBehind_22 : decode cX8_waitingBehind 22 = .ok (.iload_n 1, 1) := by decide +kernel
theorem dX8_waitingBehind_23 : decode cX8_waitingBehind 23 = .ok (.iaload, 1) := by decide +kernel
theorem dX8_waitingBehind_24 : decode cX8_waitingBehind 24 = .ok (.if_icmp .ne 6, 3) := by decide +kernel
theorem dX8_waitingBehind_27 : decode cX8_waitingBehind 27 = .ok (.iinc 2 1, 3) := by decide +kernel
theorem dX8_waitingBehind_30 : decode cX8_waitingBehind 30 = .ok (.iinc 3 1, 3) := by decide +kernel
theorem dX8_waitingBehind_33 : decode cX8_waitingBehind 33 = .ok (.goto (-29), 3) := by decide +kernel
theorem dX8_waitingBehind_36 : decode cX8_waitingBehind 36 = .ok (.iload_n 2, 1) := by decide +kernel
theorem dX8_waitingBehind_37 : decode cX8_waitingBehind 37 = .ok (.ireturn, 1) := by decide +kernel
set_option maxRecDepth 20000 in
theorem ggX8_waitingInAll_X8_waitingBehind : GoodIn wsX8_waitingInAll wsX8_waitingBehind := goodIn_r _ [6, 7, 8, 9, 10, 11, 12, 13, 14, 15, 16, 17, 18, 19, 20, 21] rfl (by decide +kernel)
set_option maxRecDepth 20000 in
theorem gX8_waitingInAll_X8_waitingBehind : GoodIn wsX8_waitingInAll (wsV RX8 59 RX8 yX8_waitingBehind wsX8_waitingBehind) := goodIn_app (goodIn_of _ (by decide +kernel)) ggX8_waitingInAll_X8_waitingBehind
theorem dX8_waitingInAll_0 : decode cX8_waitingInAll 0 = .ok (.iconst 0, 1) := by decide +kernel
theorem dX8_waitingInAll_1 : decode cX8_waitingInAll 1 = .ok (.istore_n 1, 1) := by decide +kernel
theorem dX8_waitingInAll_2 : decode cX8_waitingInAll 2 = .ok (.iconst 0, 1) := by decide +kernel
theorem dX8_waitingInAll_3 : decode cX8_waitingInAll 3 = .ok (.istore_n 2, 1) := by decide +kernel
theorem dX8_waitingInAll_4 : decode cX8_waitingInAll 4 = .ok (.iload_n 2, 1) := by decide +kernel
theorem dX8_waitingInAll_5 : decode cX8_waitingInAll 5 = .ok (.aload_n 0, 1) := by decide +kernel
theorem dX8_waitingInAll_6 : decode cX8_waitingInAll 6 = .ok (.getfield 40, 3) := by decide +kernel
theorem dX8_waitingInAll_9 : decode cX8_waitingInAll 9 = .ok (.if_icmp .ge 17, 3) := by decide +kernel
theorem dX8_waitingInAll_12 : decode cX8_waitingInAll 12 = .ok (.iload_n 1, 1) := by decide +kernel
theorem dX8_waitingInAll_13 : decode cX8_waitingInAll 13 = .ok (.aload_n 0, 1) := by decide +kernel
theorem dX8_waitingInAll_14 : decode cX8_waitingInAll 14 = .ok (.iload_n 2, 1) := by decide +kernel
theorem dX8_waitingInAll_15 : decode cX8_waitingInAll 15 = .ok (.invokevirtual 59, 3) := by decide +kernel
theorem dX8_waitingInAll_18 : decode cX8_waitingInAll 18 = .ok (.iadd, 1) := by decide +kernel
theorem dX8_waitingInAll_19 : decode cX8_waitingInAll 19 = .ok (.istore_n 1, 1) := by decide +kernel
theorem dX8_waitingInAll_20 : decode cX8_waitingInAll 20 = .ok (.iinc 2 1, 3) := by decide +kernel
theorem dX8_waitingInAll_23 : decode cX8_waitingInAll 23 = .ok (.goto (-19), 3) := by decide +kernel
theorem dX8_waitingInAll_26 : decode cX8_waitingInAll 26 = .ok (.iload_n 1, 1) := by decide +kernel
theorem dX8_waitingInAll_27 : decode cX8_waitingInAll 27 = .ok (.ireturn, 1) := by decide +kernel
theorem dX8_over_0 : decode cX8_over 0 = .ok (.iconst 0, 1) := by decide +kernel
theorem dX8_over_1 : decode cX8_over 1 = .ok (.istore_n 1, 1) := by decide +kernel
theorem dX8_over_2 : decode cX8_over 2 = .ok (.iconst 0, 1) := by decide +kernel
theorem dX8_over_3 : decode cX8_over 3 = .ok (.istore_n 2, 1) := by decide +kernel
theorem dX8_over_4 : decode cX8_over 4 = .ok (.iload_n 2, 1) := by decide +kernel
theorem dX8_over_5 : decode cX8_over 5 = .ok (.aload_n 0, 1) := by decide +kernel
theorem dX8_over_6 : decode cX8_over 6 = .ok (.getfield 36, 3) := by decide +kernel
theorem dX8_over_9 : decode cX8_over 9 = .ok (.if_icmp .ge 23, 3) := by decide +kernel
theorem dX8_over_12 : decode cX8_over 12 = .ok (.aload_n 0, 1) := by decide +kernel
theorem dX8_over_13 : decode cX8_over 13 = .ok (.getfield 21, 3) := by decide +kernel
theorem dX8_over_16 : decode cX8_over 16 = .ok (.iload_n 2, 1) := by decide +kernel
theorem dX8_over_17 : decode cX8_over 17 = .ok (.iaload, 1) := by decide +kernel
theorem dX8_over_18 : decode cX8_over 18 = .ok (.bipush 23, 2) := by decide +kernel
theorem dX8_over_20 : decode cX8_over 20 = .ok (.if_icmp .ne 6, 3) := by decide +kernel
theorem dX8_over_23 : decode cX8_over 23 = .ok (.iinc 1 1, 3) := by decide +kernel
theorem dX8_over_26 : decode cX8_over 26 = .ok (.iinc 2 1, 3) := by decide +kernel
theorem dX8_over_29 : decode cX8_over 29 = .ok (.goto (-25), 3) := by decide +kernel
theorem dX8_over_32 : decode cX8_over 32 = .ok (.iload_n 1, 1) := by decide +kernel
theorem dX8_over_33 : decode cX8_over 33 = .ok (.ireturn, 1) := by decide +kernel
set_option maxRecDepth 20000 in
theorem ggX8_goesNow_X1_spikesGone : GoodIn wsX8_goesNow wsX1_spikesGone := goodIn_r _ [7] rfl (by decide +kernel)
set_option maxRecDepth 20000 in
theorem gX8_goesNow_X1_spikesGone : GoodIn wsX8_goesNow (va_wsS RX8 63 yX1_spikesGone wsX1_spikesGone) := goodIn_app (goodIn_of _ (by decide +kernel)) ggX8_goesNow_X1_spikesGone
theorem dX8_goesNow_0 : decode cX8_goesNow 0 = .ok (.aload_n 0, 1) := by decide +kernel
theorem dX8_goesNow_1 : decode cX8_goesNow 1 = .ok (.getfield 15, 3) := by decide +kernel
theorem dX8_goesNow_4 : decode cX8_goesNow 4 = .ok (.iload_n 1, 1) := by decide +kernel
theorem dX8_goesNow_5 : decode cX8_goesNow 5 = .ok (.iaload, 1) := by decide +kernel
theorem dX8_goesNow_6 : decode cX8_goesNow 6 = .ok (.aload_n 0, 1) := by decide +kernel
theorem dX8_goesNow_7 : decode cX8_goesNow 7 = .ok (.getfield 46, 3) := by decide +kernel
theorem dX8_goesNow_10 : decode cX8_goesNow 10 = .ok (.aload_n 0, 1) := by decide +kernel
theorem dX8_goesNow_11 : decode cX8_goesNow 11 = .ok (.getfield 11, 3) := by decide +kernel
theorem dX8_goesNow_14 : decode cX8_goesNow 14 = .ok (.aload_n 0, 1) := by decide +kernel
theorem dX8_goesNow_15 : decode cX8_goesNow 15 = .ok (.getfield 46, 3) := by decide +kernel
theorem dX8_goesNow_18 : decode cX8_goesNow 18 = .ok (.bipush 6, 2) := by decide +kernel
theorem dX8_goesNow_20 : decode cX8_goesNow 20 = .ok (.irem, 1) := by decide +kernel
theorem dX8_goesNow_21 : decode cX8_goesNow 21 = .ok (.iaload, 1) := by decide +kernel
theorem dX8_goesNow_22 : decode cX8_goesNow 22 = .ok (.invokestatic 63, 3) := by decide +kernel
theorem dX8_goesNow_25 : decode cX8_goesNow 25 = .ok (.ireturn, 1) := by decide +kernel
set_option maxRecDepth 20000 in
theorem ggX8_letsNow_X8_waitingBehind : GoodIn wsX8_letsNow wsX8_waitingBehind := goodIn_r _ [7, 8, 9, 10, 15, 16, 17, 18, 19, 20, 21, 22, 23, 24, 25, 26] rfl (by decide +kernel)
set_option maxRecDepth 20000 in
theorem gX8_letsNow_X8_waitingBehind : GoodIn wsX8_letsNow (wsV RX8 59 RX8 yX8_waitingBehind wsX8_waitingBehind) := goodIn_app (goodIn_of _ (by decide +kernel)) ggX8_letsNow_X8_waitingBehind
set_option maxRecDepth 20000 in
theorem ggX8_letsNow_X1_letOver : GoodIn wsX8_letsNow wsX1_letOver := goodIn_r _ [14] rfl (by decide +kernel)
set_option maxRecDepth 20000 in
theorem gX8_letsNow_X1_letOver : GoodIn wsX8_letsNow (va_wsS RX8 69 yX1_letOver wsX1_letOver) := goodIn_app (goodIn_of _ (by decide +kernel)) ggX8_letsNow_X1_letOver
theorem dX8_letsNow_0 : decode cX8_letsNow 0 = .ok (.aload_n 0, 1) := by decide +kernel
theorem dX8_letsNow_1 : decode cX8_letsNow 1 = .ok (.iload_n 1, 1) := by decide +kernel
theorem dX8_letsNow_2 : decode cX8_letsNow 2 = .ok (.invokevirtual 59, 3) := by decide +kernel
theorem dX8_letsNow_5 : decode cX8_letsNow 5 = .ok (.istore_n 2, 1) := by decide +kernel
theorem dX8_letsNow_6 : decode cX8_letsNow 6 = .ok (.iload_n 2, 1) := by decide +kernel
theorem dX8_letsNow_7 : decode cX8_letsNow 7 = .ok (.ifCond .ne 7, 3) := by decide +kernel
theorem dX8_letsNow_10 : decode cX8_letsNow 10 = .ok (.iconst 0, 1) := by decide +kernel
theorem dX8_letsNow_11 : decode cX8_letsNow 11 = .ok (.goto 17, 3) := by decide +kernel
theorem dX8_letsNow_14 : decode cX8_letsNow 14 = .ok (.aload_n 0, 1) := by decide +kernel
theorem dX8_letsNow_15 : decode cX8_letsNow 15 = .ok (.getfield 24, 3) := by decide +kernel
theorem dX8_letsNow_18 : decode cX8_letsNow 18 = .ok (.iload_n 1, 1) := by decide +kernel
theorem dX8_letsNow_19 : decode cX8_letsNow 19 = .ok (.iaload, 1) := by decide +kernel
theorem dX8_letsNow_20 : decode cX8_letsNow 20 = .ok (.aload_n 0, 1) := by decide +kernel
theorem dX8_letsNow_21 : decode cX8_letsNow 21 = .ok (.getfield 46, 3) := by decide +kernel
theorem dX8_letsNow_24 : decode cX8_letsNow 24 = .ok (.iload_n 2, 1) := by decide +kernel
theorem dX8_letsNow_25 : decode cX8_letsNow 25 = .ok (.invokestatic 69, 3) := by decide +kernel
theorem dX8_letsNow_28 : decode cX8_letsNow 28 = .ok (.ireturn, 1) := by decide +kernel
set_option maxRecDepth 20000 in
theorem ggX8_goneInAll_X8_waits : GoodIn wsX8_goneInAll wsX8_waits := goodIn_r _ [8, 9, 10, 15, 16, 17, 18, 19, 20, 21, 22, 23, 24, 25, 26] rfl (by decide +kernel)
set_option maxRecDepth 20000 in
theorem gX8_goneInAll_X8_waits : GoodIn wsX8_goneInAll (wsV RX8 72 RX8 yX8_waits wsX8_waits) := goodIn_app (goodIn_of _ (by decide +kernel)) ggX8_goneInAll_X8_waits
set_option maxRecDepth 20000 in
theorem ggX8_goneInAll_X1_spikesGone : GoodIn wsX8_goneInAll wsX1_spikesGone := goodIn_r _ [14] rfl (by decide +kernel)
set_option maxRecDepth 20000 in
theorem gX8_goneInAll_X1_spikesGone : GoodIn wsX8_goneInAll (va_wsS RX8 63 yX1_spikesGone wsX1_spikesGone) := goodIn_app (goodIn_of _ (by decide +kernel)) ggX8_goneInAll_X1_spikesGone
theorem dX8_goneInAll_0 : decode cX8_goneInAll 0 = .ok (.iconst 0, 1) := by decide +kernel
theorem dX8_goneInAll_1 : decode cX8_goneInAll 1 = .ok (.istore_n 2, 1) := by decide +kernel
theorem dX8_goneInAll_2 : decode cX8_goneInAll 2 = .ok (.iconst 0, 1) := by decide +kernel
theorem dX8_goneInAll_3 : decode cX8_goneInAll 3 = .ok (.istore_n 3, 1) := by decide +kernel
theorem dX8_goneInAll_4 : decode cX8_goneInAll 4 = .ok (.iload_n 3, 1) := by decide +kernel
theorem dX8_goneInAll_5 : decode cX8_goneInAll 5 = .ok (.aload_n 0, 1) := by decide +kernel
theorem dX8_goneInAll_6 : decode cX8_goneInAll 6 = .ok (.getfield 36, 3) := by decide +kernel
theorem dX8_goneInAll_9 : decode cX8_goneInAll 9 = .ok (.if_icmp .ge 34, 3) := by decide +kernel
theorem dX8_goneInAll_12 : decode cX8_goneInAll 12 = .ok (.aload_n 0, 1) := by decide +kernel
theorem dX8_goneInAll_13 : decode cX8_goneInAll 13 = .ok (.iload_n 3, 1) := by decide +kernel
theorem dX8_goneInAll_14 : decode cX8_goneInAll 14 = .ok (.invokevirtual 72, 3) := by decide +kernel
theorem dX8_goneInAll_17 : decode cX8_goneInAll 17 = .ok (.ifCond .ne 20, 3) := by decide +kernel
theorem dX8_goneInAll_20 : decode cX8_goneInAll 20 = .ok (.iload_n 2, 1) := by decide +kernel
theorem dX8_goneInAll_21 : decode cX8_goneInAll 21 = .ok (.aload_n 0, 1) := by decide +kernel
theorem dX8_goneInAll_22 : decode cX8_goneInAll 22 = .ok (.getfield 15, 3) := by decide +kernel
theorem dX8_goneInAll_25 : decode cX8_goneInAll 25 = .ok (.iload_n 3, 1) := by decide +kernel
theorem dX8_goneInAll_26 : decode cX8_goneInAll 26 = .ok (.iaload, 1) := by decide +kernel
theorem dX8_goneInAll_27 : decode cX8_goneInAll 27 = .ok (.aload_n 0, 1) := by decide +kernel
theorem dX8_goneInAll_28 : decode cX8_goneInAll 28 = .ok (.getfield 46, 3) := by decide +kernel
theorem dX8_goneInAll_31 : decode cX8_goneInAll 31 = .ok (.iload_n 1, 1) := by decide +kernel
theorem dX8_goneInAll_32 : decode cX8_goneInAll 32 = .ok (.invokestatic 63, 3) := by decide +kernel
theorem dX8_goneInAll_35 : decode cX8_goneInAll 35 = .ok (.iadd, 1) := by decide +kernel
theorem dX8_goneInAll_36 : decode cX8_goneInAll 36 = .ok (.istore_n 2, 1) := by decide +kernel
theorem dX8_goneInAll_37 : decode cX8_goneInAll 37 = .ok (.iinc 3 1, 3) := by decide +kernel
theorem dX8_goneInAll_40 : decode cX8_goneInAll 40 = .ok (.goto (-36), 3) := by decide +kernel
theorem dX8_goneInAll_43 : decode cX8_goneInAll 43 = .ok (.iload_n 2, 1) := by decide +kernel
theorem dX8_goneInAll_44 : decode cX8_goneInAll 44 = .ok (.ireturn, 1) := by decide +kernel
set_option maxRecDepth 20000 in
theorem ggX8_pass_X8_passHour : GoodIn wsX8_pass wsX8_passHour := goodIn_r _ [5, 6, 7, 8, 9, 10, 11, 12, 13, 14, 4, 15, 16, 17, 18, 19, 20, 21, 22, 23, 24, 25, 26, 27, 28, 29, 30, 31, 32, 33, 34, 35, 36, 37, 38, 39, 40, 41, 42, 43, 44, 45, 46, 47, 48, 49, 50, 51, 52, 53, 54, 55, 56, 57, 58, 59] rfl (by decide +kernel)
set_option maxRecDepth 20000 in
theorem gX8_pass_X8_passHour : GoodIn wsX8_pass (wsV RX8 76 RX8 yX8_passHour wsX8_passHour) := goodIn_app (goodIn_of _ (by decide +kernel)) ggX8_pass_X8_passHour
theorem dX8_pass_0 : decode cX8_pass 0 = .ok (.iconst 0, 1) := by decide +kernel
theorem dX8_pass_1 : decode cX8_pass 1 = .ok (.istore_n 2, 1) := by decide +kernel
theorem dX8_pass_2 : decode cX8_pass 2 = .ok (.iload_n 2, 1) := by decide +kernel
theorem dX8_pass_3 : decode cX8_pass 3 = .ok (.iload_n 1, 1) := by decide +kernel
theorem dX8_pass_4 : decode cX8_pass 4 = .ok (.if_icmp .ge 13, 3) := by decide +kernel
theorem dX8_pass_7 : decode cX8_pass 7 = .ok (.aload_n 0, 1) := by decide +kernel
theorem dX8_pass_8 : decode cX8_pass 8 = .ok (.invokevirtual 76, 3) := by decide +kernel
theorem dX8_pass_11 : decode cX8_pass 11 = .ok (.iinc 2 1, 3) := by decide +kernel
theorem dX8_pass_14 : decode cX8_pass 14 = .ok (.goto (-12), 3) := by decide +kernel
theorem dX8_pass_17 : decode cX8_pass 17 = .ok (.return_, 1) := by decide +kernel
set_option maxRecDepth 20000 in
theorem ggX8_passHour_X8_shutBit : GoodIn wsX8_passHour wsX8_shutBit := goodIn_r _ [11, 12, 44, 45, 46, 47, 48, 49, 50, 51, 52, 53, 54, 55] rfl (by decide +kernel)
set_option maxRecDepth 20000 in
theorem gX8_passHour_X8_shutBit : GoodIn wsX8_passHour (wsV RX8 79 RX8 yX8_shutBit wsX8_shutBit) := goodIn_app (goodIn_of _ (by decide +kernel)) ggX8_passHour_X8_shutBit
set_option maxRecDepth 20000 in
theorem ggX8_passHour_X8_letsNow : GoodIn wsX8_passHour wsX8_letsNow := goodIn_r _ [16, 17, 6, 18, 19, 20, 10, 21, 3, 5, 22, 23, 24, 25, 26, 44, 45, 46, 47, 48, 49, 50, 51, 52, 53, 54, 55] rfl (by decide +kernel)
set_option maxRecDepth 20000 in
theorem gX8_passHour_X8_letsNow : GoodIn wsX8_passHour (wsV RX8 82 RX8 yX8_letsNow wsX8_letsNow) := goodIn_app (goodIn_of _ (by decide +kernel)) ggX8_passHour_X8_letsNow
set_option maxRecDepth 20000 in
theorem ggX8_passHour_X8_goesNow : GoodIn wsX8_passHour wsX8_goesNow := goodIn_r _ [30, 31, 6, 32, 33, 34, 25, 35, 44, 45, 46, 47, 48, 49, 50, 51, 52, 53, 54, 55] rfl (by decide +kernel)
set_option maxRecDepth 20000 in
theorem gX8_passHour_X8_goesNow : GoodIn wsX8_passHour (wsV RX8 85 RX8 yX8_goesNow wsX8_goesNow) := goodIn_app (goodIn_of _ (by decide +kernel)) ggX8_passHour_X8_goesNow
set_option maxRecDepth 20000 in
theorem ggX8_passHour_X8_walk : GoodIn wsX8_passHour wsX8_walk := goodIn_r _ [39, 5, 40, 41, 42, 10, 43, 4, 44, 45, 46, 47, 48, 49, 50, 51, 52, 53, 54, 55] rfl (by decide +kernel)
set_option maxRecDepth 20000 in
theorem gX8_passHour_X8_walk : GoodIn wsX8_passHour (wsV RX8 88 RX8 yX8_walk wsX8_walk) := goodIn_app (goodIn_of _ (by decide +kernel)) ggX8_passHour_X8_walk
theorem dX8_passHour_0 : decode cX8_passHour 0 = .ok (.iconst 0, 1) := by decide +kernel
theorem dX8_passHour_1 : decode cX8_passHour 1 = .ok (.istore_n 1, 1) := by decide +kernel
theorem dX8_passHour_2 : decode cX8_passHour 2 = .ok (.iload_n 1, 1) := by decide +kernel
theorem dX8_passHour_3 : decode cX8_passHour 3 = .ok (.aload_n 0, 1) := by decide +kernel
theorem dX8_passHour_4 : decode cX8_passHour 4 = .ok (.getfield 40, 3) := by decide +kernel
theorem dX8_passHour_7 : decode cX8_passHour 7 = .ok (.if_icmp .ge 33, 3) := by decide +kernel
theorem dX8_passHour_10 : decode cX8_passHour 10 = .ok (.aload_n 0, 1) := by decide +kernel
theorem dX8_passHour_11 : decode cX8_passHour 11 = .ok (.getfield 33, 3) := by decide +kernel
theorem dX8_passHour_14 : decode cX8_passHour 14 = .ok (.iload_n 1, 1) := by decide +kernel
theorem dX8_passHour_15 : decode cX8_passHour 15 = .ok (.aload_n 0, 1) := by decide +kernel
theorem dX8_passHour_16 : decode cX8_passHour 16 = .ok (.iload_n 1, 1) := by decide +kernel
theorem dX8_passHour_17 : decode cX8_passHour 17 = .ok (.invokevirtual 79, 3) := by decide +kernel
theorem dX8_passHour_20 : decode cX8_passHour 20 = .ok (.iconst 1, 1) := by decide +kernel
theorem dX8_passHour_21 : decode cX8_passHour 21 = .ok (.if_icmp .ne 7, 3) := by decide +kernel
theorem dX8_passHour_24 : decode cX8_passHour 24 = .ok (.iconst 0, 1) := by decide +kernel
theorem dX8_passHour_25 : decode cX8_passHour 25 = .ok (.goto 8, 3) := by decide +kernel
theorem dX8_passHour_28 : decode cX8_passHour 28 = .ok (.aload_n 0, 1) := by decide +kernel
theorem dX8_passHour_29 : decode cX8_passHour 29 = .ok (.iload_n 1, 1) := by decide +kernel
theorem dX8_passHour_30 : decode cX8_passHour 30 = .ok (.invokevirtual 82, 3) := by decide +kernel
theorem dX8_passHour_33 : decode cX8_passHour 33 = .ok (.iastore, 1) := by decide +kernel
theorem dX8_passHour_34 : decode cX8_passHour 34 = .ok (.iinc 1 1, 3) := by decide +kernel
theorem dX8_passHour_37 : decode cX8_passHour 37 = .ok (.goto (-35), 3) := by decide +kernel
theorem dX8_passHour_40 : decode cX8_passHour 40 = .ok (.iconst 0, 1) := by decide +kernel
theorem dX8_passHour_41 : decode cX8_passHour 41 = .ok (.istore_n 1, 1) := by decide +kernel
theorem dX8_passHour_42 : decode cX8_passHour 42 = .ok (.iload_n 1, 1) := by decide +kernel
theorem dX8_passHour_43 : decode cX8_passHour 43 = .ok (.aload_n 0, 1) := by decide +kernel
theorem dX8_passHour_44 : decode cX8_passHour 44 = .ok (.getfield 36, 3) := by decide +kernel
theorem dX8_passHour_47 : decode cX8_passHour 47 = .ok (.if_icmp .ge 70, 3) := by decide +kernel
theorem dX8_passHour_50 : decode cX8_passHour 50 = .ok (.aload_n 0, 1) := by decide +kernel
theorem dX8_passHour_51 : decode cX8_passHour 51 = .ok (.getfield 30, 3) := by decide +kernel
theorem dX8_passHour_54 : decode cX8_passHour 54 = .ok (.aload_n 0, 1) := by decide +kernel
theorem dX8_passHour_55 : decode cX8_passHour 55 = .ok (.getfield 21, 3) := by decide +kernel
theorem dX8_passHour_58 : decode cX8_passHour 58 = .ok (.iload_n 1, 1) := by decide +kernel
theorem dX8_passHour_59 : decode cX8_passHour 59 = .ok (.iaload, 1) := by decide +kernel
theorem dX8_passHour_60 : decode cX8_passHour 60 = .ok (.iaload, 1) := by decide +kernel
theorem dX8_passHour_61 : decode cX8_passHour 61 = .ok (.iconst 1, 1) := by decide +kernel
theorem dX8_passHour_62 : decode cX8_passHour 62 = .ok (.isub, 1) := by decide +kernel
theorem dX8_passHour_63 : decode cX8_passHour 63 = .ok (.istore_n 2, 1) := by decide +kernel
theorem dX8_passHour_64 : decode cX8_passHour 64 = .ok (.iload_n 2, 1) := by decide +kernel
theorem dX8_passHour_65 : decode cX8_passHour 65 = .ok (.iconst (-1), 1) := by decide +kernel
theorem dX8_passHour_66 : decode cX8_passHour 66 = .ok (.if_icmp .ne 16, 3) := by decide +kernel
theorem dX8_passHour_69 : decode cX8_passHour 69 = .ok (.aload_n 0, 1) := by decide +kernel
theorem dX8_passHour_70 : decode cX8_passHour 70 = .ok (.iload_n 1, 1) := by decide +kernel
theorem dX8_passHour_71 : decode cX8_passHour 71 = .ok (.aload_n 0, 1) := by decide +kernel
theorem dX8_passHour_72 : decode cX8_passHour 72 = .ok (.iload_n 1, 1) := by decide +kernel
theorem dX8_passHour_73 : decode cX8_passHour 73 = .ok (.invokevirtual 85, 3) := by decide +kernel
theorem dX8_passHour_76 : decode cX8_passHour 76 = .ok (.invokevirtual 88, 3) := by decide +kernel
theorem dX8_passHour_79 : decode cX8_passHour 79 = .ok (.goto 32, 3) := by decide +kernel
theorem dX8_passHour_82 : decode cX8_passHour 82 = .ok (.aload_n 0, 1) := by decide +kernel
theorem dX8_passHour_83 : decode cX8_passHour 83 = .ok (.getfield 33, 3) := by decide +kernel
theorem dX8_passHour_86 : decode cX8_passHour 86 = .ok (.iload_n 2, 1) := by decide +kernel
theorem dX8_passHour_87 : decode cX8_passHour 87 = .ok (.iaload, 1) := by decide +kernel
theorem dX8_passHour_88 : decode cX8_passHour 88 = .ok (.ifCond .le 23, 3) := by decide +kernel
theorem dX8_passHour_91 : decode cX8_passHour 91 = .ok (.aload_n 0, 1) := by decide +kernel
theorem dX8_passHour_92 : decode cX8_passHour 92 = .ok (.getfield 33, 3) := by decide +kernel
theorem dX8_passHour_95 : decode cX8_passHour 95 = .ok (.iload_n 2, 1) := by decide +kernel
theorem dX8_passHour_96 : decode cX8_passHour 96 = .ok (.dup2, 1) := by decide +kernel
theorem dX8_passHour_97 : decode cX8_passHour 97 = .ok (.iaload, 1) := by decide +kernel
theorem dX8_passHour_98 : decode cX8_passHour 98 = .ok (.iconst 1, 1) := by decide +kernel
theorem dX8_passHour_99 : decode cX8_passHour 99 = .ok (.isub, 1) := by decide +kernel
theorem dX8_passHour_100 : decode cX8_passHour 100 = .ok (.iastore, 1) := by decide +kernel
theorem dX8_passHour_101 : decode cX8_passHour 101 = .ok (.aload_n 0, 1) := by decide +kernel
theorem dX8_passHour_102 : decode cX8_passHour 102 = .ok (.getfield 21, 3) := by decide +kernel
theorem dX8_passHour_105 : decode cX8_passHour 105 = .ok (.iload_n 1, 1) := by decide +kernel
theorem dX8_passHour_106 : decode cX8_passHour 106 = .ok (.dup2, 1) := by decide +kernel
theorem dX8_passHour_107 : decode cX8_passHour 107 = .ok (.iaload, 1) := by decide +kernel
theorem dX8_passHour_108 : decode cX8_passHour 108 = .ok (.iconst 1, 1) := by decide +kernel
theorem dX8_passHour_109 : decode cX8_passHour 109 = .ok (.iadd, 1) := by decide +kernel
theorem dX8_passHour_110 : decode cX8_passHour 110 = .ok (.iastore, 1) := by decide +kernel
theorem dX8_passHour_111 : decode cX8_passHour 111 = .ok (.iinc 1 1, 3) := by decide +kernel
theorem dX8_passHour_114 : decode cX8_passHour 114 = .ok (.goto (-72), 3) := by decide +kernel
theorem dX8_passHour_117 : decode cX8_passHour 117 = .ok (.aload_n 0, 1) := by decide +kernel
theorem dX8_passHour_118 : decode cX8_passHour 118 = .ok (.dup, 1) := by decide +kernel
theorem dX8_passHour_119 : decode cX8_passHour 119 = .ok (.getfield 46, 3) := by decide +kernel
theorem dX8_passHour_122 : decode cX8_passHour 122 = .ok (.iconst 1, 1) := by decide +kernel
theorem dX8_passHour_123 : decode cX8_passHour 123 = .ok (.iadd, 1) := by decide +kernel
theorem dX8_passHour_124 : decode cX8_passHour 124 = .ok (.putfield 46, 3) := by decide +kernel
theorem dX8_passHour_127 : decode cX8_passHour 127 = .ok (.return_, 1) := by decide +kernel
set_option maxRecDepth 20000 in
theorem ggX8_walk_X8_waits : GoodIn wsX8_walk wsX8_waits := goodIn_r _ [6, 7, 1, 8, 9, 10, 11, 12, 13, 14, 15, 16, 17, 18, 19] rfl (by decide +kernel)
set_option maxRecDepth 20000 in
theorem gX8_walk_X8_waits : GoodIn wsX8_walk (wsV RX8 72 RX8 yX8_waits wsX8_waits) := goodIn_app (goodIn_of _ (by decide +kernel)) ggX8_walk_X8_waits
theorem dX8_walk_0 : decode cX8_walk 0 = .ok (.iconst 0, 1) := by decide +kernel
theorem dX8_walk_1 : decode cX8_walk 1 = .ok (.istore_n 3, 1) := by decide +kernel
theorem dX8_walk_2 : decode cX8_walk 2 = .ok (.iload_n 3, 1) := by decide +kernel
theorem dX8_walk_3 : decode cX8_walk 3 = .ok (.iload_n 2, 1) := by decide +kernel
theorem dX8_walk_4 : decode cX8_walk 4 = .ok (.if_icmp .ge 38, 3) := by decide +kernel
theorem dX8_walk_7 : decode cX8_walk 7 = .ok (.aload_n 0, 1) := by decide +kernel
theorem dX8_walk_8 : decode cX8_walk 8 = .ok (.getfield 21, 3) := by decide +kernel
theorem dX8_walk_11 : decode cX8_walk 11 = .ok (.iload_n 1, 1) := by decide +kernel
theorem dX8_walk_12 : decode cX8_walk 12 = .ok (.iaload, 1) := by decide +kernel
theorem dX8_walk_13 : decode cX8_walk 13 = .ok (.bipush 23, 2) := by decide +kernel
theorem dX8_walk_15 : decode cX8_walk 15 = .ok (.if_icmp .ge 27, 3) := by decide +kernel
theorem dX8_walk_18 : decode cX8_walk 18 = .ok (.aload_n 0, 1) := by decide +kernel
theorem dX8_walk_19 : decode cX8_walk 19 = .ok (.iload_n 1, 1) := by decide +kernel
theorem dX8_walk_20 : decode cX8_walk 20 = .ok (.invokevirtual 72, 3) := by decide +kernel
theorem dX8_walk_23 : decode cX8_walk 23 = .ok (.ifCond .ne 19, 3) := by decide +kernel
theorem dX8_walk_26 : decode cX8_walk 26 = .ok (.aload_n 0, 1) := by decide +kernel
theorem dX8_walk_27 : decode cX8_walk 27 = .ok (.getfield 21, 3) := by decide +kernel
theorem dX8_walk_30 : decode cX8_walk 30 = .ok (.iload_n 1, 1) := by decide +kernel
theorem dX8_walk_31 : decode cX8_walk 31 = .ok (.dup2, 1) := by decide +kernel
theorem dX8_walk_32 : decode cX8_walk 32 = .ok (.iaload, 1) := by decide +kernel
theorem dX8_walk_33 : decode cX8_walk 33 = .ok (.iconst 1, 1) := by decide +kernel
theorem dX8_walk_34 : decode cX8_walk 34 = .ok (.iadd, 1) := by decide +kernel
theorem dX8_walk_35 : decode cX8_walk 35 = .ok (.iastore, 1) := by decide +kernel
theorem dX8_walk_36 : decode cX8_walk 36 = .ok (.iinc 3 1, 3) := by decide +kernel
theorem dX8_walk_39 : decode cX8_walk 39 = .ok (.goto (-37), 3) := by decide +kernel
theorem dX8_walk_42 : decode cX8_walk 42 = .ok (.return_, 1) := by decide +kernel
theorem dX9_init_0 : decode cX9_init 0 = .ok (.aload_n 0, 1) := by decide +kernel
theorem dX9_init_1 : decode cX9_init 1 = .ok (.invokespecial 3, 3) := by decide +kernel
theorem dX9_init_4 : decode cX9_init 4 = .ok (.aload_n 0, 1) := by decide +kernel
theorem dX9_init_5 : decode cX9_init 5 = .ok (.sipush 150, 3) := by decide +kernel
theorem dX9_init_8 : decode cX9_init 8 = .ok (.newarray .int, 2) := by decide +kernel
theorem dX9_init_10 : decode cX9_init 10 = .ok (.putfield 11, 3) := by decide +kernel
theorem dX9_init_13 : decode cX9_init 13 = .ok (.return_, 1) := by decide +kernel
set_option maxRecDepth 20000 in
theorem ggX10_init_X7_init : GoodIn wsX10_init wsX7_init := goodIn_r _ [29, 30, 2, 3, 31, 32, 33, 34, 35, 36, 37, 38, 39, 40, 41, 42, 43, 44, 45, 46, 47, 48, 49, 50, 51, 52, 53, 54, 55, 56, 57, 58, 59, 60, 61, 62, 63, 64, 65, 66, 67, 68, 69, 70, 71, 128, 129, 130, 131, 132, 133, 134, 135, 136, 137, 138, 139, 98, 99, 100, 101, 102, 140, 141, 142, 143, 144, 145] rfl (by decide +kernel)
set_option maxRecDepth 20000 in
theorem gX10_init_X7_init_n9 : GoodIn wsX10_init (wsX7_init) := ggX10_init_X7_init
set_option maxRecDepth 20000 in
theorem ggX10_init_X0_init : GoodIn wsX10_init wsX0_init := goodIn_r _ [73, 74, 2, 3, 75, 32, 33, 76, 45, 46, 47, 48, 49, 50, 51, 52, 53, 54, 55, 56, 128, 129, 130, 131, 132, 133, 134, 135, 136, 137, 138, 139, 116, 117, 118, 119] rfl (by decide +kernel)
set_option maxRecDepth 20000 in
theorem gX10_init_X0_init_n24 : GoodIn wsX10_init (wsX0_init) := ggX10_init_X0_init
set_option maxRecDepth 20000 in
theorem ggX10_init_X2_init : GoodIn wsX10_init wsX2_init := goodIn_r _ [78, 79, 2, 3, 48, 80, 120, 121] rfl (by decide +kernel)
set_option maxRecDepth 20000 in
theorem gX10_init_X2_init_n31 : GoodIn wsX10_init (wsX2_init) := ggX10_init_X2_init
set_option maxRecDepth 20000 in
theorem ggX10_init_X3_init : GoodIn wsX10_init wsX3_init := goodIn_r _ [82, 83, 2, 3, 48, 84, 122, 123, 124, 125] rfl (by decide +kernel)
set_option maxRecDepth 20000 in
theorem gX10_init_X3_init_n38 : GoodIn wsX10_init (wsX3_init) := ggX10_init_X3_init
set_option maxRecDepth 20000 in
theorem ggX10_init_X5_init : GoodIn wsX10_init wsX5_init := goodIn_r _ [86, 87, 2, 3, 88, 89, 90, 91, 92, 32, 33, 93, 94, 95, 96, 48, 97, 45, 46, 47, 49, 50, 51, 52, 53, 54, 55, 56, 146, 147, 148, 149, 150, 151, 126, 127, 128, 129, 130, 131, 132, 133, 134, 135, 136, 137, 138, 139] rfl (by decide +kernel)
set_option maxRecDepth 20000 in
theorem gX10_init_X5_init_n45 : GoodIn wsX10_init (wsX5_init) := ggX10_init_X5_init
theorem dX10_init_0 : decode cX10_init 0 = .ok (.aload_n 0, 1) := by decide +kernel
theorem dX10_init_1 : decode cX10_init 1 = .ok (.invokespecial 1, 3) := by decide +kernel
theorem dX10_init_4 : decode cX10_init 4 = .ok (.aload_n 0, 1) := by decide +kernel
theorem dX10_init_5 : decode cX10_init 5 = .ok (.new 7, 3) := by decide +kernel
theorem dX10_init_8 : decode cX10_init 8 = .ok (.dup, 1) := by decide +kernel
theorem dX10_init_9 : decode cX10_init 9 = .ok (.invokespecial 9, 3) := by decide +kernel
theorem dX10_init_12 : decode cX10_init 12 = .ok (.putfield 10, 3) := by decide +kernel
theorem dX10_init_15 : decode cX10_init 15 = .ok (.aload_n 0, 1) := by decide +kernel
theorem dX10_init_16 : decode cX10_init 16 = .ok (.new 7, 3) := by decide +kernel
theorem dX10_init_19 : decode cX10_init 19 = .ok (.dup, 1) := by decide +kernel
theorem dX10_init_20 : decode cX10_init 20 = .ok (.invokespecial 9, 3) := by decide +kernel
theorem dX10_init_23 : decode cX10_init 23 = .ok (.putfield 16, 3) := by decide +kernel
theorem dX10_init_26 : decode cX10_init 26 = .ok (.aload_n 0, 1) := by decide +kernel
theorem dX10_init_27 : decode cX10_init 27 = .ok (.new 7, 3) := by decide +kernel
theorem dX10_init_30 : decode cX10_init 30 = .ok (.dup, 1) := by decide +kernel
theorem dX10_init_31 : decode cX10_init 31 = .ok (.invokespecial 9, 3) := by decide +kernel
theorem dX10_init_34 : decode cX10_init 34 = .ok (.putfield 19, 3) := by decide +kernel
theorem dX10_init_37 : decode cX10_init 37 = .ok (.aload_n 0, 1) := by decide +kernel
theorem dX10_init_38 : decode cX10_init 38 = .ok (.new 22, 3) := by decide +kernel
theorem dX10_init_41 : decode cX10_init 41 = .ok (.dup, 1) := by decide +kernel
theorem dX10_init_42 : decode cX10_init 42 = .ok (.invokespecial 24, 3) := by decide +kernel
theorem dX10_init_45 : decode cX10_init 45 = .ok (.putfield 25, 3) := by decide +kernel
theorem dX10_init_48 : decode cX10_init 48 = .ok (.aload_n 0, 1) := by decide +kernel
theorem dX10_init_49 : decode cX10_init 49 = .ok (.new 29, 3) := by decide +kernel
theorem dX10_init_52 : decode cX10_init 52 = .ok (.dup, 1) := by decide +kernel
theorem dX10_init_53 : decode cX10_init 53 = .ok (.invokespecial 31, 3) := by decide +kernel
theorem dX10_init_56 : decode cX10_init 56 = .ok (.putfield 32, 3) := by decide +kernel
theorem dX10_init_59 : decode cX10_init 59 = .ok (.aload_n 0, 1) := by decide +kernel
theorem dX10_init_60 : decode cX10_init 60 = .ok (.new 36, 3) := by decide +kernel
theorem dX10_init_63 : decode cX10_init 63 = .ok (.dup, 1) := by decide +kernel
theorem dX10_init_64 : decode cX10_init 64 = .ok (.invokespecial 38, 3) := by decide +kernel
theorem dX10_init_67 : decode cX10_init 67 = .ok (.putfield 39, 3) := by decide +kernel
theorem dX10_init_70 : decode cX10_init 70 = .ok (.aload_n 0, 1) := by decide +kernel
theorem dX10_init_71 : decode cX10_init 71 = .ok (.new 43, 3) := by decide +kernel
theorem dX10_init_74 : decode cX10_init 74 = .ok (.dup, 1) := by decide +kernel
theorem dX10_init_75 : decode cX10_init 75 = .ok (.invokespecial 45, 3) := by decide +kernel
theorem dX10_init_78 : decode cX10_init 78 = .ok (.putfield 46, 3) := by decide +kernel
theorem dX10_init_81 : decode cX10_init 81 = .ok (.aload_n 0, 1) := by decide +kernel
theorem dX10_init_82 : decode cX10_init 82 = .ok (.iconst 0, 1) := by decide +kernel
theorem dX10_init_83 : decode cX10_init 83 = .ok (.putfield 50, 3) := by decide +kernel
theorem dX10_init_86 : decode cX10_init 86 = .ok (.aload_n 0, 1) := by decide +kernel
theorem dX10_init_87 : decode cX10_init 87 = .ok (.iconst 1, 1) := by decide +kernel
theorem dX10_init_88 : decode cX10_init 88 = .ok (.putfield 54, 3) := by decide +kernel
theorem dX10_init_91 : decode cX10_init 91 = .ok (.return_, 1) := by decide +kernel
set_option maxRecDepth 20000 in
theorem ggX10_street_X7_empty : GoodIn wsX10_street wsX7_empty := goodIn_r _ [8, 9, 10, 11, 12, 13, 14, 15, 16, 17, 18, 19, 20, 21, 22, 23, 24, 25, 26, 27, 28, 29, 30, 31, 45, 46, 47, 48, 49, 62, 63, 50, 51, 52, 53, 54, 55, 56, 57, 58, 59, 60, 61, 64, 65, 66, 67] rfl (by decide +kernel)
set_option maxRecDepth 20000 in
theorem gX10_street_X7_empty : GoodIn wsX10_street (wsV RX10 66 RX7 yX7_empty wsX7_empty) := goodIn_app (goodIn_of _ (by decide +kernel)) ggX10_street_X7_empty
theorem dX10_street_0 : decode cX10_street 0 = .ok (.aload_n 0, 1) := by decide +kernel
theorem dX10_street_1 : decode cX10_street 1 = .ok (.getfield 10, 3) := by decide +kernel
theorem dX10_street_4 : decode cX10_street 4 = .ok (.getfield 57, 3) := by decide +kernel
theorem dX10_street_7 : decode cX10_street 7 = .ok (.getfield 61, 3) := by decide +kernel
theorem dX10_street_10 : decode cX10_street 10 = .ok (.istore_n 1, 1) := by decide +kernel
theorem dX10_street_11 : decode cX10_street 11 = .ok (.aload_n 0, 1) := by decide +kernel
theorem dX10_street_12 : decode cX10_street 12 = .ok (.getfield 10, 3) := by decide +kernel
theorem dX10_street_15 : decode cX10_street 15 = .ok (.invokevirtual 66, 3) := by decide +kernel
theorem dX10_street_18 : decode cX10_street 18 = .ok (.iload_n 1, 1) := by decide +kernel
theorem dX10_street_19 : decode cX10_street 19 = .ok (.ireturn, 1) := by decide +kernel
set_option maxRecDepth 20000 in
theorem ggX10_wet_X10_within : GoodIn wsX10_wet wsX10_within := goodIn_r _ [9] rfl (by decide +kernel)
set_option maxRecDepth 20000 in
theorem gX10_wet_X10_within : GoodIn wsX10_wet (va_wsS RX10 69 yX10_within wsX10_within) := goodIn_app (goodIn_of _ (by decide +kernel)) ggX10_wet_X10_within
set_option maxRecDepth 20000 in
theorem ggX10_wet_X10_bad : GoodIn wsX10_wet wsX10_bad := goodIn_r _ [13, 14, 15, 16, 17, 18, 19, 20, 21, 22, 23, 24, 25, 26, 27] rfl (by decide +kernel)
set_option maxRecDepth 20000 in
theorem gX10_wet_X10_bad : GoodIn wsX10_wet (wsV RX10 73 RX10 yX10_bad wsX10_bad) := goodIn_app (goodIn_of _ (by decide +kernel)) ggX10_wet_X10_bad
theorem dX10_wet_0 : decode cX10_wet 0 = .ok (.iload_n 1, 1) := by decide +kernel
theorem dX10_wet_1 : decode cX10_wet 1 = .ok (.iconst 0, 1) := by decide +kernel
theorem dX10_wet_2 : decode cX10_wet 2 = .ok (.iconst 5, 1) := by decide +kernel
theorem dX10_wet_3 : decode cX10_wet 3 = .ok (.invokestatic 69, 3) := by decide +kernel
theorem dX10_wet_6 : decode cX10_wet 6 = .ok (.ifCond .eq 12, 3) := by decide +kernel
theorem dX10_wet_9 : decode cX10_wet 9 = .ok (.iload_n 2, 1) := by decide +kernel
theorem dX10_wet_10 : decode cX10_wet 10 = .ok (.iconst 0, 1) := by decide +kernel
theorem dX10_wet_11 : decode cX10_wet 11 = .ok (.iconst 4, 1) := by decide +kernel
theorem dX10_wet_12 : decode cX10_wet 12 = .ok (.invokestatic 69, 3) := by decide +kernel
theorem dX10_wet_15 : decode cX10_wet 15 = .ok (.ifCond .ne 8, 3) := by decide +kernel
theorem dX10_wet_18 : decode cX10_wet 18 = .ok (.aload_n 0, 1) := by decide +kernel
theorem dX10_wet_19 : decode cX10_wet 19 = .ok (.invokevirtual 73, 3) := by decide +kernel
theorem dX10_wet_22 : decode cX10_wet 22 = .ok (.ireturn, 1) := by decide +kernel
theorem dX10_wet_23 : decode cX10_wet 23 = .ok (.aload_n 0, 1) := by decide +kernel
theorem dX10_wet_24 : decode cX10_wet 24 = .ok (.getfield 10, 3) := by decide +kernel
theorem dX10_wet_27 : decode cX10_wet 27 = .ok (.getfield 57, 3) := by decide +kernel
theorem dX10_wet_30 : decode cX10_wet 30 = .ok (.getfield 77, 3) := by decide +kernel
theorem dX10_wet_33 : decode cX10_wet 33 = .ok (.iload_n 1, 1) := by decide +kernel
theorem dX10_wet_34 : decode cX10_wet 34 = .ok (.iaload, 1) := by decide +kernel
theorem dX10_wet_35 : decode cX10_wet 35 = .ok (.istore_n 3, 1) := by decide +kernel
theorem dX10_wet_36 : decode cX10_wet 36 = .ok (.aload_n 0, 1) := by decide +kernel
theorem dX10_wet_37 : decode cX10_wet 37 = .ok (.getfield 10, 3) := by decide +kernel
theorem dX10_wet_40 : decode cX10_wet 40 = .ok (.getfield 57, 3) := by decide +kernel
theorem dX10_wet_43 : decode cX10_wet 43 = .ok (.getfield 77, 3) := by decide +kernel
theorem dX10_wet_46 : decode cX10_wet 46 = .ok (.iload_n 1, 1) := by decide +kernel
theorem dX10_wet_47 : decode cX10_wet 47 = .ok (.iload_n 2, 1) := by decide +kernel
theorem dX10_wet_48 : decode cX10_wet 48 = .ok (.iastore, 1) := by decide +kernel
theorem dX10_wet_49 : decode cX10_wet 49 = .ok (.aload_n 0, 1) := by decide +kernel
theorem dX10_wet_50 : decode cX10_wet 50 = .ok (.getfield 10, 3) := by decide +kernel
theorem dX10_wet_53 : decode cX10_wet 53 = .ok (.getfield 81, 3) := by decide +kernel
theorem dX10_wet_56 : decode cX10_wet 56 = .ok (.iconst 0, 1) := by decide +kernel
theorem dX10_wet_57 : decode cX10_wet 57 = .ok (.putfield 85, 3) := by decide +kernel
theorem dX10_wet_60 : decode cX10_wet 60 = .ok (.iload_n 3, 1) := by decide +kernel
theorem dX10_wet_61 : decode cX10_wet 61 = .ok (.ireturn, 1) := by decide +kernel
set_option maxRecDepth 20000 in
theorem ggX10_glove_X10_isKind : GoodIn wsX10_glove wsX10_isKind := goodIn_r _ [9, 10, 11, 8, 12] rfl (by decide +kernel)
set_option maxRecDepth 20000 in
theorem gX10_glove_X10_isKind : GoodIn wsX10_glove (va_wsS RX10 90 yX10_isKind wsX10_isKind) := goodIn_app (goodIn_of _ (by decide +kernel)) ggX10_glove_X10_isKind
set_option maxRecDepth 20000 in
theorem ggX10_glove_X10_within : GoodIn wsX10_glove wsX10_within := goodIn_r _ [12] rfl (by decide +kernel)
set_option maxRecDepth 20000 in
theorem gX10_glove_X10_within : GoodIn wsX10_glove (va_wsS RX10 69 yX10_within wsX10_within) := goodIn_app (goodIn_of _ (by decide +kernel)) ggX10_glove_X10_within
set_option maxRecDepth 20000 in
theorem ggX10_glove_X10_bad : GoodIn wsX10_glove wsX10_bad := goodIn_r _ [16, 17, 32, 33, 34, 35, 36, 37, 38, 39, 40, 41, 42, 43, 44] rfl (by decide +kernel)
set_option maxRecDepth 20000 in
theorem gX10_glove_X10_bad : GoodIn wsX10_glove (wsV RX10 73 RX10 yX10_bad wsX10_bad) := goodIn_app (goodIn_of _ (by decide +kernel)) ggX10_glove_X10_bad
set_option maxRecDepth 20000 in
theorem ggX10_glove_X10_full : GoodIn wsX10_glove wsX10_full := goodIn_r _ [21, 22, 32, 33, 34, 35, 36, 37, 38, 39, 40, 41, 42, 43, 44] rfl (by decide +kernel)
set_option maxRecDepth 20000 in
theorem gX10_glove_X10_full : GoodIn wsX10_glove (wsV RX10 94 RX10 yX10_full wsX10_full) := goodIn_app (goodIn_of _ (by decide +kernel)) ggX10_glove_X10_full
set_option maxRecDepth 20000 in
theorem ggX10_glove_X8_addGlove : GoodIn wsX10_glove wsX8_addGlove := goodIn_r _ [27, 28, 29, 30, 31, 50, 51, 52, 53, 54, 55, 56, 57, 58, 59, 60, 61] rfl (by decide +kernel)
set_option maxRecDepth 20000 in
theorem gX10_glove_X8_addGlove : GoodIn wsX10_glove (wsV RX10 97 RX8 yX8_addGlove wsX8_addGlove) := goodIn_app (goodIn_of _ (by decide +kernel)) ggX10_glove_X8_addGlove
theorem dX10_glove_0 : decode cX10_glove 0 = .ok (.iload_n 1, 1) := by decide +kernel
theorem dX10_glove_1 : decode cX10_glove 1 = .ok (.invokestatic 90, 3) := by decide +kernel
theorem dX10_glove_4 : decode cX10_glove 4 = .ok (.ifCond .eq 23, 3) := by decide +kernel
theorem dX10_glove_7 : decode cX10_glove 7 = .ok (.iload_n 2, 1) := by decide +kernel
theorem dX10_glove_8 : decode cX10_glove 8 = .ok (.iconst 1, 1) := by decide +kernel
theorem dX10_glove_9 : decode cX10_glove 9 = .ok (.bipush 9, 2) := by decide +kernel
theorem dX10_glove_11 : decode cX10_glove 11 = .ok (.invokestatic 69, 3) := by decide +kernel
theorem dX10_glove_14 : decode cX10_glove 14 = .ok (.ifCond .eq 13, 3) := by decide +kernel
theorem dX10_glove_17 : decode cX10_glove 17 = .ok (.iload_n 3, 1) := by decide +kernel
theorem dX10_glove_18 : decode cX10_glove 18 = .ok (.iconst 0, 1) := by decide +kernel
theorem dX10_glove_19 : decode cX10_glove 19 = .ok (.bipush 23, 2) := by decide +kernel
theorem dX10_glove_21 : decode cX10_glove 21 = .ok (.invokestatic 69, 3) := by decide +kernel
theorem dX10_glove_24 : decode cX10_glove 24 = .ok (.ifCond .ne 8, 3) := by decide +kernel
theorem dX10_glove_27 : decode cX10_glove 27 = .ok (.aload_n 0, 1) := by decide +kernel
theorem dX10_glove_28 : decode cX10_glove 28 = .ok (.invokevirtual 73, 3) := by decide +kernel
theorem dX10_glove_31 : decode cX10_glove 31 = .ok (.ireturn, 1) := by decide +kernel
theorem dX10_glove_32 : decode cX10_glove 32 = .ok (.aload_n 0, 1) := by decide +kernel
theorem dX10_glove_33 : decode cX10_glove 33 = .ok (.getfield 10, 3) := by decide +kernel
theorem dX10_glove_36 : decode cX10_glove 36 = .ok (.getfield 57, 3) := by decide +kernel
theorem dX10_glove_39 : decode cX10_glove 39 = .ok (.getfield 61, 3) := by decide +kernel
theorem dX10_glove_42 : decode cX10_glove 42 = .ok (.bipush 7, 2) := by decide +kernel
theorem dX10_glove_44 : decode cX10_glove 44 = .ok (.if_icmp .lt 8, 3) := by decide +kernel
theorem dX10_glove_47 : decode cX10_glove 47 = .ok (.aload_n 0, 1) := by decide +kernel
theorem dX10_glove_48 : decode cX10_glove 48 = .ok (.invokevirtual 94, 3) := by decide +kernel
theorem dX10_glove_51 : decode cX10_glove 51 = .ok (.ireturn, 1) := by decide +kernel
theorem dX10_glove_52 : decode cX10_glove 52 = .ok (.aload_n 0, 1) := by decide +kernel
theorem dX10_glove_53 : decode cX10_glove 53 = .ok (.getfield 10, 3) := by decide +kernel
theorem dX10_glove_56 : decode cX10_glove 56 = .ok (.getfield 81, 3) := by decide +kernel
theorem dX10_glove_59 : decode cX10_glove 59 = .ok (.iconst 0, 1) := by decide +kernel
theorem dX10_glove_60 : decode cX10_glove 60 = .ok (.putfield 85, 3) := by decide +kernel
theorem dX10_glove_63 : decode cX10_glove 63 = .ok (.aload_n 0, 1) := by decide +kernel
theorem dX10_glove_64 : decode cX10_glove 64 = .ok (.getfield 10, 3) := by decide +kernel
theorem dX10_glove_67 : decode cX10_glove 67 = .ok (.getfield 57, 3) := by decide +kernel
theorem dX10_glove_70 : decode cX10_glove 70 = .ok (.iload_n 1, 1) := by decide +kernel
theorem dX10_glove_71 : decode cX10_glove 71 = .ok (.iload_n 2, 1) := by decide +kernel
theorem dX10_glove_72 : decode cX10_glove 72 = .ok (.iload_n 3, 1) := by decide +kernel
theorem dX10_glove_73 : decode cX10_glove 73 = .ok (.invokevirtual 97, 3) := by decide +kernel
theorem dX10_glove_76 : decode cX10_glove 76 = .ok (.ireturn, 1) := by decide +kernel
set_option maxRecDepth 20000 in
theorem ggX10_crossing_X10_isKind : GoodIn wsX10_crossing wsX10_isKind := goodIn_r _ [9, 10, 11, 8, 12] rfl (by decide +kernel)
set_option maxRecDepth 20000 in
theorem gX10_crossing_X10_isKind : GoodIn wsX10_crossing (va_wsS RX10 90 yX10_isKind wsX10_isKind) := goodIn_app (goodIn_of _ (by decide +kernel)) ggX10_crossing_X10_isKind
set_option maxRecDepth 20000 in
theorem ggX10_crossing_X10_within : GoodIn wsX10_crossing wsX10_within := goodIn_r _ [12] rfl (by decide +kernel)
set_option maxRecDepth 20000 in
theorem gX10_crossing_X10_within : GoodIn wsX10_crossing (va_wsS RX10 69 yX10_within wsX10_within) := goodIn_app (goodIn_of _ (by decide +kernel)) ggX10_crossing_X10_within
set_option maxRecDepth 20000 in
theorem ggX10_crossing_X8_hasCrossing : GoodIn wsX10_crossing wsX8_hasCrossing := goodIn_r _ [17, 18, 11, 8, 12, 54, 55, 56, 57, 58, 59, 60, 61, 62, 63, 64, 65] rfl (by decide +kernel)
set_option maxRecDepth 20000 in
theorem gX10_crossing_X8_hasCrossing : GoodIn wsX10_crossing (wsV RX10 101 RX8 yX8_hasCrossing wsX8_hasCrossing) := goodIn_app (goodIn_of _ (by decide +kernel)) ggX10_crossing_X8_hasCrossing
set_option maxRecDepth 20000 in
theorem ggX10_crossing_X10_bad : GoodIn wsX10_crossing wsX10_bad := goodIn_r _ [22, 23, 36, 37, 38, 39, 40, 41, 42, 43, 44, 45, 46, 47, 48] rfl (by decide +kernel)
set_option maxRecDepth 20000 in
theorem gX10_crossing_X10_bad : GoodIn wsX10_crossing (wsV RX10 73 RX10 yX10_bad wsX10_bad) := goodIn_app (goodIn_of _ (by decide +kernel)) ggX10_crossing_X10_bad
set_option maxRecDepth 20000 in
theorem ggX10_crossing_X10_full : GoodIn wsX10_crossing wsX10_full := goodIn_r _ [27, 28, 36, 37, 38, 39, 40, 41, 42, 43, 44, 45, 46, 47, 48] rfl (by decide +kernel)
set_option maxRecDepth 20000 in
theorem gX10_crossing_X10_full : GoodIn wsX10_crossing (wsV RX10 94 RX10 yX10_full wsX10_full) := goodIn_app (goodIn_of _ (by decide +kernel)) ggX10_crossing_X10_full
set_option maxRecDepth 20000 in
theorem ggX10_crossing_X8_addCrossing : GoodIn wsX10_crossing wsX8_addCrossing := goodIn_r _ [32, 33, 34, 35, 18, 54, 55, 56, 57, 58, 59, 60, 61, 62, 63, 64, 65] rfl (by decide +kernel)
set_option maxRecDepth 20000 in
theorem gX10_crossing_X8_addCrossing : GoodIn wsX10_crossing (wsV RX10 107 RX8 yX8_addCrossing wsX8_addCrossing) := goodIn_app (goodIn_of _ (by decide +kernel)) ggX10_crossing_X8_addCrossing
theorem dX10_crossing_0 : decode cX10_crossing 0 = .ok (.iload_n 1, 1) := by decide +kernel
theorem dX10_crossing_1 : decode cX10_crossing 1 = .ok (.invokestatic 90, 3) := by decide +kernel
theorem dX10_crossing_4 : decode cX10_crossing 4 = .ok (.ifCond .eq 27, 3) := by decide +kernel
theorem dX10_crossing_7 : decode cX10_crossing 7 = .ok (.iload_n 2, 1) := by decide +kernel
theorem dX10_crossing_8 : decode cX10_crossing 8 = .ok (.iconst 0, 1) := by decide +kernel
theorem dX10_crossing_9 : decode cX10_crossing 9 = .ok (.bipush 22, 2) := by decide +kernel
theorem dX10_crossing_11 : decode cX10_crossing 11 = .ok (.invokestatic 69, 3) := by decide +kernel
theorem dX10_crossing_14 : decode cX10_crossing 14 = .ok (.ifCond .eq 17, 3) := by decide +kernel
theorem dX10_crossing_17 : decode cX10_crossing 17 = .ok (.aload_n 0, 1) := by decide +kernel
theorem dX10_crossing_18 : decode cX10_crossing 18 = .ok (.getfield 10, 3) := by decide +kernel
theorem dX10_crossing_21 : decode cX10_crossing 21 = .ok (.getfield 57, 3) := by decide +kernel
theorem dX10_crossing_24 : decode cX10_crossing 24 = .ok (.iload_n 2, 1) := by decide +kernel
theorem dX10_crossing_25 : decode cX10_crossing 25 = .ok (.invokevirtual 101, 3) := by decide +kernel
theorem dX10_crossing_28 : decode cX10_crossing 28 = .ok (.ifCond .eq 8, 3) := by decide +kernel
theorem dX10_crossing_31 : decode cX10_crossing 31 = .ok (.aload_n 0, 1) := by decide +kernel
theorem dX10_crossing_32 : decode cX10_crossing 32 = .ok (.invokevirtual 73, 3) := by decide +kernel
theorem dX10_crossing_35 : decode cX10_crossing 35 = .ok (.ireturn, 1) := by decide +kernel
theorem dX10_crossing_36 : decode cX10_crossing 36 = .ok (.aload_n 0, 1) := by decide +kernel
theorem dX10_crossing_37 : decode cX10_crossing 37 = .ok (.getfield 10, 3) := by decide +kernel
theorem dX10_crossing_40 : decode cX10_crossing 40 = .ok (.getfield 57, 3) := by decide +kernel
theorem dX10_crossing_43 : decode cX10_crossing 43 = .ok (.getfield 104, 3) := by decide +kernel
theorem dX10_crossing_46 : decode cX10_crossing 46 = .ok (.iconst 3, 1) := by decide +kernel
theorem dX10_crossing_47 : decode cX10_crossing 47 = .ok (.if_icmp .lt 8, 3) := by decide +kernel
theorem dX10_crossing_50 : decode cX10_crossing 50 = .ok (.aload_n 0, 1) := by decide +kernel
theorem dX10_crossing_51 : decode cX10_crossing 51 = .ok (.invokevirtual 94, 3) := by decide +kernel
theorem dX10_crossing_54 : decode cX10_crossing 54 = .ok (.ireturn, 1) := by decide +kernel
theorem dX10_crossing_55 : decode cX10_crossing 55 = .ok (.aload_n 0, 1) := by decide +kernel
theorem dX10_crossing_56 : decode cX10_crossing 56 = .ok (.getfield 10, 3) := by decide +kernel
theorem dX10_crossing_59 : decode cX10_crossing 59 = .ok (.getfield 81, 3) := by decide +kernel
theorem dX10_crossing_62 : decode cX10_crossing 62 = .ok (.iconst 0, 1) := by decide +kernel
theorem dX10_crossing_63 : decode cX10_crossing 63 = .ok (.putfield 85, 3) := by decide +kernel
theorem dX10_crossing_66 : decode cX10_crossing 66 = .ok (.aload_n 0, 1) := by decide +kernel
theorem dX10_crossing_67 : decode cX10_crossing 67 = .ok (.getfield 10, 3) := by decide +kernel
theorem dX10_crossing_70 : decode cX10_crossing 70 = .ok (.getfield 57, 3) := by decide +kernel
theorem dX10_crossing_73 : decode cX10_crossing 73 = .ok (.iload_n 1, 1) := by decide +kernel
theorem dX10_crossing_74 : decode cX10_crossing 74 = .ok (.iload_n 2, 1) := by decide +kernel
theorem dX10_crossing_75 : decode cX10_crossing 75 = .ok (.invokevirtual 107, 3) := by decide +kernel
theorem dX10_crossing_78 : decode cX10_crossing 78 = .ok (.ireturn, 1) := by decide +kernel
set_option maxRecDepth 20000 in
theorem ggX10_hours_X10_within : GoodIn wsX10_hours wsX10_within := goodIn_r _ [12] rfl (by decide +kernel)
set_option maxRecDepth 20000 in
theorem gX10_hours_X10_within : GoodIn wsX10_hours (va_wsS RX10 69 yX10_within wsX10_within) := goodIn_app (goodIn_of _ (by decide +kernel)) ggX10_hours_X10_within
set_option maxRecDepth 20000 in
theorem ggX10_hours_X10_bad : GoodIn wsX10_hours wsX10_bad := goodIn_r _ [16, 17, 87, 88, 89, 90, 91, 92, 93, 94, 95, 96, 97, 98, 99] rfl (by decide +kernel)
set_option maxRecDepth 20000 in
theorem gX10_hours_X10_bad : GoodIn wsX10_hours (wsV RX10 73 RX10 yX10_bad wsX10_bad) := goodIn_app (goodIn_of _ (by decide +kernel)) ggX10_hours_X10_bad
set_option maxRecDepth 20000 in
theorem ggX10_hours_X4_keep : GoodIn wsX10_hours wsX4_keep := goodIn_r _ [22, 23, 24, 25, 26, 27, 28, 29, 30, 31, 117, 118, 105, 106, 107, 108, 109, 110, 111, 112, 113, 114, 115, 116] rfl (by decide +kernel)
set_option maxRecDepth 20000 in
theorem gX10_hours_X4_keep : GoodIn wsX10_hours (wsV RX10 134 RX4 yX4_keep wsX4_keep) := goodIn_app (goodIn_of _ (by decide +kernel)) ggX10_hours_X4_keep
set_option maxRecDepth 20000 in
theorem ggX10_hours_X8_pass : GoodIn wsX10_hours wsX8_pass := goodIn_r _ [36, 37, 38, 39, 35, 40, 41, 42, 43, 44, 45, 46, 47, 48, 49, 50, 51, 52, 53, 54, 55, 56, 57, 58, 59, 60, 61, 62, 63, 64, 65, 66, 67, 68, 69, 70, 71, 72, 73, 74, 75, 76, 77, 78, 79, 80, 81, 82, 105, 106, 107, 108, 109, 110, 111, 112, 113, 114, 115, 116] rfl (by decide +kernel)
set_option maxRecDepth 20000 in
theorem gX10_hours_X8_pass : GoodIn wsX10_hours (wsV RX10 145 RX8 yX8_pass wsX8_pass) := goodIn_app (goodIn_of _ (by decide +kernel)) ggX10_hours_X8_pass
set_option maxRecDepth 20000 in
theorem ggX10_hours_X8_over : GoodIn wsX10_hours wsX8_over := goodIn_r _ [86, 43, 45, 105, 106, 107, 108, 109, 110, 111, 112, 113, 114, 115, 116] rfl (by decide +kernel)
set_option maxRecDepth 20000 in
theorem gX10_hours_X8_over : GoodIn wsX10_hours (wsV RX10 148 RX8 yX8_over wsX8_over) := goodIn_app (goodIn_of _ (by decide +kernel)) ggX10_hours_X8_over
theorem dX10_hours_0 : decode cX10_hours 0 = .ok (.iload_n 1, 1) := by decide +kernel
theorem dX10_hours_1 : decode cX10_hours 1 = .ok (.iconst 1, 1) := by decide +kernel
theorem dX10_hours_2 : decode cX10_hours 2 = .ok (.bipush 60, 2) := by decide +kernel
