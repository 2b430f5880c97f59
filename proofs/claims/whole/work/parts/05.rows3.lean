theorem dX10_counted_148 : decode cX10_counted 148 = .ok (.getfield 117, 3) := by decide +kernel
theorem dX10_counted_151 : decode cX10_counted 151 = .ok (.ireturn, 1) := by decide +kernel
set_option maxRecDepth 20000 in
theorem ggX10_kindsThatFit_X6_cell : GoodIn wsX10_kindsThatFit wsX6_cell := goodIn_r _ [6, 7, 18, 19, 20, 21] rfl (by decide +kernel)
set_option maxRecDepth 20000 in
theorem gX10_kindsThatFit_X6_cell : GoodIn wsX10_kindsThatFit (wsV RX10 346 RX6 yX6_cell wsX6_cell) := goodIn_app (goodIn_of _ (by decide +kernel)) ggX10_kindsThatFit_X6_cell
set_option maxRecDepth 20000 in
theorem ggX10_kindsThatFit_X1_says : GoodIn wsX10_kindsThatFit wsX1_says := goodIn_r _ [11, 12, 13, 10, 14, 15, 16, 17] rfl (by decide +kernel)
set_option maxRecDepth 20000 in
theorem gX10_kindsThatFit_X1_says : GoodIn wsX10_kindsThatFit (va_wsS RX10 349 yX1_says wsX1_says) := goodIn_app (goodIn_of _ (by decide +kernel)) ggX10_kindsThatFit_X1_says
theorem dX10_kindsThatFit_0 : decode cX10_kindsThatFit 0 = .ok (.iconst 0, 1) := by decide +kernel
theorem dX10_kindsThatFit_1 : decode cX10_kindsThatFit 1 = .ok (.istore_n 3, 1) := by decide +kernel
theorem dX10_kindsThatFit_2 : decode cX10_kindsThatFit 2 = .ok (.iconst 0, 1) := by decide +kernel
theorem dX10_kindsThatFit_3 : decode cX10_kindsThatFit 3 = .ok (.istore 4, 2) := by decide +kernel
theorem dX10_kindsThatFit_5 : decode cX10_kindsThatFit 5 = .ok (.iload 4, 2) := by decide +kernel
theorem dX10_kindsThatFit_7 : decode cX10_kindsThatFit 7 = .ok (.bipush 6, 2) := by decide +kernel
theorem dX10_kindsThatFit_9 : decode cX10_kindsThatFit 9 = .ok (.if_icmp .ge 99, 3) := by decide +kernel
theorem dX10_kindsThatFit_12 : decode cX10_kindsThatFit 12 = .ok (.iconst 1, 1) := by decide +kernel
theorem dX10_kindsThatFit_13 : decode cX10_kindsThatFit 13 = .ok (.istore 5, 2) := by decide +kernel
theorem dX10_kindsThatFit_15 : decode cX10_kindsThatFit 15 = .ok (.iconst 0, 1) := by decide +kernel
theorem dX10_kindsThatFit_16 : decode cX10_kindsThatFit 16 = .ok (.istore 6, 2) := by decide +kernel
theorem dX10_kindsThatFit_18 : decode cX10_kindsThatFit 18 = .ok (.iload 6, 2) := by decide +kernel
theorem dX10_kindsThatFit_20 : decode cX10_kindsThatFit 20 = .ok (.aload_n 0, 1) := by decide +kernel
theorem dX10_kindsThatFit_21 : decode cX10_kindsThatFit 21 = .ok (.getfield 334, 3) := by decide +kernel
theorem dX10_kindsThatFit_24 : decode cX10_kindsThatFit 24 = .ok (.if_icmp .ge 66, 3) := by decide +kernel
theorem dX10_kindsThatFit_27 : decode cX10_kindsThatFit 27 = .ok (.iload_n 2, 1) := by decide +kernel
theorem dX10_kindsThatFit_28 : decode cX10_kindsThatFit 28 = .ok (.iload 4, 2) := by decide +kernel
theorem dX10_kindsThatFit_30 : decode cX10_kindsThatFit 30 = .ok (.aload_n 0, 1) := by decide +kernel
theorem dX10_kindsThatFit_31 : decode cX10_kindsThatFit 31 = .ok (.iload 6, 2) := by decide +kernel
theorem dX10_kindsThatFit_33 : decode cX10_kindsThatFit 33 = .ok (.iconst 1, 1) := by decide +kernel
theorem dX10_kindsThatFit_34 : decode cX10_kindsThatFit 34 = .ok (.invokevirtual 346, 3) := by decide +kernel
theorem dX10_kindsThatFit_37 : decode cX10_kindsThatFit 37 = .ok (.aload_n 0, 1) := by decide +kernel
theorem dX10_kindsThatFit_38 : decode cX10_kindsThatFit 38 = .ok (.iload 6, 2) := by decide +kernel
theorem dX10_kindsThatFit_40 : decode cX10_kindsThatFit 40 = .ok (.iconst 2, 1) := by decide +kernel
theorem dX10_kindsThatFit_41 : decode cX10_kindsThatFit 41 = .ok (.invokevirtual 346, 3) := by decide +kernel
theorem dX10_kindsThatFit_44 : decode cX10_kindsThatFit 44 = .ok (.invokestatic 349, 3) := by decide +kernel
theorem dX10_kindsThatFit_47 : decode cX10_kindsThatFit 47 = .ok (.istore 7, 2) := by decide +kernel
theorem dX10_kindsThatFit_49 : decode cX10_kindsThatFit 49 = .ok (.iload 5, 2) := by decide +kernel
theorem dX10_kindsThatFit_51 : decode cX10_kindsThatFit 51 = .ok (.ifCond .eq 30, 3) := by decide +kernel
theorem dX10_kindsThatFit_54 : decode cX10_kindsThatFit 54 = .ok (.aload_n 0, 1) := by decide +kernel
theorem dX10_kindsThatFit_55 : decode cX10_kindsThatFit 55 = .ok (.iload 6, 2) := by decide +kernel
theorem dX10_kindsThatFit_57 : decode cX10_kindsThatFit 57 = .ok (.iconst 0, 1) := by decide +kernel
theorem dX10_kindsThatFit_58 : decode cX10_kindsThatFit 58 = .ok (.invokevirtual 346, 3) := by decide +kernel
theorem dX10_kindsThatFit_61 : decode cX10_kindsThatFit 61 = .ok (.iload_n 1, 1) := by decide +kernel
theorem dX10_kindsThatFit_62 : decode cX10_kindsThatFit 62 = .ok (.if_icmp .ne 15, 3) := by decide +kernel
theorem dX10_kindsThatFit_65 : decode cX10_kindsThatFit 65 = .ok (.iload 7, 2) := by decide +kernel
theorem dX10_kindsThatFit_67 : decode cX10_kindsThatFit 67 = .ok (.aload_n 0, 1) := by decide +kernel
theorem dX10_kindsThatFit_68 : decode cX10_kindsThatFit 68 = .ok (.iload 6, 2) := by decide +kernel
theorem dX10_kindsThatFit_70 : decode cX10_kindsThatFit 70 = .ok (.iconst 3, 1) := by decide +kernel
theorem dX10_kindsThatFit_71 : decode cX10_kindsThatFit 71 = .ok (.invokevirtual 346, 3) := by decide +kernel
theorem dX10_kindsThatFit_74 : decode cX10_kindsThatFit 74 = .ok (.if_icmp .ne 7, 3) := by decide +kernel
theorem dX10_kindsThatFit_77 : decode cX10_kindsThatFit 77 = .ok (.iconst 1, 1) := by decide +kernel
theorem dX10_kindsThatFit_78 : decode cX10_kindsThatFit 78 = .ok (.goto 4, 3) := by decide +kernel
theorem dX10_kindsThatFit_81 : decode cX10_kindsThatFit 81 = .ok (.iconst 0, 1) := by decide +kernel
theorem dX10_kindsThatFit_82 : decode cX10_kindsThatFit 82 = .ok (.istore 5, 2) := by decide +kernel
theorem dX10_kindsThatFit_84 : decode cX10_kindsThatFit 84 = .ok (.iinc 6 1, 3) := by decide +kernel
theorem dX10_kindsThatFit_87 : decode cX10_kindsThatFit 87 = .ok (.goto (-69), 3) := by decide +kernel
theorem dX10_kindsThatFit_90 : decode cX10_kindsThatFit 90 = .ok (.iload 5, 2) := by decide +kernel
theorem dX10_kindsThatFit_92 : decode cX10_kindsThatFit 92 = .ok (.ifCond .eq 10, 3) := by decide +kernel
theorem dX10_kindsThatFit_95 : decode cX10_kindsThatFit 95 = .ok (.iload_n 3, 1) := by decide +kernel
theorem dX10_kindsThatFit_96 : decode cX10_kindsThatFit 96 = .ok (.iconst 1, 1) := by decide +kernel
theorem dX10_kindsThatFit_97 : decode cX10_kindsThatFit 97 = .ok (.iload 4, 2) := by decide +kernel
theorem dX10_kindsThatFit_99 : decode cX10_kindsThatFit 99 = .ok (.ishl, 1) := by decide +kernel
theorem dX10_kindsThatFit_100 : decode cX10_kindsThatFit 100 = .ok (.ior, 1) := by decide +kernel
theorem dX10_kindsThatFit_101 : decode cX10_kindsThatFit 101 = .ok (.istore_n 3, 1) := by decide +kernel
theorem dX10_kindsThatFit_102 : decode cX10_kindsThatFit 102 = .ok (.iinc 4 1, 3) := by decide +kernel
theorem dX10_kindsThatFit_105 : decode cX10_kindsThatFit 105 = .ok (.goto (-100), 3) := by decide +kernel
theorem dX10_kindsThatFit_108 : decode cX10_kindsThatFit 108 = .ok (.iload_n 3, 1) := by decide +kernel
theorem dX10_kindsThatFit_109 : decode cX10_kindsThatFit 109 = .ok (.ireturn, 1) := by decide +kernel
set_option maxRecDepth 20000 in
theorem ggX10_nextLook_X3_begin : GoodIn wsX10_nextLook wsX3_begin := goodIn_r _ [7, 8, 9, 10, 51, 52, 53, 54] rfl (by decide +kernel)
set_option maxRecDepth 20000 in
theorem gX10_nextLook_X3_begin : GoodIn wsX10_nextLook (wsV RX10 353 RX3 yX3_begin wsX3_begin) := goodIn_app (goodIn_of _ (by decide +kernel)) ggX10_nextLook_X3_begin
set_option maxRecDepth 20000 in
theorem ggX10_nextLook_X3_empty : GoodIn wsX10_nextLook wsX3_empty := goodIn_r _ [14, 9, 15, 51, 52, 53, 54] rfl (by decide +kernel)
set_option maxRecDepth 20000 in
theorem gX10_nextLook_X3_empty : GoodIn wsX10_nextLook (wsV RX10 356 RX3 yX3_empty wsX3_empty) := goodIn_app (goodIn_of _ (by decide +kernel)) ggX10_nextLook_X3_empty
set_option maxRecDepth 20000 in
theorem ggX10_nextLook_X1_says : GoodIn wsX10_nextLook wsX1_says := goodIn_r _ [19, 20, 21, 18, 22, 23, 24, 25] rfl (by decide +kernel)
set_option maxRecDepth 20000 in
theorem gX10_nextLook_X1_says : GoodIn wsX10_nextLook (va_wsS RX10 349 yX1_says wsX1_says) := goodIn_app (goodIn_of _ (by decide +kernel)) ggX10_nextLook_X1_says
set_option maxRecDepth 20000 in
theorem ggX10_nextLook_X3_add : GoodIn wsX10_nextLook wsX3_add := goodIn_r _ [29, 9, 15, 30, 31, 32, 33, 51, 52, 53, 54] rfl (by decide +kernel)
set_option maxRecDepth 20000 in
theorem gX10_nextLook_X3_add : GoodIn wsX10_nextLook (wsV RX10 357 RX3 yX3_add wsX3_add) := goodIn_app (goodIn_of _ (by decide +kernel)) ggX10_nextLook_X3_add
set_option maxRecDepth 20000 in
theorem ggX10_nextLook_X3_offer : GoodIn wsX10_nextLook wsX3_offer := goodIn_r _ [37, 15, 10, 8, 51, 52, 53, 54] rfl (by decide +kernel)
set_option maxRecDepth 20000 in
theorem gX10_nextLook_X3_offer : GoodIn wsX10_nextLook (wsV RX10 359 RX3 yX3_offer wsX3_offer) := goodIn_app (goodIn_of _ (by decide +kernel)) ggX10_nextLook_X3_offer
theorem dX10_nextLook_0 : decode cX10_nextLook 0 = .ok (.iload_n 2, 1) := by decide +kernel
theorem dX10_nextLook_1 : decode cX10_nextLook 1 = .ok (.ifCond .eq 8, 3) := by decide +kernel
theorem dX10_nextLook_4 : decode cX10_nextLook 4 = .ok (.bipush 10, 2) := by decide +kernel
theorem dX10_nextLook_6 : decode cX10_nextLook 6 = .ok (.goto 5, 3) := by decide +kernel
theorem dX10_nextLook_9 : decode cX10_nextLook 9 = .ok (.bipush 24, 2) := by decide +kernel
theorem dX10_nextLook_11 : decode cX10_nextLook 11 = .ok (.istore_n 3, 1) := by decide +kernel
theorem dX10_nextLook_12 : decode cX10_nextLook 12 = .ok (.iload_n 2, 1) := by decide +kernel
theorem dX10_nextLook_13 : decode cX10_nextLook 13 = .ok (.ifCond .eq 7, 3) := by decide +kernel
theorem dX10_nextLook_16 : decode cX10_nextLook 16 = .ok (.iconst 0, 1) := by decide +kernel
theorem dX10_nextLook_17 : decode cX10_nextLook 17 = .ok (.goto 4, 3) := by decide +kernel
theorem dX10_nextLook_20 : decode cX10_nextLook 20 = .ok (.iconst 1, 1) := by decide +kernel
theorem dX10_nextLook_21 : decode cX10_nextLook 21 = .ok (.istore 4, 2) := by decide +kernel
theorem dX10_nextLook_23 : decode cX10_nextLook 23 = .ok (.iload_n 2, 1) := by decide +kernel
theorem dX10_nextLook_24 : decode cX10_nextLook 24 = .ok (.ifCond .eq 7, 3) := by decide +kernel
theorem dX10_nextLook_27 : decode cX10_nextLook 27 = .ok (.iconst 4, 1) := by decide +kernel
theorem dX10_nextLook_28 : decode cX10_nextLook 28 = .ok (.goto 5, 3) := by decide +kernel
theorem dX10_nextLook_31 : decode cX10_nextLook 31 = .ok (.bipush 7, 2) := by decide +kernel
theorem dX10_nextLook_33 : decode cX10_nextLook 33 = .ok (.istore 5, 2) := by decide +kernel
theorem dX10_nextLook_35 : decode cX10_nextLook 35 = .ok (.aload_n 0, 1) := by decide +kernel
theorem dX10_nextLook_36 : decode cX10_nextLook 36 = .ok (.getfield 39, 3) := by decide +kernel
theorem dX10_nextLook_39 : decode cX10_nextLook 39 = .ok (.invokevirtual 353, 3) := by decide +kernel
theorem dX10_nextLook_42 : decode cX10_nextLook 42 = .ok (.iconst 0, 1) := by decide +kernel
theorem dX10_nextLook_43 : decode cX10_nextLook 43 = .ok (.istore 6, 2) := by decide +kernel
theorem dX10_nextLook_45 : decode cX10_nextLook 45 = .ok (.iload 6, 2) := by decide +kernel
theorem dX10_nextLook_47 : decode cX10_nextLook 47 = .ok (.iload_n 3, 1) := by decide +kernel
theorem dX10_nextLook_48 : decode cX10_nextLook 48 = .ok (.if_icmp .ge 91, 3) := by decide +kernel
theorem dX10_nextLook_51 : decode cX10_nextLook 51 = .ok (.iload 4, 2) := by decide +kernel
theorem dX10_nextLook_53 : decode cX10_nextLook 53 = .ok (.istore 7, 2) := by decide +kernel
theorem dX10_nextLook_55 : decode cX10_nextLook 55 = .ok (.iload 7, 2) := by decide +kernel
theorem dX10_nextLook_57 : decode cX10_nextLook 57 = .ok (.iload 5, 2) := by decide +kernel
theorem dX10_nextLook_59 : decode cX10_nextLook 59 = .ok (.if_icmp .gt 74, 3) := by decide +kernel
theorem dX10_nextLook_62 : decode cX10_nextLook 62 = .ok (.aload_n 0, 1) := by decide +kernel
theorem dX10_nextLook_63 : decode cX10_nextLook 63 = .ok (.getfield 39, 3) := by decide +kernel
theorem dX10_nextLook_66 : decode cX10_nextLook 66 = .ok (.invokevirtual 356, 3) := by decide +kernel
theorem dX10_nextLook_69 : decode cX10_nextLook 69 = .ok (.iconst 0, 1) := by decide +kernel
theorem dX10_nextLook_70 : decode cX10_nextLook 70 = .ok (.istore 8, 2) := by decide +kernel
theorem dX10_nextLook_72 : decode cX10_nextLook 72 = .ok (.iload 8, 2) := by decide +kernel
theorem dX10_nextLook_74 : decode cX10_nextLook 74 = .ok (.bipush 6, 2) := by decide +kernel
theorem dX10_nextLook_76 : decode cX10_nextLook 76 = .ok (.if_icmp .ge 36, 3) := by decide +kernel
theorem dX10_nextLook_79 : decode cX10_nextLook 79 = .ok (.iload_n 1, 1) := by decide +kernel
theorem dX10_nextLook_80 : decode cX10_nextLook 80 = .ok (.iload 8, 2) := by decide +kernel
theorem dX10_nextLook_82 : decode cX10_nextLook 82 = .ok (.ishr, 1) := by decide +kernel
theorem dX10_nextLook_83 : decode cX10_nextLook 83 = .ok (.iconst 1, 1) := by decide +kernel
theorem dX10_nextLook_84 : decode cX10_nextLook 84 = .ok (.iand, 1) := by decide +kernel
theorem dX10_nextLook_85 : decode cX10_nextLook 85 = .ok (.iconst 1, 1) := by decide +kernel
theorem dX10_nextLook_86 : decode cX10_nextLook 86 = .ok (.if_icmp .ne 20, 3) := by decide +kernel
theorem dX10_nextLook_89 : decode cX10_nextLook 89 = .ok (.aload_n 0, 1) := by decide +kernel
theorem dX10_nextLook_90 : decode cX10_nextLook 90 = .ok (.getfield 39, 3) := by decide +kernel
theorem dX10_nextLook_93 : decode cX10_nextLook 93 = .ok (.iload_n 2, 1) := by decide +kernel
theorem dX10_nextLook_94 : decode cX10_nextLook 94 = .ok (.iload 8, 2) := by decide +kernel
theorem dX10_nextLook_96 : decode cX10_nextLook 96 = .ok (.iload 6, 2) := by decide +kernel
theorem dX10_nextLook_98 : decode cX10_nextLook 98 = .ok (.iload 7, 2) := by decide +kernel
theorem dX10_nextLook_100 : decode cX10_nextLook 100 = .ok (.invokestatic 349, 3) := by decide +kernel
theorem dX10_nextLook_103 : decode cX10_nextLook 103 = .ok (.invokevirtual 357, 3) := by decide +kernel
theorem dX10_nextLook_106 : decode cX10_nextLook 106 = .ok (.iinc 8 1, 3) := by decide +kernel
theorem dX10_nextLook_109 : decode cX10_nextLook 109 = .ok (.goto (-37), 3) := by decide +kernel
theorem dX10_nextLook_112 : decode cX10_nextLook 112 = .ok (.aload_n 0, 1) := by decide +kernel
theorem dX10_nextLook_113 : decode cX10_nextLook 113 = .ok (.getfield 39, 3) := by decide +kernel
theorem dX10_nextLook_116 : decode cX10_nextLook 116 = .ok (.bipush 10, 2) := by decide +kernel
theorem dX10_nextLook_118 : decode cX10_nextLook 118 = .ok (.iload 6, 2) := by decide +kernel
theorem dX10_nextLook_120 : decode cX10_nextLook 120 = .ok (.imul, 1) := by decide +kernel
theorem dX10_nextLook_121 : decode cX10_nextLook 121 = .ok (.iload 7, 2) := by decide +kernel
theorem dX10_nextLook_123 : decode cX10_nextLook 123 = .ok (.iadd, 1) := by decide +kernel
theorem dX10_nextLook_124 : decode cX10_nextLook 124 = .ok (.invokevirtual 359, 3) := by decide +kernel
theorem dX10_nextLook_127 : decode cX10_nextLook 127 = .ok (.iinc 7 1, 3) := by decide +kernel
theorem dX10_nextLook_130 : decode cX10_nextLook 130 = .ok (.goto (-75), 3) := by decide +kernel
theorem dX10_nextLook_133 : decode cX10_nextLook 133 = .ok (.iinc 6 1, 3) := by decide +kernel
theorem dX10_nextLook_136 : decode cX10_nextLook 136 = .ok (.goto (-91), 3) := by decide +kernel
theorem dX10_nextLook_139 : decode cX10_nextLook 139 = .ok (.aload_n 0, 1) := by decide +kernel
theorem dX10_nextLook_140 : decode cX10_nextLook 140 = .ok (.getfield 39, 3) := by decide +kernel
theorem dX10_nextLook_143 : decode cX10_nextLook 143 = .ok (.getfield 362, 3) := by decide +kernel
theorem dX10_nextLook_146 : decode cX10_nextLook 146 = .ok (.ireturn, 1) := by decide +kernel
theorem dX10_ladyGets_0 : decode cX10_ladyGets 0 = .ok (.iload_n 2, 1) := by decide +kernel
theorem dX10_ladyGets_1 : decode cX10_ladyGets 1 = .ok (.iload_n 0, 1) := by decide +kernel
theorem dX10_ladyGets_2 : decode cX10_ladyGets 2 = .ok (.ishr, 1) := by decide +kernel
theorem dX10_ladyGets_3 : decode cX10_ladyGets 3 = .ok (.iconst 1, 1) := by decide +kernel
theorem dX10_ladyGets_4 : decode cX10_ladyGets 4 = .ok (.iand, 1) := by decide +kernel
theorem dX10_ladyGets_5 : decode cX10_ladyGets 5 = .ok (.iconst 1, 1) := by decide +kernel
theorem dX10_ladyGets_6 : decode cX10_ladyGets 6 = .ok (.if_icmp .ne 7, 3) := by decide +kernel
theorem dX10_ladyGets_9 : decode cX10_ladyGets 9 = .ok (.iconst 5, 1) := by decide +kernel
theorem dX10_ladyGets_10 : decode cX10_ladyGets 10 = .ok (.goto 4, 3) := by decide +kernel
theorem dX10_ladyGets_13 : decode cX10_ladyGets 13 = .ok (.iconst 0, 1) := by decide +kernel
theorem dX10_ladyGets_14 : decode cX10_ladyGets 14 = .ok (.istore_n 3, 1) := by decide +kernel
theorem dX10_ladyGets_15 : decode cX10_ladyGets 15 = .ok (.iload_n 3, 1) := by decide +kernel
theorem dX10_ladyGets_16 : decode cX10_ladyGets 16 = .ok (.iload_n 0, 1) := by decide +kernel
theorem dX10_ladyGets_17 : decode cX10_ladyGets 17 = .ok (.iconst 3, 1) := by decide +kernel
theorem dX10_ladyGets_18 : decode cX10_ladyGets 18 = .ok (.idiv, 1) := by decide +kernel
theorem dX10_ladyGets_19 : decode cX10_ladyGets 19 = .ok (.isub, 1) := by decide +kernel
theorem dX10_ladyGets_20 : decode cX10_ladyGets 20 = .ok (.iload_n 0, 1) := by decide +kernel
theorem dX10_ladyGets_21 : decode cX10_ladyGets 21 = .ok (.iload_n 1, 1) := by decide +kernel
theorem dX10_ladyGets_22 : decode cX10_ladyGets 22 = .ok (.if_icmp .ne 7, 3) := by decide +kernel
theorem dX10_ladyGets_25 : decode cX10_ladyGets 25 = .ok (.iconst 3, 1) := by decide +kernel
theorem dX10_ladyGets_26 : decode cX10_ladyGets 26 = .ok (.goto 4, 3) := by decide +kernel
theorem dX10_ladyGets_29 : decode cX10_ladyGets 29 = .ok (.iconst 0, 1) := by decide +kernel
theorem dX10_ladyGets_30 : decode cX10_ladyGets 30 = .ok (.isub, 1) := by decide +kernel
theorem dX10_ladyGets_31 : decode cX10_ladyGets 31 = .ok (.ireturn, 1) := by decide +kernel
theorem dX10_constableGets_0 : decode cX10_constableGets 0 = .ok (.iload_n 0, 1) := by decide +kernel
theorem dX10_constableGets_1 : decode cX10_constableGets 1 = .ok (.iload_n 1, 1) := by decide +kernel
theorem dX10_constableGets_2 : decode cX10_constableGets 2 = .ok (.if_icmp .ne 7, 3) := by decide +kernel
theorem dX10_constableGets_5 : decode cX10_constableGets 5 = .ok (.iconst 3, 1) := by decide +kernel
theorem dX10_constableGets_6 : decode cX10_constableGets 6 = .ok (.goto 4, 3) := by decide +kernel
theorem dX10_constableGets_9 : decode cX10_constableGets 9 = .ok (.iconst 0, 1) := by decide +kernel
theorem dX10_constableGets_10 : decode cX10_constableGets 10 = .ok (.iload_n 1, 1) := by decide +kernel
theorem dX10_constableGets_11 : decode cX10_constableGets 11 = .ok (.iconst 3, 1) := by decide +kernel
theorem dX10_constableGets_12 : decode cX10_constableGets 12 = .ok (.idiv, 1) := by decide +kernel
theorem dX10_constableGets_13 : decode cX10_constableGets 13 = .ok (.isub, 1) := by decide +kernel
theorem dX10_constableGets_14 : decode cX10_constableGets 14 = .ok (.ireturn, 1) := by decide +kernel
set_option maxRecDepth 20000 in
theorem ggX10_rests_X10_ladyGets : GoodIn wsX10_rests wsX10_ladyGets := goodIn_r _ [4] rfl (by decide +kernel)
set_option maxRecDepth 20000 in
theorem gX10_rests_X10_ladyGets : GoodIn wsX10_rests (va_wsS RX10 365 yX10_ladyGets wsX10_ladyGets) := goodIn_app (goodIn_of _ (by decide +kernel)) ggX10_rests_X10_ladyGets
set_option maxRecDepth 20000 in
theorem ggX10_rests_X10_constableGets : GoodIn wsX10_rests wsX10_constableGets := goodIn_r _ [7] rfl (by decide +kernel)
set_option maxRecDepth 20000 in
theorem gX10_rests_X10_constableGets : GoodIn wsX10_rests (va_wsS RX10 368 yX10_constableGets wsX10_constableGets) := goodIn_app (goodIn_of _ (by decide +kernel)) ggX10_rests_X10_constableGets
theorem dX10_rests_0 : decode cX10_rests 0 = .ok (.iconst 0, 1) := by decide +kernel
theorem dX10_rests_1 : decode cX10_rests 1 = .ok (.istore_n 3, 1) := by decide +kernel
theorem dX10_rests_2 : decode cX10_rests 2 = .ok (.iload_n 3, 1) := by decide +kernel
theorem dX10_rests_3 : decode cX10_rests 3 = .ok (.bipush 10, 2) := by decide +kernel
theorem dX10_rests_5 : decode cX10_rests 5 = .ok (.if_icmp .ge 39, 3) := by decide +kernel
theorem dX10_rests_8 : decode cX10_rests 8 = .ok (.iload_n 3, 1) := by decide +kernel
theorem dX10_rests_9 : decode cX10_rests 9 = .ok (.iload_n 1, 1) := by decide +kernel
theorem dX10_rests_10 : decode cX10_rests 10 = .ok (.iload_n 2, 1) := by decide +kernel
theorem dX10_rests_11 : decode cX10_rests 11 = .ok (.invokestatic 365, 3) := by decide +kernel
theorem dX10_rests_14 : decode cX10_rests 14 = .ok (.iload_n 0, 1) := by decide +kernel
theorem dX10_rests_15 : decode cX10_rests 15 = .ok (.iload_n 1, 1) := by decide +kernel
theorem dX10_rests_16 : decode cX10_rests 16 = .ok (.iload_n 2, 1) := by decide +kernel
theorem dX10_rests_17 : decode cX10_rests 17 = .ok (.invokestatic 365, 3) := by decide +kernel
theorem dX10_rests_20 : decode cX10_rests 20 = .ok (.if_icmp .gt 16, 3) := by decide +kernel
theorem dX10_rests_23 : decode cX10_rests 23 = .ok (.iload_n 0, 1) := by decide +kernel
theorem dX10_rests_24 : decode cX10_rests 24 = .ok (.iload_n 3, 1) := by decide +kernel
theorem dX10_rests_25 : decode cX10_rests 25 = .ok (.invokestatic 368, 3) := by decide +kernel
theorem dX10_rests_28 : decode cX10_rests 28 = .ok (.iload_n 0, 1) := by decide +kernel
theorem dX10_rests_29 : decode cX10_rests 29 = .ok (.iload_n 1, 1) := by decide +kernel
theorem dX10_rests_30 : decode cX10_rests 30 = .ok (.invokestatic 368, 3) := by decide +kernel
theorem dX10_rests_33 : decode cX10_rests 33 = .ok (.if_icmp .le 5, 3) := by decide +kernel
theorem dX10_rests_36 : decode cX10_rests 36 = .ok (.iconst 0, 1) := by decide +kernel
theorem dX10_rests_37 : decode cX10_rests 37 = .ok (.ireturn, 1) := by decide +kernel
theorem dX10_rests_38 : decode cX10_rests 38 = .ok (.iinc 3 1, 3) := by decide +kernel
theorem dX10_rests_41 : decode cX10_rests 41 = .ok (.goto (-39), 3) := by decide +kernel
theorem dX10_rests_44 : decode cX10_rests 44 = .ok (.iconst 1, 1) := by decide +kernel
theorem dX10_rests_45 : decode cX10_rests 45 = .ok (.ireturn, 1) := by decide +kernel
theorem dX10_keepFraction_0 : decode cX10_keepFraction 0 = .ok (.iload_n 1, 1) := by decide +kernel
theorem dX10_keepFraction_1 : decode cX10_keepFraction 1 = .ok (.istore_n 3, 1) := by decide +kernel
theorem dX10_keepFraction_2 : decode cX10_keepFraction 2 = .ok (.iload_n 2, 1) := by decide +kernel
theorem dX10_keepFraction_3 : decode cX10_keepFraction 3 = .ok (.istore 4, 2) := by decide +kernel
theorem dX10_keepFraction_5 : decode cX10_keepFraction 5 = .ok (.iconst 0, 1) := by decide +kernel
theorem dX10_keepFraction_6 : decode cX10_keepFraction 6 = .ok (.istore 5, 2) := by decide +kernel
theorem dX10_keepFraction_8 : decode cX10_keepFraction 8 = .ok (.iload 5, 2) := by decide +kernel
theorem dX10_keepFraction_10 : decode cX10_keepFraction 10 = .ok (.bipush 64, 2) := by decide +kernel
theorem dX10_keepFraction_12 : decode cX10_keepFraction 12 = .ok (.if_icmp .ge 27, 3) := by decide +kernel
theorem dX10_keepFraction_15 : decode cX10_keepFraction 15 = .ok (.iload 4, 2) := by decide +kernel
theorem dX10_keepFraction_17 : decode cX10_keepFraction 17 = .ok (.ifCond .eq 22, 3) := by decide +kernel
theorem dX10_keepFraction_20 : decode cX10_keepFraction 20 = .ok (.iload_n 3, 1) := by decide +kernel
theorem dX10_keepFraction_21 : decode cX10_keepFraction 21 = .ok (.iload 4, 2) := by decide +kernel
theorem dX10_keepFraction_23 : decode cX10_keepFraction 23 = .ok (.irem, 1) := by decide +kernel
theorem dX10_keepFraction_24 : decode cX10_keepFraction 24 = .ok (.istore 6, 2) := by decide +kernel
theorem dX10_keepFraction_26 : decode cX10_keepFraction 26 = .ok (.iload 4, 2) := by decide +kernel
theorem dX10_keepFraction_28 : decode cX10_keepFraction 28 = .ok (.istore_n 3, 1) := by decide +kernel
theorem dX10_keepFraction_29 : decode cX10_keepFraction 29 = .ok (.iload 6, 2) := by decide +kernel
theorem dX10_keepFraction_31 : decode cX10_keepFraction 31 = .ok (.istore 4, 2) := by decide +kernel
theorem dX10_keepFraction_33 : decode cX10_keepFraction 33 = .ok (.iinc 5 1, 3) := by decide +kernel
theorem dX10_keepFraction_36 : decode cX10_keepFraction 36 = .ok (.goto (-28), 3) := by decide +kernel
theorem dX10_keepFraction_39 : decode cX10_keepFraction 39 = .ok (.iload_n 3, 1) := by decide +kernel
theorem dX10_keepFraction_40 : decode cX10_keepFraction 40 = .ok (.ifCond .le 17, 3) := by decide +kernel
theorem dX10_keepFraction_43 : decode cX10_keepFraction 43 = .ok (.aload_n 0, 1) := by decide +kernel
theorem dX10_keepFraction_44 : decode cX10_keepFraction 44 = .ok (.iload_n 1, 1) := by decide +kernel
theorem dX10_keepFraction_45 : decode cX10_keepFraction 45 = .ok (.iload_n 3, 1) := by decide +kernel
theorem dX10_keepFraction_46 : decode cX10_keepFraction 46 = .ok (.idiv, 1) := by decide +kernel
theorem dX10_keepFraction_47 : decode cX10_keepFraction 47 = .ok (.putfield 50, 3) := by decide +kernel
theorem dX10_keepFraction_50 : decode cX10_keepFraction 50 = .ok (.aload_n 0, 1) := by decide +kernel
theorem dX10_keepFraction_51 : decode cX10_keepFraction 51 = .ok (.iload_n 2, 1) := by decide +kernel
theorem dX10_keepFraction_52 : decode cX10_keepFraction 52 = .ok (.iload_n 3, 1) := by decide +kernel
theorem dX10_keepFraction_53 : decode cX10_keepFraction 53 = .ok (.idiv, 1) := by decide +kernel
theorem dX10_keepFraction_54 : decode cX10_keepFraction 54 = .ok (.putfield 54, 3) := by decide +kernel
theorem dX10_keepFraction_57 : decode cX10_keepFraction 57 = .ok (.return_, 1) := by decide +kernel
set_option maxRecDepth 20000 in
theorem ggX11_init_X11_begin : GoodIn wsX11_init wsX11_begin := goodIn_r _ [21] rfl (by decide +kernel)
set_option maxRecDepth 20000 in
theorem gX11_init_X11_begin : GoodIn wsX11_init (va_wsS RX11 48 yX11_begin wsX11_begin) := goodIn_app (goodIn_of _ (by decide +kernel)) ggX11_init_X11_begin
theorem dX11_init_0 : decode cX11_init 0 = .ok (.aload_n 0, 1) := by decide +kernel
theorem dX11_init_1 : decode cX11_init 1 = .ok (.invokespecial 1, 3) := by decide +kernel
theorem dX11_init_4 : decode cX11_init 4 = .ok (.aload_n 0, 1) := by decide +kernel
theorem dX11_init_5 : decode cX11_init 5 = .ok (.sipush 181, 3) := by decide +kernel
theorem dX11_init_8 : decode cX11_init 8 = .ok (.newarray .int, 2) := by decide +kernel
theorem dX11_init_10 : decode cX11_init 10 = .ok (.putfield 7, 3) := by decide +kernel
theorem dX11_init_13 : decode cX11_init 13 = .ok (.aload_n 0, 1) := by decide +kernel
theorem dX11_init_14 : decode cX11_init 14 = .ok (.sipush 362, 3) := by decide +kernel
theorem dX11_init_17 : decode cX11_init 17 = .ok (.newarray .int, 2) := by decide +kernel
theorem dX11_init_19 : decode cX11_init 19 = .ok (.putfield 13, 3) := by decide +kernel
theorem dX11_init_22 : decode cX11_init 22 = .ok (.aload_n 0, 1) := by decide +kernel
theorem dX11_init_23 : decode cX11_init 23 = .ok (.iconst 2, 1) := by decide +kernel
theorem dX11_init_24 : decode cX11_init 24 = .ok (.newarray .boolean, 2) := by decide +kernel
theorem dX11_init_26 : decode cX11_init 26 = .ok (.putfield 16, 3) := by decide +kernel
theorem dX11_init_29 : decode cX11_init 29 = .ok (.aload_n 0, 1) := by decide +kernel
theorem dX11_init_30 : decode cX11_init 30 = .ok (.iconst 3, 1) := by decide +kernel
theorem dX11_init_31 : decode cX11_init 31 = .ok (.newarray .int, 2) := by decide +kernel
theorem dX11_init_33 : decode cX11_init 33 = .ok (.putfield 20, 3) := by decide +kernel
theorem dX11_init_36 : decode cX11_init 36 = .ok (.aload_n 0, 1) := by decide +kernel
theorem dX11_init_37 : decode cX11_init 37 = .ok (.lconst 1, 1) := by decide +kernel
theorem dX11_init_38 : decode cX11_init 38 = .ok (.putfield 23, 3) := by decide +kernel
theorem dX11_init_41 : decode cX11_init 41 = .ok (.aload_n 0, 1) := by decide +kernel
theorem dX11_init_42 : decode cX11_init 42 = .ok (.bipush 43, 2) := by decide +kernel
theorem dX11_init_44 : decode cX11_init 44 = .ok (.newarray .int, 2) := by decide +kernel
theorem dX11_init_46 : decode cX11_init 46 = .ok (.putfield 27, 3) := by decide +kernel
theorem dX11_init_49 : decode cX11_init 49 = .ok (.aload_n 0, 1) := by decide +kernel
theorem dX11_init_50 : decode cX11_init 50 = .ok (.sipush 128, 3) := by decide +kernel
theorem dX11_init_53 : decode cX11_init 53 = .ok (.newarray .int, 2) := by decide +kernel
theorem dX11_init_55 : decode cX11_init 55 = .ok (.putfield 30, 3) := by decide +kernel
theorem dX11_init_58 : decode cX11_init 58 = .ok (.aload_n 0, 1) := by decide +kernel
theorem dX11_init_59 : decode cX11_init 59 = .ok (.bipush 7, 2) := by decide +kernel
theorem dX11_init_61 : decode cX11_init 61 = .ok (.newarray .int, 2) := by decide +kernel
theorem dX11_init_63 : decode cX11_init 63 = .ok (.putfield 33, 3) := by decide +kernel
theorem dX11_init_66 : decode cX11_init 66 = .ok (.aload_n 0, 1) := by decide +kernel
theorem dX11_init_67 : decode cX11_init 67 = .ok (.bipush 6, 2) := by decide +kernel
theorem dX11_init_69 : decode cX11_init 69 = .ok (.newarray .int, 2) := by decide +kernel
theorem dX11_init_71 : decode cX11_init 71 = .ok (.putfield 36, 3) := by decide +kernel
theorem dX11_init_74 : decode cX11_init 74 = .ok (.aload_n 0, 1) := by decide +kernel
theorem dX11_init_75 : decode cX11_init 75 = .ok (.sipush 150, 3) := by decide +kernel
theorem dX11_init_78 : decode cX11_init 78 = .ok (.newarray .int, 2) := by decide +kernel
theorem dX11_init_80 : decode cX11_init 80 = .ok (.putfield 39, 3) := by decide +kernel
theorem dX11_init_83 : decode cX11_init 83 = .ok (.aload_n 0, 1) := by decide +kernel
theorem dX11_init_84 : decode cX11_init 84 = .ok (.bipush 101, 2) := by decide +kernel
theorem dX11_init_86 : decode cX11_init 86 = .ok (.newarray .int, 2) := by decide +kernel
theorem dX11_init_88 : decode cX11_init 88 = .ok (.putfield 42, 3) := by decide +kernel
theorem dX11_init_91 : decode cX11_init 91 = .ok (.aload_n 0, 1) := by decide +kernel
theorem dX11_init_92 : decode cX11_init 92 = .ok (.iconst 3, 1) := by decide +kernel
theorem dX11_init_93 : decode cX11_init 93 = .ok (.newarray .int, 2) := by decide +kernel
theorem dX11_init_95 : decode cX11_init 95 = .ok (.putfield 45, 3) := by decide +kernel
theorem dX11_init_98 : decode cX11_init 98 = .ok (.aload_n 0, 1) := by decide +kernel
theorem dX11_init_99 : decode cX11_init 99 = .ok (.getfield 7, 3) := by decide +kernel
theorem dX11_init_102 : decode cX11_init 102 = .ok (.invokestatic 48, 3) := by decide +kernel
theorem dX11_init_105 : decode cX11_init 105 = .ok (.return_, 1) := by decide +kernel
theorem dX11_in_0 : decode cX11_in 0 = .ok (.lload_n 0, 1) := by decide +kernel
theorem dX11_in_1 : decode cX11_in 1 = .ok (.lload_n 2, 1) := by decide +kernel
theorem dX11_in_2 : decode cX11_in 2 = .ok (.lcmp, 1) := by decide +kernel
theorem dX11_in_3 : decode cX11_in 3 = .ok (.ifCond .lt 14, 3) := by decide +kernel
theorem dX11_in_6 : decode cX11_in 6 = .ok (.lload_n 0, 1) := by decide +kernel
theorem dX11_in_7 : decode cX11_in 7 = .ok (.lload 4, 2) := by decide +kernel
theorem dX11_in_9 : decode cX11_in 9 = .ok (.lcmp, 1) := by decide +kernel
theorem dX11_in_10 : decode cX11_in 10 = .ok (.ifCond .gt 7, 3) := by decide +kernel
theorem dX11_in_13 : decode cX11_in 13 = .ok (.iconst 1, 1) := by decide +kernel
theorem dX11_in_14 : decode cX11_in 14 = .ok (.goto 4, 3) := by decide +kernel
theorem dX11_in_17 : decode cX11_in 17 = .ok (.iconst 0, 1) := by decide +kernel
theorem dX11_in_18 : decode cX11_in 18 = .ok (.ireturn, 1) := by decide +kernel
theorem dX11_bad_0 : decode cX11_bad 0 = .ok (.aload_n 0, 1) := by decide +kernel
theorem dX11_bad_1 : decode cX11_bad 1 = .ok (.getfield 20, 3) := by decide +kernel
theorem dX11_bad_4 : decode cX11_bad 4 = .ok (.iconst 0, 1) := by decide +kernel
theorem dX11_bad_5 : decode cX11_bad 5 = .ok (.dup2, 1) := by decide +kernel
theorem dX11_bad_6 : decode cX11_bad 6 = .ok (.iaload, 1) := by decide +kernel
theorem dX11_bad_7 : decode cX11_bad 7 = .ok (.iconst 1, 1) := by decide +kernel
theorem dX11_bad_8 : decode cX11_bad 8 = .ok (.iadd, 1) := by decide +kernel
theorem dX11_bad_9 : decode cX11_bad 9 = .ok (.iastore, 1) := by decide +kernel
theorem dX11_bad_10 : decode cX11_bad 10 = .ok (.iload_n 1, 1) := by decide +kernel
theorem dX11_bad_11 : decode cX11_bad 11 = .ok (.ireturn, 1) := by decide +kernel
theorem dX11_no_0 : decode cX11_no 0 = .ok (.aload_n 0, 1) := by decide +kernel
theorem dX11_no_1 : decode cX11_no 1 = .ok (.getfield 20, 3) := by decide +kernel
theorem dX11_no_4 : decode cX11_no 4 = .ok (.iconst 1, 1) := by decide +kernel
theorem dX11_no_5 : decode cX11_no 5 = .ok (.dup2, 1) := by decide +kernel
theorem dX11_no_6 : decode cX11_no 6 = .ok (.iaload, 1) := by decide +kernel
theorem dX11_no_7 : decode cX11_no 7 = .ok (.iconst 1, 1) := by decide +kernel
theorem dX11_no_8 : decode cX11_no 8 = .ok (.iadd, 1) := by decide +kernel
theorem dX11_no_9 : decode cX11_no 9 = .ok (.iastore, 1) := by decide +kernel
theorem dX11_no_10 : decode cX11_no 10 = .ok (.bipush (-3), 2) := by decide +kernel
theorem dX11_no_12 : decode cX11_no 12 = .ok (.ireturn, 1) := by decide +kernel
theorem dX11_full_0 : decode cX11_full 0 = .ok (.aload_n 0, 1) := by decide +kernel
theorem dX11_full_1 : decode cX11_full 1 = .ok (.getfield 20, 3) := by decide +kernel
theorem dX11_full_4 : decode cX11_full 4 = .ok (.iconst 2, 1) := by decide +kernel
theorem dX11_full_5 : decode cX11_full 5 = .ok (.dup2, 1) := by decide +kernel
theorem dX11_full_6 : decode cX11_full 6 = .ok (.iaload, 1) := by decide +kernel
theorem dX11_full_7 : decode cX11_full 7 = .ok (.iconst 1, 1) := by decide +kernel
theorem dX11_full_8 : decode cX11_full 8 = .ok (.iadd, 1) := by decide +kernel
theorem dX11_full_9 : decode cX11_full 9 = .ok (.iastore, 1) := by decide +kernel
theorem dX11_full_10 : decode cX11_full 10 = .ok (.bipush (-4), 2) := by decide +kernel
theorem dX11_full_12 : decode cX11_full 12 = .ok (.ireturn, 1) := by decide +kernel
theorem dX11_has_0 : decode cX11_has 0 = .ok (.iload_n 0, 1) := by decide +kernel
theorem dX11_has_1 : decode cX11_has 1 = .ok (.iload_n 1, 1) := by decide +kernel
theorem dX11_has_2 : decode cX11_has 2 = .ok (.ishr, 1) := by decide +kernel
theorem dX11_has_3 : decode cX11_has 3 = .ok (.iconst 1, 1) := by decide +kernel
theorem dX11_has_4 : decode cX11_has 4 = .ok (.iand, 1) := by decide +kernel
theorem dX11_has_5 : decode cX11_has 5 = .ok (.iconst 1, 1) := by decide +kernel
theorem dX11_has_6 : decode cX11_has 6 = .ok (.if_icmp .ne 7, 3) := by decide +kernel
theorem dX11_has_9 : decode cX11_has 9 = .ok (.iconst 1, 1) := by decide +kernel
theorem dX11_has_10 : decode cX11_has 10 = .ok (.goto 4, 3) := by decide +kernel
theorem dX11_has_13 : decode cX11_has 13 = .ok (.iconst 0, 1) := by decide +kernel
theorem dX11_has_14 : decode cX11_has 14 = .ok (.ireturn, 1) := by decide +kernel
theorem dX11_bits_0 : decode cX11_bits 0 = .ok (.iconst 0, 1) := by decide +kernel
theorem dX11_bits_1 : decode cX11_bits 1 = .ok (.istore_n 1, 1) := by decide +kernel
theorem dX11_bits_2 : decode cX11_bits 2 = .ok (.iload_n 0, 1) := by decide +kernel
theorem dX11_bits_3 : decode cX11_bits 3 = .ok (.istore_n 2, 1) := by decide +kernel
theorem dX11_bits_4 : decode cX11_bits 4 = .ok (.iload_n 2, 1) := by decide +kernel
theorem dX11_bits_5 : decode cX11_bits 5 = .ok (.ifCond .le 16, 3) := by decide +kernel
theorem dX11_bits_8 : decode cX11_bits 8 = .ok (.iload_n 1, 1) := by decide +kernel
theorem dX11_bits_9 : decode cX11_bits 9 = .ok (.iload_n 2, 1) := by decide +kernel
theorem dX11_bits_10 : decode cX11_bits 10 = .ok (.iconst 1, 1) := by decide +kernel
theorem dX11_bits_11 : decode cX11_bits 11 = .ok (.iand, 1) := by decide +kernel
theorem dX11_bits_12 : decode cX11_bits 12 = .ok (.iadd, 1) := by decide +kernel
theorem dX11_bits_13 : decode cX11_bits 13 = .ok (.istore_n 1, 1) := by decide +kernel
theorem dX11_bits_14 : decode cX11_bits 14 = .ok (.iload_n 2, 1) := by decide +kernel
theorem dX11_bits_15 : decode cX11_bits 15 = .ok (.iconst 1, 1) := by decide +kernel
theorem dX11_bits_16 : decode cX11_bits 16 = .ok (.ishr, 1) := by decide +kernel
theorem dX11_bits_17 : decode cX11_bits 17 = .ok (.istore_n 2, 1) := by decide +kernel
theorem dX11_bits_18 : decode cX11_bits 18 = .ok (.goto (-14), 3) := by decide +kernel
theorem dX11_bits_21 : decode cX11_bits 21 = .ok (.iload_n 1, 1) := by decide +kernel
theorem dX11_bits_22 : decode cX11_bits 22 = .ok (.ireturn, 1) := by decide +kernel
theorem dX11_begin_0 : decode cX11_begin 0 = .ok (.iconst 0, 1) := by decide +kernel
theorem dX11_begin_1 : decode cX11_begin 1 = .ok (.istore_n 1, 1) := by decide +kernel
theorem dX11_begin_2 : decode cX11_begin 2 = .ok (.iload_n 1, 1) := by decide +kernel
theorem dX11_begin_3 : decode cX11_begin 3 = .ok (.bipush 101, 2) := by decide +kernel
theorem dX11_begin_5 : decode cX11_begin 5 = .ok (.if_icmp .ge 13, 3) := by decide +kernel
theorem dX11_begin_8 : decode cX11_begin 8 = .ok (.aload_n 0, 1) := by decide +kernel
theorem dX11_begin_9 : decode cX11_begin 9 = .ok (.iload_n 1, 1) := by decide +kernel
theorem dX11_begin_10 : decode cX11_begin 10 = .ok (.iconst 0, 1) := by decide +kernel
theorem dX11_begin_11 : decode cX11_begin 11 = .ok (.iastore, 1) := by decide +kernel
theorem dX11_begin_12 : decode cX11_begin 12 = .ok (.iinc 1 1, 3) := by decide +kernel
theorem dX11_begin_15 : decode cX11_begin 15 = .ok (.goto (-13), 3) := by decide +kernel
theorem dX11_begin_18 : decode cX11_begin 18 = .ok (.return_, 1) := by decide +kernel
theorem dX11_many_0 : decode cX11_many 0 = .ok (.aload_n 0, 1) := by decide +kernel
theorem dX11_many_1 : decode cX11_many 1 = .ok (.getfield 7, 3) := by decide +kernel
theorem dX11_many_4 : decode cX11_many 4 = .ok (.iconst 0, 1) := by decide +kernel
theorem dX11_many_5 : decode cX11_many 5 = .ok (.iaload, 1) := by decide +kernel
theorem dX11_many_6 : decode cX11_many 6 = .ok (.ireturn, 1) := by decide +kernel
set_option maxRecDepth 20000 in
theorem ggX11_isGlove_X11_many : GoodIn wsX11_isGlove wsX11_many := goodIn_r _ [5, 6, 10, 11, 12, 13, 14, 15, 16, 17, 18, 19, 20, 21, 22, 23, 24, 25, 26, 27] rfl (by decide +kernel)
set_option maxRecDepth 20000 in
theorem gX11_isGlove_X11_many : GoodIn wsX11_isGlove (wsV RX11 52 RX11 yX11_many wsX11_many) := goodIn_app (goodIn_of _ (by decide +kernel)) ggX11_isGlove_X11_many
set_option maxRecDepth 20000 in
theorem ggX11_isGlove_X11_in : GoodIn wsX11_isGlove wsX11_in := goodIn_r _ [9] rfl (by decide +kernel)
set_option maxRecDepth 20000 in
theorem gX11_isGlove_X11_in : GoodIn wsX11_isGlove (va_wsS RX11 56 yX11_in wsX11_in) := goodIn_app (goodIn_of _ (by decide +kernel)) ggX11_isGlove_X11_in
theorem dX11_isGlove_0 : decode cX11_isGlove 0 = .ok (.iload_n 1, 1) := by decide +kernel
theorem dX11_isGlove_1 : decode cX11_isGlove 1 = .ok (.i2l, 1) := by decide +kernel
theorem dX11_isGlove_2 : decode cX11_isGlove 2 = .ok (.lconst 0, 1) := by decide +kernel
theorem dX11_isGlove_3 : decode cX11_isGlove 3 = .ok (.aload_n 0, 1) := by decide +kernel
theorem dX11_isGlove_4 : decode cX11_isGlove 4 = .ok (.invokevirtual 52, 3) := by decide +kernel
theorem dX11_isGlove_7 : decode cX11_isGlove 7 = .ok (.iconst 1, 1) := by decide +kernel
theorem dX11_isGlove_8 : decode cX11_isGlove 8 = .ok (.isub, 1) := by decide +kernel
theorem dX11_isGlove_9 : decode cX11_isGlove 9 = .ok (.i2l, 1) := by decide +kernel
theorem dX11_isGlove_10 : decode cX11_isGlove 10 = .ok (.invokestatic 56, 3) := by decide +kernel
theorem dX11_isGlove_13 : decode cX11_isGlove 13 = .ok (.ireturn, 1) := by decide +kernel
set_option maxRecDepth 20000 in
theorem ggX11_isCrossing_X11_in : GoodIn wsX11_isCrossing wsX11_in := goodIn_r _ [5] rfl (by decide +kernel)
set_option maxRecDepth 20000 in
theorem gX11_isCrossing_X11_in : GoodIn wsX11_isCrossing (va_wsS RX11 56 yX11_in wsX11_in) := goodIn_app (goodIn_of _ (by decide +kernel)) ggX11_isCrossing_X11_in
theorem dX11_isCrossing_0 : decode cX11_isCrossing 0 = .ok (.iload_n 1, 1) := by decide +kernel
theorem dX11_isCrossing_1 : decode cX11_isCrossing 1 = .ok (.i2l, 1) := by decide +kernel
theorem dX11_isCrossing_2 : decode cX11_isCrossing 2 = .ok (.lconst 0, 1) := by decide +kernel
theorem dX11_isCrossing_3 : decode cX11_isCrossing 3 = .ok (.aload_n 0, 1) := by decide +kernel
theorem dX11_isCrossing_4 : decode cX11_isCrossing 4 = .ok (.getfield 7, 3) := by decide +kernel
theorem dX11_isCrossing_7 : decode cX11_isCrossing 7 = .ok (.iconst 1, 1) := by decide +kernel
theorem dX11_isCrossing_8 : decode cX11_isCrossing 8 = .ok (.iaload, 1) := by decide +kernel
theorem dX11_isCrossing_9 : decode cX11_isCrossing 9 = .ok (.iconst 1, 1) := by decide +kernel
theorem dX11_isCrossing_10 : decode cX11_isCrossing 10 = .ok (.isub, 1) := by decide +kernel
theorem dX11_isCrossing_11 : decode cX11_isCrossing 11 = .ok (.i2l, 1) := by decide +kernel
theorem dX11_isCrossing_12 : decode cX11_isCrossing 12 = .ok (.invokestatic 56, 3) := by decide +kernel
theorem dX11_isCrossing_15 : decode cX11_isCrossing 15 = .ok (.ireturn, 1) := by decide +kernel
set_option maxRecDepth 20000 in
theorem ggX11_isKind_X11_in : GoodIn wsX11_isKind wsX11_in := goodIn_r _ [5] rfl (by decide +kernel)
set_option maxRecDepth 20000 in
theorem gX11_isKind_X11_in : GoodIn wsX11_isKind (va_wsS RX11 56 yX11_in wsX11_in) := goodIn_app (goodIn_of _ (by decide +kernel)) ggX11_isKind_X11_in
theorem dX11_isKind_0 : decode cX11_isKind 0 = .ok (.iload_n 0, 1) := by decide +kernel
theorem dX11_isKind_1 : decode cX11_isKind 1 = .ok (.i2l, 1) := by decide +kernel
theorem dX11_isKind_2 : decode cX11_isKind 2 = .ok (.lconst 0, 1) := by decide +kernel
theorem dX11_isKind_3 : decode cX11_isKind 3 = .ok (.ldc2_w 60, 3) := by decide +kernel
theorem dX11_isKind_6 : decode cX11_isKind 6 = .ok (.invokestatic 56, 3) := by decide +kernel
theorem dX11_isKind_9 : decode cX11_isKind 9 = .ok (.ireturn, 1) := by decide +kernel
set_option maxRecDepth 20000 in
theorem ggX11_isWet_X11_in : GoodIn wsX11_isWet wsX11_in := goodIn_r _ [5] rfl (by decide +kernel)
set_option maxRecDepth 20000 in
theorem gX11_isWet_X11_in : GoodIn wsX11_isWet (va_wsS RX11 56 yX11_in wsX11_in) := goodIn_app (goodIn_of _ (by decide +kernel)) ggX11_isWet_X11_in
theorem dX11_isWet_0 : decode cX11_isWet 0 = .ok (.iload_n 0, 1) := by decide +kernel
theorem dX11_isWet_1 : decode cX11_isWet 1 = .ok (.i2l, 1) := by decide +kernel
theorem dX11_isWet_2 : decode cX11_isWet 2 = .ok (.lconst 0, 1) := by decide +kernel
theorem dX11_isWet_3 : decode cX11_isWet 3 = .ok (.ldc2_w 62, 3) := by decide +kernel
theorem dX11_isWet_6 : decode cX11_isWet 6 = .ok (.invokestatic 56, 3) := by decide +kernel
theorem dX11_isWet_9 : decode cX11_isWet 9 = .ok (.ireturn, 1) := by decide +kernel
set_option maxRecDepth 20000 in
theorem ggX11_isMark_X11_in : GoodIn wsX11_isMark wsX11_in := goodIn_r _ [5] rfl (by decide +kernel)
set_option maxRecDepth 20000 in
theorem gX11_isMark_X11_in : GoodIn wsX11_isMark (va_wsS RX11 56 yX11_in wsX11_in) := goodIn_app (goodIn_of _ (by decide +kernel)) ggX11_isMark_X11_in
theorem dX11_isMark_0 : decode cX11_isMark 0 = .ok (.iload_n 0, 1) := by decide +kernel
theorem dX11_isMark_1 : decode cX11_isMark 1 = .ok (.i2l, 1) := by decide +kernel
theorem dX11_isMark_2 : decode cX11_isMark 2 = .ok (.lconst 1, 1) := by decide +kernel
theorem dX11_isMark_3 : decode cX11_isMark 3 = .ok (.ldc2_w 64, 3) := by decide +kernel
theorem dX11_isMark_6 : decode cX11_isMark 6 = .ok (.invokestatic 56, 3) := by decide +kernel
theorem dX11_isMark_9 : decode cX11_isMark 9 = .ok (.ireturn, 1) := by decide +kernel
theorem dX11_behind_0 : decode cX11_behind 0 = .ok (.iconst 0, 1) := by decide +kernel
theorem dX11_behind_1 : decode cX11_behind 1 = .ok (.istore_n 2, 1) := by decide +kernel
theorem dX11_behind_2 : decode cX11_behind 2 = .ok (.iload_n 2, 1) := by decide +kernel
theorem dX11_behind_3 : decode cX11_behind 3 = .ok (.aload_n 0, 1) := by decide +kernel
theorem dX11_behind_4 : decode cX11_behind 4 = .ok (.iconst 1, 1) := by decide +kernel
theorem dX11_behind_5 : decode cX11_behind 5 = .ok (.iaload, 1) := by decide +kernel
theorem dX11_behind_6 : decode cX11_behind 6 = .ok (.if_icmp .ge 21, 3) := by decide +kernel
theorem dX11_behind_9 : decode cX11_behind 9 = .ok (.aload_n 0, 1) := by decide +kernel
theorem dX11_behind_10 : decode cX11_behind 10 = .ok (.bipush 40, 2) := by decide +kernel
theorem dX11_behind_12 : decode cX11_behind 12 = .ok (.iload_n 2, 1) := by decide +kernel
theorem dX11_behind_13 : decode cX11_behind 13 = .ok (.iadd, 1) := by decide +kernel
theorem dX11_behind_14 : decode cX11_behind 14 = .ok (.iaload, 1) := by decide +kernel
theorem dX11_behind_15 : decode cX11_behind 15 = .ok (.iload_n 1, 1) := by decide +kernel
theorem dX11_behind_16 : decode cX11_behind 16 = .ok (.if_icmp .ne 5, 3) := by decide +kernel
theorem dX11_behind_19 : decode cX11_behind 19 = .ok (.iload_n 2, 1) := by decide +kernel
theorem dX11_behind_20 : decode cX11_behind 20 = .ok (.ireturn, 1) := by decide +kernel
theorem dX11_behind_21 : decode cX11_behind 21 = .ok (.iinc 2 1, 3) := by decide +kernel
theorem dX11_behind_24 : decode cX11_behind 24 = .ok (.goto (-22), 3) := by decide +kernel
theorem dX11_behind_27 : decode cX11_behind 27 = .ok (.iconst (-1), 1) := by decide +kernel
theorem dX11_behind_28 : decode cX11_behind 28 = .ok (.ireturn, 1) := by decide +kernel
set_option maxRecDepth 20000 in
theorem ggX11_street_X11_many : GoodIn wsX11_street wsX11_many := goodIn_r _ [6, 1, 10, 11, 12, 13, 14, 15, 16, 17, 18, 19, 20, 21, 22, 23, 24, 25, 26, 27] rfl (by decide +kernel)
set_option maxRecDepth 20000 in
theorem gX11_street_X11_many : GoodIn wsX11_street (wsV RX11 52 RX11 yX11_many wsX11_many) := goodIn_app (goodIn_of _ (by decide +kernel)) ggX11_street_X11_many
set_option maxRecDepth 20000 in
theorem ggX11_street_X11_begin : GoodIn wsX11_street wsX11_begin := goodIn_r _ [9] rfl (by decide +kernel)
set_option maxRecDepth 20000 in
theorem gX11_street_X11_begin : GoodIn wsX11_street (va_wsS RX11 48 yX11_begin wsX11_begin) := goodIn_app (goodIn_of _ (by decide +kernel)) ggX11_street_X11_begin
theorem dX11_street_0 : decode cX11_street 0 = .ok (.aload_n 0, 1) := by decide +kernel
theorem dX11_street_1 : decode cX11_street 1 = .ok (.invokevirtual 52, 3) := by decide +kernel
theorem dX11_street_4 : decode cX11_street 4 = .ok (.istore_n 1, 1) := by decide +kernel
theorem dX11_street_5 : decode cX11_street 5 = .ok (.aload_n 0, 1) := by decide +kernel
theorem dX11_street_6 : decode cX11_street 6 = .ok (.getfield 7, 3) := by decide +kernel
theorem dX11_street_9 : decode cX11_street 9 = .ok (.invokestatic 48, 3) := by decide +kernel
theorem dX11_street_12 : decode cX11_street 12 = .ok (.iload_n 1, 1) := by decide +kernel
theorem dX11_street_13 : decode cX11_street 13 = .ok (.ireturn, 1) := by decide +kernel
set_option maxRecDepth 20000 in
theorem ggX11_wet_X11_in : GoodIn wsX11_wet wsX11_in := goodIn_r _ [6] rfl (by decide +kernel)
set_option maxRecDepth 20000 in
theorem gX11_wet_X11_in : GoodIn wsX11_wet (va_wsS RX11 56 yX11_in wsX11_in) := goodIn_app (goodIn_of _ (by decide +kernel)) ggX11_wet_X11_in
set_option maxRecDepth 20000 in
theorem ggX11_wet_X11_isWet : GoodIn wsX11_wet wsX11_isWet := goodIn_r _ [9, 10, 3, 4, 5, 6] rfl (by decide +kernel)
set_option maxRecDepth 20000 in
theorem gX11_wet_X11_isWet : GoodIn wsX11_wet (va_wsS RX11 66 yX11_isWet wsX11_isWet) := goodIn_app (goodIn_of _ (by decide +kernel)) ggX11_wet_X11_isWet
set_option maxRecDepth 20000 in
theorem ggX11_wet_X11_bad : GoodIn wsX11_wet wsX11_bad := goodIn_r _ [14, 15, 16, 17, 18, 19, 20, 21, 22, 23, 24, 25, 26, 27, 28, 29, 30, 31, 32, 33] rfl (by decide +kernel)
set_option maxRecDepth 20000 in
theorem gX11_wet_X11_bad : GoodIn wsX11_wet (wsV RX11 70 RX11 yX11_bad wsX11_bad) := goodIn_app (goodIn_of _ (by decide +kernel)) ggX11_wet_X11_bad
theorem dX11_wet_0 : decode cX11_wet 0 = .ok (.iload_n 1, 1) := by decide +kernel
theorem dX11_wet_1 : decode cX11_wet 1 = .ok (.i2l, 1) := by decide +kernel
theorem dX11_wet_2 : decode cX11_wet 2 = .ok (.lconst 0, 1) := by decide +kernel
theorem dX11_wet_3 : decode cX11_wet 3 = .ok (.ldc2_w 60, 3) := by decide +kernel
theorem dX11_wet_6 : decode cX11_wet 6 = .ok (.invokestatic 56, 3) := by decide +kernel
theorem dX11_wet_9 : decode cX11_wet 9 = .ok (.ifCond .eq 10, 3) := by decide +kernel
theorem dX11_wet_12 : decode cX11_wet 12 = .ok (.iload_n 2, 1) := by decide +kernel
theorem dX11_wet_13 : decode cX11_wet 13 = .ok (.invokestatic 66, 3) := by decide +kernel
theorem dX11_wet_16 : decode cX11_wet 16 = .ok (.ifCond .ne 10, 3) := by decide +kernel
theorem dX11_wet_19 : decode cX11_wet 19 = .ok (.aload_n 0, 1) := by decide +kernel
theorem dX11_wet_20 : decode cX11_wet 20 = .ok (.bipush (-2), 2) := by decide +kernel
theorem dX11_wet_22 : decode cX11_wet 22 = .ok (.invokevirtual 70, 3) := by decide +kernel
theorem dX11_wet_25 : decode cX11_wet 25 = .ok (.ireturn, 1) := by decide +kernel
theorem dX11_wet_26 : decode cX11_wet 26 = .ok (.aload_n 0, 1) := by decide +kernel
theorem dX11_wet_27 : decode cX11_wet 27 = .ok (.getfield 7, 3) := by decide +kernel
theorem dX11_wet_30 : decode cX11_wet 30 = .ok (.bipush 16, 2) := by decide +kernel
theorem dX11_wet_32 : decode cX11_wet 32 = .ok (.iload_n 1, 1) := by decide +kernel
theorem dX11_wet_33 : decode cX11_wet 33 = .ok (.iadd, 1) := by decide +kernel
theorem dX11_wet_34 : decode cX11_wet 34 = .ok (.iaload, 1) := by decide +kernel
theorem dX11_wet_35 : decode cX11_wet 35 = .ok (.istore_n 3, 1) := by decide +kernel
theorem dX11_wet_36 : decode cX11_wet 36 = .ok (.aload_n 0, 1) := by decide +kernel
theorem dX11_wet_37 : decode cX11_wet 37 = .ok (.getfield 7, 3) := by decide +kernel
theorem dX11_wet_40 : decode cX11_wet 40 = .ok (.bipush 16, 2) := by decide +kernel
theorem dX11_wet_42 : decode cX11_wet 42 = .ok (.iload_n 1, 1) := by decide +kernel
theorem dX11_wet_43 : decode cX11_wet 43 = .ok (.iadd, 1) := by decide +kernel
theorem dX11_wet_44 : decode cX11_wet 44 = .ok (.iload_n 2, 1) := by decide +kernel
theorem dX11_wet_45 : decode cX11_wet 45 = .ok (.iastore, 1) := by decide +kernel
theorem dX11_wet_46 : decode cX11_wet 46 = .ok (.aload_n 0, 1) := by decide +kernel
theorem dX11_wet_47 : decode cX11_wet 47 = .ok (.getfield 7, 3) := by decide +kernel
theorem dX11_wet_50 : decode cX11_wet 50 = .ok (.iconst 5, 1) := by decide +kernel
theorem dX11_wet_51 : decode cX11_wet 51 = .ok (.iconst 0, 1) := by decide +kernel
theorem dX11_wet_52 : decode cX11_wet 52 = .ok (.iastore, 1) := by decide +kernel
theorem dX11_wet_53 : decode cX11_wet 53 = .ok (.iload_n 3, 1) := by decide +kernel
theorem dX11_wet_54 : decode cX11_wet 54 = .ok (.ireturn, 1) := by decide +kernel
theorem dX11_layGlove_0 : decode cX11_layGlove 0 = .ok (.aload_n 0, 1) := by decide +kernel
theorem dX11_layGlove_1 : decode cX11_layGlove 1 = .ok (.iconst 0, 1) := by decide +kernel
theorem dX11_layGlove_2 : decode cX11_layGlove 2 = .ok (.iaload, 1) := by decide +kernel
theorem dX11_layGlove_3 : decode cX11_layGlove 3 = .ok (.istore 4, 2) := by decide +kernel
theorem dX11_layGlove_5 : decode cX11_layGlove 5 = .ok (.aload_n 0, 1) := by decide +kernel
theorem dX11_layGlove_6 : decode cX11_layGlove 6 = .ok (.bipush 22, 2) := by decide +kernel
theorem dX11_layGlove_8 : decode cX11_layGlove 8 = .ok (.iload 4, 2) := by decide +kernel
theorem dX11_layGlove_10 : decode cX11_layGlove 10 = .ok (.iadd, 1) := by decide +kernel
theorem dX11_layGlove_11 : decode cX11_layGlove 11 = .ok (.iload_n 1, 1) := by decide +kernel
theorem dX11_layGlove_12 : decode cX11_layGlove 12 = .ok (.iastore, 1) := by decide +kernel
theorem dX11_layGlove_13 : decode cX11_layGlove 13 = .ok (.aload_n 0, 1) := by decide +kernel
theorem dX11_layGlove_14 : decode cX11_layGlove 14 = .ok (.bipush 30, 2) := by decide +kernel
theorem dX11_layGlove_16 : decode cX11_layGlove 16 = .ok (.iload 4, 2) := by decide +kernel
theorem dX11_layGlove_18 : decode cX11_layGlove 18 = .ok (.iadd, 1) := by decide +kernel
theorem dX11_layGlove_19 : decode cX11_layGlove 19 = .ok (.iload_n 2, 1) := by decide +kernel
theorem dX11_layGlove_20 : decode cX11_layGlove 20 = .ok (.iastore, 1) := by decide +kernel
theorem dX11_layGlove_21 : decode cX11_layGlove 21 = .ok (.aload_n 0, 1) := by decide +kernel
theorem dX11_layGlove_22 : decode cX11_layGlove 22 = .ok (.bipush 6, 2) := by decide +kernel
theorem dX11_layGlove_24 : decode cX11_layGlove 24 = .ok (.iload 4, 2) := by decide +kernel
theorem dX11_layGlove_26 : decode cX11_layGlove 26 = .ok (.iadd, 1) := by decide +kernel
theorem dX11_layGlove_27 : decode cX11_layGlove 27 = .ok (.iload_n 3, 1) := by decide +kernel
theorem dX11_layGlove_28 : decode cX11_layGlove 28 = .ok (.iastore, 1) := by decide +kernel
theorem dX11_layGlove_29 : decode cX11_layGlove 29 = .ok (.aload_n 0, 1) := by decide +kernel
theorem dX11_layGlove_30 : decode cX11_layGlove 30 = .ok (.iconst 0, 1) := by decide +kernel
theorem dX11_layGlove_31 : decode cX11_layGlove 31 = .ok (.dup2, 1) := by decide +kernel
theorem dX11_layGlove_32 : decode cX11_layGlove 32 = .ok (.iaload, 1) := by decide +kernel
theorem dX11_layGlove_33 : decode cX11_layGlove 33 = .ok (.iconst 1, 1) := by decide +kernel
theorem dX11_layGlove_34 : decode cX11_layGlove 34 = .ok (.iadd, 1) := by decide +kernel
theorem dX11_layGlove_35 : decode cX11_layGlove 35 = .ok (.iastore, 1) := by decide +kernel
theorem dX11_layGlove_36 : decode cX11_layGlove 36 = .ok (.return_, 1) := by decide +kernel
theorem dX11_layCrossing_0 : decode cX11_layCrossing 0 = .ok (.aload_n 0, 1) := by decide +kernel
theorem dX11_layCrossing_1 : decode cX11_layCrossing 1 = .ok (.iconst 1, 1) := by decide +kernel
theorem dX11_layCrossing_2 : decode cX11_layCrossing 2 = .ok (.iaload, 1) := by decide +kernel
theorem dX11_layCrossing_3 : decode cX11_layCrossing 3 = .ok (.istore_n 3, 1) := by decide +kernel
theorem dX11_layCrossing_4 : decode cX11_layCrossing 4 = .ok (.aload_n 0, 1) := by decide +kernel
theorem dX11_layCrossing_5 : decode cX11_layCrossing 5 = .ok (.bipush 37, 2) := by decide +kernel
theorem dX11_layCrossing_7 : decode cX11_layCrossing 7 = .ok (.iload_n 3, 1) := by decide +kernel
theorem dX11_layCrossing_8 : decode cX11_layCrossing 8 = .ok (.iadd, 1) := by decide +kernel
theorem dX11_layCrossing_9 : decode cX11_layCrossing 9 = .ok (.iload_n 1, 1) := by decide +kernel
theorem dX11_layCrossing_10 : decode cX11_layCrossing 10 = .ok (.iastore, 1) := by decide +kernel
theorem dX11_layCrossing_11 : decode cX11_layCrossing 11 = .ok (.aload_n 0, 1) := by decide +kernel
theorem dX11_layCrossing_12 : decode cX11_layCrossing 12 = .ok (.bipush 40, 2) := by decide +kernel
theorem dX11_layCrossing_14 : decode cX11_layCrossing 14 = .ok (.iload_n 3, 1) := by decide +kernel
theorem dX11_layCrossing_15 : decode cX11_layCrossing 15 = .ok (.iadd, 1) := by decide +kernel
theorem dX11_layCrossing_16 : decode cX11_layCrossing 16 = .ok (.iload_n 2, 1) := by decide +kernel
theorem dX11_layCrossing_17 : decode cX11_layCrossing 17 = .ok (.iastore, 1) := by decide +kernel
theorem dX11_layCrossing_18 : decode cX11_layCrossing 18 = .ok (.aload_n 0, 1) := by decide +kernel
theorem dX11_layCrossing_19 : decode cX11_layCrossing 19 = .ok (.iconst 1, 1) := by decide +kernel
theorem dX11_layCrossing_20 : decode cX11_layCrossing 20 = .ok (.dup2, 1) := by decide +kernel
theorem dX11_layCrossing_21 : decode cX11_layCrossing 21 = .ok (.iaload, 1) := by decide +kernel
theorem dX11_layCrossing_22 : decode cX11_layCrossing 22 = .ok (.iconst 1, 1) := by decide +kernel
theorem dX11_layCrossing_23 : decode cX11_layCrossing 23 = .ok (.iadd, 1) := by decide +kernel
theorem dX11_layCrossing_24 : decode cX11_layCrossing 24 = .ok (.iastore, 1) := by decide +kernel
theorem dX11_layCrossing_25 : decode cX11_layCrossing 25 = .ok (.return_, 1) := by decide +kernel
set_option maxRecDepth 20000 in
theorem ggX11_glove_X11_isKind : GoodIn wsX11_glove wsX11_isKind := goodIn_r _ [6, 7, 8, 9, 5, 10] rfl (by decide +kernel)
set_option maxRecDepth 20000 in
theorem gX11_glove_X11_isKind : GoodIn wsX11_glove (va_wsS RX11 74 yX11_isKind wsX11_isKind) := goodIn_app (goodIn_of _ (by decide +kernel)) ggX11_glove_X11_isKind
set_option maxRecDepth 20000 in
theorem ggX11_glove_X11_isMark : GoodIn wsX11_glove wsX11_isMark := goodIn_r _ [13, 14, 8, 9, 5, 10] rfl (by decide +kernel)
set_option maxRecDepth 20000 in
theorem gX11_glove_X11_isMark : GoodIn wsX11_glove (va_wsS RX11 77 yX11_isMark wsX11_isMark) := goodIn_app (goodIn_of _ (by decide +kernel)) ggX11_glove_X11_isMark
set_option maxRecDepth 20000 in
theorem ggX11_glove_X11_in : GoodIn wsX11_glove wsX11_in := goodIn_r _ [10] rfl (by decide +kernel)
set_option maxRecDepth 20000 in
theorem gX11_glove_X11_in : GoodIn wsX11_glove (va_wsS RX11 56 yX11_in wsX11_in) := goodIn_app (goodIn_of _ (by decide +kernel)) ggX11_glove_X11_in
set_option maxRecDepth 20000 in
theorem ggX11_glove_X11_bad : GoodIn wsX11_glove wsX11_bad := goodIn_r _ [18, 19, 31, 32, 33, 34, 35, 36, 37, 38, 39, 40, 41, 42, 43, 44, 45, 46, 47, 48] rfl (by decide +kernel)
set_option maxRecDepth 20000 in
theorem gX11_glove_X11_bad : GoodIn wsX11_glove (wsV RX11 70 RX11 yX11_bad wsX11_bad) := goodIn_app (goodIn_of _ (by decide +kernel)) ggX11_glove_X11_bad
set_option maxRecDepth 20000 in
theorem ggX11_glove_X11_many : GoodIn wsX11_glove wsX11_many := goodIn_r _ [23, 2, 31, 32, 33, 34, 35, 36, 37, 38, 39, 40, 41, 42, 43, 44, 45, 46, 47, 48] rfl (by decide +kernel)
set_option maxRecDepth 20000 in
theorem gX11_glove_X11_many : GoodIn wsX11_glove (wsV RX11 52 RX11 yX11_many wsX11_many) := goodIn_app (goodIn_of _ (by decide +kernel)) ggX11_glove_X11_many
set_option maxRecDepth 20000 in
theorem ggX11_glove_X11_full : GoodIn wsX11_glove wsX11_full := goodIn_r _ [27, 19, 31, 32, 33, 34, 35, 36, 37, 38, 39, 40, 41, 42, 43, 44, 45, 46, 47, 48] rfl (by decide +kernel)
set_option maxRecDepth 20000 in
theorem gX11_glove_X11_full : GoodIn wsX11_glove (wsV RX11 82 RX11 yX11_full wsX11_full) := goodIn_app (goodIn_of _ (by decide +kernel)) ggX11_glove_X11_full
set_option maxRecDepth 20000 in
theorem ggX11_glove_X11_layGlove : GoodIn wsX11_glove wsX11_layGlove := goodIn_r _ [30] rfl (by decide +kernel)
set_option maxRecDepth 20000 in
theorem gX11_glove_X11_layGlove : GoodIn wsX11_glove (va_wsS RX11 85 yX11_layGlove wsX11_layGlove) := goodIn_app (goodIn_of _ (by decide +kernel)) ggX11_glove_X11_layGlove
theorem dX11_glove_0 : decode cX11_glove 0 = .ok (.iload_n 1, 1) := by decide +kernel
theorem dX11_glove_1 : decode cX11_glove 1 = .ok (.invokestatic 74, 3) := by decide +kernel
theorem dX11_glove_4 : decode cX11_glove 4 = .ok (.ifCond .eq 22, 3) := by decide +kernel
theorem dX11_glove_7 : decode cX11_glove 7 = .ok (.iload_n 2, 1) := by decide +kernel
theorem dX11_glove_8 : decode cX11_glove 8 = .ok (.invokestatic 77, 3) := by decide +kernel
theorem dX11_glove_11 : decode cX11_glove 11 = .ok (.ifCond .eq 15, 3) := by decide +kernel
theorem dX11_glove_14 : decode cX11_glove 14 = .ok (.iload_n 3, 1) := by decide +kernel
theorem dX11_glove_15 : decode cX11_glove 15 = .ok (.i2l, 1) := by decide +kernel
theorem dX11_glove_16 : decode cX11_glove 16 = .ok (.lconst 0, 1) := by decide +kernel
theorem dX11_glove_17 : decode cX11_glove 17 = .ok (.ldc2_w 80, 3) := by decide +kernel
theorem dX11_glove_20 : decode cX11_glove 20 = .ok (.invokestatic 56, 3) := by decide +kernel
theorem dX11_glove_23 : decode cX11_glove 23 = .ok (.ifCond .ne 10, 3) := by decide +kernel
theorem dX11_glove_26 : decode cX11_glove 26 = .ok (.aload_n 0, 1) := by decide +kernel
theorem dX11_glove_27 : decode cX11_glove 27 = .ok (.bipush (-2), 2) := by decide +kernel
theorem dX11_glove_29 : decode cX11_glove 29 = .ok (.invokevirtual 70, 3) := by decide +kernel
theorem dX11_glove_32 : decode cX11_glove 32 = .ok (.ireturn, 1) := by decide +kernel
theorem dX11_glove_33 : decode cX11_glove 33 = .ok (.aload_n 0, 1) := by decide +kernel
theorem dX11_glove_34 : decode cX11_glove 34 = .ok (.invokevirtual 52, 3) := by decide +kernel
theorem dX11_glove_37 : decode cX11_glove 37 = .ok (.bipush 7, 2) := by decide +kernel
theorem dX11_glove_39 : decode cX11_glove 39 = .ok (.if_icmp .ne 8, 3) := by decide +kernel
theorem dX11_glove_42 : decode cX11_glove 42 = .ok (.aload_n 0, 1) := by decide +kernel
theorem dX11_glove_43 : decode cX11_glove 43 = .ok (.invokevirtual 82, 3) := by decide +kernel
theorem dX11_glove_46 : decode cX11_glove 46 = .ok (.ireturn, 1) := by decide +kernel
theorem dX11_glove_47 : decode cX11_glove 47 = .ok (.aload_n 0, 1) := by decide +kernel
theorem dX11_glove_48 : decode cX11_glove 48 = .ok (.getfield 7, 3) := by decide +kernel
theorem dX11_glove_51 : decode cX11_glove 51 = .ok (.iload_n 1, 1) := by decide +kernel
theorem dX11_glove_52 : decode cX11_glove 52 = .ok (.iload_n 2, 1) := by decide +kernel
theorem dX11_glove_53 : decode cX11_glove 53 = .ok (.iload_n 3, 1) := by decide +kernel
theorem dX11_glove_54 : decode cX11_glove 54 = .ok (.invokestatic 85, 3) := by decide +kernel
theorem dX11_glove_57 : decode cX11_glove 57 = .ok (.aload_n 0, 1) := by decide +kernel
theorem dX11_glove_58 : decode cX11_glove 58 = .ok (.getfield 7, 3) := by decide +kernel
theorem dX11_glove_61 : decode cX11_glove 61 = .ok (.iconst 5, 1) := by decide +kernel
theorem dX11_glove_62 : decode cX11_glove 62 = .ok (.iconst 0, 1) := by decide +kernel
theorem dX11_glove_63 : decode cX11_glove 63 = .ok (.iastore, 1) := by decide +kernel
theorem dX11_glove_64 : decode cX11_glove 64 = .ok (.aload_n 0, 1) := by decide +kernel
theorem dX11_glove_65 : decode cX11_glove 65 = .ok (.invokevirtual 52, 3) := by decide +kernel
theorem dX11_glove_68 : decode cX11_glove 68 = .ok (.iconst 1, 1) := by decide +kernel
theorem dX11_glove_69 : decode cX11_glove 69 = .ok (.isub, 1) := by decide +kernel
theorem dX11_glove_70 : decode cX11_glove 70 = .ok (.ireturn, 1) := by decide +kernel
set_option maxRecDepth 20000 in
theorem ggX11_crossing_X11_isKind : GoodIn wsX11_crossing wsX11_isKind := goodIn_r _ [6, 7, 8, 9, 5, 10] rfl (by decide +kernel)
set_option maxRecDepth 20000 in
theorem gX11_crossing_X11_isKind : GoodIn wsX11_crossing (va_wsS RX11 74 yX11_isKind wsX11_isKind) := goodIn_app (goodIn_of _ (by decide +kernel)) ggX11_crossing_X11_isKind
set_option maxRecDepth 20000 in
theorem ggX11_crossing_X11_in : GoodIn wsX11_crossing wsX11_in := goodIn_r _ [10] rfl (by decide +kernel)
set_option maxRecDepth 20000 in
theorem gX11_crossing_X11_in : GoodIn wsX11_crossing (va_wsS RX11 56 yX11_in wsX11_in) := goodIn_app (goodIn_of _ (by decide +kernel)) ggX11_crossing_X11_in
set_option maxRecDepth 20000 in
theorem ggX11_crossing_X11_behind : GoodIn wsX11_crossing wsX11_behind := goodIn_r _ [13] rfl (by decide +kernel)
set_option maxRecDepth 20000 in
theorem gX11_crossing_X11_behind : GoodIn wsX11_crossing (va_wsS RX11 91 yX11_behind wsX11_behind) := goodIn_app (goodIn_of _ (by decide +kernel)) ggX11_crossing_X11_behind
set_option maxRecDepth 20000 in
theorem ggX11_crossing_X11_bad : GoodIn wsX11_crossing wsX11_bad := goodIn_r _ [17, 18, 26, 27, 28, 29, 30, 31, 32, 33, 34, 35, 36, 37, 38, 39, 40, 41, 42, 43] rfl (by decide +kernel)
set_option maxRecDepth 20000 in
theorem gX11_crossing_X11_bad : GoodIn wsX11_crossing (wsV RX11 70 RX11 yX11_bad wsX11_bad) := goodIn_app (goodIn_of _ (by decide +kernel)) ggX11_crossing_X11_bad
set_option maxRecDepth 20000 in
theorem ggX11_crossing_X11_full : GoodIn wsX11_crossing wsX11_full := goodIn_r _ [22, 18, 26, 27, 28, 29, 30, 31, 32, 33, 34, 35, 36, 37, 38, 39, 40, 41, 42, 43] rfl (by decide +kernel)
set_option maxRecDepth 20000 in
theorem gX11_crossing_X11_full : GoodIn wsX11_crossing (wsV RX11 82 RX11 yX11_full wsX11_full) := goodIn_app (goodIn_of _ (by decide +kernel)) ggX11_crossing_X11_full
set_option maxRecDepth 20000 in
theorem ggX11_crossing_X11_layCrossing : GoodIn wsX11_crossing wsX11_layCrossing := goodIn_r _ [25] rfl (by decide +kernel)
set_option maxRecDepth 20000 in
theorem gX11_crossing_X11_layCrossing : GoodIn wsX11_crossing (va_wsS RX11 95 yX11_layCrossing wsX11_layCrossing) := goodIn_app (goodIn_of _ (by decide +kernel)) ggX11_crossing_X11_layCrossing
theorem dX11_crossing_0 : decode cX11_crossing 0 = .ok (.iload_n 1, 1) := by decide +kernel
theorem dX11_crossing_1 : decode cX11_crossing 1 = .ok (.invokestatic 74, 3) := by decide +kernel
theorem dX11_crossing_4 : decode cX11_crossing 4 = .ok (.ifCond .eq 27, 3) := by decide +kernel
theorem dX11_crossing_7 : decode cX11_crossing 7 = .ok (.iload_n 2, 1) := by decide +kernel
theorem dX11_crossing_8 : decode cX11_crossing 8 = .ok (.i2l, 1) := by decide +kernel
theorem dX11_crossing_9 : decode cX11_crossing 9 = .ok (.lconst 0, 1) := by decide +kernel
theorem dX11_crossing_10 : decode cX11_crossing 10 = .ok (.ldc2_w 89, 3) := by decide +kernel
theorem dX11_crossing_13 : decode cX11_crossing 13 = .ok (.invokestatic 56, 3) := by decide +kernel
theorem dX11_crossing_16 : decode cX11_crossing 16 = .ok (.ifCond .eq 15, 3) := by decide +kernel
theorem dX11_crossing_19 : decode cX11_crossing 19 = .ok (.aload_n 0, 1) := by decide +kernel
theorem dX11_crossing_20 : decode cX11_crossing 20 = .ok (.getfield 7, 3) := by decide +kernel
theorem dX11_crossing_23 : decode cX11_crossing 23 = .ok (.iload_n 2, 1) := by decide +kernel
theorem dX11_crossing_24 : decode cX11_crossing 24 = .ok (.invokestatic 91, 3) := by decide +kernel
theorem dX11_crossing_27 : decode cX11_crossing 27 = .ok (.iconst (-1), 1) := by decide +kernel
theorem dX11_crossing_28 : decode cX11_crossing 28 = .ok (.if_icmp .eq 10, 3) := by decide +kernel
theorem dX11_crossing_31 : decode cX11_crossing 31 = .ok (.aload_n 0, 1) := by decide +kernel
theorem dX11_crossing_32 : decode cX11_crossing 32 = .ok (.bipush (-2), 2) := by decide +kernel
theorem dX11_crossing_34 : decode cX11_crossing 34 = .ok (.invokevirtual 70, 3) := by decide +kernel
theorem dX11_crossing_37 : decode cX11_crossing 37 = .ok (.ireturn, 1) := by decide +kernel
theorem dX11_crossing_38 : decode cX11_crossing 38 = .ok (.aload_n 0, 1) := by decide +kernel
theorem dX11_crossing_39 : decode cX11_crossing 39 = .ok (.getfield 7, 3) := by decide +kernel
theorem dX11_crossing_42 : decode cX11_crossing 42 = .ok (.iconst 1, 1) := by decide +kernel
theorem dX11_crossing_43 : decode cX11_crossing 43 = .ok (.iaload, 1) := by decide +kernel
theorem dX11_crossing_44 : decode cX11_crossing 44 = .ok (.iconst 3, 1) := by decide +kernel
theorem dX11_crossing_45 : decode cX11_crossing 45 = .ok (.if_icmp .ne 8, 3) := by decide +kernel
theorem dX11_crossing_48 : decode cX11_crossing 48 = .ok (.aload_n 0, 1) := by decide +kernel
theorem dX11_crossing_49 : decode cX11_crossing 49 = .ok (.invokevirtual 82, 3) := by decide +kernel
theorem dX11_crossing_52 : decode cX11_crossing 52 = .ok (.ireturn, 1) := by decide +kernel
theorem dX11_crossing_53 : decode cX11_crossing 53 = .ok (.aload_n 0, 1) := by decide +kernel
theorem dX11_crossing_54 : decode cX11_crossing 54 = .ok (.getfield 7, 3) := by decide +kernel
theorem dX11_crossing_57 : decode cX11_crossing 57 = .ok (.iload_n 1, 1) := by decide +kernel
theorem dX11_crossing_58 : decode cX11_crossing 58 = .ok (.iload_n 2, 1) := by decide +kernel
theorem dX11_crossing_59 : decode cX11_crossing 59 = .ok (.invokestatic 95, 3) := by decide +kernel
theorem dX11_crossing_62 : decode cX11_crossing 62 = .ok (.aload_n 0, 1) := by decide +kernel
theorem dX11_crossing_63 : decode cX11_crossing 63 = .ok (.getfield 7, 3) := by decide +kernel
theorem dX11_crossing_66 : decode cX11_crossing 66 = .ok (.iconst 5, 1) := by decide +kernel
theorem dX11_crossing_67 : decode cX11_crossing 67 = .ok (.iconst 0, 1) := by decide +kernel
theorem dX11_crossing_68 : decode cX11_crossing 68 = .ok (.iastore, 1) := by decide +kernel
theorem dX11_crossing_69 : decode cX11_crossing 69 = .ok (.aload_n 0, 1) := by decide +kernel
theorem dX11_crossing_70 : decode cX11_crossing 70 = .ok (.getfield 7, 3) := by decide +kernel
theorem dX11_crossing_73 : decode cX11_crossing 73 = .ok (.iconst 1, 1) := by decide +kernel
theorem dX11_crossing_74 : decode cX11_crossing 74 = .ok (.iaload, 1) := by decide +kernel
theorem dX11_crossing_75 : decode cX11_crossing 75 = .ok (.iconst 1, 1) := by decide +kernel
theorem dX11_crossing_76 : decode cX11_crossing 76 = .ok (.isub, 1) := by decide +kernel
theorem dX11_crossing_77 : decode cX11_crossing 77 = .ok (.ireturn, 1) := by decide +kernel
theorem dX11_goesAs_0 : decode cX11_goesAs 0 = .ok (.iload_n 2, 1) := by decide +kernel
theorem dX11_goesAs_1 : decode cX11_goesAs 1 = .ok (.ifCond .ne 7, 3) := by decide +kernel
theorem dX11_goesAs_4 : decode cX11_goesAs 4 = .ok (.iconst 2, 1) := by decide +kernel
theorem dX11_goesAs_5 : decode cX11_goesAs 5 = .ok (.goto 4, 3) := by decide +kernel
theorem dX11_goesAs_8 : decode cX11_goesAs 8 = .ok (.iconst 1, 1) := by decide +kernel
theorem dX11_goesAs_9 : decode cX11_goesAs 9 = .ok (.istore_n 3, 1) := by decide +kernel
theorem dX11_goesAs_10 : decode cX11_goesAs 10 = .ok (.iload_n 1, 1) := by decide +kernel
theorem dX11_goesAs_11 : decode cX11_goesAs 11 = .ok (.iconst 2, 1) := by decide +kernel
theorem dX11_goesAs_12 : decode cX11_goesAs 12 = .ok (.irem, 1) := by decide +kernel
theorem dX11_goesAs_13 : decode cX11_goesAs 13 = .ok (.ifCond .ne 9, 3) := by decide +kernel
theorem dX11_goesAs_16 : decode cX11_goesAs 16 = .ok (.iconst 2, 1) := by decide +kernel
theorem dX11_goesAs_17 : decode cX11_goesAs 17 = .ok (.iload_n 3, 1) := by decide +kernel
theorem dX11_goesAs_18 : decode cX11_goesAs 18 = .ok (.imul, 1) := by decide +kernel
theorem dX11_goesAs_19 : decode cX11_goesAs 19 = .ok (.goto 4, 3) := by decide +kernel
theorem dX11_goesAs_22 : decode cX11_goesAs 22 = .ok (.iload_n 3, 1) := by decide +kernel
theorem dX11_goesAs_23 : decode cX11_goesAs 23 = .ok (.istore 4, 2) := by decide +kernel
theorem dX11_goesAs_25 : decode cX11_goesAs 25 = .ok (.iload_n 0, 1) := by decide +kernel
theorem dX11_goesAs_26 : decode cX11_goesAs 26 = .ok (.tableswitch 77 1 5 #[34, 36, 47, 50, 62], 34) := by decide +kernel
theorem dX11_goesAs_60 : decode cX11_goesAs 60 = .ok (.iload_n 3, 1) := by decide +kernel
theorem dX11_goesAs_61 : decode cX11_goesAs 61 = .ok (.ireturn, 1) := by decide +kernel
theorem dX11_goesAs_62 : decode cX11_goesAs 62 = .ok (.iload_n 2, 1) := by decide +kernel
theorem dX11_goesAs_63 : decode cX11_goesAs 63 = .ok (.iconst 3, 1) := by decide +kernel
theorem dX11_goesAs_64 : decode cX11_goesAs 64 = .ok (.if_icmp .lt 7, 3) := by decide +kernel
theorem dX11_goesAs_67 : decode cX11_goesAs 67 = .ok (.iconst 0, 1) := by decide +kernel
theorem dX11_goesAs_68 : decode cX11_goesAs 68 = .ok (.goto 4, 3) := by decide +kernel
theorem dX11_goesAs_71 : decode cX11_goesAs 71 = .ok (.iconst 1, 1) := by decide +kernel
theorem dX11_goesAs_72 : decode cX11_goesAs 72 = .ok (.ireturn, 1) := by decide +kernel
theorem dX11_goesAs_73 : decode cX11_goesAs 73 = .ok (.iload 4, 2) := by decide +kernel
theorem dX11_goesAs_75 : decode cX11_goesAs 75 = .ok (.ireturn, 1) := by decide +kernel
theorem dX11_goesAs_76 : decode cX11_goesAs 76 = .ok (.iload_n 1, 1) := by decide +kernel
theorem dX11_goesAs_77 : decode cX11_goesAs 77 = .ok (.iconst 5, 1) := by decide +kernel
theorem dX11_goesAs_78 : decode cX11_goesAs 78 = .ok (.irem, 1) := by decide +kernel
theorem dX11_goesAs_79 : decode cX11_goesAs 79 = .ok (.ifCond .ne 7, 3) := by decide +kernel
theorem dX11_goesAs_82 : decode cX11_goesAs 82 = .ok (.iconst 4, 1) := by decide +kernel
theorem dX11_goesAs_83 : decode cX11_goesAs 83 = .ok (.goto 4, 3) := by decide +kernel
theorem dX11_goesAs_86 : decode cX11_goesAs 86 = .ok (.iconst 1, 1) := by decide +kernel
theorem dX11_goesAs_87 : decode cX11_goesAs 87 = .ok (.ireturn, 1) := by decide +kernel
theorem dX11_goesAs_88 : decode cX11_goesAs 88 = .ok (.iload 4, 2) := by decide +kernel
theorem dX11_goesAs_90 : decode cX11_goesAs 90 = .ok (.iload_n 2, 1) := by decide +kernel
theorem dX11_goesAs_91 : decode cX11_goesAs 91 = .ok (.if_icmp .le 10, 3) := by decide +kernel
theorem dX11_goesAs_94 : decode cX11_goesAs 94 = .ok (.iload 4, 2) := by decide +kernel
theorem dX11_goesAs_96 : decode cX11_goesAs 96 = .ok (.iload_n 2, 1) := by decide +kernel
theorem dX11_goesAs_97 : decode cX11_goesAs 97 = .ok (.isub, 1) := by decide +kernel
theorem dX11_goesAs_98 : decode cX11_goesAs 98 = .ok (.goto 4, 3) := by decide +kernel
theorem dX11_goesAs_101 : decode cX11_goesAs 101 = .ok (.iconst 0, 1) := by decide +kernel
theorem dX11_goesAs_102 : decode cX11_goesAs 102 = .ok (.ireturn, 1) := by decide +kernel
theorem dX11_goesAs_103 : decode cX11_goesAs 103 = .ok (.iconst 1, 1) := by decide +kernel
theorem dX11_goesAs_104 : decode cX11_goesAs 104 = .ok (.ireturn, 1) := by decide +kernel
theorem dX11_letsAs_0 : decode cX11_letsAs 0 = .ok (.iload_n 1, 1) := by decide +kernel
theorem dX11_letsAs_1 : decode cX11_letsAs 1 = .ok (.iconst 2, 1) := by decide +kernel
theorem dX11_letsAs_2 : decode cX11_letsAs 2 = .ok (.irem, 1) := by decide +kernel
theorem dX11_letsAs_3 : decode cX11_letsAs 3 = .ok (.ifCond .ne 7, 3) := by decide +kernel
theorem dX11_letsAs_6 : decode cX11_letsAs 6 = .ok (.iconst 2, 1) := by decide +kernel
theorem dX11_letsAs_7 : decode cX11_letsAs 7 = .ok (.goto 4, 3) := by decide +kernel
theorem dX11_letsAs_10 : decode cX11_letsAs 10 = .ok (.iconst 0, 1) := by decide +kernel
theorem dX11_letsAs_11 : decode cX11_letsAs 11 = .ok (.istore_n 3, 1) := by decide +kernel
theorem dX11_letsAs_12 : decode cX11_letsAs 12 = .ok (.iload_n 3, 1) := by decide +kernel
theorem dX11_letsAs_13 : decode cX11_letsAs 13 = .ok (.ifCond .le 9, 3) := by decide +kernel
theorem dX11_letsAs_16 : decode cX11_letsAs 16 = .ok (.iload_n 3, 1) := by decide +kernel
theorem dX11_letsAs_17 : decode cX11_letsAs 17 = .ok (.iconst 1, 1) := by decide +kernel
theorem dX11_letsAs_18 : decode cX11_letsAs 18 = .ok (.isub, 1) := by decide +kernel
theorem dX11_letsAs_19 : decode cX11_letsAs 19 = .ok (.goto 4, 3) := by decide +kernel
theorem dX11_letsAs_22 : decode cX11_letsAs 22 = .ok (.iconst 0, 1) := by decide +kernel
theorem dX11_letsAs_23 : decode cX11_letsAs 23 = .ok (.istore 4, 2) := by decide +kernel
theorem dX11_letsAs_25 : decode cX11_letsAs 25 = .ok (.iload_n 3, 1) := by decide +kernel
theorem dX11_letsAs_26 : decode cX11_letsAs 26 = .ok (.iload_n 2, 1) := by decide +kernel
theorem dX11_letsAs_27 : decode cX11_letsAs 27 = .ok (.iconst 2, 1) := by decide +kernel
theorem dX11_letsAs_28 : decode cX11_letsAs 28 = .ok (.idiv, 1) := by decide +kernel
theorem dX11_letsAs_29 : decode cX11_letsAs 29 = .ok (.iadd, 1) := by decide +kernel
theorem dX11_letsAs_30 : decode cX11_letsAs 30 = .ok (.istore 5, 2) := by decide +kernel
theorem dX11_letsAs_32 : decode cX11_letsAs 32 = .ok (.iload_n 0, 1) := by decide +kernel
theorem dX11_letsAs_33 : decode cX11_letsAs 33 = .ok (.tableswitch 84 1 5 #[35, 38, 41, 56, 71], 35) := by decide +kernel
theorem dX11_letsAs_68 : decode cX11_letsAs 68 = .ok (.iload 4, 2) := by decide +kernel
theorem dX11_letsAs_70 : decode cX11_letsAs 70 = .ok (.ireturn, 1) := by decide +kernel
theorem dX11_letsAs_71 : decode cX11_letsAs 71 = .ok (.iload 5, 2) := by decide +kernel
theorem dX11_letsAs_73 : decode cX11_letsAs 73 = .ok (.ireturn, 1) := by decide +kernel
theorem dX11_letsAs_74 : decode cX11_letsAs 74 = .ok (.iload_n 2, 1) := by decide +kernel
theorem dX11_letsAs_75 : decode cX11_letsAs 75 = .ok (.iconst 4, 1) := by decide +kernel
theorem dX11_letsAs_76 : decode cX11_letsAs 76 = .ok (.if_icmp .lt 10, 3) := by decide +kernel
theorem dX11_letsAs_79 : decode cX11_letsAs 79 = .ok (.iload 4, 2) := by decide +kernel
theorem dX11_letsAs_81 : decode cX11_letsAs 81 = .ok (.iconst 1, 1) := by decide +kernel
theorem dX11_letsAs_82 : decode cX11_letsAs 82 = .ok (.iadd, 1) := by decide +kernel
theorem dX11_letsAs_83 : decode cX11_letsAs 83 = .ok (.goto 5, 3) := by decide +kernel
theorem dX11_letsAs_86 : decode cX11_letsAs 86 = .ok (.iload 4, 2) := by decide +kernel
theorem dX11_letsAs_88 : decode cX11_letsAs 88 = .ok (.ireturn, 1) := by decide +kernel
theorem dX11_letsAs_89 : decode cX11_letsAs 89 = .ok (.iload_n 1, 1) := by decide +kernel
theorem dX11_letsAs_90 : decode cX11_letsAs 90 = .ok (.bipush 8, 2) := by decide +kernel
theorem dX11_letsAs_92 : decode cX11_letsAs 92 = .ok (.irem, 1) := by decide +kernel
theorem dX11_letsAs_93 : decode cX11_letsAs 93 = .ok (.bipush 6, 2) := by decide +kernel
theorem dX11_letsAs_95 : decode cX11_letsAs 95 = .ok (.if_icmp .lt 7, 3) := by decide +kernel
theorem dX11_letsAs_98 : decode cX11_letsAs 98 = .ok (.iload_n 2, 1) := by decide +kernel
theorem dX11_letsAs_99 : decode cX11_letsAs 99 = .ok (.goto 4, 3) := by decide +kernel
theorem dX11_letsAs_102 : decode cX11_letsAs 102 = .ok (.iload_n 3, 1) := by decide +kernel
theorem dX11_letsAs_103 : decode cX11_letsAs 103 = .ok (.ireturn, 1) := by decide +kernel
theorem dX11_letsAs_104 : decode cX11_letsAs 104 = .ok (.iload_n 1, 1) := by decide +kernel
theorem dX11_letsAs_105 : decode cX11_letsAs 105 = .ok (.iconst 3, 1) := by decide +kernel
theorem dX11_letsAs_106 : decode cX11_letsAs 106 = .ok (.irem, 1) := by decide +kernel
theorem dX11_letsAs_107 : decode cX11_letsAs 107 = .ok (.ifCond .ne 7, 3) := by decide +kernel
theorem dX11_letsAs_110 : decode cX11_letsAs 110 = .ok (.iconst 0, 1) := by decide +kernel
theorem dX11_letsAs_111 : decode cX11_letsAs 111 = .ok (.goto 5, 3) := by decide +kernel
theorem dX11_letsAs_114 : decode cX11_letsAs 114 = .ok (.iload 5, 2) := by decide +kernel
theorem dX11_letsAs_116 : decode cX11_letsAs 116 = .ok (.ireturn, 1) := by decide +kernel
theorem dX11_letsAs_117 : decode cX11_letsAs 117 = .ok (.iload_n 3, 1) := by decide +kernel
theorem dX11_letsAs_118 : decode cX11_letsAs 118 = .ok (.ireturn, 1) := by decide +kernel
set_option maxRecDepth 20000 in
theorem ggX11_goesNow_X11_goesAs : GoodIn wsX11_goesNow wsX11_goesAs := goodIn_r _ [4] rfl (by decide +kernel)
set_option maxRecDepth 20000 in
theorem gX11_goesNow_X11_goesAs : GoodIn wsX11_goesNow (va_wsS RX11 99 yX11_goesAs wsX11_goesAs) := goodIn_app (goodIn_of _ (by decide +kernel)) ggX11_goesNow_X11_goesAs
theorem dX11_goesNow_0 : decode cX11_goesNow 0 = .ok (.aload_n 0, 1) := by decide +kernel
theorem dX11_goesNow_1 : decode cX11_goesNow 1 = .ok (.bipush 22, 2) := by decide +kernel
theorem dX11_goesNow_3 : decode cX11_goesNow 3 = .ok (.iload_n 1, 1) := by decide +kernel
theorem dX11_goesNow_4 : decode cX11_goesNow 4 = .ok (.iadd, 1) := by decide +kernel
theorem dX11_goesNow_5 : decode cX11_goesNow 5 = .ok (.iaload, 1) := by decide +kernel
theorem dX11_goesNow_6 : decode cX11_goesNow 6 = .ok (.aload_n 0, 1) := by decide +kernel
theorem dX11_goesNow_7 : decode cX11_goesNow 7 = .ok (.bipush 15, 2) := by decide +kernel
theorem dX11_goesNow_9 : decode cX11_goesNow 9 = .ok (.iaload, 1) := by decide +kernel
theorem dX11_goesNow_10 : decode cX11_goesNow 10 = .ok (.aload_n 0, 1) := by decide +kernel
theorem dX11_goesNow_11 : decode cX11_goesNow 11 = .ok (.bipush 16, 2) := by decide +kernel
theorem dX11_goesNow_13 : decode cX11_goesNow 13 = .ok (.aload_n 0, 1) := by decide +kernel
theorem dX11_goesNow_14 : decode cX11_goesNow 14 = .ok (.bipush 15, 2) := by decide +kernel
theorem dX11_goesNow_16 : decode cX11_goesNow 16 = .ok (.iaload, 1) := by decide +kernel
theorem dX11_goesNow_17 : decode cX11_goesNow 17 = .ok (.bipush 6, 2) := by decide +kernel
theorem dX11_goesNow_19 : decode cX11_goesNow 19 = .ok (.irem, 1) := by decide +kernel
theorem dX11_goesNow_20 : decode cX11_goesNow 20 = .ok (.iadd, 1) := by decide +kernel
theorem dX11_goesNow_21 : decode cX11_goesNow 21 = .ok (.iaload, 1) := by decide +kernel
theorem dX11_goesNow_22 : decode cX11_goesNow 22 = .ok (.invokestatic 99, 3) := by decide +kernel
theorem dX11_goesNow_25 : decode cX11_goesNow 25 = .ok (.ireturn, 1) := by decide +kernel
theorem dX11_manyAt_0 : decode cX11_manyAt 0 = .ok (.iconst 0, 1) := by decide +kernel
theorem dX11_manyAt_1 : decode cX11_manyAt 1 = .ok (.istore_n 2, 1) := by decide +kernel
theorem dX11_manyAt_2 : decode cX11_manyAt 2 = .ok (.iconst 0, 1) := by decide +kernel
theorem dX11_manyAt_3 : decode cX11_manyAt 3 = .ok (.istore_n 3, 1) := by decide +kernel
theorem dX11_manyAt_4 : decode cX11_manyAt 4 = .ok (.iload_n 3, 1) := by decide +kernel
theorem dX11_manyAt_5 : decode cX11_manyAt 5 = .ok (.aload_n 0, 1) := by decide +kernel
theorem dX11_manyAt_6 : decode cX11_manyAt 6 = .ok (.iconst 0, 1) := by decide +kernel
theorem dX11_manyAt_7 : decode cX11_manyAt 7 = .ok (.iaload, 1) := by decide +kernel
theorem dX11_manyAt_8 : decode cX11_manyAt 8 = .ok (.if_icmp .ge 27, 3) := by decide +kernel
theorem dX11_manyAt_11 : decode cX11_manyAt 11 = .ok (.iload_n 2, 1) := by decide +kernel
theorem dX11_manyAt_12 : decode cX11_manyAt 12 = .ok (.aload_n 0, 1) := by decide +kernel
theorem dX11_manyAt_13 : decode cX11_manyAt 13 = .ok (.bipush 6, 2) := by decide +kernel
theorem dX11_manyAt_15 : decode cX11_manyAt 15 = .ok (.iload_n 3, 1) := by decide +kernel
theorem dX11_manyAt_16 : decode cX11_manyAt 16 = .ok (.iadd, 1) := by decide +kernel
theorem dX11_manyAt_17 : decode cX11_manyAt 17 = .ok (.iaload, 1) := by decide +kernel
theorem dX11_manyAt_18 : decode cX11_manyAt 18 = .ok (.iload_n 1, 1) := by decide +kernel
theorem dX11_manyAt_19 : decode cX11_manyAt 19 = .ok (.if_icmp .ne 7, 3) := by decide +kernel
theorem dX11_manyAt_22 : decode cX11_manyAt 22 = .ok (.iconst 1, 1) := by decide +kernel
theorem dX11_manyAt_23 : decode cX11_manyAt 23 = .ok (.goto 4, 3) := by decide +kernel
theorem dX11_manyAt_26 : decode cX11_manyAt 26 = .ok (.iconst 0, 1) := by decide +kernel
theorem dX11_manyAt_27 : decode cX11_manyAt 27 = .ok (.iadd, 1) := by decide +kernel
theorem dX11_manyAt_28 : decode cX11_manyAt 28 = .ok (.istore_n 2, 1) := by decide +kernel
theorem dX11_manyAt_29 : decode cX11_manyAt 29 = .ok (.iinc 3 1, 3) := by decide +kernel
theorem dX11_manyAt_32 : decode cX11_manyAt 32 = .ok (.goto (-28), 3) := by decide +kernel
theorem dX11_manyAt_35 : decode cX11_manyAt 35 = .ok (.iload_n 2, 1) := by decide +kernel
theorem dX11_manyAt_36 : decode cX11_manyAt 36 = .ok (.ireturn, 1) := by decide +kernel
set_option maxRecDepth 20000 in
theorem ggX11_waits_X11_behind : GoodIn wsX11_waits wsX11_behind := goodIn_r _ [4] rfl (by decide +kernel)
set_option maxRecDepth 20000 in
theorem gX11_waits_X11_behind : GoodIn wsX11_waits (va_wsS RX11 91 yX11_behind wsX11_behind) := goodIn_app (goodIn_of _ (by decide +kernel)) ggX11_waits_X11_behind
theorem dX11_waits_0 : decode cX11_waits 0 = .ok (.aload_n 0, 1) := by decide +kernel
theorem dX11_waits_1 : decode cX11_waits 1 = .ok (.aload_n 0, 1) := by decide +kernel
theorem dX11_waits_2 : decode cX11_waits 2 = .ok (.bipush 6, 2) := by decide +kernel
theorem dX11_waits_4 : decode cX11_waits 4 = .ok (.iload_n 1, 1) := by decide +kernel
theorem dX11_waits_5 : decode cX11_waits 5 = .ok (.iadd, 1) := by decide +kernel
theorem dX11_waits_6 : decode cX11_waits 6 = .ok (.iaload, 1) := by decide +kernel
theorem dX11_waits_7 : decode cX11_waits 7 = .ok (.invokestatic 91, 3) := by decide +kernel
theorem dX11_waits_10 : decode cX11_waits 10 = .ok (.iconst (-1), 1) := by decide +kernel
theorem dX11_waits_11 : decode cX11_waits 11 = .ok (.if_icmp .eq 7, 3) := by decide +kernel
theorem dX11_waits_14 : decode cX11_waits 14 = .ok (.iconst 1, 1) := by decide +kernel
theorem dX11_waits_15 : decode cX11_waits 15 = .ok (.goto 4, 3) := by decide +kernel
theorem dX11_waits_18 : decode cX11_waits 18 = .ok (.iconst 0, 1) := by decide +kernel
theorem dX11_waits_19 : decode cX11_waits 19 = .ok (.ireturn, 1) := by decide +kernel
set_option maxRecDepth 20000 in
theorem ggX11_goesTo_X11_goesNow : GoodIn wsX11_goesTo wsX11_goesNow := goodIn_r _ [4, 5, 6, 3, 7] rfl (by decide +kernel)
set_option maxRecDepth 20000 in
theorem gX11_goesTo_X11_goesNow : GoodIn wsX11_goesTo (va_wsS RX11 103 yX11_goesNow wsX11_goesNow) := goodIn_app (goodIn_of _ (by decide +kernel)) ggX11_goesTo_X11_goesNow
set_option maxRecDepth 20000 in
theorem ggX11_goesTo_X11_behind : GoodIn wsX11_goesTo wsX11_behind := goodIn_r _ [10] rfl (by decide +kernel)
set_option maxRecDepth 20000 in
theorem gX11_goesTo_X11_behind : GoodIn wsX11_goesTo (va_wsS RX11 91 yX11_behind wsX11_behind) := goodIn_app (goodIn_of _ (by decide +kernel)) ggX11_goesTo_X11_behind
theorem dX11_goesTo_0 : decode cX11_goesTo 0 = .ok (.aload_n 0, 1) := by decide +kernel
theorem dX11_goesTo_1 : decode cX11_goesTo 1 = .ok (.bipush 6, 2) := by decide +kernel
theorem dX11_goesTo_3 : decode cX11_goesTo 3 = .ok (.iload_n 1, 1) := by decide +kernel
theorem dX11_goesTo_4 : decode cX11_goesTo 4 = .ok (.iadd, 1) := by decide +kernel
theorem dX11_goesTo_5 : decode cX11_goesTo 5 = .ok (.iaload, 1) := by decide +kernel
theorem dX11_goesTo_6 : decode cX11_goesTo 6 = .ok (.istore_n 2, 1) := by decide +kernel
theorem dX11_goesTo_7 : decode cX11_goesTo 7 = .ok (.aload_n 0, 1) := by decide +kernel
theorem dX11_goesTo_8 : decode cX11_goesTo 8 = .ok (.iload_n 1, 1) := by decide +kernel
theorem dX11_goesTo_9 : decode cX11_goesTo 9 = .ok (.invokestatic 103, 3) := by decide +kernel
theorem dX11_goesTo_12 : decode cX11_goesTo 12 = .ok (.istore_n 3, 1) := by decide +kernel
theorem dX11_goesTo_13 : decode cX11_goesTo 13 = .ok (.iload_n 3, 1) := by decide +kernel
theorem dX11_goesTo_14 : decode cX11_goesTo 14 = .ok (.ifCond .le 27, 3) := by decide +kernel
theorem dX11_goesTo_17 : decode cX11_goesTo 17 = .ok (.iload_n 2, 1) := by decide +kernel
theorem dX11_goesTo_18 : decode cX11_goesTo 18 = .ok (.bipush 23, 2) := by decide +kernel
theorem dX11_goesTo_20 : decode cX11_goesTo 20 = .ok (.if_icmp .ge 21, 3) := by decide +kernel
theorem dX11_goesTo_23 : decode cX11_goesTo 23 = .ok (.aload_n 0, 1) := by decide +kernel
theorem dX11_goesTo_24 : decode cX11_goesTo 24 = .ok (.iload_n 2, 1) := by decide +kernel
theorem dX11_goesTo_25 : decode cX11_goesTo 25 = .ok (.invokestatic 91, 3) := by decide +kernel
theorem dX11_goesTo_28 : decode cX11_goesTo 28 = .ok (.iconst (-1), 1) := by decide +kernel
theorem dX11_goesTo_29 : decode cX11_goesTo 29 = .ok (.if_icmp .ne 12, 3) := by decide +kernel
theorem dX11_goesTo_32 : decode cX11_goesTo 32 = .ok (.iinc 2 1, 3) := by decide +kernel
theorem dX11_goesTo_35 : decode cX11_goesTo 35 = .ok (.iinc 3 (-1), 3) := by decide +kernel
theorem dX11_goesTo_38 : decode cX11_goesTo 38 = .ok (.goto (-25), 3) := by decide +kernel
theorem dX11_goesTo_41 : decode cX11_goesTo 41 = .ok (.iload_n 2, 1) := by decide +kernel
theorem dX11_goesTo_42 : decode cX11_goesTo 42 = .ok (.ireturn, 1) := by decide +kernel
set_option maxRecDepth 20000 in
theorem ggX11_goHour_X11_letsOf : GoodIn wsX11_goHour wsX11_letsOf := goodIn_r _ [4, 5, 6, 3, 7, 8, 9, 10, 11, 12, 13] rfl (by decide +kernel)
set_option maxRecDepth 20000 in
theorem gX11_goHour_X11_letsOf : GoodIn wsX11_goHour (va_wsS RX11 106 yX11_letsOf wsX11_letsOf) := goodIn_app (goodIn_of _ (by decide +kernel)) ggX11_goHour_X11_letsOf
set_option maxRecDepth 20000 in
theorem ggX11_goHour_X11_behind : GoodIn wsX11_goHour wsX11_behind := goodIn_r _ [16] rfl (by decide +kernel)
set_option maxRecDepth 20000 in
theorem gX11_goHour_X11_behind : GoodIn wsX11_goHour (va_wsS RX11 91 yX11_behind wsX11_behind) := goodIn_app (goodIn_of _ (by decide +kernel)) ggX11_goHour_X11_behind
set_option maxRecDepth 20000 in
theorem ggX11_goHour_X11_goesTo : GoodIn wsX11_goHour wsX11_goesTo := goodIn_r _ [19, 20, 21, 3, 22, 23, 24, 25, 14, 15, 16] rfl (by decide +kernel)
set_option maxRecDepth 20000 in
theorem gX11_goHour_X11_goesTo : GoodIn wsX11_goHour (va_wsS RX11 109 yX11_goesTo wsX11_goesTo) := goodIn_app (goodIn_of _ (by decide +kernel)) ggX11_goHour_X11_goesTo
theorem dX11_goHour_0 : decode cX11_goHour 0 = .ok (.aload_n 0, 1) := by decide +kernel
theorem dX11_goHour_1 : decode cX11_goHour 1 = .ok (.iconst 0, 1) := by decide +kernel
theorem dX11_goHour_2 : decode cX11_goHour 2 = .ok (.invokestatic 106, 3) := by decide +kernel
theorem dX11_goHour_5 : decode cX11_goHour 5 = .ok (.istore_n 1, 1) := by decide +kernel
theorem dX11_goHour_6 : decode cX11_goHour 6 = .ok (.aload_n 0, 1) := by decide +kernel
theorem dX11_goHour_7 : decode cX11_goHour 7 = .ok (.iconst 1, 1) := by decide +kernel
theorem dX11_goHour_8 : decode cX11_goHour 8 = .ok (.invokestatic 106, 3) := by decide +kernel
theorem dX11_goHour_11 : decode cX11_goHour 11 = .ok (.istore_n 2, 1) := by decide +kernel
theorem dX11_goHour_12 : decode cX11_goHour 12 = .ok (.aload_n 0, 1) := by decide +kernel
theorem dX11_goHour_13 : decode cX11_goHour 13 = .ok (.iconst 2, 1) := by decide +kernel
theorem dX11_goHour_14 : decode cX11_goHour 14 = .ok (.invokestatic 106, 3) := by decide +kernel
theorem dX11_goHour_17 : decode cX11_goHour 17 = .ok (.istore_n 3, 1) := by decide +kernel
theorem dX11_goHour_18 : decode cX11_goHour 18 = .ok (.iconst 0, 1) := by decide +kernel
theorem dX11_goHour_19 : decode cX11_goHour 19 = .ok (.istore 4, 2) := by decide +kernel
theorem dX11_goHour_21 : decode cX11_goHour 21 = .ok (.iload 4, 2) := by decide +kernel
theorem dX11_goHour_23 : decode cX11_goHour 23 = .ok (.aload_n 0, 1) := by decide +kernel
theorem dX11_goHour_24 : decode cX11_goHour 24 = .ok (.iconst 0, 1) := by decide +kernel
theorem dX11_goHour_25 : decode cX11_goHour 25 = .ok (.iaload, 1) := by decide +kernel
theorem dX11_goHour_26 : decode cX11_goHour 26 = .ok (.if_icmp .ge 127, 3) := by decide +kernel
theorem dX11_goHour_29 : decode cX11_goHour 29 = .ok (.aload_n 0, 1) := by decide +kernel
theorem dX11_goHour_30 : decode cX11_goHour 30 = .ok (.aload_n 0, 1) := by decide +kernel
theorem dX11_goHour_31 : decode cX11_goHour 31 = .ok (.bipush 6, 2) := by decide +kernel
theorem dX11_goHour_33 : decode cX11_goHour 33 = .ok (.iload 4, 2) := by decide +kernel
theorem dX11_goHour_35 : decode cX11_goHour 35 = .ok (.iadd, 1) := by decide +kernel
theorem dX11_goHour_36 : decode cX11_goHour 36 = .ok (.iaload, 1) := by decide +kernel
theorem dX11_goHour_37 : decode cX11_goHour 37 = .ok (.invokestatic 91, 3) := by decide +kernel
theorem dX11_goHour_40 : decode cX11_goHour 40 = .ok (.istore 5, 2) := by decide +kernel
theorem dX11_goHour_42 : decode cX11_goHour 42 = .ok (.iload 5, 2) := by decide +kernel
theorem dX11_goHour_44 : decode cX11_goHour 44 = .ok (.iconst (-1), 1) := by decide +kernel
theorem dX11_goHour_45 : decode cX11_goHour 45 = .ok (.if_icmp .ne 19, 3) := by decide +kernel
theorem dX11_goHour_48 : decode cX11_goHour 48 = .ok (.aload_n 0, 1) := by decide +kernel
theorem dX11_goHour_49 : decode cX11_goHour 49 = .ok (.bipush 6, 2) := by decide +kernel
theorem dX11_goHour_51 : decode cX11_goHour 51 = .ok (.iload 4, 2) := by decide +kernel
theorem dX11_goHour_53 : decode cX11_goHour 53 = .ok (.iadd, 1) := by decide +kernel
theorem dX11_goHour_54 : decode cX11_goHour 54 = .ok (.aload_n 0, 1) := by decide +kernel
theorem dX11_goHour_55 : decode cX11_goHour 55 = .ok (.iload 4, 2) := by decide +kernel
theorem dX11_goHour_57 : decode cX11_goHour 57 = .ok (.invokestatic 109, 3) := by decide +kernel
theorem dX11_goHour_60 : decode cX11_goHour 60 = .ok (.iastore, 1) := by decide +kernel
theorem dX11_goHour_61 : decode cX11_goHour 61 = .ok (.goto 86, 3) := by decide +kernel
theorem dX11_goHour_64 : decode cX11_goHour 64 = .ok (.iload 5, 2) := by decide +kernel
theorem dX11_goHour_66 : decode cX11_goHour 66 = .ok (.ifCond .ne 7, 3) := by decide +kernel
theorem dX11_goHour_69 : decode cX11_goHour 69 = .ok (.iload_n 1, 1) := by decide +kernel
theorem dX11_goHour_70 : decode cX11_goHour 70 = .ok (.goto 14, 3) := by decide +kernel
theorem dX11_goHour_73 : decode cX11_goHour 73 = .ok (.iload 5, 2) := by decide +kernel
theorem dX11_goHour_75 : decode cX11_goHour 75 = .ok (.iconst 1, 1) := by decide +kernel
theorem dX11_goHour_76 : decode cX11_goHour 76 = .ok (.if_icmp .ne 7, 3) := by decide +kernel
theorem dX11_goHour_79 : decode cX11_goHour 79 = .ok (.iload_n 2, 1) := by decide +kernel
theorem dX11_goHour_80 : decode cX11_goHour 80 = .ok (.goto 4, 3) := by decide +kernel
theorem dX11_goHour_83 : decode cX11_goHour 83 = .ok (.iload_n 3, 1) := by decide +kernel
theorem dX11_goHour_84 : decode cX11_goHour 84 = .ok (.istore 6, 2) := by decide +kernel
theorem dX11_goHour_86 : decode cX11_goHour 86 = .ok (.aload_n 0, 1) := by decide +kernel
theorem dX11_goHour_87 : decode cX11_goHour 87 = .ok (.bipush 6, 2) := by decide +kernel
theorem dX11_goHour_89 : decode cX11_goHour 89 = .ok (.iload 4, 2) := by decide +kernel
theorem dX11_goHour_91 : decode cX11_goHour 91 = .ok (.iadd, 1) := by decide +kernel
theorem dX11_goHour_92 : decode cX11_goHour 92 = .ok (.dup2, 1) := by decide +kernel
theorem dX11_goHour_93 : decode cX11_goHour 93 = .ok (.iaload, 1) := by decide +kernel
theorem dX11_goHour_94 : decode cX11_goHour 94 = .ok (.iload 6, 2) := by decide +kernel
theorem dX11_goHour_96 : decode cX11_goHour 96 = .ok (.ifCond .le 7, 3) := by decide +kernel
theorem dX11_goHour_99 : decode cX11_goHour 99 = .ok (.iconst 1, 1) := by decide +kernel
theorem dX11_goHour_100 : decode cX11_goHour 100 = .ok (.goto 4, 3) := by decide +kernel
theorem dX11_goHour_103 : decode cX11_goHour 103 = .ok (.iconst 0, 1) := by decide +kernel
theorem dX11_goHour_104 : decode cX11_goHour 104 = .ok (.iadd, 1) := by decide +kernel
theorem dX11_goHour_105 : decode cX11_goHour 105 = .ok (.iastore, 1) := by decide +kernel
theorem dX11_goHour_106 : decode cX11_goHour 106 = .ok (.iload_n 1, 1) := by decide +kernel
theorem dX11_goHour_107 : decode cX11_goHour 107 = .ok (.iload 5, 2) := by decide +kernel
theorem dX11_goHour_109 : decode cX11_goHour 109 = .ok (.ifCond .ne 7, 3) := by decide +kernel
theorem dX11_goHour_112 : decode cX11_goHour 112 = .ok (.iconst 1, 1) := by decide +kernel
theorem dX11_goHour_113 : decode cX11_goHour 113 = .ok (.goto 4, 3) := by decide +kernel
theorem dX11_goHour_116 : decode cX11_goHour 116 = .ok (.iconst 0, 1) := by decide +kernel
theorem dX11_goHour_117 : decode cX11_goHour 117 = .ok (.isub, 1) := by decide +kernel
theorem dX11_goHour_118 : decode cX11_goHour 118 = .ok (.istore_n 1, 1) := by decide +kernel
theorem dX11_goHour_119 : decode cX11_goHour 119 = .ok (.iload_n 2, 1) := by decide +kernel
theorem dX11_goHour_120 : decode cX11_goHour 120 = .ok (.iload 5, 2) := by decide +kernel
theorem dX11_goHour_122 : decode cX11_goHour 122 = .ok (.iconst 1, 1) := by decide +kernel
theorem dX11_goHour_123 : decode cX11_goHour 123 = .ok (.if_icmp .ne 7, 3) := by decide +kernel
theorem dX11_goHour_126 : decode cX11_goHour 126 = .ok (.iconst 1, 1) := by decide +kernel
theorem dX11_goHour_127 : decode cX11_goHour 127 = .ok (.goto 4, 3) := by decide +kernel
theorem dX11_goHour_130 : decode cX11_goHour 130 = .ok (.iconst 0, 1) := by decide +kernel
theorem dX11_goHour_131 : decode cX11_goHour 131 = .ok (.isub, 1) := by decide +kernel
theorem dX11_goHour_132 : decode cX11_goHour 132 = .ok (.istore_n 2, 1) := by decide +kernel
theorem dX11_goHour_133 : decode cX11_goHour 133 = .ok (.iload_n 3, 1) := by decide +kernel
theorem dX11_goHour_134 : decode cX11_goHour 134 = .ok (.iload 5, 2) := by decide +kernel
theorem dX11_goHour_136 : decode cX11_goHour 136 = .ok (.iconst 2, 1) := by decide +kernel
theorem dX11_goHour_137 : decode cX11_goHour 137 = .ok (.if_icmp .ne 7, 3) := by decide +kernel
theorem dX11_goHour_140 : decode cX11_goHour 140 = .ok (.iconst 1, 1) := by decide +kernel
theorem dX11_goHour_141 : decode cX11_goHour 141 = .ok (.goto 4, 3) := by decide +kernel
theorem dX11_goHour_144 : decode cX11_goHour 144 = .ok (.iconst 0, 1) := by decide +kernel
theorem dX11_goHour_145 : decode cX11_goHour 145 = .ok (.isub, 1) := by decide +kernel
theorem dX11_goHour_146 : decode cX11_goHour 146 = .ok (.istore_n 3, 1) := by decide +kernel
theorem dX11_goHour_147 : decode cX11_goHour 147 = .ok (.iinc 4 1, 3) := by decide +kernel
theorem dX11_goHour_150 : decode cX11_goHour 150 = .ok (.goto (-129), 3) := by decide +kernel
theorem dX11_goHour_153 : decode cX11_goHour 153 = .ok (.aload_n 0, 1) := by decide +kernel
theorem dX11_goHour_154 : decode cX11_goHour 154 = .ok (.bipush 15, 2) := by decide +kernel
theorem dX11_goHour_156 : decode cX11_goHour 156 = .ok (.dup2, 1) := by decide +kernel
theorem dX11_goHour_157 : decode cX11_goHour 157 = .ok (.iaload, 1) := by decide +kernel
theorem dX11_goHour_158 : decode cX11_goHour 158 = .ok (.iconst 1, 1) := by decide +kernel
theorem dX11_goHour_159 : decode cX11_goHour 159 = .ok (.iadd, 1) := by decide +kernel
theorem dX11_goHour_160 : decode cX11_goHour 160 = .ok (.iastore, 1) := by decide +kernel
theorem dX11_goHour_161 : decode cX11_goHour 161 = .ok (.return_, 1) := by decide +kernel
set_option maxRecDepth 20000 in
theorem ggX11_letsOf_X11_has : GoodIn wsX11_letsOf wsX11_has := goodIn_r _ [4] rfl (by decide +kernel)
set_option maxRecDepth 20000 in
theorem gX11_letsOf_X11_has : GoodIn wsX11_letsOf (va_wsS RX11 112 yX11_has wsX11_has) := goodIn_app (goodIn_of _ (by decide +kernel)) ggX11_letsOf_X11_has
set_option maxRecDepth 20000 in
theorem ggX11_letsOf_X11_manyAt : GoodIn wsX11_letsOf wsX11_manyAt := goodIn_r _ [7] rfl (by decide +kernel)
set_option maxRecDepth 20000 in
theorem gX11_letsOf_X11_manyAt : GoodIn wsX11_letsOf (va_wsS RX11 116 yX11_manyAt wsX11_manyAt) := goodIn_app (goodIn_of _ (by decide +kernel)) ggX11_letsOf_X11_manyAt
set_option maxRecDepth 20000 in
theorem ggX11_letsOf_X11_letsAs : GoodIn wsX11_letsOf wsX11_letsAs := goodIn_r _ [10] rfl (by decide +kernel)
set_option maxRecDepth 20000 in
theorem gX11_letsOf_X11_letsAs : GoodIn wsX11_letsOf (va_wsS RX11 119 yX11_letsAs wsX11_letsAs) := goodIn_app (goodIn_of _ (by decide +kernel)) ggX11_letsOf_X11_letsAs
theorem dX11_letsOf_0 : decode cX11_letsOf 0 = .ok (.iload_n 1, 1) := by decide +kernel
theorem dX11_letsOf_1 : decode cX11_letsOf 1 = .ok (.aload_n 0, 1) := by decide +kernel
theorem dX11_letsOf_2 : decode cX11_letsOf 2 = .ok (.iconst 1, 1) := by decide +kernel
theorem dX11_letsOf_3 : decode cX11_letsOf 3 = .ok (.iaload, 1) := by decide +kernel
theorem dX11_letsOf_4 : decode cX11_letsOf 4 = .ok (.if_icmp .ge 14, 3) := by decide +kernel
theorem dX11_letsOf_7 : decode cX11_letsOf 7 = .ok (.aload_n 0, 1) := by decide +kernel
theorem dX11_letsOf_8 : decode cX11_letsOf 8 = .ok (.bipush 14, 2) := by decide +kernel
theorem dX11_letsOf_10 : decode cX11_letsOf 10 = .ok (.iaload, 1) := by decide +kernel
theorem dX11_letsOf_11 : decode cX11_letsOf 11 = .ok (.iload_n 1, 1) := by decide +kernel
theorem dX11_letsOf_12 : decode cX11_letsOf 12 = .ok (.invokestatic 112, 3) := by decide +kernel
theorem dX11_letsOf_15 : decode cX11_letsOf 15 = .ok (.ifCond .eq 5, 3) := by decide +kernel
theorem dX11_letsOf_18 : decode cX11_letsOf 18 = .ok (.iconst 0, 1) := by decide +kernel
theorem dX11_letsOf_19 : decode cX11_letsOf 19 = .ok (.ireturn, 1) := by decide +kernel
theorem dX11_letsOf_20 : decode cX11_letsOf 20 = .ok (.aload_n 0, 1) := by decide +kernel
theorem dX11_letsOf_21 : decode cX11_letsOf 21 = .ok (.aload_n 0, 1) := by decide +kernel
theorem dX11_letsOf_22 : decode cX11_letsOf 22 = .ok (.bipush 40, 2) := by decide +kernel
theorem dX11_letsOf_24 : decode cX11_letsOf 24 = .ok (.iload_n 1, 1) := by decide +kernel
theorem dX11_letsOf_25 : decode cX11_letsOf 25 = .ok (.iadd, 1) := by decide +kernel
theorem dX11_letsOf_26 : decode cX11_letsOf 26 = .ok (.iaload, 1) := by decide +kernel
theorem dX11_letsOf_27 : decode cX11_letsOf 27 = .ok (.invokestatic 116, 3) := by decide +kernel
theorem dX11_letsOf_30 : decode cX11_letsOf 30 = .ok (.istore_n 2, 1) := by decide +kernel
theorem dX11_letsOf_31 : decode cX11_letsOf 31 = .ok (.iload_n 2, 1) := by decide +kernel
theorem dX11_letsOf_32 : decode cX11_letsOf 32 = .ok (.ifCond .ne 7, 3) := by decide +kernel
theorem dX11_letsOf_35 : decode cX11_letsOf 35 = .ok (.iconst 0, 1) := by decide +kernel
theorem dX11_letsOf_36 : decode cX11_letsOf 36 = .ok (.goto 17, 3) := by decide +kernel
theorem dX11_letsOf_39 : decode cX11_letsOf 39 = .ok (.aload_n 0, 1) := by decide +kernel
theorem dX11_letsOf_40 : decode cX11_letsOf 40 = .ok (.bipush 37, 2) := by decide +kernel
theorem dX11_letsOf_42 : decode cX11_letsOf 42 = .ok (.iload_n 1, 1) := by decide +kernel
theorem dX11_letsOf_43 : decode cX11_letsOf 43 = .ok (.iadd, 1) := by decide +kernel
theorem dX11_letsOf_44 : decode cX11_letsOf 44 = .ok (.iaload, 1) := by decide +kernel
theorem dX11_letsOf_45 : decode cX11_letsOf 45 = .ok (.aload_n 0, 1) := by decide +kernel
theorem dX11_letsOf_46 : decode cX11_letsOf 46 = .ok (.bipush 15, 2) := by decide +kernel
theorem dX11_letsOf_48 : decode cX11_letsOf 48 = .ok (.iaload, 1) := by decide +kernel
theorem dX11_letsOf_49 : decode cX11_letsOf 49 = .ok (.iload_n 2, 1) := by decide +kernel
theorem dX11_letsOf_50 : decode cX11_letsOf 50 = .ok (.invokestatic 119, 3) := by decide +kernel
theorem dX11_letsOf_53 : decode cX11_letsOf 53 = .ok (.ireturn, 1) := by decide +kernel
set_option maxRecDepth 20000 in
theorem ggX11_goHours_X11_goHour : GoodIn wsX11_goHours wsX11_goHour := goodIn_r _ [4, 5, 6, 3, 7, 8, 9, 10, 11, 12, 13, 14, 15, 16, 17, 18, 19, 20, 21, 22, 23, 24, 25, 26, 27, 28] rfl (by decide +kernel)
set_option maxRecDepth 20000 in
theorem gX11_goHours_X11_goHour : GoodIn wsX11_goHours (va_wsS RX11 122 yX11_goHour wsX11_goHour) := goodIn_app (goodIn_of _ (by decide +kernel)) ggX11_goHours_X11_goHour
theorem dX11_goHours_0 : decode cX11_goHours 0 = .ok (.iconst 0, 1) := by decide +kernel
theorem dX11_goHours_1 : decode cX11_goHours 1 = .ok (.istore_n 2, 1) := by decide +kernel
theorem dX11_goHours_2 : decode cX11_goHours 2 = .ok (.iload_n 2, 1) := by decide +kernel
theorem dX11_goHours_3 : decode cX11_goHours 3 = .ok (.iload_n 1, 1) := by decide +kernel
theorem dX11_goHours_4 : decode cX11_goHours 4 = .ok (.if_icmp .ge 23, 3) := by decide +kernel
theorem dX11_goHours_7 : decode cX11_goHours 7 = .ok (.aload_n 0, 1) := by decide +kernel
theorem dX11_goHours_8 : decode cX11_goHours 8 = .ok (.bipush 15, 2) := by decide +kernel
theorem dX11_goHours_10 : decode cX11_goHours 10 = .ok (.iaload, 1) := by decide +kernel
theorem dX11_goHours_11 : decode cX11_goHours 11 = .ok (.sipush 9999, 3) := by decide +kernel
theorem dX11_goHours_14 : decode cX11_goHours 14 = .ok (.if_icmp .ge 13, 3) := by decide +kernel
theorem dX11_goHours_17 : decode cX11_goHours 17 = .ok (.aload_n 0, 1) := by decide +kernel
theorem dX11_goHours_18 : decode cX11_goHours 18 = .ok (.invokestatic 122, 3) := by decide +kernel
theorem dX11_goHours_21 : decode cX11_goHours 21 = .ok (.iinc 2 1, 3) := by decide +kernel
theorem dX11_goHours_24 : decode cX11_goHours 24 = .ok (.goto (-22), 3) := by decide +kernel
theorem dX11_goHours_27 : decode cX11_goHours 27 = .ok (.return_, 1) := by decide +kernel
theorem dX11_save_0 : decode cX11_save 0 = .ok (.aload_n 0, 1) := by decide +kernel
theorem dX11_save_1 : decode cX11_save 1 = .ok (.getfield 7, 3) := by decide +kernel
theorem dX11_save_4 : decode cX11_save 4 = .ok (.iconst 5, 1) := by decide +kernel
theorem dX11_save_5 : decode cX11_save 5 = .ok (.iaload, 1) := by decide +kernel
theorem dX11_save_6 : decode cX11_save 6 = .ok (.bipush 8, 2) := by decide +kernel
theorem dX11_save_8 : decode cX11_save 8 = .ok (.if_icmp .ne 43, 3) := by decide +kernel
theorem dX11_save_11 : decode cX11_save 11 = .ok (.iconst 0, 1) := by decide +kernel
theorem dX11_save_12 : decode cX11_save 12 = .ok (.istore_n 1, 1) := by decide +kernel
theorem dX11_save_13 : decode cX11_save 13 = .ok (.iload_n 1, 1) := by decide +kernel
theorem dX11_save_14 : decode cX11_save 14 = .ok (.bipush 70, 2) := by decide +kernel
theorem dX11_save_16 : decode cX11_save 16 = .ok (.if_icmp .ge 27, 3) := by decide +kernel
theorem dX11_save_19 : decode cX11_save 19 = .ok (.aload_n 0, 1) := by decide +kernel
theorem dX11_save_20 : decode cX11_save 20 = .ok (.getfield 7, 3) := by decide +kernel
theorem dX11_save_23 : decode cX11_save 23 = .ok (.bipush 101, 2) := by decide +kernel
theorem dX11_save_25 : decode cX11_save 25 = .ok (.iload_n 1, 1) := by decide +kernel
theorem dX11_save_26 : decode cX11_save 26 = .ok (.iadd, 1) := by decide +kernel
theorem dX11_save_27 : decode cX11_save 27 = .ok (.aload_n 0, 1) := by decide +kernel
theorem dX11_save_28 : decode cX11_save 28 = .ok (.getfield 7, 3) := by decide +kernel
theorem dX11_save_31 : decode cX11_save 31 = .ok (.bipush 111, 2) := by decide +kernel
theorem dX11_save_33 : decode cX11_save 33 = .ok (.iload_n 1, 1) := by decide +kernel
theorem dX11_save_34 : decode cX11_save 34 = .ok (.iadd, 1) := by decide +kernel
theorem dX11_save_35 : decode cX11_save 35 = .ok (.iaload, 1) := by decide +kernel
theorem dX11_save_36 : decode cX11_save 36 = .ok (.iastore, 1) := by decide +kernel
theorem dX11_save_37 : decode cX11_save 37 = .ok (.iinc 1 1, 3) := by decide +kernel
theorem dX11_save_40 : decode cX11_save 40 = .ok (.goto (-27), 3) := by decide +kernel
theorem dX11_save_43 : decode cX11_save 43 = .ok (.aload_n 0, 1) := by decide +kernel
theorem dX11_save_44 : decode cX11_save 44 = .ok (.getfield 7, 3) := by decide +kernel
theorem dX11_save_47 : decode cX11_save 47 = .ok (.iconst 5, 1) := by decide +kernel
theorem dX11_save_48 : decode cX11_save 48 = .ok (.bipush 7, 2) := by decide +kernel
theorem dX11_save_50 : decode cX11_save 50 = .ok (.iastore, 1) := by decide +kernel
theorem dX11_save_51 : decode cX11_save 51 = .ok (.iconst 0, 1) := by decide +kernel
theorem dX11_save_52 : decode cX11_save 52 = .ok (.istore_n 1, 1) := by decide +kernel
theorem dX11_save_53 : decode cX11_save 53 = .ok (.iload_n 1, 1) := by decide +kernel
theorem dX11_save_54 : decode cX11_save 54 = .ok (.bipush 10, 2) := by decide +kernel
theorem dX11_save_56 : decode cX11_save 56 = .ok (.if_icmp .ge 37, 3) := by decide +kernel
theorem dX11_save_59 : decode cX11_save 59 = .ok (.aload_n 0, 1) := by decide +kernel
theorem dX11_save_60 : decode cX11_save 60 = .ok (.getfield 7, 3) := by decide +kernel
theorem dX11_save_63 : decode cX11_save 63 = .ok (.bipush 101, 2) := by decide +kernel
theorem dX11_save_65 : decode cX11_save 65 = .ok (.bipush 10, 2) := by decide +kernel
theorem dX11_save_67 : decode cX11_save 67 = .ok (.aload_n 0, 1) := by decide +kernel
theorem dX11_save_68 : decode cX11_save 68 = .ok (.getfield 7, 3) := by decide +kernel
theorem dX11_save_71 : decode cX11_save 71 = .ok (.iconst 5, 1) := by decide +kernel
theorem dX11_save_72 : decode cX11_save 72 = .ok (.iaload, 1) := by decide +kernel
theorem dX11_save_73 : decode cX11_save 73 = .ok (.imul, 1) := by decide +kernel
theorem dX11_save_74 : decode cX11_save 74 = .ok (.iadd, 1) := by decide +kernel
theorem dX11_save_75 : decode cX11_save 75 = .ok (.iload_n 1, 1) := by decide +kernel
theorem dX11_save_76 : decode cX11_save 76 = .ok (.iadd, 1) := by decide +kernel
theorem dX11_save_77 : decode cX11_save 77 = .ok (.aload_n 0, 1) := by decide +kernel
theorem dX11_save_78 : decode cX11_save 78 = .ok (.getfield 7, 3) := by decide +kernel
theorem dX11_save_81 : decode cX11_save 81 = .ok (.bipush 6, 2) := by decide +kernel
theorem dX11_save_83 : decode cX11_save 83 = .ok (.iload_n 1, 1) := by decide +kernel
theorem dX11_save_84 : decode cX11_save 84 = .ok (.iadd, 1) := by decide +kernel
theorem dX11_save_85 : decode cX11_save 85 = .ok (.iaload, 1) := by decide +kernel
theorem dX11_save_86 : decode cX11_save 86 = .ok (.iastore, 1) := by decide +kernel
theorem dX11_save_87 : decode cX11_save 87 = .ok (.iinc 1 1, 3) := by decide +kernel
theorem dX11_save_90 : decode cX11_save 90 = .ok (.goto (-37), 3) := by decide +kernel
theorem dX11_save_93 : decode cX11_save 93 = .ok (.aload_n 0, 1) := by decide +kernel
theorem dX11_save_94 : decode cX11_save 94 = .ok (.getfield 7, 3) := by decide +kernel
theorem dX11_save_97 : decode cX11_save 97 = .ok (.iconst 5, 1) := by decide +kernel
theorem dX11_save_98 : decode cX11_save 98 = .ok (.dup2, 1) := by decide +kernel
theorem dX11_save_99 : decode cX11_save 99 = .ok (.iaload, 1) := by decide +kernel
theorem dX11_save_100 : decode cX11_save 100 = .ok (.iconst 1, 1) := by decide +kernel
theorem dX11_save_101 : decode cX11_save 101 = .ok (.iadd, 1) := by decide +kernel
theorem dX11_save_102 : decode cX11_save 102 = .ok (.iastore, 1) := by decide +kernel
theorem dX11_save_103 : decode cX11_save 103 = .ok (.return_, 1) := by decide +kernel
set_option maxRecDepth 20000 in
theorem ggX11_hours_X11_in : GoodIn wsX11_hours wsX11_in := goodIn_r _ [6] rfl (by decide +kernel)
set_option maxRecDepth 20000 in
theorem gX11_hours_X11_in : GoodIn wsX11_hours (va_wsS RX11 56 yX11_in wsX11_in) := goodIn_app (goodIn_of _ (by decide +kernel)) ggX11_hours_X11_in
set_option maxRecDepth 20000 in
theorem ggX11_hours_X11_bad : GoodIn wsX11_hours wsX11_bad := goodIn_r _ [10, 11, 46, 47, 48, 49, 50, 51, 52, 53, 54, 55, 56, 57, 58, 59, 60, 61, 62, 63] rfl (by decide +kernel)
set_option maxRecDepth 20000 in
theorem gX11_hours_X11_bad : GoodIn wsX11_hours (wsV RX11 70 RX11 yX11_bad wsX11_bad) := goodIn_app (goodIn_of _ (by decide +kernel)) ggX11_hours_X11_bad
set_option maxRecDepth 20000 in
theorem ggX11_hours_X11_save : GoodIn wsX11_hours wsX11_save := goodIn_r _ [15, 2, 46, 47, 48, 49, 50, 51, 52, 53, 54, 55, 56, 57, 58, 59, 60, 61, 62, 63] rfl (by decide +kernel)
set_option maxRecDepth 20000 in
theorem gX11_hours_X11_save : GoodIn wsX11_hours (wsV RX11 127 RX11 yX11_save wsX11_save) := goodIn_app (goodIn_of _ (by decide +kernel)) ggX11_hours_X11_save
set_option maxRecDepth 20000 in
theorem ggX11_hours_X11_goHours : GoodIn wsX11_hours wsX11_goHours := goodIn_r _ [18, 19, 20, 5, 21, 22, 23, 24, 25, 26, 27, 28, 29, 30, 31, 32, 33, 34, 35, 36, 37, 38, 39, 40, 41, 42, 43, 44, 45] rfl (by decide +kernel)
set_option maxRecDepth 20000 in
theorem gX11_hours_X11_goHours : GoodIn wsX11_hours (va_wsS RX11 130 yX11_goHours wsX11_goHours) := goodIn_app (goodIn_of _ (by decide +kernel)) ggX11_hours_X11_goHours
set_option maxRecDepth 20000 in
theorem ggX11_hours_X11_manyAt : GoodIn wsX11_hours wsX11_manyAt := goodIn_r _ [30] rfl (by decide +kernel)
set_option maxRecDepth 20000 in
theorem gX11_hours_X11_manyAt : GoodIn wsX11_hours (va_wsS RX11 116 yX11_manyAt wsX11_manyAt) := goodIn_app (goodIn_of _ (by decide +kernel)) ggX11_hours_X11_manyAt
theorem dX11_hours_0 : decode cX11_hours 0 = .ok (.iload_n 1, 1) := by decide +kernel
theorem dX11_hours_1 : decode cX11_hours 1 = .ok (.i2l, 1) := by decide +kernel
theorem dX11_hours_2 : decode cX11_hours 2 = .ok (.lconst 1, 1) := by decide +kernel
theorem dX11_hours_3 : decode cX11_hours 3 = .ok (.ldc2_w 125, 3) := by decide +kernel
theorem dX11_hours_6 : decode cX11_hours 6 = .ok (.invokestatic 56, 3) := by decide +kernel
theorem dX11_hours_9 : decode cX11_hours 9 = .ok (.ifCond .ne 10, 3) := by decide +kernel
theorem dX11_hours_12 : decode cX11_hours 12 = .ok (.aload_n 0, 1) := by decide +kernel
theorem dX11_hours_13 : decode cX11_hours 13 = .ok (.bipush (-2), 2) := by decide +kernel
theorem dX11_hours_15 : decode cX11_hours 15 = .ok (.invokevirtual 70, 3) := by decide +kernel
theorem dX11_hours_18 : decode cX11_hours 18 = .ok (.ireturn, 1) := by decide +kernel
theorem dX11_hours_19 : decode cX11_hours 19 = .ok (.aload_n 0, 1) := by decide +kernel
theorem dX11_hours_20 : decode cX11_hours 20 = .ok (.invokevirtual 127, 3) := by decide +kernel
theorem dX11_hours_23 : decode cX11_hours 23 = .ok (.aload_n 0, 1) := by decide +kernel
theorem dX11_hours_24 : decode cX11_hours 24 = .ok (.getfield 7, 3) := by decide +kernel
theorem dX11_hours_27 : decode cX11_hours 27 = .ok (.iload_n 1, 1) := by decide +kernel
theorem dX11_hours_28 : decode cX11_hours 28 = .ok (.invokestatic 130, 3) := by decide +kernel
theorem dX11_hours_31 : decode cX11_hours 31 = .ok (.aload_n 0, 1) := by decide +kernel
theorem dX11_hours_32 : decode cX11_hours 32 = .ok (.getfield 7, 3) := by decide +kernel
theorem dX11_hours_35 : decode cX11_hours 35 = .ok (.bipush 23, 2) := by decide +kernel
theorem dX11_hours_37 : decode cX11_hours 37 = .ok (.invokestatic 116, 3) := by decide +kernel
theorem dX11_hours_40 : decode cX11_hours 40 = .ok (.ireturn, 1) := by decide +kernel
set_option maxRecDepth 20000 in
theorem ggX11_shuts_X11_isCrossing : GoodIn wsX11_shuts wsX11_isCrossing := goodIn_r _ [6, 1, 7, 8, 5, 9, 19, 20, 21, 22, 23, 24, 25, 26, 27, 28, 29, 30, 31, 32, 33, 34, 35, 36] rfl (by decide +kernel)
set_option maxRecDepth 20000 in
theorem gX11_shuts_X11_isCrossing : GoodIn wsX11_shuts (wsV RX11 134 RX11 yX11_isCrossing wsX11_isCrossing) := goodIn_app (goodIn_of _ (by decide +kernel)) ggX11_shuts_X11_isCrossing
set_option maxRecDepth 20000 in
theorem ggX11_shuts_X11_bad : GoodIn wsX11_shuts wsX11_bad := goodIn_r _ [13, 14, 19, 20, 21, 22, 23, 24, 25, 26, 27, 28, 29, 30, 31, 32, 33, 34, 35, 36] rfl (by decide +kernel)
set_option maxRecDepth 20000 in
theorem gX11_shuts_X11_bad : GoodIn wsX11_shuts (wsV RX11 70 RX11 yX11_bad wsX11_bad) := goodIn_app (goodIn_of _ (by decide +kernel)) ggX11_shuts_X11_bad
set_option maxRecDepth 20000 in
theorem ggX11_shuts_X11_save : GoodIn wsX11_shuts wsX11_save := goodIn_r _ [18, 1, 19, 20, 21, 22, 23, 24, 25, 26, 27, 28, 29, 30, 31, 32, 33, 34, 35, 36] rfl (by decide +kernel)
set_option maxRecDepth 20000 in
theorem gX11_shuts_X11_save : GoodIn wsX11_shuts (wsV RX11 127 RX11 yX11_save wsX11_save) := goodIn_app (goodIn_of _ (by decide +kernel)) ggX11_shuts_X11_save
theorem dX11_shuts_0 : decode cX11_shuts 0 = .ok (.aload_n 0, 1) := by decide +kernel
theorem dX11_shuts_1 : decode cX11_shuts 1 = .ok (.iload_n 1, 1) := by decide +kernel
theorem dX11_shuts_2 : decode cX11_shuts 2 = .ok (.invokevirtual 134, 3) := by decide +kernel
theorem dX11_shuts_5 : decode cX11_shuts 5 = .ok (.ifCond .ne 10, 3) := by decide +kernel
theorem dX11_shuts_8 : decode cX11_shuts 8 = .ok (.aload_n 0, 1) := by decide +kernel
theorem dX11_shuts_9 : decode cX11_shuts 9 = .ok (.bipush (-2), 2) := by decide +kernel
theorem dX11_shuts_11 : decode cX11_shuts 11 = .ok (.invokevirtual 70, 3) := by decide +kernel
theorem dX11_shuts_14 : decode cX11_shuts 14 = .ok (.ireturn, 1) := by decide +kernel
theorem dX11_shuts_15 : decode cX11_shuts 15 = .ok (.aload_n 0, 1) := by decide +kernel
theorem dX11_shuts_16 : decode cX11_shuts 16 = .ok (.invokevirtual 127, 3) := by decide +kernel
theorem dX11_shuts_19 : decode cX11_shuts 19 = .ok (.aload_n 0, 1) := by decide +kernel
theorem dX11_shuts_20 : decode cX11_shuts 20 = .ok (.getfield 7, 3) := by decide +kernel
theorem dX11_shuts_23 : decode cX11_shuts 23 = .ok (.bipush 14, 2) := by decide +kernel
theorem dX11_shuts_25 : decode cX11_shuts 25 = .ok (.dup2, 1) := by decide +kernel
theorem dX11_shuts_26 : decode cX11_shuts 26 = .ok (.iaload, 1) := by decide +kernel
theorem dX11_shuts_27 : decode cX11_shuts 27 = .ok (.iconst 1, 1) := by decide +kernel
theorem dX11_shuts_28 : decode cX11_shuts 28 = .ok (.iload_n 1, 1) := by decide +kernel
theorem dX11_shuts_29 : decode cX11_shuts 29 = .ok (.ishl, 1) := by decide +kernel
theorem dX11_shuts_30 : decode cX11_shuts 30 = .ok (.ixor, 1) := by decide +kernel
theorem dX11_shuts_31 : decode cX11_shuts 31 = .ok (.iastore, 1) := by decide +kernel
theorem dX11_shuts_32 : decode cX11_shuts 32 = .ok (.aload_n 0, 1) := by decide +kernel
theorem dX11_shuts_33 : decode cX11_shuts 33 = .ok (.getfield 7, 3) := by decide +kernel
theorem dX11_shuts_36 : decode cX11_shuts 36 = .ok (.bipush 14, 2) := by decide +kernel
theorem dX11_shuts_38 : decode cX11_shuts 38 = .ok (.iaload, 1) := by decide +kernel
theorem dX11_shuts_39 : decode cX11_shuts 39 = .ok (.iload_n 1, 1) := by decide +kernel
theorem dX11_shuts_40 : decode cX11_shuts 40 = .ok (.ishr, 1) := by decide +kernel
theorem dX11_shuts_41 : decode cX11_shuts 41 = .ok (.iconst 1, 1) := by decide +kernel
theorem dX11_shuts_42 : decode cX11_shuts 42 = .ok (.iand, 1) := by decide +kernel
theorem dX11_shuts_43 : decode cX11_shuts 43 = .ok (.ireturn, 1) := by decide +kernel
set_option maxRecDepth 20000 in
theorem ggX11_undo_X11_no : GoodIn wsX11_undo wsX11_no := goodIn_r _ [6, 7, 8, 9, 10, 11, 12, 13, 14, 15, 16, 17, 18, 19, 20, 21, 22, 23, 24, 25] rfl (by decide +kernel)
set_option maxRecDepth 20000 in
theorem gX11_undo_X11_no : GoodIn wsX11_undo (wsV RX11 137 RX11 yX11_no wsX11_no) := goodIn_app (goodIn_of _ (by decide +kernel)) ggX11_undo_X11_no
theorem dX11_undo_0 : decode cX11_undo 0 = .ok (.aload_n 0, 1) := by decide +kernel
theorem dX11_undo_1 : decode cX11_undo 1 = .ok (.getfield 7, 3) := by decide +kernel
theorem dX11_undo_4 : decode cX11_undo 4 = .ok (.iconst 5, 1) := by decide +kernel
theorem dX11_undo_5 : decode cX11_undo 5 = .ok (.iaload, 1) := by decide +kernel
theorem dX11_undo_6 : decode cX11_undo 6 = .ok (.ifCond .ne 8, 3) := by decide +kernel
theorem dX11_undo_9 : decode cX11_undo 9 = .ok (.aload_n 0, 1) := by decide +kernel
theorem dX11_undo_10 : decode cX11_undo 10 = .ok (.invokevirtual 137, 3) := by decide +kernel
theorem dX11_undo_13 : decode cX11_undo 13 = .ok (.ireturn, 1) := by decide +kernel
theorem dX11_undo_14 : decode cX11_undo 14 = .ok (.aload_n 0, 1) := by decide +kernel
theorem dX11_undo_15 : decode cX11_undo 15 = .ok (.getfield 7, 3) := by decide +kernel
theorem dX11_undo_18 : decode cX11_undo 18 = .ok (.iconst 5, 1) := by decide +kernel
theorem dX11_undo_19 : decode cX11_undo 19 = .ok (.dup2, 1) := by decide +kernel
theorem dX11_undo_20 : decode cX11_undo 20 = .ok (.iaload, 1) := by decide +kernel
theorem dX11_undo_21 : decode cX11_undo 21 = .ok (.iconst 1, 1) := by decide +kernel
theorem dX11_undo_22 : decode cX11_undo 22 = .ok (.isub, 1) := by decide +kernel
theorem dX11_undo_23 : decode cX11_undo 23 = .ok (.iastore, 1) := by decide +kernel
theorem dX11_undo_24 : decode cX11_undo 24 = .ok (.iconst 0, 1) := by decide +kernel
theorem dX11_undo_25 : decode cX11_undo 25 = .ok (.istore_n 1, 1) := by decide +kernel
theorem dX11_undo_26 : decode cX11_undo 26 = .ok (.iload_n 1, 1) := by decide +kernel
theorem dX11_undo_27 : decode cX11_undo 27 = .ok (.bipush 10, 2) := by decide +kernel
theorem dX11_undo_29 : decode cX11_undo 29 = .ok (.if_icmp .ge 37, 3) := by decide +kernel
theorem dX11_undo_32 : decode cX11_undo 32 = .ok (.aload_n 0, 1) := by decide +kernel
theorem dX11_undo_33 : decode cX11_undo 33 = .ok (.getfield 7, 3) := by decide +kernel
theorem dX11_undo_36 : decode cX11_undo 36 = .ok (.bipush 6, 2) := by decide +kernel
theorem dX11_undo_38 : decode cX11_undo 38 = .ok (.iload_n 1, 1) := by decide +kernel
theorem dX11_undo_39 : decode cX11_undo 39 = .ok (.iadd, 1) := by decide +kernel
theorem dX11_undo_40 : decode cX11_undo 40 = .ok (.aload_n 0, 1) := by decide +kernel
theorem dX11_undo_41 : decode cX11_undo 41 = .ok (.getfield 7, 3) := by decide +kernel
theorem dX11_undo_44 : decode cX11_undo 44 = .ok (.bipush 101, 2) := by decide +kernel
theorem dX11_undo_46 : decode cX11_undo 46 = .ok (.bipush 10, 2) := by decide +kernel
theorem dX11_undo_48 : decode cX11_undo 48 = .ok (.aload_n 0, 1) := by decide +kernel
theorem dX11_undo_49 : decode cX11_undo 49 = .ok (.getfield 7, 3) := by decide +kernel
theorem dX11_undo_52 : decode cX11_undo 52 = .ok (.iconst 5, 1) := by decide +kernel
theorem dX11_undo_53 : decode cX11_undo 53 = .ok (.iaload, 1) := by decide +kernel
theorem dX11_undo_54 : decode cX11_undo 54 = .ok (.imul, 1) := by decide +kernel
theorem dX11_undo_55 : decode cX11_undo 55 = .ok (.iadd, 1) := by decide +kernel
theorem dX11_undo_56 : decode cX11_undo 56 = .ok (.iload_n 1, 1) := by decide +kernel
theorem dX11_undo_57 : decode cX11_undo 57 = .ok (.iadd, 1) := by decide +kernel
theorem dX11_undo_58 : decode cX11_undo 58 = .ok (.iaload, 1) := by decide +kernel
theorem dX11_undo_59 : decode cX11_undo 59 = .ok (.iastore, 1) := by decide +kernel
theorem dX11_undo_60 : decode cX11_undo 60 = .ok (.iinc 1 1, 3) := by decide +kernel
theorem dX11_undo_63 : decode cX11_undo 63 = .ok (.goto (-37), 3) := by decide +kernel
theorem dX11_undo_66 : decode cX11_undo 66 = .ok (.aload_n 0, 1) := by decide +kernel
theorem dX11_undo_67 : decode cX11_undo 67 = .ok (.getfield 7, 3) := by decide +kernel
theorem dX11_undo_70 : decode cX11_undo 70 = .ok (.bipush 15, 2) := by decide +kernel
theorem dX11_undo_72 : decode cX11_undo 72 = .ok (.iaload, 1) := by decide +kernel
theorem dX11_undo_73 : decode cX11_undo 73 = .ok (.ireturn, 1) := by decide +kernel
set_option maxRecDepth 20000 in
theorem ggX11_of_X11_isGlove : GoodIn wsX11_of wsX11_isGlove := goodIn_r _ [7, 8, 9, 10, 6, 11, 2, 12, 13, 14, 32, 33, 34, 35, 36, 37, 38, 39, 40, 41, 42, 43, 44, 45, 46, 47, 48, 49] rfl (by decide +kernel)
set_option maxRecDepth 20000 in
theorem gX11_of_X11_isGlove : GoodIn wsX11_of (wsV RX11 140 RX11 yX11_isGlove wsX11_isGlove) := goodIn_app (goodIn_of _ (by decide +kernel)) ggX11_of_X11_isGlove
set_option maxRecDepth 20000 in
theorem ggX11_of_X11_in : GoodIn wsX11_of wsX11_in := goodIn_r _ [14] rfl (by decide +kernel)
set_option maxRecDepth 20000 in
theorem gX11_of_X11_in : GoodIn wsX11_of (va_wsS RX11 56 yX11_in wsX11_in) := goodIn_app (goodIn_of _ (by decide +kernel)) ggX11_of_X11_in
set_option maxRecDepth 20000 in
theorem ggX11_of_X11_bad : GoodIn wsX11_of wsX11_bad := goodIn_r _ [18, 19, 32, 33, 34, 35, 36, 37, 38, 39, 40, 41, 42, 43, 44, 45, 46, 47, 48, 49] rfl (by decide +kernel)
set_option maxRecDepth 20000 in
theorem gX11_of_X11_bad : GoodIn wsX11_of (wsV RX11 70 RX11 yX11_bad wsX11_bad) := goodIn_app (goodIn_of _ (by decide +kernel)) ggX11_of_X11_bad
set_option maxRecDepth 20000 in
theorem ggX11_of_X11_waits : GoodIn wsX11_of wsX11_waits := goodIn_r _ [22, 23, 24, 6, 25] rfl (by decide +kernel)
set_option maxRecDepth 20000 in
theorem gX11_of_X11_waits : GoodIn wsX11_of (va_wsS RX11 143 yX11_waits wsX11_waits) := goodIn_app (goodIn_of _ (by decide +kernel)) ggX11_of_X11_waits
set_option maxRecDepth 20000 in
theorem ggX11_of_X11_goesNow : GoodIn wsX11_of wsX11_goesNow := goodIn_r _ [28, 29, 30, 6, 31] rfl (by decide +kernel)
set_option maxRecDepth 20000 in
theorem gX11_of_X11_goesNow : GoodIn wsX11_of (va_wsS RX11 103 yX11_goesNow wsX11_goesNow) := goodIn_app (goodIn_of _ (by decide +kernel)) ggX11_of_X11_goesNow
theorem dX11_of_0 : decode cX11_of 0 = .ok (.aload_n 0, 1) := by decide +kernel
theorem dX11_of_1 : decode cX11_of 1 = .ok (.iload_n 1, 1) := by decide +kernel
theorem dX11_of_2 : decode cX11_of 2 = .ok (.invokevirtual 140, 3) := by decide +kernel
theorem dX11_of_5 : decode cX11_of 5 = .ok (.ifCond .eq 15, 3) := by decide +kernel
theorem dX11_of_8 : decode cX11_of 8 = .ok (.iload_n 2, 1) := by decide +kernel
theorem dX11_of_9 : decode cX11_of 9 = .ok (.i2l, 1) := by decide +kernel
theorem dX11_of_10 : decode cX11_of 10 = .ok (.lconst 0, 1) := by decide +kernel
theorem dX11_of_11 : decode cX11_of 11 = .ok (.ldc2_w 62, 3) := by decide +kernel
theorem dX11_of_14 : decode cX11_of 14 = .ok (.invokestatic 56, 3) := by decide +kernel
theorem dX11_of_17 : decode cX11_of 17 = .ok (.ifCond .ne 10, 3) := by decide +kernel
theorem dX11_of_20 : decode cX11_of 20 = .ok (.aload_n 0, 1) := by decide +kernel
theorem dX11_of_21 : decode cX11_of 21 = .ok (.bipush (-2), 2) := by decide +kernel
theorem dX11_of_23 : decode cX11_of 23 = .ok (.invokevirtual 70, 3) := by decide +kernel
theorem dX11_of_26 : decode cX11_of 26 = .ok (.ireturn, 1) := by decide +kernel
theorem dX11_of_27 : decode cX11_of 27 = .ok (.iload_n 2, 1) := by decide +kernel
theorem dX11_of_28 : decode cX11_of 28 = .ok (.tableswitch 79 0 3 #[32, 42, 52, 62], 32) := by decide +kernel
theorem dX11_of_60 : decode cX11_of 60 = .ok (.aload_n 0, 1) := by decide +kernel
theorem dX11_of_61 : decode cX11_of 61 = .ok (.getfield 7, 3) := by decide +kernel
theorem dX11_of_64 : decode cX11_of 64 = .ok (.bipush 22, 2) := by decide +kernel
theorem dX11_of_66 : decode cX11_of 66 = .ok (.iload_n 1, 1) := by decide +kernel
theorem dX11_of_67 : decode cX11_of 67 = .ok (.iadd, 1) := by decide +kernel
theorem dX11_of_68 : decode cX11_of 68 = .ok (.iaload, 1) := by decide +kernel
theorem dX11_of_69 : decode cX11_of 69 = .ok (.ireturn, 1) := by decide +kernel
theorem dX11_of_70 : decode cX11_of 70 = .ok (.aload_n 0, 1) := by decide +kernel
theorem dX11_of_71 : decode cX11_of 71 = .ok (.getfield 7, 3) := by decide +kernel
theorem dX11_of_74 : decode cX11_of 74 = .ok (.bipush 30, 2) := by decide +kernel
theorem dX11_of_76 : decode cX11_of 76 = .ok (.iload_n 1, 1) := by decide +kernel
theorem dX11_of_77 : decode cX11_of 77 = .ok (.iadd, 1) := by decide +kernel
theorem dX11_of_78 : decode cX11_of 78 = .ok (.iaload, 1) := by decide +kernel
theorem dX11_of_79 : decode cX11_of 79 = .ok (.ireturn, 1) := by decide +kernel
theorem dX11_of_80 : decode cX11_of 80 = .ok (.aload_n 0, 1) := by decide +kernel
theorem dX11_of_81 : decode cX11_of 81 = .ok (.getfield 7, 3) := by decide +kernel
theorem dX11_of_84 : decode cX11_of 84 = .ok (.bipush 6, 2) := by decide +kernel
theorem dX11_of_86 : decode cX11_of 86 = .ok (.iload_n 1, 1) := by decide +kernel
theorem dX11_of_87 : decode cX11_of 87 = .ok (.iadd, 1) := by decide +kernel
theorem dX11_of_88 : decode cX11_of 88 = .ok (.iaload, 1) := by decide +kernel
theorem dX11_of_89 : decode cX11_of 89 = .ok (.ireturn, 1) := by decide +kernel
theorem dX11_of_90 : decode cX11_of 90 = .ok (.aload_n 0, 1) := by decide +kernel
theorem dX11_of_91 : decode cX11_of 91 = .ok (.getfield 7, 3) := by decide +kernel
theorem dX11_of_94 : decode cX11_of 94 = .ok (.iload_n 1, 1) := by decide +kernel
theorem dX11_of_95 : decode cX11_of 95 = .ok (.invokestatic 143, 3) := by decide +kernel
theorem dX11_of_98 : decode cX11_of 98 = .ok (.ifCond .eq 7, 3) := by decide +kernel
theorem dX11_of_101 : decode cX11_of 101 = .ok (.iconst 1, 1) := by decide +kernel
theorem dX11_of_102 : decode cX11_of 102 = .ok (.goto 4, 3) := by decide +kernel
theorem dX11_of_105 : decode cX11_of 105 = .ok (.iconst 0, 1) := by decide +kernel
theorem dX11_of_106 : decode cX11_of 106 = .ok (.ireturn, 1) := by decide +kernel
theorem dX11_of_107 : decode cX11_of 107 = .ok (.aload_n 0, 1) := by decide +kernel
theorem dX11_of_108 : decode cX11_of 108 = .ok (.getfield 7, 3) := by decide +kernel
theorem dX11_of_111 : decode cX11_of 111 = .ok (.iload_n 1, 1) := by decide +kernel
theorem dX11_of_112 : decode cX11_of 112 = .ok (.invokestatic 103, 3) := by decide +kernel
theorem dX11_of_115 : decode cX11_of 115 = .ok (.ireturn, 1) := by decide +kernel
set_option maxRecDepth 20000 in
theorem ggX11_about_X11_isCrossing : GoodIn wsX11_about wsX11_isCrossing := goodIn_r _ [7, 2, 8, 9, 6, 10, 22, 23, 24, 25, 26, 27, 28, 29, 30, 31, 32, 33, 34, 35, 36, 37, 38, 39] rfl (by decide +kernel)
set_option maxRecDepth 20000 in
theorem gX11_about_X11_isCrossing : GoodIn wsX11_about (wsV RX11 134 RX11 yX11_isCrossing wsX11_isCrossing) := goodIn_app (goodIn_of _ (by decide +kernel)) ggX11_about_X11_isCrossing
set_option maxRecDepth 20000 in
theorem ggX11_about_X11_in : GoodIn wsX11_about wsX11_in := goodIn_r _ [10] rfl (by decide +kernel)
set_option maxRecDepth 20000 in
theorem gX11_about_X11_in : GoodIn wsX11_about (va_wsS RX11 56 yX11_in wsX11_in) := goodIn_app (goodIn_of _ (by decide +kernel)) ggX11_about_X11_in
set_option maxRecDepth 20000 in
theorem ggX11_about_X11_bad : GoodIn wsX11_about wsX11_bad := goodIn_r _ [14, 15, 22, 23, 24, 25, 26, 27, 28, 29, 30, 31, 32, 33, 34, 35, 36, 37, 38, 39] rfl (by decide +kernel)
set_option maxRecDepth 20000 in
theorem gX11_about_X11_bad : GoodIn wsX11_about (wsV RX11 70 RX11 yX11_bad wsX11_bad) := goodIn_app (goodIn_of _ (by decide +kernel)) ggX11_about_X11_bad
set_option maxRecDepth 20000 in
theorem ggX11_about_X11_manyAt : GoodIn wsX11_about wsX11_manyAt := goodIn_r _ [18] rfl (by decide +kernel)
set_option maxRecDepth 20000 in
theorem gX11_about_X11_manyAt : GoodIn wsX11_about (va_wsS RX11 116 yX11_manyAt wsX11_manyAt) := goodIn_app (goodIn_of _ (by decide +kernel)) ggX11_about_X11_manyAt
set_option maxRecDepth 20000 in
theorem ggX11_about_X11_letsAs : GoodIn wsX11_about wsX11_letsAs := goodIn_r _ [21] rfl (by decide +kernel)
set_option maxRecDepth 20000 in
theorem gX11_about_X11_letsAs : GoodIn wsX11_about (va_wsS RX11 119 yX11_letsAs wsX11_letsAs) := goodIn_app (goodIn_of _ (by decide +kernel)) ggX11_about_X11_letsAs
theorem dX11_about_0 : decode cX11_about 0 = .ok (.aload_n 0, 1) := by decide +kernel
theorem dX11_about_1 : decode cX11_about 1 = .ok (.iload_n 1, 1) := by decide +kernel
theorem dX11_about_2 : decode cX11_about 2 = .ok (.invokevirtual 134, 3) := by decide +kernel
theorem dX11_about_5 : decode cX11_about 5 = .ok (.ifCond .eq 15, 3) := by decide +kernel
theorem dX11_about_8 : decode cX11_about 8 = .ok (.iload_n 2, 1) := by decide +kernel
theorem dX11_about_9 : decode cX11_about 9 = .ok (.i2l, 1) := by decide +kernel
theorem dX11_about_10 : decode cX11_about 10 = .ok (.lconst 0, 1) := by decide +kernel
theorem dX11_about_11 : decode cX11_about 11 = .ok (.ldc2_w 62, 3) := by decide +kernel
theorem dX11_about_14 : decode cX11_about 14 = .ok (.invokestatic 56, 3) := by decide +kernel
theorem dX11_about_17 : decode cX11_about 17 = .ok (.ifCond .ne 10, 3) := by decide +kernel
theorem dX11_about_20 : decode cX11_about 20 = .ok (.aload_n 0, 1) := by decide +kernel
theorem dX11_about_21 : decode cX11_about 21 = .ok (.bipush (-2), 2) := by decide +kernel
theorem dX11_about_23 : decode cX11_about 23 = .ok (.invokevirtual 70, 3) := by decide +kernel
theorem dX11_about_26 : decode cX11_about 26 = .ok (.ireturn, 1) := by decide +kernel
theorem dX11_about_27 : decode cX11_about 27 = .ok (.aload_n 0, 1) := by decide +kernel
theorem dX11_about_28 : decode cX11_about 28 = .ok (.getfield 7, 3) := by decide +kernel
theorem dX11_about_31 : decode cX11_about 31 = .ok (.aload_n 0, 1) := by decide +kernel
theorem dX11_about_32 : decode cX11_about 32 = .ok (.getfield 7, 3) := by decide +kernel
theorem dX11_about_35 : decode cX11_about 35 = .ok (.bipush 40, 2) := by decide +kernel
theorem dX11_about_37 : decode cX11_about 37 = .ok (.iload_n 1, 1) := by decide +kernel
theorem dX11_about_38 : decode cX11_about 38 = .ok (.iadd, 1) := by decide +kernel
theorem dX11_about_39 : decode cX11_about 39 = .ok (.iaload, 1) := by decide +kernel
theorem dX11_about_40 : decode cX11_about 40 = .ok (.invokestatic 116, 3) := by decide +kernel
theorem dX11_about_43 : decode cX11_about 43 = .ok (.istore_n 3, 1) := by decide +kernel
theorem dX11_about_44 : decode cX11_about 44 = .ok (.iload_n 2, 1) := by decide +kernel
theorem dX11_about_45 : decode cX11_about 45 = .ok (.tableswitch 65 0 3 #[31, 41, 51, 63], 31) := by decide +kernel
theorem dX11_about_76 : decode cX11_about 76 = .ok (.aload_n 0, 1) := by decide +kernel
theorem dX11_about_77 : decode cX11_about 77 = .ok (.getfield 7, 3) := by decide +kernel
theorem dX11_about_80 : decode cX11_about 80 = .ok (.bipush 37, 2) := by decide +kernel
theorem dX11_about_82 : decode cX11_about 82 = .ok (.iload_n 1, 1) := by decide +kernel
theorem dX11_about_83 : decode cX11_about 83 = .ok (.iadd, 1) := by decide +kernel
theorem dX11_about_84 : decode cX11_about 84 = .ok (.iaload, 1) := by decide +kernel
theorem dX11_about_85 : decode cX11_about 85 = .ok (.ireturn, 1) := by decide +kernel
theorem dX11_about_86 : decode cX11_about 86 = .ok (.aload_n 0, 1) := by decide +kernel
theorem dX11_about_87 : decode cX11_about 87 = .ok (.getfield 7, 3) := by decide +kernel
theorem dX11_about_90 : decode cX11_about 90 = .ok (.bipush 40, 2) := by decide +kernel
theorem dX11_about_92 : decode cX11_about 92 = .ok (.iload_n 1, 1) := by decide +kernel
theorem dX11_about_93 : decode cX11_about 93 = .ok (.iadd, 1) := by decide +kernel
theorem dX11_about_94 : decode cX11_about 94 = .ok (.iaload, 1) := by decide +kernel
theorem dX11_about_95 : decode cX11_about 95 = .ok (.ireturn, 1) := by decide +kernel
theorem dX11_about_96 : decode cX11_about 96 = .ok (.aload_n 0, 1) := by decide +kernel
theorem dX11_about_97 : decode cX11_about 97 = .ok (.getfield 7, 3) := by decide +kernel
theorem dX11_about_100 : decode cX11_about 100 = .ok (.bipush 14, 2) := by decide +kernel
theorem dX11_about_102 : decode cX11_about 102 = .ok (.iaload, 1) := by decide +kernel
theorem dX11_about_103 : decode cX11_about 103 = .ok (.iload_n 1, 1) := by decide +kernel
theorem dX11_about_104 : decode cX11_about 104 = .ok (.ishr, 1) := by decide +kernel
theorem dX11_about_105 : decode cX11_about 105 = .ok (.iconst 1, 1) := by decide +kernel
theorem dX11_about_106 : decode cX11_about 106 = .ok (.iand, 1) := by decide +kernel
theorem dX11_about_107 : decode cX11_about 107 = .ok (.ireturn, 1) := by decide +kernel
theorem dX11_about_108 : decode cX11_about 108 = .ok (.iload_n 3, 1) := by decide +kernel
theorem dX11_about_109 : decode cX11_about 109 = .ok (.ireturn, 1) := by decide +kernel
theorem dX11_about_110 : decode cX11_about 110 = .ok (.iload_n 3, 1) := by decide +kernel
theorem dX11_about_111 : decode cX11_about 111 = .ok (.ifCond .ne 7, 3) := by decide +kernel
theorem dX11_about_114 : decode cX11_about 114 = .ok (.iconst 0, 1) := by decide +kernel
theorem dX11_about_115 : decode cX11_about 115 = .ok (.goto 23, 3) := by decide +kernel
theorem dX11_about_118 : decode cX11_about 118 = .ok (.aload_n 0, 1) := by decide +kernel
theorem dX11_about_119 : decode cX11_about 119 = .ok (.getfield 7, 3) := by decide +kernel
theorem dX11_about_122 : decode cX11_about 122 = .ok (.bipush 37, 2) := by decide +kernel
theorem dX11_about_124 : decode cX11_about 124 = .ok (.iload_n 1, 1) := by decide +kernel
theorem dX11_about_125 : decode cX11_about 125 = .ok (.iadd, 1) := by decide +kernel
theorem dX11_about_126 : decode cX11_about 126 = .ok (.iaload, 1) := by decide +kernel
theorem dX11_about_127 : decode cX11_about 127 = .ok (.aload_n 0, 1) := by decide +kernel
theorem dX11_about_128 : decode cX11_about 128 = .ok (.getfield 7, 3) := by decide +kernel
theorem dX11_about_131 : decode cX11_about 131 = .ok (.bipush 15, 2) := by decide +kernel
theorem dX11_about_133 : decode cX11_about 133 = .ok (.iaload, 1) := by decide +kernel
theorem dX11_about_134 : decode cX11_about 134 = .ok (.iload_n 3, 1) := by decide +kernel
theorem dX11_about_135 : decode cX11_about 135 = .ok (.invokestatic 119, 3) := by decide +kernel
theorem dX11_about_138 : decode cX11_about 138 = .ok (.ireturn, 1) := by decide +kernel
theorem dX11_layHand_0 : decode cX11_layHand 0 = .ok (.iconst 0, 1) := by decide +kernel
theorem dX11_layHand_1 : decode cX11_layHand 1 = .ok (.istore_n 1, 1) := by decide +kernel
theorem dX11_layHand_2 : decode cX11_layHand 2 = .ok (.iload_n 1, 1) := by decide +kernel
theorem dX11_layHand_3 : decode cX11_layHand 3 = .ok (.bipush 43, 2) := by decide +kernel
theorem dX11_layHand_5 : decode cX11_layHand 5 = .ok (.if_icmp .ge 21, 3) := by decide +kernel
theorem dX11_layHand_8 : decode cX11_layHand 8 = .ok (.aload_n 0, 1) := by decide +kernel
theorem dX11_layHand_9 : decode cX11_layHand 9 = .ok (.getfield 27, 3) := by decide +kernel
theorem dX11_layHand_12 : decode cX11_layHand 12 = .ok (.iload_n 1, 1) := by decide +kernel
theorem dX11_layHand_13 : decode cX11_layHand 13 = .ok (.aload_n 0, 1) := by decide +kernel
theorem dX11_layHand_14 : decode cX11_layHand 14 = .ok (.getfield 7, 3) := by decide +kernel
theorem dX11_layHand_17 : decode cX11_layHand 17 = .ok (.iload_n 1, 1) := by decide +kernel
theorem dX11_layHand_18 : decode cX11_layHand 18 = .ok (.iaload, 1) := by decide +kernel
theorem dX11_layHand_19 : decode cX11_layHand 19 = .ok (.iastore, 1) := by decide +kernel
theorem dX11_layHand_20 : decode cX11_layHand 20 = .ok (.iinc 1 1, 3) := by decide +kernel
theorem dX11_layHand_23 : decode cX11_layHand 23 = .ok (.goto (-21), 3) := by decide +kernel
theorem dX11_layHand_26 : decode cX11_layHand 26 = .ok (.return_, 1) := by decide +kernel
set_option maxRecDepth 20000 in
theorem ggX11_goAhead_X11_goHour : GoodIn wsX11_goAhead wsX11_goHour := goodIn_r _ [5, 6, 7, 4, 8, 9, 10, 11, 12, 13, 14, 15, 16, 17, 18, 19, 20, 21, 22, 23, 24, 25, 26, 27, 28, 29] rfl (by decide +kernel)
set_option maxRecDepth 20000 in
theorem gX11_goAhead_X11_goHour : GoodIn wsX11_goAhead (va_wsS RX11 122 yX11_goHour wsX11_goHour) := goodIn_app (goodIn_of _ (by decide +kernel)) ggX11_goAhead_X11_goHour
theorem dX11_goAhead_0 : decode cX11_goAhead 0 = .ok (.iconst 0, 1) := by decide +kernel
theorem dX11_goAhead_1 : decode cX11_goAhead 1 = .ok (.istore_n 2, 1) := by decide +kernel
theorem dX11_goAhead_2 : decode cX11_goAhead 2 = .ok (.iload_n 2, 1) := by decide +kernel
theorem dX11_goAhead_3 : decode cX11_goAhead 3 = .ok (.iload_n 1, 1) := by decide +kernel
theorem dX11_goAhead_4 : decode cX11_goAhead 4 = .ok (.if_icmp .ge 16, 3) := by decide +kernel
theorem dX11_goAhead_7 : decode cX11_goAhead 7 = .ok (.aload_n 0, 1) := by decide +kernel
theorem dX11_goAhead_8 : decode cX11_goAhead 8 = .ok (.getfield 27, 3) := by decide +kernel
theorem dX11_goAhead_11 : decode cX11_goAhead 11 = .ok (.invokestatic 122, 3) := by decide +kernel
theorem dX11_goAhead_14 : decode cX11_goAhead 14 = .ok (.iinc 2 1, 3) := by decide +kernel
theorem dX11_goAhead_17 : decode cX11_goAhead 17 = .ok (.goto (-15), 3) := by decide +kernel
theorem dX11_goAhead_20 : decode cX11_goAhead 20 = .ok (.return_, 1) := by decide +kernel
set_option maxRecDepth 20000 in
theorem ggX11_where_X11_isGlove : GoodIn wsX11_where wsX11_isGlove := goodIn_r _ [7, 8, 9, 10, 6, 11, 12, 13, 14, 15, 56, 57, 58, 59, 60, 61, 62, 63, 64, 65, 66, 67, 68, 69, 70, 71, 72, 73] rfl (by decide +kernel)
set_option maxRecDepth 20000 in
theorem gX11_where_X11_isGlove : GoodIn wsX11_where (wsV RX11 140 RX11 yX11_isGlove wsX11_isGlove) := goodIn_app (goodIn_of _ (by decide +kernel)) ggX11_where_X11_isGlove
set_option maxRecDepth 20000 in
theorem ggX11_where_X11_in : GoodIn wsX11_where wsX11_in := goodIn_r _ [15] rfl (by decide +kernel)
set_option maxRecDepth 20000 in
theorem gX11_where_X11_in : GoodIn wsX11_where (va_wsS RX11 56 yX11_in wsX11_in) := goodIn_app (goodIn_of _ (by decide +kernel)) ggX11_where_X11_in
set_option maxRecDepth 20000 in
theorem ggX11_where_X11_bad : GoodIn wsX11_where wsX11_bad := goodIn_r _ [19, 20, 56, 57, 58, 59, 60, 61, 62, 63, 64, 65, 66, 67, 68, 69, 70, 71, 72, 73] rfl (by decide +kernel)
set_option maxRecDepth 20000 in
theorem gX11_where_X11_bad : GoodIn wsX11_where (wsV RX11 70 RX11 yX11_bad wsX11_bad) := goodIn_app (goodIn_of _ (by decide +kernel)) ggX11_where_X11_bad
set_option maxRecDepth 20000 in
theorem ggX11_where_X11_layHand : GoodIn wsX11_where wsX11_layHand := goodIn_r _ [24, 2, 12, 56, 57, 58, 59, 60, 61, 62, 63, 64, 65, 66, 67, 68, 69, 70, 71, 72, 73] rfl (by decide +kernel)
set_option maxRecDepth 20000 in
theorem gX11_where_X11_layHand : GoodIn wsX11_where (wsV RX11 147 RX11 yX11_layHand wsX11_layHand) := goodIn_app (goodIn_of _ (by decide +kernel)) ggX11_where_X11_layHand
set_option maxRecDepth 20000 in
theorem ggX11_where_X11_goAhead : GoodIn wsX11_where wsX11_goAhead := goodIn_r _ [28, 2, 29, 30, 6, 31, 32, 33, 34, 35, 36, 37, 38, 39, 40, 41, 42, 43, 44, 45, 46, 47, 48, 49, 50, 51, 52, 53, 54, 55, 56, 57, 58, 59, 60, 61, 62, 63, 64, 65, 66, 67, 68, 69, 70, 71, 72, 73] rfl (by decide +kernel)
set_option maxRecDepth 20000 in
theorem gX11_where_X11_goAhead : GoodIn wsX11_where (wsV RX11 150 RX11 yX11_goAhead wsX11_goAhead) := goodIn_app (goodIn_of _ (by decide +kernel)) ggX11_where_X11_goAhead
theorem dX11_where_0 : decode cX11_where 0 = .ok (.aload_n 0, 1) := by decide +kernel
theorem dX11_where_1 : decode cX11_where 1 = .ok (.iload_n 1, 1) := by decide +kernel
theorem dX11_where_2 : decode cX11_where 2 = .ok (.invokevirtual 140, 3) := by decide +kernel
theorem dX11_where_5 : decode cX11_where 5 = .ok (.ifCond .eq 15, 3) := by decide +kernel
theorem dX11_where_8 : decode cX11_where 8 = .ok (.iload_n 2, 1) := by decide +kernel
theorem dX11_where_9 : decode cX11_where 9 = .ok (.i2l, 1) := by decide +kernel
theorem dX11_where_10 : decode cX11_where 10 = .ok (.lconst 0, 1) := by decide +kernel
theorem dX11_where_11 : decode cX11_where 11 = .ok (.ldc2_w 125, 3) := by decide +kernel
theorem dX11_where_14 : decode cX11_where 14 = .ok (.invokestatic 56, 3) := by decide +kernel
theorem dX11_where_17 : decode cX11_where 17 = .ok (.ifCond .ne 10, 3) := by decide +kernel
theorem dX11_where_20 : decode cX11_where 20 = .ok (.aload_n 0, 1) := by decide +kernel
theorem dX11_where_21 : decode cX11_where 21 = .ok (.bipush (-2), 2) := by decide +kernel
theorem dX11_where_23 : decode cX11_where 23 = .ok (.invokevirtual 70, 3) := by decide +kernel
theorem dX11_where_26 : decode cX11_where 26 = .ok (.ireturn, 1) := by decide +kernel
theorem dX11_where_27 : decode cX11_where 27 = .ok (.aload_n 0, 1) := by decide +kernel
theorem dX11_where_28 : decode cX11_where 28 = .ok (.invokevirtual 147, 3) := by decide +kernel
theorem dX11_where_31 : decode cX11_where 31 = .ok (.aload_n 0, 1) := by decide +kernel
theorem dX11_where_32 : decode cX11_where 32 = .ok (.iload_n 2, 1) := by decide +kernel
theorem dX11_where_33 : decode cX11_where 33 = .ok (.invokevirtual 150, 3) := by decide +kernel
theorem dX11_where_36 : decode cX11_where 36 = .ok (.aload_n 0, 1) := by decide +kernel
theorem dX11_where_37 : decode cX11_where 37 = .ok (.getfield 27, 3) := by decide +kernel
theorem dX11_where_40 : decode cX11_where 40 = .ok (.bipush 6, 2) := by decide +kernel
theorem dX11_where_42 : decode cX11_where 42 = .ok (.iload_n 1, 1) := by decide +kernel
theorem dX11_where_43 : decode cX11_where 43 = .ok (.iadd, 1) := by decide +kernel
theorem dX11_where_44 : decode cX11_where 44 = .ok (.iaload, 1) := by decide +kernel
theorem dX11_where_45 : decode cX11_where 45 = .ok (.ireturn, 1) := by decide +kernel
set_option maxRecDepth 20000 in
theorem ggX11_when_X11_isGlove : GoodIn wsX11_when wsX11_isGlove := goodIn_r _ [6, 7, 8, 9, 5, 10, 11, 12, 13, 14, 51, 52, 53, 54, 55, 56, 57, 58, 59, 60, 61, 62, 63, 64, 65, 66, 67, 68] rfl (by decide +kernel)
set_option maxRecDepth 20000 in
theorem gX11_when_X11_isGlove : GoodIn wsX11_when (wsV RX11 140 RX11 yX11_isGlove wsX11_isGlove) := goodIn_app (goodIn_of _ (by decide +kernel)) ggX11_when_X11_isGlove
set_option maxRecDepth 20000 in
theorem ggX11_when_X11_bad : GoodIn wsX11_when wsX11_bad := goodIn_r _ [18, 19, 51, 52, 53, 54, 55, 56, 57, 58, 59, 60, 61, 62, 63, 64, 65, 66, 67, 68] rfl (by decide +kernel)
set_option maxRecDepth 20000 in
theorem gX11_when_X11_bad : GoodIn wsX11_when (wsV RX11 70 RX11 yX11_bad wsX11_bad) := goodIn_app (goodIn_of _ (by decide +kernel)) ggX11_when_X11_bad
set_option maxRecDepth 20000 in
theorem ggX11_when_X11_layHand : GoodIn wsX11_when wsX11_layHand := goodIn_r _ [23, 1, 11, 51, 52, 53, 54, 55, 56, 57, 58, 59, 60, 61, 62, 63, 64, 65, 66, 67, 68] rfl (by decide +kernel)
set_option maxRecDepth 20000 in
theorem gX11_when_X11_layHand : GoodIn wsX11_when (wsV RX11 147 RX11 yX11_layHand wsX11_layHand) := goodIn_app (goodIn_of _ (by decide +kernel)) ggX11_when_X11_layHand
set_option maxRecDepth 20000 in
theorem ggX11_when_X11_manyAt : GoodIn wsX11_when wsX11_manyAt := goodIn_r _ [26] rfl (by decide +kernel)
set_option maxRecDepth 20000 in
theorem gX11_when_X11_manyAt : GoodIn wsX11_when (va_wsS RX11 116 yX11_manyAt wsX11_manyAt) := goodIn_app (goodIn_of _ (by decide +kernel)) ggX11_when_X11_manyAt
set_option maxRecDepth 20000 in
theorem ggX11_when_X11_many : GoodIn wsX11_when wsX11_many := goodIn_r _ [10, 11, 51, 52, 53, 54, 55, 56, 57, 58, 59, 60, 61, 62, 63, 64, 65, 66, 67, 68] rfl (by decide +kernel)
set_option maxRecDepth 20000 in
theorem gX11_when_X11_many : GoodIn wsX11_when (wsV RX11 52 RX11 yX11_many wsX11_many) := goodIn_app (goodIn_of _ (by decide +kernel)) ggX11_when_X11_many
set_option maxRecDepth 20000 in
theorem ggX11_when_X11_goHour : GoodIn wsX11_when wsX11_goHour := goodIn_r _ [29, 30, 31, 5, 32, 33, 34, 35, 24, 25, 26, 36, 37, 38, 39, 40, 41, 42, 43, 44, 45, 46, 47, 48, 49, 50] rfl (by decide +kernel)
set_option maxRecDepth 20000 in
theorem gX11_when_X11_goHour : GoodIn wsX11_when (va_wsS RX11 122 yX11_goHour wsX11_goHour) := goodIn_app (goodIn_of _ (by decide +kernel)) ggX11_when_X11_goHour
theorem dX11_when_0 : decode cX11_when 0 = .ok (.iload_n 1, 1) := by decide +kernel
theorem dX11_when_1 : decode cX11_when 1 = .ok (.iconst (-1), 1) := by decide +kernel
theorem dX11_when_2 : decode cX11_when 2 = .ok (.if_icmp .eq 18, 3) := by decide +kernel
theorem dX11_when_5 : decode cX11_when 5 = .ok (.aload_n 0, 1) := by decide +kernel
theorem dX11_when_6 : decode cX11_when 6 = .ok (.iload_n 1, 1) := by decide +kernel
theorem dX11_when_7 : decode cX11_when 7 = .ok (.invokevirtual 140, 3) := by decide +kernel
theorem dX11_when_10 : decode cX11_when 10 = .ok (.ifCond .ne 10, 3) := by decide +kernel
theorem dX11_when_13 : decode cX11_when 13 = .ok (.aload_n 0, 1) := by decide +kernel
theorem dX11_when_14 : decode cX11_when 14 = .ok (.bipush (-10), 2) := by decide +kernel
theorem dX11_when_16 : decode cX11_when 16 = .ok (.invokevirtual 70, 3) := by decide +kernel
theorem dX11_when_19 : decode cX11_when 19 = .ok (.ireturn, 1) := by decide +kernel
theorem dX11_when_20 : decode cX11_when 20 = .ok (.aload_n 0, 1) := by decide +kernel
theorem dX11_when_21 : decode cX11_when 21 = .ok (.invokevirtual 147, 3) := by decide +kernel
theorem dX11_when_24 : decode cX11_when 24 = .ok (.iconst 0, 1) := by decide +kernel
theorem dX11_when_25 : decode cX11_when 25 = .ok (.istore_n 2, 1) := by decide +kernel
theorem dX11_when_26 : decode cX11_when 26 = .ok (.iload_n 2, 1) := by decide +kernel
theorem dX11_when_27 : decode cX11_when 27 = .ok (.bipush 60, 2) := by decide +kernel
theorem dX11_when_29 : decode cX11_when 29 = .ok (.if_icmp .gt 56, 3) := by decide +kernel
theorem dX11_when_32 : decode cX11_when 32 = .ok (.iload_n 1, 1) := by decide +kernel
theorem dX11_when_33 : decode cX11_when 33 = .ok (.iconst (-1), 1) := by decide +kernel
theorem dX11_when_34 : decode cX11_when 34 = .ok (.if_icmp .ne 22, 3) := by decide +kernel
theorem dX11_when_37 : decode cX11_when 37 = .ok (.aload_n 0, 1) := by decide +kernel
theorem dX11_when_38 : decode cX11_when 38 = .ok (.getfield 27, 3) := by decide +kernel
theorem dX11_when_41 : decode cX11_when 41 = .ok (.bipush 23, 2) := by decide +kernel
theorem dX11_when_43 : decode cX11_when 43 = .ok (.invokestatic 116, 3) := by decide +kernel
theorem dX11_when_46 : decode cX11_when 46 = .ok (.aload_n 0, 1) := by decide +kernel
theorem dX11_when_47 : decode cX11_when 47 = .ok (.invokevirtual 52, 3) := by decide +kernel
theorem dX11_when_50 : decode cX11_when 50 = .ok (.if_icmp .ne 22, 3) := by decide +kernel
theorem dX11_when_53 : decode cX11_when 53 = .ok (.goto 17, 3) := by decide +kernel
theorem dX11_when_56 : decode cX11_when 56 = .ok (.aload_n 0, 1) := by decide +kernel
theorem dX11_when_57 : decode cX11_when 57 = .ok (.getfield 27, 3) := by decide +kernel
theorem dX11_when_60 : decode cX11_when 60 = .ok (.bipush 6, 2) := by decide +kernel
theorem dX11_when_62 : decode cX11_when 62 = .ok (.iload_n 1, 1) := by decide +kernel
theorem dX11_when_63 : decode cX11_when 63 = .ok (.iadd, 1) := by decide +kernel
theorem dX11_when_64 : decode cX11_when 64 = .ok (.iaload, 1) := by decide +kernel
theorem dX11_when_65 : decode cX11_when 65 = .ok (.bipush 23, 2) := by decide +kernel
theorem dX11_when_67 : decode cX11_when 67 = .ok (.if_icmp .ne 5, 3) := by decide +kernel
theorem dX11_when_70 : decode cX11_when 70 = .ok (.iload_n 2, 1) := by decide +kernel
theorem dX11_when_71 : decode cX11_when 71 = .ok (.ireturn, 1) := by decide +kernel
theorem dX11_when_72 : decode cX11_when 72 = .ok (.aload_n 0, 1) := by decide +kernel
theorem dX11_when_73 : decode cX11_when 73 = .ok (.getfield 27, 3) := by decide +kernel
theorem dX11_when_76 : decode cX11_when 76 = .ok (.invokestatic 122, 3) := by decide +kernel
theorem dX11_when_79 : decode cX11_when 79 = .ok (.iinc 2 1, 3) := by decide +kernel
theorem dX11_when_82 : decode cX11_when 82 = .ok (.goto (-56), 3) := by decide +kernel
theorem dX11_when_85 : decode cX11_when 85 = .ok (.iconst (-1), 1) := by decide +kernel
theorem dX11_when_86 : decode cX11_when 86 = .ok (.ireturn, 1) := by decide +kernel
set_option maxRecDepth 20000 in
theorem ggX11_isPair_X11_in : GoodIn wsX11_isPair wsX11_in := goodIn_r _ [6] rfl (by decide +kernel)
set_option maxRecDepth 20000 in
theorem gX11_isPair_X11_in : GoodIn wsX11_isPair (va_wsS RX11 56 yX11_in wsX11_in) := goodIn_app (goodIn_of _ (by decide +kernel)) ggX11_isPair_X11_in
theorem dX11_isPair_0 : decode cX11_isPair 0 = .ok (.aload_n 0, 1) := by decide +kernel
theorem dX11_isPair_1 : decode cX11_isPair 1 = .ok (.getfield 7, 3) := by decide +kernel
theorem dX11_isPair_4 : decode cX11_isPair 4 = .ok (.bipush 30, 2) := by decide +kernel
theorem dX11_isPair_6 : decode cX11_isPair 6 = .ok (.iload_n 1, 1) := by decide +kernel
theorem dX11_isPair_7 : decode cX11_isPair 7 = .ok (.iadd, 1) := by decide +kernel
theorem dX11_isPair_8 : decode cX11_isPair 8 = .ok (.iaload, 1) := by decide +kernel
theorem dX11_isPair_9 : decode cX11_isPair 9 = .ok (.aload_n 0, 1) := by decide +kernel
theorem dX11_isPair_10 : decode cX11_isPair 10 = .ok (.getfield 7, 3) := by decide +kernel
theorem dX11_isPair_13 : decode cX11_isPair 13 = .ok (.bipush 30, 2) := by decide +kernel
theorem dX11_isPair_15 : decode cX11_isPair 15 = .ok (.iload_n 2, 1) := by decide +kernel
theorem dX11_isPair_16 : decode cX11_isPair 16 = .ok (.iadd, 1) := by decide +kernel
theorem dX11_isPair_17 : decode cX11_isPair 17 = .ok (.iaload, 1) := by decide +kernel
theorem dX11_isPair_18 : decode cX11_isPair 18 = .ok (.isub, 1) := by decide +kernel
theorem dX11_isPair_19 : decode cX11_isPair 19 = .ok (.istore_n 3, 1) := by decide +kernel
theorem dX11_isPair_20 : decode cX11_isPair 20 = .ok (.aload_n 0, 1) := by decide +kernel
theorem dX11_isPair_21 : decode cX11_isPair 21 = .ok (.getfield 7, 3) := by decide +kernel
theorem dX11_isPair_24 : decode cX11_isPair 24 = .ok (.bipush 22, 2) := by decide +kernel
theorem dX11_isPair_26 : decode cX11_isPair 26 = .ok (.iload_n 1, 1) := by decide +kernel
theorem dX11_isPair_27 : decode cX11_isPair 27 = .ok (.iadd, 1) := by decide +kernel
theorem dX11_isPair_28 : decode cX11_isPair 28 = .ok (.iaload, 1) := by decide +kernel
theorem dX11_isPair_29 : decode cX11_isPair 29 = .ok (.aload_n 0, 1) := by decide +kernel
theorem dX11_isPair_30 : decode cX11_isPair 30 = .ok (.getfield 7, 3) := by decide +kernel
theorem dX11_isPair_33 : decode cX11_isPair 33 = .ok (.bipush 22, 2) := by decide +kernel
theorem dX11_isPair_35 : decode cX11_isPair 35 = .ok (.iload_n 2, 1) := by decide +kernel
theorem dX11_isPair_36 : decode cX11_isPair 36 = .ok (.iadd, 1) := by decide +kernel
theorem dX11_isPair_37 : decode cX11_isPair 37 = .ok (.iaload, 1) := by decide +kernel
theorem dX11_isPair_38 : decode cX11_isPair 38 = .ok (.if_icmp .ne 19, 3) := by decide +kernel
theorem dX11_isPair_41 : decode cX11_isPair 41 = .ok (.iload_n 3, 1) := by decide +kernel
theorem dX11_isPair_42 : decode cX11_isPair 42 = .ok (.i2l, 1) := by decide +kernel
theorem dX11_isPair_43 : decode cX11_isPair 43 = .ok (.ldc2_w 154, 3) := by decide +kernel
theorem dX11_isPair_46 : decode cX11_isPair 46 = .ok (.lconst 1, 1) := by decide +kernel
theorem dX11_isPair_47 : decode cX11_isPair 47 = .ok (.invokestatic 56, 3) := by decide +kernel
theorem dX11_isPair_50 : decode cX11_isPair 50 = .ok (.ifCond .eq 7, 3) := by decide +kernel
theorem dX11_isPair_53 : decode cX11_isPair 53 = .ok (.iconst 1, 1) := by decide +kernel
theorem dX11_isPair_54 : decode cX11_isPair 54 = .ok (.goto 4, 3) := by decide +kernel
theorem dX11_isPair_57 : decode cX11_isPair 57 = .ok (.iconst 0, 1) := by decide +kernel
theorem dX11_isPair_58 : decode cX11_isPair 58 = .ok (.ireturn, 1) := by decide +kernel
set_option maxRecDepth 20000 in
theorem ggX11_layMost_X11_many : GoodIn wsX11_layMost wsX11_many := goodIn_r _ [6, 7, 19, 20, 21, 22, 23, 24, 25, 26, 27, 28, 29, 30, 31, 32, 33, 34, 35, 36] rfl (by decide +kernel)
set_option maxRecDepth 20000 in
theorem gX11_layMost_X11_many : GoodIn wsX11_layMost (wsV RX11 52 RX11 yX11_many wsX11_many) := goodIn_app (goodIn_of _ (by decide +kernel)) ggX11_layMost_X11_many
set_option maxRecDepth 20000 in
theorem ggX11_layMost_X11_has : GoodIn wsX11_layMost wsX11_has := goodIn_r _ [10] rfl (by decide +kernel)
set_option maxRecDepth 20000 in
theorem gX11_layMost_X11_has : GoodIn wsX11_layMost (va_wsS RX11 112 yX11_has wsX11_has) := goodIn_app (goodIn_of _ (by decide +kernel)) ggX11_layMost_X11_has
set_option maxRecDepth 20000 in
theorem ggX11_layMost_X11_isPair : GoodIn wsX11_layMost wsX11_isPair := goodIn_r _ [14, 7, 15, 16, 17, 5, 18, 19, 20, 21, 22, 23, 24, 25, 26, 27, 28, 29, 30, 31, 32, 33, 34, 35, 36] rfl (by decide +kernel)
set_option maxRecDepth 20000 in
theorem gX11_layMost_X11_isPair : GoodIn wsX11_layMost (wsV RX11 156 RX11 yX11_isPair wsX11_isPair) := goodIn_app (goodIn_of _ (by decide +kernel)) ggX11_layMost_X11_isPair
theorem dX11_layMost_0 : decode cX11_layMost 0 = .ok (.iconst 0, 1) := by decide +kernel
theorem dX11_layMost_1 : decode cX11_layMost 1 = .ok (.istore_n 1, 1) := by decide +kernel
theorem dX11_layMost_2 : decode cX11_layMost 2 = .ok (.iload_n 1, 1) := by decide +kernel
theorem dX11_layMost_3 : decode cX11_layMost 3 = .ok (.iconst 1, 1) := by decide +kernel
theorem dX11_layMost_4 : decode cX11_layMost 4 = .ok (.aload_n 0, 1) := by decide +kernel
theorem dX11_layMost_5 : decode cX11_layMost 5 = .ok (.invokevirtual 52, 3) := by decide +kernel
theorem dX11_layMost_8 : decode cX11_layMost 8 = .ok (.ishl, 1) := by decide +kernel
theorem dX11_layMost_9 : decode cX11_layMost 9 = .ok (.if_icmp .ge 156, 3) := by decide +kernel
theorem dX11_layMost_12 : decode cX11_layMost 12 = .ok (.iconst 0, 1) := by decide +kernel
theorem dX11_layMost_13 : decode cX11_layMost 13 = .ok (.istore_n 2, 1) := by decide +kernel
theorem dX11_layMost_14 : decode cX11_layMost 14 = .ok (.aload_n 0, 1) := by decide +kernel
theorem dX11_layMost_15 : decode cX11_layMost 15 = .ok (.getfield 30, 3) := by decide +kernel
theorem dX11_layMost_18 : decode cX11_layMost 18 = .ok (.iload_n 1, 1) := by decide +kernel
theorem dX11_layMost_19 : decode cX11_layMost 19 = .ok (.iconst 0, 1) := by decide +kernel
theorem dX11_layMost_20 : decode cX11_layMost 20 = .ok (.iastore, 1) := by decide +kernel
theorem dX11_layMost_21 : decode cX11_layMost 21 = .ok (.iload_n 1, 1) := by decide +kernel
theorem dX11_layMost_22 : decode cX11_layMost 22 = .ok (.ifCond .le 17, 3) := by decide +kernel
theorem dX11_layMost_25 : decode cX11_layMost 25 = .ok (.iload_n 1, 1) := by decide +kernel
theorem dX11_layMost_26 : decode cX11_layMost 26 = .ok (.iload_n 2, 1) := by decide +kernel
theorem dX11_layMost_27 : decode cX11_layMost 27 = .ok (.invokestatic 112, 3) := by decide +kernel
theorem dX11_layMost_30 : decode cX11_layMost 30 = .ok (.ifCond .ne 9, 3) := by decide +kernel
theorem dX11_layMost_33 : decode cX11_layMost 33 = .ok (.iinc 2 1, 3) := by decide +kernel
theorem dX11_layMost_36 : decode cX11_layMost 36 = .ok (.goto (-15), 3) := by decide +kernel
theorem dX11_layMost_39 : decode cX11_layMost 39 = .ok (.iload_n 1, 1) := by decide +kernel
theorem dX11_layMost_40 : decode cX11_layMost 40 = .ok (.iconst 1, 1) := by decide +kernel
theorem dX11_layMost_41 : decode cX11_layMost 41 = .ok (.iload_n 2, 1) := by decide +kernel
theorem dX11_layMost_42 : decode cX11_layMost 42 = .ok (.ishl, 1) := by decide +kernel
theorem dX11_layMost_43 : decode cX11_layMost 43 = .ok (.iconst (-1), 1) := by decide +kernel
theorem dX11_layMost_44 : decode cX11_layMost 44 = .ok (.ixor, 1) := by decide +kernel
theorem dX11_layMost_45 : decode cX11_layMost 45 = .ok (.iand, 1) := by decide +kernel
theorem dX11_layMost_46 : decode cX11_layMost 46 = .ok (.istore_n 3, 1) := by decide +kernel
theorem dX11_layMost_47 : decode cX11_layMost 47 = .ok (.aload_n 0, 1) := by decide +kernel
theorem dX11_layMost_48 : decode cX11_layMost 48 = .ok (.getfield 30, 3) := by decide +kernel
theorem dX11_layMost_51 : decode cX11_layMost 51 = .ok (.iload_n 1, 1) := by decide +kernel
theorem dX11_layMost_52 : decode cX11_layMost 52 = .ok (.iload_n 1, 1) := by decide +kernel
theorem dX11_layMost_53 : decode cX11_layMost 53 = .ok (.ifCond .ne 7, 3) := by decide +kernel
theorem dX11_layMost_56 : decode cX11_layMost 56 = .ok (.iconst 0, 1) := by decide +kernel
theorem dX11_layMost_57 : decode cX11_layMost 57 = .ok (.goto 9, 3) := by decide +kernel
theorem dX11_layMost_60 : decode cX11_layMost 60 = .ok (.aload_n 0, 1) := by decide +kernel
theorem dX11_layMost_61 : decode cX11_layMost 61 = .ok (.getfield 30, 3) := by decide +kernel
theorem dX11_layMost_64 : decode cX11_layMost 64 = .ok (.iload_n 3, 1) := by decide +kernel
theorem dX11_layMost_65 : decode cX11_layMost 65 = .ok (.iaload, 1) := by decide +kernel
theorem dX11_layMost_66 : decode cX11_layMost 66 = .ok (.iastore, 1) := by decide +kernel
theorem dX11_layMost_67 : decode cX11_layMost 67 = .ok (.iload_n 2, 1) := by decide +kernel
theorem dX11_layMost_68 : decode cX11_layMost 68 = .ok (.iconst 1, 1) := by decide +kernel
theorem dX11_layMost_69 : decode cX11_layMost 69 = .ok (.iadd, 1) := by decide +kernel
theorem dX11_layMost_70 : decode cX11_layMost 70 = .ok (.istore 4, 2) := by decide +kernel
theorem dX11_layMost_72 : decode cX11_layMost 72 = .ok (.iload 4, 2) := by decide +kernel
theorem dX11_layMost_74 : decode cX11_layMost 74 = .ok (.aload_n 0, 1) := by decide +kernel
theorem dX11_layMost_75 : decode cX11_layMost 75 = .ok (.invokevirtual 52, 3) := by decide +kernel
theorem dX11_layMost_78 : decode cX11_layMost 78 = .ok (.if_icmp .ge 81, 3) := by decide +kernel
theorem dX11_layMost_81 : decode cX11_layMost 81 = .ok (.iload_n 1, 1) := by decide +kernel
theorem dX11_layMost_82 : decode cX11_layMost 82 = .ok (.ifCond .le 77, 3) := by decide +kernel
theorem dX11_layMost_85 : decode cX11_layMost 85 = .ok (.iload_n 1, 1) := by decide +kernel
theorem dX11_layMost_86 : decode cX11_layMost 86 = .ok (.iload 4, 2) := by decide +kernel
theorem dX11_layMost_88 : decode cX11_layMost 88 = .ok (.invokestatic 112, 3) := by decide +kernel
theorem dX11_layMost_91 : decode cX11_layMost 91 = .ok (.ifCond .eq 31, 3) := by decide +kernel
theorem dX11_layMost_94 : decode cX11_layMost 94 = .ok (.aload_n 0, 1) := by decide +kernel
theorem dX11_layMost_95 : decode cX11_layMost 95 = .ok (.iload_n 2, 1) := by decide +kernel
theorem dX11_layMost_96 : decode cX11_layMost 96 = .ok (.iload 4, 2) := by decide +kernel
theorem dX11_layMost_98 : decode cX11_layMost 98 = .ok (.invokevirtual 156, 3) := by decide +kernel
theorem dX11_layMost_101 : decode cX11_layMost 101 = .ok (.ifCond .eq 21, 3) := by decide +kernel
theorem dX11_layMost_104 : decode cX11_layMost 104 = .ok (.iconst 1, 1) := by decide +kernel
theorem dX11_layMost_105 : decode cX11_layMost 105 = .ok (.aload_n 0, 1) := by decide +kernel
theorem dX11_layMost_106 : decode cX11_layMost 106 = .ok (.getfield 30, 3) := by decide +kernel
theorem dX11_layMost_109 : decode cX11_layMost 109 = .ok (.iload_n 3, 1) := by decide +kernel
theorem dX11_layMost_110 : decode cX11_layMost 110 = .ok (.iconst 1, 1) := by decide +kernel
theorem dX11_layMost_111 : decode cX11_layMost 111 = .ok (.iload 4, 2) := by decide +kernel
theorem dX11_layMost_113 : decode cX11_layMost 113 = .ok (.ishl, 1) := by decide +kernel
theorem dX11_layMost_114 : decode cX11_layMost 114 = .ok (.iconst (-1), 1) := by decide +kernel
theorem dX11_layMost_115 : decode cX11_layMost 115 = .ok (.ixor, 1) := by decide +kernel
theorem dX11_layMost_116 : decode cX11_layMost 116 = .ok (.iand, 1) := by decide +kernel
theorem dX11_layMost_117 : decode cX11_layMost 117 = .ok (.iaload, 1) := by decide +kernel
theorem dX11_layMost_118 : decode cX11_layMost 118 = .ok (.iadd, 1) := by decide +kernel
theorem dX11_layMost_119 : decode cX11_layMost 119 = .ok (.goto 4, 3) := by decide +kernel
theorem dX11_layMost_122 : decode cX11_layMost 122 = .ok (.iconst 0, 1) := by decide +kernel
theorem dX11_layMost_123 : decode cX11_layMost 123 = .ok (.istore 5, 2) := by decide +kernel
theorem dX11_layMost_125 : decode cX11_layMost 125 = .ok (.aload_n 0, 1) := by decide +kernel
theorem dX11_layMost_126 : decode cX11_layMost 126 = .ok (.getfield 30, 3) := by decide +kernel
theorem dX11_layMost_129 : decode cX11_layMost 129 = .ok (.iload_n 1, 1) := by decide +kernel
theorem dX11_layMost_130 : decode cX11_layMost 130 = .ok (.iload 5, 2) := by decide +kernel
theorem dX11_layMost_132 : decode cX11_layMost 132 = .ok (.aload_n 0, 1) := by decide +kernel
theorem dX11_layMost_133 : decode cX11_layMost 133 = .ok (.getfield 30, 3) := by decide +kernel
theorem dX11_layMost_136 : decode cX11_layMost 136 = .ok (.iload_n 1, 1) := by decide +kernel
theorem dX11_layMost_137 : decode cX11_layMost 137 = .ok (.iaload, 1) := by decide +kernel
theorem dX11_layMost_138 : decode cX11_layMost 138 = .ok (.if_icmp .le 8, 3) := by decide +kernel
theorem dX11_layMost_141 : decode cX11_layMost 141 = .ok (.iload 5, 2) := by decide +kernel
theorem dX11_layMost_143 : decode cX11_layMost 143 = .ok (.goto 9, 3) := by decide +kernel
theorem dX11_layMost_146 : decode cX11_layMost 146 = .ok (.aload_n 0, 1) := by decide +kernel
theorem dX11_layMost_147 : decode cX11_layMost 147 = .ok (.getfield 30, 3) := by decide +kernel
theorem dX11_layMost_150 : decode cX11_layMost 150 = .ok (.iload_n 1, 1) := by decide +kernel
theorem dX11_layMost_151 : decode cX11_layMost 151 = .ok (.iaload, 1) := by decide +kernel
theorem dX11_layMost_152 : decode cX11_layMost 152 = .ok (.iastore, 1) := by decide +kernel
theorem dX11_layMost_153 : decode cX11_layMost 153 = .ok (.iinc 4 1, 3) := by decide +kernel
theorem dX11_layMost_156 : decode cX11_layMost 156 = .ok (.goto (-84), 3) := by decide +kernel
theorem dX11_layMost_159 : decode cX11_layMost 159 = .ok (.iinc 1 1, 3) := by decide +kernel
theorem dX11_layMost_162 : decode cX11_layMost 162 = .ok (.goto (-160), 3) := by decide +kernel
theorem dX11_layMost_165 : decode cX11_layMost 165 = .ok (.return_, 1) := by decide +kernel
set_option maxRecDepth 20000 in
theorem ggX11_layMates_X11_many : GoodIn wsX11_layMates wsX11_many := goodIn_r _ [7, 8, 20, 21, 22, 23, 24, 25, 26, 27, 28, 29, 30, 31, 32, 33, 34, 35, 36, 37] rfl (by decide +kernel)
set_option maxRecDepth 20000 in
theorem gX11_layMates_X11_many : GoodIn wsX11_layMates (wsV RX11 52 RX11 yX11_many wsX11_many) := goodIn_app (goodIn_of _ (by decide +kernel)) ggX11_layMates_X11_many
set_option maxRecDepth 20000 in
theorem ggX11_layMates_X11_has : GoodIn wsX11_layMates wsX11_has := goodIn_r _ [11] rfl (by decide +kernel)
set_option maxRecDepth 20000 in
theorem gX11_layMates_X11_has : GoodIn wsX11_layMates (va_wsS RX11 112 yX11_has wsX11_has) := goodIn_app (goodIn_of _ (by decide +kernel)) ggX11_layMates_X11_has
set_option maxRecDepth 20000 in
theorem ggX11_layMates_X11_isPair : GoodIn wsX11_layMates wsX11_isPair := goodIn_r _ [15, 8, 16, 17, 18, 6, 19, 20, 21, 22, 23, 24, 25, 26, 27, 28, 29, 30, 31, 32, 33, 34, 35, 36, 37] rfl (by decide +kernel)
set_option maxRecDepth 20000 in
theorem gX11_layMates_X11_isPair : GoodIn wsX11_layMates (wsV RX11 156 RX11 yX11_isPair wsX11_isPair) := goodIn_app (goodIn_of _ (by decide +kernel)) ggX11_layMates_X11_isPair
theorem dX11_layMates_0 : decode cX11_layMates 0 = .ok (.iconst 1, 1) := by decide +kernel
theorem dX11_layMates_1 : decode cX11_layMates 1 = .ok (.aload_n 0, 1) := by decide +kernel
theorem dX11_layMates_2 : decode cX11_layMates 2 = .ok (.invokevirtual 52, 3) := by decide +kernel
theorem dX11_layMates_5 : decode cX11_layMates 5 = .ok (.ishl, 1) := by decide +kernel
theorem dX11_layMates_6 : decode cX11_layMates 6 = .ok (.iconst 1, 1) := by decide +kernel
theorem dX11_layMates_7 : decode cX11_layMates 7 = .ok (.isub, 1) := by decide +kernel
theorem dX11_layMates_8 : decode cX11_layMates 8 = .ok (.istore_n 1, 1) := by decide +kernel
theorem dX11_layMates_9 : decode cX11_layMates 9 = .ok (.iconst 0, 1) := by decide +kernel
theorem dX11_layMates_10 : decode cX11_layMates 10 = .ok (.istore_n 2, 1) := by decide +kernel
theorem dX11_layMates_11 : decode cX11_layMates 11 = .ok (.iload_n 2, 1) := by decide +kernel
theorem dX11_layMates_12 : decode cX11_layMates 12 = .ok (.aload_n 0, 1) := by decide +kernel
theorem dX11_layMates_13 : decode cX11_layMates 13 = .ok (.invokevirtual 52, 3) := by decide +kernel
theorem dX11_layMates_16 : decode cX11_layMates 16 = .ok (.if_icmp .ge 124, 3) := by decide +kernel
theorem dX11_layMates_19 : decode cX11_layMates 19 = .ok (.iload_n 1, 1) := by decide +kernel
theorem dX11_layMates_20 : decode cX11_layMates 20 = .ok (.iload_n 2, 1) := by decide +kernel
theorem dX11_layMates_21 : decode cX11_layMates 21 = .ok (.invokestatic 112, 3) := by decide +kernel
theorem dX11_layMates_24 : decode cX11_layMates 24 = .ok (.ifCond .eq 110, 3) := by decide +kernel
theorem dX11_layMates_27 : decode cX11_layMates 27 = .ok (.iload_n 1, 1) := by decide +kernel
theorem dX11_layMates_28 : decode cX11_layMates 28 = .ok (.iconst 1, 1) := by decide +kernel
theorem dX11_layMates_29 : decode cX11_layMates 29 = .ok (.iload_n 2, 1) := by decide +kernel
theorem dX11_layMates_30 : decode cX11_layMates 30 = .ok (.ishl, 1) := by decide +kernel
theorem dX11_layMates_31 : decode cX11_layMates 31 = .ok (.iconst (-1), 1) := by decide +kernel
theorem dX11_layMates_32 : decode cX11_layMates 32 = .ok (.ixor, 1) := by decide +kernel
theorem dX11_layMates_33 : decode cX11_layMates 33 = .ok (.iand, 1) := by decide +kernel
theorem dX11_layMates_34 : decode cX11_layMates 34 = .ok (.istore_n 3, 1) := by decide +kernel
theorem dX11_layMates_35 : decode cX11_layMates 35 = .ok (.iconst (-1), 1) := by decide +kernel
theorem dX11_layMates_36 : decode cX11_layMates 36 = .ok (.istore 4, 2) := by decide +kernel
theorem dX11_layMates_38 : decode cX11_layMates 38 = .ok (.aload_n 0, 1) := by decide +kernel
theorem dX11_layMates_39 : decode cX11_layMates 39 = .ok (.getfield 30, 3) := by decide +kernel
theorem dX11_layMates_42 : decode cX11_layMates 42 = .ok (.iload_n 3, 1) := by decide +kernel
theorem dX11_layMates_43 : decode cX11_layMates 43 = .ok (.iaload, 1) := by decide +kernel
theorem dX11_layMates_44 : decode cX11_layMates 44 = .ok (.aload_n 0, 1) := by decide +kernel
theorem dX11_layMates_45 : decode cX11_layMates 45 = .ok (.getfield 30, 3) := by decide +kernel
theorem dX11_layMates_48 : decode cX11_layMates 48 = .ok (.iload_n 1, 1) := by decide +kernel
theorem dX11_layMates_49 : decode cX11_layMates 49 = .ok (.iaload, 1) := by decide +kernel
theorem dX11_layMates_50 : decode cX11_layMates 50 = .ok (.if_icmp .ge 74, 3) := by decide +kernel
theorem dX11_layMates_53 : decode cX11_layMates 53 = .ok (.iload_n 2, 1) := by decide +kernel
theorem dX11_layMates_54 : decode cX11_layMates 54 = .ok (.iconst 1, 1) := by decide +kernel
theorem dX11_layMates_55 : decode cX11_layMates 55 = .ok (.iadd, 1) := by decide +kernel
theorem dX11_layMates_56 : decode cX11_layMates 56 = .ok (.istore 4, 2) := by decide +kernel
theorem dX11_layMates_58 : decode cX11_layMates 58 = .ok (.iload_n 3, 1) := by decide +kernel
theorem dX11_layMates_59 : decode cX11_layMates 59 = .ok (.iload 4, 2) := by decide +kernel
theorem dX11_layMates_61 : decode cX11_layMates 61 = .ok (.invokestatic 112, 3) := by decide +kernel
theorem dX11_layMates_64 : decode cX11_layMates 64 = .ok (.ifCond .eq 37, 3) := by decide +kernel
theorem dX11_layMates_67 : decode cX11_layMates 67 = .ok (.aload_n 0, 1) := by decide +kernel
theorem dX11_layMates_68 : decode cX11_layMates 68 = .ok (.iload_n 2, 1) := by decide +kernel
theorem dX11_layMates_69 : decode cX11_layMates 69 = .ok (.iload 4, 2) := by decide +kernel
theorem dX11_layMates_71 : decode cX11_layMates 71 = .ok (.invokevirtual 156, 3) := by decide +kernel
theorem dX11_layMates_74 : decode cX11_layMates 74 = .ok (.ifCond .eq 27, 3) := by decide +kernel
theorem dX11_layMates_77 : decode cX11_layMates 77 = .ok (.iconst 1, 1) := by decide +kernel
theorem dX11_layMates_78 : decode cX11_layMates 78 = .ok (.aload_n 0, 1) := by decide +kernel
theorem dX11_layMates_79 : decode cX11_layMates 79 = .ok (.getfield 30, 3) := by decide +kernel
theorem dX11_layMates_82 : decode cX11_layMates 82 = .ok (.iload_n 3, 1) := by decide +kernel
theorem dX11_layMates_83 : decode cX11_layMates 83 = .ok (.iconst 1, 1) := by decide +kernel
theorem dX11_layMates_84 : decode cX11_layMates 84 = .ok (.iload 4, 2) := by decide +kernel
theorem dX11_layMates_86 : decode cX11_layMates 86 = .ok (.ishl, 1) := by decide +kernel
theorem dX11_layMates_87 : decode cX11_layMates 87 = .ok (.iconst (-1), 1) := by decide +kernel
theorem dX11_layMates_88 : decode cX11_layMates 88 = .ok (.ixor, 1) := by decide +kernel
theorem dX11_layMates_89 : decode cX11_layMates 89 = .ok (.iand, 1) := by decide +kernel
theorem dX11_layMates_90 : decode cX11_layMates 90 = .ok (.iaload, 1) := by decide +kernel
theorem dX11_layMates_91 : decode cX11_layMates 91 = .ok (.iadd, 1) := by decide +kernel
theorem dX11_layMates_92 : decode cX11_layMates 92 = .ok (.aload_n 0, 1) := by decide +kernel
theorem dX11_layMates_93 : decode cX11_layMates 93 = .ok (.getfield 30, 3) := by decide +kernel
theorem dX11_layMates_96 : decode cX11_layMates 96 = .ok (.iload_n 1, 1) := by decide +kernel
theorem dX11_layMates_97 : decode cX11_layMates 97 = .ok (.iaload, 1) := by decide +kernel
theorem dX11_layMates_98 : decode cX11_layMates 98 = .ok (.if_icmp .ge 9, 3) := by decide +kernel
theorem dX11_layMates_101 : decode cX11_layMates 101 = .ok (.iinc 4 1, 3) := by decide +kernel
theorem dX11_layMates_104 : decode cX11_layMates 104 = .ok (.goto (-46), 3) := by decide +kernel
theorem dX11_layMates_107 : decode cX11_layMates 107 = .ok (.aload_n 0, 1) := by decide +kernel
theorem dX11_layMates_108 : decode cX11_layMates 108 = .ok (.getfield 33, 3) := by decide +kernel
theorem dX11_layMates_111 : decode cX11_layMates 111 = .ok (.iload 4, 2) := by decide +kernel
theorem dX11_layMates_113 : decode cX11_layMates 113 = .ok (.iload_n 2, 1) := by decide +kernel
theorem dX11_layMates_114 : decode cX11_layMates 114 = .ok (.iastore, 1) := by decide +kernel
theorem dX11_layMates_115 : decode cX11_layMates 115 = .ok (.iload_n 3, 1) := by decide +kernel
theorem dX11_layMates_116 : decode cX11_layMates 116 = .ok (.iconst 1, 1) := by decide +kernel
theorem dX11_layMates_117 : decode cX11_layMates 117 = .ok (.iload 4, 2) := by decide +kernel
theorem dX11_layMates_119 : decode cX11_layMates 119 = .ok (.ishl, 1) := by decide +kernel
theorem dX11_layMates_120 : decode cX11_layMates 120 = .ok (.iconst (-1), 1) := by decide +kernel
theorem dX11_layMates_121 : decode cX11_layMates 121 = .ok (.ixor, 1) := by decide +kernel
theorem dX11_layMates_122 : decode cX11_layMates 122 = .ok (.iand, 1) := by decide +kernel
theorem dX11_layMates_123 : decode cX11_layMates 123 = .ok (.istore_n 3, 1) := by decide +kernel
theorem dX11_layMates_124 : decode cX11_layMates 124 = .ok (.aload_n 0, 1) := by decide +kernel
theorem dX11_layMates_125 : decode cX11_layMates 125 = .ok (.getfield 33, 3) := by decide +kernel
theorem dX11_layMates_128 : decode cX11_layMates 128 = .ok (.iload_n 2, 1) := by decide +kernel
theorem dX11_layMates_129 : decode cX11_layMates 129 = .ok (.iload 4, 2) := by decide +kernel
theorem dX11_layMates_131 : decode cX11_layMates 131 = .ok (.iastore, 1) := by decide +kernel
theorem dX11_layMates_132 : decode cX11_layMates 132 = .ok (.iload_n 3, 1) := by decide +kernel
theorem dX11_layMates_133 : decode cX11_layMates 133 = .ok (.istore_n 1, 1) := by decide +kernel
theorem dX11_layMates_134 : decode cX11_layMates 134 = .ok (.iinc 2 1, 3) := by decide +kernel
theorem dX11_layMates_137 : decode cX11_layMates 137 = .ok (.goto (-126), 3) := by decide +kernel
theorem dX11_layMates_140 : decode cX11_layMates 140 = .ok (.return_, 1) := by decide +kernel
set_option maxRecDepth 20000 in
theorem ggX11_pairs_X11_isGlove : GoodIn wsX11_pairs wsX11_isGlove := goodIn_r _ [7, 8, 9, 10, 6, 11, 12, 13, 14, 15, 37, 38, 39, 40, 41, 42, 43, 44, 45, 46, 47, 48, 49, 50, 51, 52, 53, 54] rfl (by decide +kernel)
set_option maxRecDepth 20000 in
theorem gX11_pairs_X11_isGlove : GoodIn wsX11_pairs (wsV RX11 140 RX11 yX11_isGlove wsX11_isGlove) := goodIn_app (goodIn_of _ (by decide +kernel)) ggX11_pairs_X11_isGlove
set_option maxRecDepth 20000 in
theorem ggX11_pairs_X11_bad : GoodIn wsX11_pairs wsX11_bad := goodIn_r _ [19, 20, 37, 38, 39, 40, 41, 42, 43, 44, 45, 46, 47, 48, 49, 50, 51, 52, 53, 54] rfl (by decide +kernel)
set_option maxRecDepth 20000 in
theorem gX11_pairs_X11_bad : GoodIn wsX11_pairs (wsV RX11 70 RX11 yX11_bad wsX11_bad) := goodIn_app (goodIn_of _ (by decide +kernel)) ggX11_pairs_X11_bad
set_option maxRecDepth 20000 in
theorem ggX11_pairs_X11_layMost : GoodIn wsX11_pairs wsX11_layMost := goodIn_r _ [24, 1, 8, 9, 10, 6, 11, 12, 25, 26, 27, 28, 29, 30, 31, 32, 13, 14, 15, 37, 38, 39, 40, 41, 42, 43, 44, 45, 46, 47, 48, 49, 50, 51, 52, 53, 54] rfl (by decide +kernel)
set_option maxRecDepth 20000 in
theorem gX11_pairs_X11_layMost : GoodIn wsX11_pairs (wsV RX11 159 RX11 yX11_layMost wsX11_layMost) := goodIn_app (goodIn_of _ (by decide +kernel)) ggX11_pairs_X11_layMost
set_option maxRecDepth 20000 in
theorem ggX11_pairs_X11_layMates : GoodIn wsX11_pairs wsX11_layMates := goodIn_r _ [36, 1, 2, 8, 9, 10, 6, 11, 12, 25, 26, 27, 28, 29, 30, 31, 32, 13, 14, 15, 37, 38, 39, 40, 41, 42, 43, 44, 45, 46, 47, 48, 49, 50, 51, 52, 53, 54] rfl (by decide +kernel)
set_option maxRecDepth 20000 in
theorem gX11_pairs_X11_layMates : GoodIn wsX11_pairs (wsV RX11 162 RX11 yX11_layMates wsX11_layMates) := goodIn_app (goodIn_of _ (by decide +kernel)) ggX11_pairs_X11_layMates
set_option maxRecDepth 20000 in
theorem ggX11_pairs_X11_many : GoodIn wsX11_pairs wsX11_many := goodIn_r _ [11, 12, 37, 38, 39, 40, 41, 42, 43, 44, 45, 46, 47, 48, 49, 50, 51, 52, 53, 54] rfl (by decide +kernel)
set_option maxRecDepth 20000 in
theorem gX11_pairs_X11_many : GoodIn wsX11_pairs (wsV RX11 52 RX11 yX11_many wsX11_many) := goodIn_app (goodIn_of _ (by decide +kernel)) ggX11_pairs_X11_many
theorem dX11_pairs_0 : decode cX11_pairs 0 = .ok (.iload_n 1, 1) := by decide +kernel
theorem dX11_pairs_1 : decode cX11_pairs 1 = .ok (.iconst (-1), 1) := by decide +kernel
theorem dX11_pairs_2 : decode cX11_pairs 2 = .ok (.if_icmp .eq 18, 3) := by decide +kernel
theorem dX11_pairs_5 : decode cX11_pairs 5 = .ok (.aload_n 0, 1) := by decide +kernel
theorem dX11_pairs_6 : decode cX11_pairs 6 = .ok (.iload_n 1, 1) := by decide +kernel
theorem dX11_pairs_7 : decode cX11_pairs 7 = .ok (.invokevirtual 140, 3) := by decide +kernel
theorem dX11_pairs_10 : decode cX11_pairs 10 = .ok (.ifCond .ne 10, 3) := by decide +kernel
theorem dX11_pairs_13 : decode cX11_pairs 13 = .ok (.aload_n 0, 1) := by decide +kernel
theorem dX11_pairs_14 : decode cX11_pairs 14 = .ok (.bipush (-10), 2) := by decide +kernel
theorem dX11_pairs_16 : decode cX11_pairs 16 = .ok (.invokevirtual 70, 3) := by decide +kernel
theorem dX11_pairs_19 : decode cX11_pairs 19 = .ok (.ireturn, 1) := by decide +kernel
theorem dX11_pairs_20 : decode cX11_pairs 20 = .ok (.aload_n 0, 1) := by decide +kernel
theorem dX11_pairs_21 : decode cX11_pairs 21 = .ok (.invokevirtual 159, 3) := by decide +kernel
theorem dX11_pairs_24 : decode cX11_pairs 24 = .ok (.aload_n 0, 1) := by decide +kernel
theorem dX11_pairs_25 : decode cX11_pairs 25 = .ok (.invokevirtual 162, 3) := by decide +kernel
theorem dX11_pairs_28 : decode cX11_pairs 28 = .ok (.iload_n 1, 1) := by decide +kernel
theorem dX11_pairs_29 : decode cX11_pairs 29 = .ok (.iconst (-1), 1) := by decide +kernel
theorem dX11_pairs_30 : decode cX11_pairs 30 = .ok (.if_icmp .ne 19, 3) := by decide +kernel
theorem dX11_pairs_33 : decode cX11_pairs 33 = .ok (.aload_n 0, 1) := by decide +kernel
theorem dX11_pairs_34 : decode cX11_pairs 34 = .ok (.getfield 30, 3) := by decide +kernel
theorem dX11_pairs_37 : decode cX11_pairs 37 = .ok (.iconst 1, 1) := by decide +kernel
theorem dX11_pairs_38 : decode cX11_pairs 38 = .ok (.aload_n 0, 1) := by decide +kernel
theorem dX11_pairs_39 : decode cX11_pairs 39 = .ok (.invokevirtual 52, 3) := by decide +kernel
theorem dX11_pairs_42 : decode cX11_pairs 42 = .ok (.ishl, 1) := by decide +kernel
theorem dX11_pairs_43 : decode cX11_pairs 43 = .ok (.iconst 1, 1) := by decide +kernel
theorem dX11_pairs_44 : decode cX11_pairs 44 = .ok (.isub, 1) := by decide +kernel
theorem dX11_pairs_45 : decode cX11_pairs 45 = .ok (.iaload, 1) := by decide +kernel
theorem dX11_pairs_46 : decode cX11_pairs 46 = .ok (.goto 9, 3) := by decide +kernel
theorem dX11_pairs_49 : decode cX11_pairs 49 = .ok (.aload_n 0, 1) := by decide +kernel
theorem dX11_pairs_50 : decode cX11_pairs 50 = .ok (.getfield 33, 3) := by decide +kernel
theorem dX11_pairs_53 : decode cX11_pairs 53 = .ok (.iload_n 1, 1) := by decide +kernel
theorem dX11_pairs_54 : decode cX11_pairs 54 = .ok (.iaload, 1) := by decide +kernel
theorem dX11_pairs_55 : decode cX11_pairs 55 = .ok (.ireturn, 1) := by decide +kernel
set_option maxRecDepth 20000 in
theorem ggX11_heap_X11_in : GoodIn wsX11_heap wsX11_in := goodIn_r _ [6] rfl (by decide +kernel)
set_option maxRecDepth 20000 in
theorem gX11_heap_X11_in : GoodIn wsX11_heap (va_wsS RX11 56 yX11_in wsX11_in) := goodIn_app (goodIn_of _ (by decide +kernel)) ggX11_heap_X11_in
set_option maxRecDepth 20000 in
theorem ggX11_heap_X11_bad : GoodIn wsX11_heap wsX11_bad := goodIn_r _ [10, 11, 44, 45, 46, 47, 48, 49, 50, 51, 52, 53, 54, 55, 56, 57, 58, 59, 60, 61] rfl (by decide +kernel)
set_option maxRecDepth 20000 in
theorem gX11_heap_X11_bad : GoodIn wsX11_heap (wsV RX11 70 RX11 yX11_bad wsX11_bad) := goodIn_app (goodIn_of _ (by decide +kernel)) ggX11_heap_X11_bad
set_option maxRecDepth 20000 in
theorem ggX11_heap_X11_layHand : GoodIn wsX11_heap wsX11_layHand := goodIn_r _ [15, 2, 16, 44, 45, 46, 47, 48, 49, 50, 51, 52, 53, 54, 55, 56, 57, 58, 59, 60, 61] rfl (by decide +kernel)
set_option maxRecDepth 20000 in
theorem gX11_heap_X11_layHand : GoodIn wsX11_heap (wsV RX11 147 RX11 yX11_layHand wsX11_layHand) := goodIn_app (goodIn_of _ (by decide +kernel)) ggX11_heap_X11_layHand
set_option maxRecDepth 20000 in
theorem ggX11_heap_X11_behind : GoodIn wsX11_heap wsX11_behind := goodIn_r _ [19] rfl (by decide +kernel)
set_option maxRecDepth 20000 in
theorem gX11_heap_X11_behind : GoodIn wsX11_heap (va_wsS RX11 91 yX11_behind wsX11_behind) := goodIn_app (goodIn_of _ (by decide +kernel)) ggX11_heap_X11_behind
set_option maxRecDepth 20000 in
theorem ggX11_heap_X11_manyAt : GoodIn wsX11_heap wsX11_manyAt := goodIn_r _ [22] rfl (by decide +kernel)
set_option maxRecDepth 20000 in
theorem gX11_heap_X11_manyAt : GoodIn wsX11_heap (va_wsS RX11 116 yX11_manyAt wsX11_manyAt) := goodIn_app (goodIn_of _ (by decide +kernel)) ggX11_heap_X11_manyAt
set_option maxRecDepth 20000 in
theorem ggX11_heap_X11_goHour : GoodIn wsX11_heap wsX11_goHour := goodIn_r _ [25, 26, 27, 5, 28, 29, 30, 31, 20, 21, 22, 32, 33, 34, 17, 18, 19, 35, 36, 37, 38, 39, 40, 41, 42, 43] rfl (by decide +kernel)
set_option maxRecDepth 20000 in
theorem gX11_heap_X11_goHour : GoodIn wsX11_heap (va_wsS RX11 122 yX11_goHour wsX11_goHour) := goodIn_app (goodIn_of _ (by decide +kernel)) ggX11_heap_X11_goHour
theorem dX11_heap_0 : decode cX11_heap 0 = .ok (.iload_n 1, 1) := by decide +kernel
theorem dX11_heap_1 : decode cX11_heap 1 = .ok (.i2l, 1) := by decide +kernel
theorem dX11_heap_2 : decode cX11_heap 2 = .ok (.lconst 0, 1) := by decide +kernel
theorem dX11_heap_3 : decode cX11_heap 3 = .ok (.ldc2_w 165, 3) := by decide +kernel
theorem dX11_heap_6 : decode cX11_heap 6 = .ok (.invokestatic 56, 3) := by decide +kernel
theorem dX11_heap_9 : decode cX11_heap 9 = .ok (.ifCond .ne 10, 3) := by decide +kernel
theorem dX11_heap_12 : decode cX11_heap 12 = .ok (.aload_n 0, 1) := by decide +kernel
theorem dX11_heap_13 : decode cX11_heap 13 = .ok (.bipush (-2), 2) := by decide +kernel
theorem dX11_heap_15 : decode cX11_heap 15 = .ok (.invokevirtual 70, 3) := by decide +kernel
theorem dX11_heap_18 : decode cX11_heap 18 = .ok (.ireturn, 1) := by decide +kernel
theorem dX11_heap_19 : decode cX11_heap 19 = .ok (.iconst 0, 1) := by decide +kernel
theorem dX11_heap_20 : decode cX11_heap 20 = .ok (.istore_n 2, 1) := by decide +kernel
theorem dX11_heap_21 : decode cX11_heap 21 = .ok (.iconst 0, 1) := by decide +kernel
theorem dX11_heap_22 : decode cX11_heap 22 = .ok (.istore_n 3, 1) := by decide +kernel
theorem dX11_heap_23 : decode cX11_heap 23 = .ok (.iconst (-1), 1) := by decide +kernel
theorem dX11_heap_24 : decode cX11_heap 24 = .ok (.istore 4, 2) := by decide +kernel
theorem dX11_heap_26 : decode cX11_heap 26 = .ok (.aload_n 0, 1) := by decide +kernel
theorem dX11_heap_27 : decode cX11_heap 27 = .ok (.invokevirtual 147, 3) := by decide +kernel
theorem dX11_heap_30 : decode cX11_heap 30 = .ok (.iconst 0, 1) := by decide +kernel
theorem dX11_heap_31 : decode cX11_heap 31 = .ok (.istore 5, 2) := by decide +kernel
theorem dX11_heap_33 : decode cX11_heap 33 = .ok (.iload 5, 2) := by decide +kernel
theorem dX11_heap_35 : decode cX11_heap 35 = .ok (.bipush 30, 2) := by decide +kernel
theorem dX11_heap_37 : decode cX11_heap 37 = .ok (.if_icmp .gt 76, 3) := by decide +kernel
theorem dX11_heap_40 : decode cX11_heap 40 = .ok (.iconst 0, 1) := by decide +kernel
theorem dX11_heap_41 : decode cX11_heap 41 = .ok (.istore 6, 2) := by decide +kernel
theorem dX11_heap_43 : decode cX11_heap 43 = .ok (.iload 6, 2) := by decide +kernel
theorem dX11_heap_45 : decode cX11_heap 45 = .ok (.bipush 23, 2) := by decide +kernel
theorem dX11_heap_47 : decode cX11_heap 47 = .ok (.if_icmp .ge 53, 3) := by decide +kernel
theorem dX11_heap_50 : decode cX11_heap 50 = .ok (.aload_n 0, 1) := by decide +kernel
theorem dX11_heap_51 : decode cX11_heap 51 = .ok (.getfield 27, 3) := by decide +kernel
theorem dX11_heap_54 : decode cX11_heap 54 = .ok (.iload 6, 2) := by decide +kernel
theorem dX11_heap_56 : decode cX11_heap 56 = .ok (.invokestatic 91, 3) := by decide +kernel
theorem dX11_heap_59 : decode cX11_heap 59 = .ok (.iconst (-1), 1) := by decide +kernel
theorem dX11_heap_60 : decode cX11_heap 60 = .ok (.if_icmp .ne 7, 3) := by decide +kernel
theorem dX11_heap_63 : decode cX11_heap 63 = .ok (.iconst 0, 1) := by decide +kernel
theorem dX11_heap_64 : decode cX11_heap 64 = .ok (.goto 12, 3) := by decide +kernel
theorem dX11_heap_67 : decode cX11_heap 67 = .ok (.aload_n 0, 1) := by decide +kernel
theorem dX11_heap_68 : decode cX11_heap 68 = .ok (.getfield 27, 3) := by decide +kernel
theorem dX11_heap_71 : decode cX11_heap 71 = .ok (.iload 6, 2) := by decide +kernel
theorem dX11_heap_73 : decode cX11_heap 73 = .ok (.invokestatic 116, 3) := by decide +kernel
theorem dX11_heap_76 : decode cX11_heap 76 = .ok (.istore 7, 2) := by decide +kernel
theorem dX11_heap_78 : decode cX11_heap 78 = .ok (.iload 7, 2) := by decide +kernel
theorem dX11_heap_80 : decode cX11_heap 80 = .ok (.iload_n 2, 1) := by decide +kernel
theorem dX11_heap_81 : decode cX11_heap 81 = .ok (.if_icmp .le 13, 3) := by decide +kernel
theorem dX11_heap_84 : decode cX11_heap 84 = .ok (.iload 7, 2) := by decide +kernel
theorem dX11_heap_86 : decode cX11_heap 86 = .ok (.istore_n 2, 1) := by decide +kernel
theorem dX11_heap_87 : decode cX11_heap 87 = .ok (.iload 5, 2) := by decide +kernel
theorem dX11_heap_89 : decode cX11_heap 89 = .ok (.istore_n 3, 1) := by decide +kernel
theorem dX11_heap_90 : decode cX11_heap 90 = .ok (.iload 6, 2) := by decide +kernel
theorem dX11_heap_92 : decode cX11_heap 92 = .ok (.istore 4, 2) := by decide +kernel
theorem dX11_heap_94 : decode cX11_heap 94 = .ok (.iinc 6 1, 3) := by decide +kernel
theorem dX11_heap_97 : decode cX11_heap 97 = .ok (.goto (-54), 3) := by decide +kernel
theorem dX11_heap_100 : decode cX11_heap 100 = .ok (.aload_n 0, 1) := by decide +kernel
theorem dX11_heap_101 : decode cX11_heap 101 = .ok (.getfield 27, 3) := by decide +kernel
theorem dX11_heap_104 : decode cX11_heap 104 = .ok (.invokestatic 122, 3) := by decide +kernel
theorem dX11_heap_107 : decode cX11_heap 107 = .ok (.iinc 5 1, 3) := by decide +kernel
theorem dX11_heap_110 : decode cX11_heap 110 = .ok (.goto (-77), 3) := by decide +kernel
theorem dX11_heap_113 : decode cX11_heap 113 = .ok (.iload_n 1, 1) := by decide +kernel
theorem dX11_heap_114 : decode cX11_heap 114 = .ok (.ifCond .ne 7, 3) := by decide +kernel
theorem dX11_heap_117 : decode cX11_heap 117 = .ok (.iload_n 2, 1) := by decide +kernel
theorem dX11_heap_118 : decode cX11_heap 118 = .ok (.goto 14, 3) := by decide +kernel
theorem dX11_heap_121 : decode cX11_heap 121 = .ok (.iload_n 1, 1) := by decide +kernel
theorem dX11_heap_122 : decode cX11_heap 122 = .ok (.iconst 1, 1) := by decide +kernel
theorem dX11_heap_123 : decode cX11_heap 123 = .ok (.if_icmp .ne 7, 3) := by decide +kernel
theorem dX11_heap_126 : decode cX11_heap 126 = .ok (.iload_n 3, 1) := by decide +kernel
theorem dX11_heap_127 : decode cX11_heap 127 = .ok (.goto 5, 3) := by decide +kernel
theorem dX11_heap_130 : decode cX11_heap 130 = .ok (.iload 4, 2) := by decide +kernel
theorem dX11_heap_132 : decode cX11_heap 132 = .ok (.ireturn, 1) := by decide +kernel
set_option maxRecDepth 20000 in
theorem ggX11_hold_X11_in : GoodIn wsX11_hold wsX11_in := goodIn_r _ [7] rfl (by decide +kernel)
set_option maxRecDepth 20000 in
theorem gX11_hold_X11_in : GoodIn wsX11_hold (va_wsS RX11 56 yX11_in wsX11_in) := goodIn_app (goodIn_of _ (by decide +kernel)) ggX11_hold_X11_in
set_option maxRecDepth 20000 in
theorem ggX11_hold_X11_bad : GoodIn wsX11_hold wsX11_bad := goodIn_r _ [11, 12, 51, 52, 53, 54, 55, 56, 57, 58, 59, 60, 61, 62, 63, 64, 65, 66, 67, 68] rfl (by decide +kernel)
set_option maxRecDepth 20000 in
theorem gX11_hold_X11_bad : GoodIn wsX11_hold (wsV RX11 70 RX11 yX11_bad wsX11_bad) := goodIn_app (goodIn_of _ (by decide +kernel)) ggX11_hold_X11_bad
set_option maxRecDepth 20000 in
theorem ggX11_hold_X11_layHand : GoodIn wsX11_hold wsX11_layHand := goodIn_r _ [16, 3, 2, 51, 52, 53, 54, 55, 56, 57, 58, 59, 60, 61, 62, 63, 64, 65, 66, 67, 68] rfl (by decide +kernel)
set_option maxRecDepth 20000 in
theorem gX11_hold_X11_layHand : GoodIn wsX11_hold (wsV RX11 147 RX11 yX11_layHand wsX11_layHand) := goodIn_app (goodIn_of _ (by decide +kernel)) ggX11_hold_X11_layHand
set_option maxRecDepth 20000 in
theorem ggX11_hold_X11_goAhead : GoodIn wsX11_hold wsX11_goAhead := goodIn_r _ [20, 3, 21, 22, 6, 23, 24, 25, 26, 27, 28, 29, 30, 31, 32, 33, 34, 35, 36, 37, 38, 39, 40, 41, 42, 43, 44, 45, 46, 47, 51, 52, 53, 54, 55, 56, 57, 58, 59, 60, 61, 62, 63, 64, 65, 66, 67, 68] rfl (by decide +kernel)
set_option maxRecDepth 20000 in
theorem gX11_hold_X11_goAhead : GoodIn wsX11_hold (wsV RX11 150 RX11 yX11_goAhead wsX11_goAhead) := goodIn_app (goodIn_of _ (by decide +kernel)) ggX11_hold_X11_goAhead
set_option maxRecDepth 20000 in
theorem ggX11_hold_X11_manyAt : GoodIn wsX11_hold wsX11_manyAt := goodIn_r _ [32] rfl (by decide +kernel)
set_option maxRecDepth 20000 in
theorem gX11_hold_X11_manyAt : GoodIn wsX11_hold (va_wsS RX11 116 yX11_manyAt wsX11_manyAt) := goodIn_app (goodIn_of _ (by decide +kernel)) ggX11_hold_X11_manyAt
set_option maxRecDepth 20000 in
theorem ggX11_hold_X11_bits : GoodIn wsX11_hold wsX11_bits := goodIn_r _ [50] rfl (by decide +kernel)
set_option maxRecDepth 20000 in
theorem gX11_hold_X11_bits : GoodIn wsX11_hold (va_wsS RX11 167 yX11_bits wsX11_bits) := goodIn_app (goodIn_of _ (by decide +kernel)) ggX11_hold_X11_bits
theorem dX11_hold_0 : decode cX11_hold 0 = .ok (.iload_n 1, 1) := by decide +kernel
theorem dX11_hold_1 : decode cX11_hold 1 = .ok (.i2l, 1) := by decide +kernel
theorem dX11_hold_2 : decode cX11_hold 2 = .ok (.lconst 1, 1) := by decide +kernel
theorem dX11_hold_3 : decode cX11_hold 3 = .ok (.ldc2_w 125, 3) := by decide +kernel
theorem dX11_hold_6 : decode cX11_hold 6 = .ok (.invokestatic 56, 3) := by decide +kernel
theorem dX11_hold_9 : decode cX11_hold 9 = .ok (.ifCond .ne 10, 3) := by decide +kernel
theorem dX11_hold_12 : decode cX11_hold 12 = .ok (.aload_n 0, 1) := by decide +kernel
theorem dX11_hold_13 : decode cX11_hold 13 = .ok (.bipush (-2), 2) := by decide +kernel
theorem dX11_hold_15 : decode cX11_hold 15 = .ok (.invokevirtual 70, 3) := by decide +kernel
theorem dX11_hold_18 : decode cX11_hold 18 = .ok (.ireturn, 1) := by decide +kernel
theorem dX11_hold_19 : decode cX11_hold 19 = .ok (.iconst (-1), 1) := by decide +kernel
theorem dX11_hold_20 : decode cX11_hold 20 = .ok (.istore_n 2, 1) := by decide +kernel
theorem dX11_hold_21 : decode cX11_hold 21 = .ok (.iconst 0, 1) := by decide +kernel
theorem dX11_hold_22 : decode cX11_hold 22 = .ok (.istore_n 3, 1) := by decide +kernel
theorem dX11_hold_23 : decode cX11_hold 23 = .ok (.iload_n 3, 1) := by decide +kernel
theorem dX11_hold_24 : decode cX11_hold 24 = .ok (.iconst 1, 1) := by decide +kernel
theorem dX11_hold_25 : decode cX11_hold 25 = .ok (.aload_n 0, 1) := by decide +kernel
theorem dX11_hold_26 : decode cX11_hold 26 = .ok (.getfield 7, 3) := by decide +kernel
theorem dX11_hold_29 : decode cX11_hold 29 = .ok (.iconst 1, 1) := by decide +kernel
theorem dX11_hold_30 : decode cX11_hold 30 = .ok (.iaload, 1) := by decide +kernel
theorem dX11_hold_31 : decode cX11_hold 31 = .ok (.ishl, 1) := by decide +kernel
theorem dX11_hold_32 : decode cX11_hold 32 = .ok (.if_icmp .ge 81, 3) := by decide +kernel
theorem dX11_hold_35 : decode cX11_hold 35 = .ok (.aload_n 0, 1) := by decide +kernel
theorem dX11_hold_36 : decode cX11_hold 36 = .ok (.invokevirtual 147, 3) := by decide +kernel
theorem dX11_hold_39 : decode cX11_hold 39 = .ok (.aload_n 0, 1) := by decide +kernel
theorem dX11_hold_40 : decode cX11_hold 40 = .ok (.getfield 27, 3) := by decide +kernel
theorem dX11_hold_43 : decode cX11_hold 43 = .ok (.bipush 14, 2) := by decide +kernel
theorem dX11_hold_45 : decode cX11_hold 45 = .ok (.iload_n 3, 1) := by decide +kernel
theorem dX11_hold_46 : decode cX11_hold 46 = .ok (.iastore, 1) := by decide +kernel
theorem dX11_hold_47 : decode cX11_hold 47 = .ok (.aload_n 0, 1) := by decide +kernel
theorem dX11_hold_48 : decode cX11_hold 48 = .ok (.iload_n 1, 1) := by decide +kernel
theorem dX11_hold_49 : decode cX11_hold 49 = .ok (.invokevirtual 150, 3) := by decide +kernel
theorem dX11_hold_52 : decode cX11_hold 52 = .ok (.aload_n 0, 1) := by decide +kernel
theorem dX11_hold_53 : decode cX11_hold 53 = .ok (.getfield 27, 3) := by decide +kernel
theorem dX11_hold_56 : decode cX11_hold 56 = .ok (.bipush 23, 2) := by decide +kernel
theorem dX11_hold_58 : decode cX11_hold 58 = .ok (.invokestatic 116, 3) := by decide +kernel
theorem dX11_hold_61 : decode cX11_hold 61 = .ok (.aload_n 0, 1) := by decide +kernel
theorem dX11_hold_62 : decode cX11_hold 62 = .ok (.getfield 7, 3) := by decide +kernel
theorem dX11_hold_65 : decode cX11_hold 65 = .ok (.bipush 23, 2) := by decide +kernel
theorem dX11_hold_67 : decode cX11_hold 67 = .ok (.invokestatic 116, 3) := by decide +kernel
theorem dX11_hold_70 : decode cX11_hold 70 = .ok (.if_icmp .ne 7, 3) := by decide +kernel
theorem dX11_hold_73 : decode cX11_hold 73 = .ok (.iconst 1, 1) := by decide +kernel
theorem dX11_hold_74 : decode cX11_hold 74 = .ok (.goto 4, 3) := by decide +kernel
theorem dX11_hold_77 : decode cX11_hold 77 = .ok (.iconst 0, 1) := by decide +kernel
theorem dX11_hold_78 : decode cX11_hold 78 = .ok (.istore 4, 2) := by decide +kernel
theorem dX11_hold_80 : decode cX11_hold 80 = .ok (.iload 4, 2) := by decide +kernel
theorem dX11_hold_82 : decode cX11_hold 82 = .ok (.ifCond .eq 23, 3) := by decide +kernel
theorem dX11_hold_85 : decode cX11_hold 85 = .ok (.iload_n 2, 1) := by decide +kernel
theorem dX11_hold_86 : decode cX11_hold 86 = .ok (.iconst (-1), 1) := by decide +kernel
theorem dX11_hold_87 : decode cX11_hold 87 = .ok (.if_icmp .eq 14, 3) := by decide +kernel
theorem dX11_hold_90 : decode cX11_hold 90 = .ok (.iload_n 3, 1) := by decide +kernel
theorem dX11_hold_91 : decode cX11_hold 91 = .ok (.invokestatic 167, 3) := by decide +kernel
theorem dX11_hold_94 : decode cX11_hold 94 = .ok (.iload_n 2, 1) := by decide +kernel
theorem dX11_hold_95 : decode cX11_hold 95 = .ok (.invokestatic 167, 3) := by decide +kernel
theorem dX11_hold_98 : decode cX11_hold 98 = .ok (.if_icmp .ge 7, 3) := by decide +kernel
theorem dX11_hold_101 : decode cX11_hold 101 = .ok (.iload_n 3, 1) := by decide +kernel
theorem dX11_hold_102 : decode cX11_hold 102 = .ok (.goto 4, 3) := by decide +kernel
theorem dX11_hold_105 : decode cX11_hold 105 = .ok (.iload_n 2, 1) := by decide +kernel
theorem dX11_hold_106 : decode cX11_hold 106 = .ok (.istore_n 2, 1) := by decide +kernel
theorem dX11_hold_107 : decode cX11_hold 107 = .ok (.iinc 3 1, 3) := by decide +kernel
theorem dX11_hold_110 : decode cX11_hold 110 = .ok (.goto (-87), 3) := by decide +kernel
theorem dX11_hold_113 : decode cX11_hold 113 = .ok (.iload_n 2, 1) := by decide +kernel
theorem dX11_hold_114 : decode cX11_hold 114 = .ok (.ireturn, 1) := by decide +kernel
set_option maxRecDepth 20000 in
theorem ggX11_drop_X11_isKind : GoodIn wsX11_drop wsX11_isKind := goodIn_r _ [6, 7, 8, 9, 5, 10] rfl (by decide +kernel)
set_option maxRecDepth 20000 in
theorem gX11_drop_X11_isKind : GoodIn wsX11_drop (va_wsS RX11 74 yX11_isKind wsX11_isKind) := goodIn_app (goodIn_of _ (by decide +kernel)) ggX11_drop_X11_isKind
set_option maxRecDepth 20000 in
theorem ggX11_drop_X11_isGlove : GoodIn wsX11_drop wsX11_isGlove := goodIn_r _ [14, 15, 16, 17, 5, 18, 19, 8, 9, 10, 60, 61, 62, 63, 64, 65, 66, 67, 68, 69, 70, 71, 72, 73, 74, 75, 76, 77] rfl (by decide +kernel)
set_option maxRecDepth 20000 in
theorem gX11_drop_X11_isGlove : GoodIn wsX11_drop (wsV RX11 140 RX11 yX11_isGlove wsX11_isGlove) := goodIn_app (goodIn_of _ (by decide +kernel)) ggX11_drop_X11_isGlove
set_option maxRecDepth 20000 in
theorem ggX11_drop_X11_in : GoodIn wsX11_drop wsX11_in := goodIn_r _ [10] rfl (by decide +kernel)
set_option maxRecDepth 20000 in
theorem gX11_drop_X11_in : GoodIn wsX11_drop (va_wsS RX11 56 yX11_in wsX11_in) := goodIn_app (goodIn_of _ (by decide +kernel)) ggX11_drop_X11_in
set_option maxRecDepth 20000 in
theorem ggX11_drop_X11_bad : GoodIn wsX11_drop wsX11_bad := goodIn_r _ [23, 24, 60, 61, 62, 63, 64, 65, 66, 67, 68, 69, 70, 71, 72, 73, 74, 75, 76, 77] rfl (by decide +kernel)
set_option maxRecDepth 20000 in
theorem gX11_drop_X11_bad : GoodIn wsX11_drop (wsV RX11 70 RX11 yX11_bad wsX11_bad) := goodIn_app (goodIn_of _ (by decide +kernel)) ggX11_drop_X11_bad
set_option maxRecDepth 20000 in
theorem ggX11_drop_X11_layHand : GoodIn wsX11_drop wsX11_layHand := goodIn_r _ [28, 2, 19, 60, 61, 62, 63, 64, 65, 66, 67, 68, 69, 70, 71, 72, 73, 74, 75, 76, 77] rfl (by decide +kernel)
set_option maxRecDepth 20000 in
theorem gX11_drop_X11_layHand : GoodIn wsX11_drop (wsV RX11 147 RX11 yX11_layHand wsX11_layHand) := goodIn_app (goodIn_of _ (by decide +kernel)) ggX11_drop_X11_layHand
set_option maxRecDepth 20000 in
theorem ggX11_drop_X11_many : GoodIn wsX11_drop wsX11_many := goodIn_r _ [18, 19, 60, 61, 62, 63, 64, 65, 66, 67, 68, 69, 70, 71, 72, 73, 74, 75, 76, 77] rfl (by decide +kernel)
set_option maxRecDepth 20000 in
theorem gX11_drop_X11_many : GoodIn wsX11_drop (wsV RX11 52 RX11 yX11_many wsX11_many) := goodIn_app (goodIn_of _ (by decide +kernel)) ggX11_drop_X11_many
set_option maxRecDepth 20000 in
theorem ggX11_drop_X11_goAhead : GoodIn wsX11_drop wsX11_goAhead := goodIn_r _ [32, 2, 33, 34, 5, 35, 36, 37, 38, 39, 40, 41, 42, 43, 44, 45, 46, 47, 48, 49, 50, 51, 52, 53, 54, 55, 56, 57, 58, 59, 60, 61, 62, 63, 64, 65, 66, 67, 68, 69, 70, 71, 72, 73, 74, 75, 76, 77] rfl (by decide +kernel)
set_option maxRecDepth 20000 in
theorem gX11_drop_X11_goAhead : GoodIn wsX11_drop (wsV RX11 150 RX11 yX11_goAhead wsX11_goAhead) := goodIn_app (goodIn_of _ (by decide +kernel)) ggX11_drop_X11_goAhead
theorem dX11_drop_0 : decode cX11_drop 0 = .ok (.iload_n 1, 1) := by decide +kernel
theorem dX11_drop_1 : decode cX11_drop 1 = .ok (.invokestatic 74, 3) := by decide +kernel
theorem dX11_drop_4 : decode cX11_drop 4 = .ok (.ifCond .eq 23, 3) := by decide +kernel
theorem dX11_drop_7 : decode cX11_drop 7 = .ok (.aload_n 0, 1) := by decide +kernel
theorem dX11_drop_8 : decode cX11_drop 8 = .ok (.iload_n 2, 1) := by decide +kernel
theorem dX11_drop_9 : decode cX11_drop 9 = .ok (.invokevirtual 140, 3) := by decide +kernel
theorem dX11_drop_12 : decode cX11_drop 12 = .ok (.ifCond .eq 15, 3) := by decide +kernel
theorem dX11_drop_15 : decode cX11_drop 15 = .ok (.iload_n 3, 1) := by decide +kernel
theorem dX11_drop_16 : decode cX11_drop 16 = .ok (.i2l, 1) := by decide +kernel
theorem dX11_drop_17 : decode cX11_drop 17 = .ok (.lconst 1, 1) := by decide +kernel
theorem dX11_drop_18 : decode cX11_drop 18 = .ok (.ldc2_w 170, 3) := by decide +kernel
theorem dX11_drop_21 : decode cX11_drop 21 = .ok (.invokestatic 56, 3) := by decide +kernel
theorem dX11_drop_24 : decode cX11_drop 24 = .ok (.ifCond .ne 10, 3) := by decide +kernel
theorem dX11_drop_27 : decode cX11_drop 27 = .ok (.aload_n 0, 1) := by decide +kernel
theorem dX11_drop_28 : decode cX11_drop 28 = .ok (.bipush (-2), 2) := by decide +kernel
theorem dX11_drop_30 : decode cX11_drop 30 = .ok (.invokevirtual 70, 3) := by decide +kernel
theorem dX11_drop_33 : decode cX11_drop 33 = .ok (.ireturn, 1) := by decide +kernel
theorem dX11_drop_34 : decode cX11_drop 34 = .ok (.iconst 0, 1) := by decide +kernel
theorem dX11_drop_35 : decode cX11_drop 35 = .ok (.istore 4, 2) := by decide +kernel
theorem dX11_drop_37 : decode cX11_drop 37 = .ok (.iconst 0, 1) := by decide +kernel
theorem dX11_drop_38 : decode cX11_drop 38 = .ok (.istore 5, 2) := by decide +kernel
theorem dX11_drop_40 : decode cX11_drop 40 = .ok (.iload 5, 2) := by decide +kernel
theorem dX11_drop_42 : decode cX11_drop 42 = .ok (.bipush 23, 2) := by decide +kernel
theorem dX11_drop_44 : decode cX11_drop 44 = .ok (.if_icmp .ge 92, 3) := by decide +kernel
theorem dX11_drop_47 : decode cX11_drop 47 = .ok (.aload_n 0, 1) := by decide +kernel
theorem dX11_drop_48 : decode cX11_drop 48 = .ok (.invokevirtual 147, 3) := by decide +kernel
theorem dX11_drop_51 : decode cX11_drop 51 = .ok (.aload_n 0, 1) := by decide +kernel
theorem dX11_drop_52 : decode cX11_drop 52 = .ok (.getfield 27, 3) := by decide +kernel
theorem dX11_drop_55 : decode cX11_drop 55 = .ok (.bipush 6, 2) := by decide +kernel
theorem dX11_drop_57 : decode cX11_drop 57 = .ok (.aload_n 0, 1) := by decide +kernel
theorem dX11_drop_58 : decode cX11_drop 58 = .ok (.invokevirtual 52, 3) := by decide +kernel
theorem dX11_drop_61 : decode cX11_drop 61 = .ok (.iadd, 1) := by decide +kernel
theorem dX11_drop_62 : decode cX11_drop 62 = .ok (.iload 5, 2) := by decide +kernel
theorem dX11_drop_64 : decode cX11_drop 64 = .ok (.iastore, 1) := by decide +kernel
theorem dX11_drop_65 : decode cX11_drop 65 = .ok (.aload_n 0, 1) := by decide +kernel
theorem dX11_drop_66 : decode cX11_drop 66 = .ok (.getfield 27, 3) := by decide +kernel
theorem dX11_drop_69 : decode cX11_drop 69 = .ok (.bipush 22, 2) := by decide +kernel
theorem dX11_drop_71 : decode cX11_drop 71 = .ok (.aload_n 0, 1) := by decide +kernel
theorem dX11_drop_72 : decode cX11_drop 72 = .ok (.invokevirtual 52, 3) := by decide +kernel
theorem dX11_drop_75 : decode cX11_drop 75 = .ok (.iadd, 1) := by decide +kernel
theorem dX11_drop_76 : decode cX11_drop 76 = .ok (.iload_n 1, 1) := by decide +kernel
theorem dX11_drop_77 : decode cX11_drop 77 = .ok (.iastore, 1) := by decide +kernel
theorem dX11_drop_78 : decode cX11_drop 78 = .ok (.aload_n 0, 1) := by decide +kernel
theorem dX11_drop_79 : decode cX11_drop 79 = .ok (.getfield 27, 3) := by decide +kernel
theorem dX11_drop_82 : decode cX11_drop 82 = .ok (.iconst 0, 1) := by decide +kernel
theorem dX11_drop_83 : decode cX11_drop 83 = .ok (.dup2, 1) := by decide +kernel
theorem dX11_drop_84 : decode cX11_drop 84 = .ok (.iaload, 1) := by decide +kernel
theorem dX11_drop_85 : decode cX11_drop 85 = .ok (.iconst 1, 1) := by decide +kernel
theorem dX11_drop_86 : decode cX11_drop 86 = .ok (.iadd, 1) := by decide +kernel
theorem dX11_drop_87 : decode cX11_drop 87 = .ok (.iastore, 1) := by decide +kernel
theorem dX11_drop_88 : decode cX11_drop 88 = .ok (.aload_n 0, 1) := by decide +kernel
theorem dX11_drop_89 : decode cX11_drop 89 = .ok (.iload_n 3, 1) := by decide +kernel
theorem dX11_drop_90 : decode cX11_drop 90 = .ok (.invokevirtual 150, 3) := by decide +kernel
theorem dX11_drop_93 : decode cX11_drop 93 = .ok (.iload 4, 2) := by decide +kernel
