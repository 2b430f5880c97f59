theorem dX11_drop_95 : decode cX11_drop 95 = .ok (.aload_n 0, 1) := by decide +kernel
theorem dX11_drop_96 : decode cX11_drop 96 = .ok (.getfield 27, 3) := by decide +kernel
theorem dX11_drop_99 : decode cX11_drop 99 = .ok (.bipush 6, 2) := by decide +kernel
theorem dX11_drop_101 : decode cX11_drop 101 = .ok (.aload_n 0, 1) := by decide +kernel
theorem dX11_drop_102 : decode cX11_drop 102 = .ok (.invokevirtual 52, 3) := by decide +kernel
theorem dX11_drop_105 : decode cX11_drop 105 = .ok (.iadd, 1) := by decide +kernel
theorem dX11_drop_106 : decode cX11_drop 106 = .ok (.iaload, 1) := by decide +kernel
theorem dX11_drop_107 : decode cX11_drop 107 = .ok (.aload_n 0, 1) := by decide +kernel
theorem dX11_drop_108 : decode cX11_drop 108 = .ok (.getfield 27, 3) := by decide +kernel
theorem dX11_drop_111 : decode cX11_drop 111 = .ok (.bipush 6, 2) := by decide +kernel
theorem dX11_drop_113 : decode cX11_drop 113 = .ok (.iload_n 2, 1) := by decide +kernel
theorem dX11_drop_114 : decode cX11_drop 114 = .ok (.iadd, 1) := by decide +kernel
theorem dX11_drop_115 : decode cX11_drop 115 = .ok (.iaload, 1) := by decide +kernel
theorem dX11_drop_116 : decode cX11_drop 116 = .ok (.if_icmp .ne 10, 3) := by decide +kernel
theorem dX11_drop_119 : decode cX11_drop 119 = .ok (.iconst 1, 1) := by decide +kernel
theorem dX11_drop_120 : decode cX11_drop 120 = .ok (.iload 5, 2) := by decide +kernel
theorem dX11_drop_122 : decode cX11_drop 122 = .ok (.ishl, 1) := by decide +kernel
theorem dX11_drop_123 : decode cX11_drop 123 = .ok (.goto 4, 3) := by decide +kernel
theorem dX11_drop_126 : decode cX11_drop 126 = .ok (.iconst 0, 1) := by decide +kernel
theorem dX11_drop_127 : decode cX11_drop 127 = .ok (.ior, 1) := by decide +kernel
theorem dX11_drop_128 : decode cX11_drop 128 = .ok (.istore 4, 2) := by decide +kernel
theorem dX11_drop_130 : decode cX11_drop 130 = .ok (.iinc 5 1, 3) := by decide +kernel
theorem dX11_drop_133 : decode cX11_drop 133 = .ok (.goto (-93), 3) := by decide +kernel
theorem dX11_drop_136 : decode cX11_drop 136 = .ok (.iload 4, 2) := by decide +kernel
theorem dX11_drop_138 : decode cX11_drop 138 = .ok (.ireturn, 1) := by decide +kernel
set_option maxRecDepth 20000 in
theorem ggX11_seen_X11_in : GoodIn wsX11_seen wsX11_in := goodIn_r _ [7] rfl (by decide +kernel)
set_option maxRecDepth 20000 in
theorem gX11_seen_X11_in : GoodIn wsX11_seen (va_wsS RX11 56 yX11_in wsX11_in) := goodIn_app (goodIn_of _ (by decide +kernel)) ggX11_seen_X11_in
set_option maxRecDepth 20000 in
theorem ggX11_seen_X11_bad : GoodIn wsX11_seen wsX11_bad := goodIn_r _ [11, 12, 17, 18, 19, 20, 21, 22, 23, 24, 25, 26, 27, 28, 29, 30, 31, 32, 33, 34] rfl (by decide +kernel)
set_option maxRecDepth 20000 in
theorem gX11_seen_X11_bad : GoodIn wsX11_seen (wsV RX11 70 RX11 yX11_bad wsX11_bad) := goodIn_app (goodIn_of _ (by decide +kernel)) ggX11_seen_X11_bad
set_option maxRecDepth 20000 in
theorem ggX11_seen_X11_full : GoodIn wsX11_seen wsX11_full := goodIn_r _ [16, 12, 17, 18, 19, 20, 21, 22, 23, 24, 25, 26, 27, 28, 29, 30, 31, 32, 33, 34] rfl (by decide +kernel)
set_option maxRecDepth 20000 in
theorem gX11_seen_X11_full : GoodIn wsX11_seen (wsV RX11 82 RX11 yX11_full wsX11_full) := goodIn_app (goodIn_of _ (by decide +kernel)) ggX11_seen_X11_full
theorem dX11_seen_0 : decode cX11_seen 0 = .ok (.iload_n 1, 1) := by decide +kernel
theorem dX11_seen_1 : decode cX11_seen 1 = .ok (.i2l, 1) := by decide +kernel
theorem dX11_seen_2 : decode cX11_seen 2 = .ok (.lconst 0, 1) := by decide +kernel
theorem dX11_seen_3 : decode cX11_seen 3 = .ok (.ldc2_w 125, 3) := by decide +kernel
theorem dX11_seen_6 : decode cX11_seen 6 = .ok (.invokestatic 56, 3) := by decide +kernel
theorem dX11_seen_9 : decode cX11_seen 9 = .ok (.ifCond .eq 15, 3) := by decide +kernel
theorem dX11_seen_12 : decode cX11_seen 12 = .ok (.iload_n 2, 1) := by decide +kernel
theorem dX11_seen_13 : decode cX11_seen 13 = .ok (.i2l, 1) := by decide +kernel
theorem dX11_seen_14 : decode cX11_seen 14 = .ok (.lconst 0, 1) := by decide +kernel
theorem dX11_seen_15 : decode cX11_seen 15 = .ok (.ldc2_w 80, 3) := by decide +kernel
theorem dX11_seen_18 : decode cX11_seen 18 = .ok (.invokestatic 56, 3) := by decide +kernel
theorem dX11_seen_21 : decode cX11_seen 21 = .ok (.ifCond .ne 10, 3) := by decide +kernel
theorem dX11_seen_24 : decode cX11_seen 24 = .ok (.aload_n 0, 1) := by decide +kernel
theorem dX11_seen_25 : decode cX11_seen 25 = .ok (.bipush (-2), 2) := by decide +kernel
theorem dX11_seen_27 : decode cX11_seen 27 = .ok (.invokevirtual 70, 3) := by decide +kernel
theorem dX11_seen_30 : decode cX11_seen 30 = .ok (.ireturn, 1) := by decide +kernel
theorem dX11_seen_31 : decode cX11_seen 31 = .ok (.aload_n 0, 1) := by decide +kernel
theorem dX11_seen_32 : decode cX11_seen 32 = .ok (.getfield 7, 3) := by decide +kernel
theorem dX11_seen_35 : decode cX11_seen 35 = .ok (.iconst 2, 1) := by decide +kernel
theorem dX11_seen_36 : decode cX11_seen 36 = .ok (.iaload, 1) := by decide +kernel
theorem dX11_seen_37 : decode cX11_seen 37 = .ok (.iconst 5, 1) := by decide +kernel
theorem dX11_seen_38 : decode cX11_seen 38 = .ok (.if_icmp .ne 8, 3) := by decide +kernel
theorem dX11_seen_41 : decode cX11_seen 41 = .ok (.aload_n 0, 1) := by decide +kernel
theorem dX11_seen_42 : decode cX11_seen 42 = .ok (.invokevirtual 82, 3) := by decide +kernel
theorem dX11_seen_45 : decode cX11_seen 45 = .ok (.ireturn, 1) := by decide +kernel
theorem dX11_seen_46 : decode cX11_seen 46 = .ok (.aload_n 0, 1) := by decide +kernel
theorem dX11_seen_47 : decode cX11_seen 47 = .ok (.getfield 7, 3) := by decide +kernel
theorem dX11_seen_50 : decode cX11_seen 50 = .ok (.bipush 43, 2) := by decide +kernel
theorem dX11_seen_52 : decode cX11_seen 52 = .ok (.iconst 2, 1) := by decide +kernel
theorem dX11_seen_53 : decode cX11_seen 53 = .ok (.aload_n 0, 1) := by decide +kernel
theorem dX11_seen_54 : decode cX11_seen 54 = .ok (.getfield 7, 3) := by decide +kernel
theorem dX11_seen_57 : decode cX11_seen 57 = .ok (.iconst 2, 1) := by decide +kernel
theorem dX11_seen_58 : decode cX11_seen 58 = .ok (.iaload, 1) := by decide +kernel
theorem dX11_seen_59 : decode cX11_seen 59 = .ok (.imul, 1) := by decide +kernel
theorem dX11_seen_60 : decode cX11_seen 60 = .ok (.iadd, 1) := by decide +kernel
theorem dX11_seen_61 : decode cX11_seen 61 = .ok (.iload_n 1, 1) := by decide +kernel
theorem dX11_seen_62 : decode cX11_seen 62 = .ok (.iastore, 1) := by decide +kernel
theorem dX11_seen_63 : decode cX11_seen 63 = .ok (.aload_n 0, 1) := by decide +kernel
theorem dX11_seen_64 : decode cX11_seen 64 = .ok (.getfield 7, 3) := by decide +kernel
theorem dX11_seen_67 : decode cX11_seen 67 = .ok (.bipush 43, 2) := by decide +kernel
theorem dX11_seen_69 : decode cX11_seen 69 = .ok (.iconst 2, 1) := by decide +kernel
theorem dX11_seen_70 : decode cX11_seen 70 = .ok (.aload_n 0, 1) := by decide +kernel
theorem dX11_seen_71 : decode cX11_seen 71 = .ok (.getfield 7, 3) := by decide +kernel
theorem dX11_seen_74 : decode cX11_seen 74 = .ok (.iconst 2, 1) := by decide +kernel
theorem dX11_seen_75 : decode cX11_seen 75 = .ok (.iaload, 1) := by decide +kernel
theorem dX11_seen_76 : decode cX11_seen 76 = .ok (.imul, 1) := by decide +kernel
theorem dX11_seen_77 : decode cX11_seen 77 = .ok (.iadd, 1) := by decide +kernel
theorem dX11_seen_78 : decode cX11_seen 78 = .ok (.iconst 1, 1) := by decide +kernel
theorem dX11_seen_79 : decode cX11_seen 79 = .ok (.iadd, 1) := by decide +kernel
theorem dX11_seen_80 : decode cX11_seen 80 = .ok (.iload_n 2, 1) := by decide +kernel
theorem dX11_seen_81 : decode cX11_seen 81 = .ok (.iastore, 1) := by decide +kernel
theorem dX11_seen_82 : decode cX11_seen 82 = .ok (.aload_n 0, 1) := by decide +kernel
theorem dX11_seen_83 : decode cX11_seen 83 = .ok (.getfield 7, 3) := by decide +kernel
theorem dX11_seen_86 : decode cX11_seen 86 = .ok (.iconst 2, 1) := by decide +kernel
theorem dX11_seen_87 : decode cX11_seen 87 = .ok (.dup2, 1) := by decide +kernel
theorem dX11_seen_88 : decode cX11_seen 88 = .ok (.iaload, 1) := by decide +kernel
theorem dX11_seen_89 : decode cX11_seen 89 = .ok (.iconst 1, 1) := by decide +kernel
theorem dX11_seen_90 : decode cX11_seen 90 = .ok (.iadd, 1) := by decide +kernel
theorem dX11_seen_91 : decode cX11_seen 91 = .ok (.iastore, 1) := by decide +kernel
theorem dX11_seen_92 : decode cX11_seen 92 = .ok (.aload_n 0, 1) := by decide +kernel
theorem dX11_seen_93 : decode cX11_seen 93 = .ok (.getfield 7, 3) := by decide +kernel
theorem dX11_seen_96 : decode cX11_seen 96 = .ok (.iconst 2, 1) := by decide +kernel
theorem dX11_seen_97 : decode cX11_seen 97 = .ok (.iaload, 1) := by decide +kernel
theorem dX11_seen_98 : decode cX11_seen 98 = .ok (.ireturn, 1) := by decide +kernel
set_option maxRecDepth 20000 in
theorem ggX11_seenOnes_X11_many : GoodIn wsX11_seenOnes wsX11_many := goodIn_r _ [7, 1, 43, 44, 45, 46, 47, 48, 49, 50, 51, 52, 53, 54, 55, 56, 57, 58, 59, 60] rfl (by decide +kernel)
set_option maxRecDepth 20000 in
theorem gX11_seenOnes_X11_many : GoodIn wsX11_seenOnes (wsV RX11 52 RX11 yX11_many wsX11_many) := goodIn_app (goodIn_of _ (by decide +kernel)) ggX11_seenOnes_X11_many
set_option maxRecDepth 20000 in
theorem ggX11_seenOnes_X11_layHand : GoodIn wsX11_seenOnes wsX11_layHand := goodIn_r _ [11, 2, 1, 43, 44, 45, 46, 47, 48, 49, 50, 51, 52, 53, 54, 55, 56, 57, 58, 59, 60] rfl (by decide +kernel)
set_option maxRecDepth 20000 in
theorem gX11_seenOnes_X11_layHand : GoodIn wsX11_seenOnes (wsV RX11 147 RX11 yX11_layHand wsX11_layHand) := goodIn_app (goodIn_of _ (by decide +kernel)) ggX11_seenOnes_X11_layHand
set_option maxRecDepth 20000 in
theorem ggX11_seenOnes_X11_goAhead : GoodIn wsX11_seenOnes wsX11_goAhead := goodIn_r _ [15, 2, 16, 17, 6, 18, 19, 20, 21, 22, 23, 24, 25, 26, 27, 28, 29, 30, 31, 32, 33, 34, 35, 36, 37, 38, 39, 40, 41, 42, 43, 44, 45, 46, 47, 48, 49, 50, 51, 52, 53, 54, 55, 56, 57, 58, 59, 60] rfl (by decide +kernel)
set_option maxRecDepth 20000 in
theorem gX11_seenOnes_X11_goAhead : GoodIn wsX11_seenOnes (wsV RX11 150 RX11 yX11_goAhead wsX11_goAhead) := goodIn_app (goodIn_of _ (by decide +kernel)) ggX11_seenOnes_X11_goAhead
theorem dX11_seenOnes_0 : decode cX11_seenOnes 0 = .ok (.iconst 1, 1) := by decide +kernel
theorem dX11_seenOnes_1 : decode cX11_seenOnes 1 = .ok (.aload_n 0, 1) := by decide +kernel
theorem dX11_seenOnes_2 : decode cX11_seenOnes 2 = .ok (.invokevirtual 52, 3) := by decide +kernel
theorem dX11_seenOnes_5 : decode cX11_seenOnes 5 = .ok (.ishl, 1) := by decide +kernel
theorem dX11_seenOnes_6 : decode cX11_seenOnes 6 = .ok (.iconst 1, 1) := by decide +kernel
theorem dX11_seenOnes_7 : decode cX11_seenOnes 7 = .ok (.isub, 1) := by decide +kernel
theorem dX11_seenOnes_8 : decode cX11_seenOnes 8 = .ok (.istore_n 1, 1) := by decide +kernel
theorem dX11_seenOnes_9 : decode cX11_seenOnes 9 = .ok (.iconst 0, 1) := by decide +kernel
theorem dX11_seenOnes_10 : decode cX11_seenOnes 10 = .ok (.istore_n 2, 1) := by decide +kernel
theorem dX11_seenOnes_11 : decode cX11_seenOnes 11 = .ok (.iload_n 2, 1) := by decide +kernel
theorem dX11_seenOnes_12 : decode cX11_seenOnes 12 = .ok (.aload_n 0, 1) := by decide +kernel
theorem dX11_seenOnes_13 : decode cX11_seenOnes 13 = .ok (.getfield 7, 3) := by decide +kernel
theorem dX11_seenOnes_16 : decode cX11_seenOnes 16 = .ok (.iconst 2, 1) := by decide +kernel
theorem dX11_seenOnes_17 : decode cX11_seenOnes 17 = .ok (.iaload, 1) := by decide +kernel
theorem dX11_seenOnes_18 : decode cX11_seenOnes 18 = .ok (.if_icmp .ge 81, 3) := by decide +kernel
theorem dX11_seenOnes_21 : decode cX11_seenOnes 21 = .ok (.aload_n 0, 1) := by decide +kernel
theorem dX11_seenOnes_22 : decode cX11_seenOnes 22 = .ok (.invokevirtual 147, 3) := by decide +kernel
theorem dX11_seenOnes_25 : decode cX11_seenOnes 25 = .ok (.aload_n 0, 1) := by decide +kernel
theorem dX11_seenOnes_26 : decode cX11_seenOnes 26 = .ok (.aload_n 0, 1) := by decide +kernel
theorem dX11_seenOnes_27 : decode cX11_seenOnes 27 = .ok (.getfield 7, 3) := by decide +kernel
theorem dX11_seenOnes_30 : decode cX11_seenOnes 30 = .ok (.bipush 43, 2) := by decide +kernel
theorem dX11_seenOnes_32 : decode cX11_seenOnes 32 = .ok (.iconst 2, 1) := by decide +kernel
theorem dX11_seenOnes_33 : decode cX11_seenOnes 33 = .ok (.iload_n 2, 1) := by decide +kernel
theorem dX11_seenOnes_34 : decode cX11_seenOnes 34 = .ok (.imul, 1) := by decide +kernel
theorem dX11_seenOnes_35 : decode cX11_seenOnes 35 = .ok (.iadd, 1) := by decide +kernel
theorem dX11_seenOnes_36 : decode cX11_seenOnes 36 = .ok (.iaload, 1) := by decide +kernel
theorem dX11_seenOnes_37 : decode cX11_seenOnes 37 = .ok (.invokevirtual 150, 3) := by decide +kernel
theorem dX11_seenOnes_40 : decode cX11_seenOnes 40 = .ok (.iconst 0, 1) := by decide +kernel
theorem dX11_seenOnes_41 : decode cX11_seenOnes 41 = .ok (.istore_n 3, 1) := by decide +kernel
theorem dX11_seenOnes_42 : decode cX11_seenOnes 42 = .ok (.iload_n 3, 1) := by decide +kernel
theorem dX11_seenOnes_43 : decode cX11_seenOnes 43 = .ok (.aload_n 0, 1) := by decide +kernel
theorem dX11_seenOnes_44 : decode cX11_seenOnes 44 = .ok (.invokevirtual 52, 3) := by decide +kernel
theorem dX11_seenOnes_47 : decode cX11_seenOnes 47 = .ok (.if_icmp .ge 46, 3) := by decide +kernel
theorem dX11_seenOnes_50 : decode cX11_seenOnes 50 = .ok (.iload_n 1, 1) := by decide +kernel
theorem dX11_seenOnes_51 : decode cX11_seenOnes 51 = .ok (.aload_n 0, 1) := by decide +kernel
theorem dX11_seenOnes_52 : decode cX11_seenOnes 52 = .ok (.getfield 27, 3) := by decide +kernel
theorem dX11_seenOnes_55 : decode cX11_seenOnes 55 = .ok (.bipush 6, 2) := by decide +kernel
theorem dX11_seenOnes_57 : decode cX11_seenOnes 57 = .ok (.iload_n 3, 1) := by decide +kernel
theorem dX11_seenOnes_58 : decode cX11_seenOnes 58 = .ok (.iadd, 1) := by decide +kernel
theorem dX11_seenOnes_59 : decode cX11_seenOnes 59 = .ok (.iaload, 1) := by decide +kernel
theorem dX11_seenOnes_60 : decode cX11_seenOnes 60 = .ok (.aload_n 0, 1) := by decide +kernel
theorem dX11_seenOnes_61 : decode cX11_seenOnes 61 = .ok (.getfield 7, 3) := by decide +kernel
theorem dX11_seenOnes_64 : decode cX11_seenOnes 64 = .ok (.bipush 43, 2) := by decide +kernel
theorem dX11_seenOnes_66 : decode cX11_seenOnes 66 = .ok (.iconst 2, 1) := by decide +kernel
theorem dX11_seenOnes_67 : decode cX11_seenOnes 67 = .ok (.iload_n 2, 1) := by decide +kernel
theorem dX11_seenOnes_68 : decode cX11_seenOnes 68 = .ok (.imul, 1) := by decide +kernel
theorem dX11_seenOnes_69 : decode cX11_seenOnes 69 = .ok (.iadd, 1) := by decide +kernel
theorem dX11_seenOnes_70 : decode cX11_seenOnes 70 = .ok (.iconst 1, 1) := by decide +kernel
theorem dX11_seenOnes_71 : decode cX11_seenOnes 71 = .ok (.iadd, 1) := by decide +kernel
theorem dX11_seenOnes_72 : decode cX11_seenOnes 72 = .ok (.iaload, 1) := by decide +kernel
theorem dX11_seenOnes_73 : decode cX11_seenOnes 73 = .ok (.if_icmp .ne 7, 3) := by decide +kernel
theorem dX11_seenOnes_76 : decode cX11_seenOnes 76 = .ok (.iload_n 1, 1) := by decide +kernel
theorem dX11_seenOnes_77 : decode cX11_seenOnes 77 = .ok (.goto 8, 3) := by decide +kernel
theorem dX11_seenOnes_80 : decode cX11_seenOnes 80 = .ok (.iconst 1, 1) := by decide +kernel
theorem dX11_seenOnes_81 : decode cX11_seenOnes 81 = .ok (.iload_n 3, 1) := by decide +kernel
theorem dX11_seenOnes_82 : decode cX11_seenOnes 82 = .ok (.ishl, 1) := by decide +kernel
theorem dX11_seenOnes_83 : decode cX11_seenOnes 83 = .ok (.iconst (-1), 1) := by decide +kernel
theorem dX11_seenOnes_84 : decode cX11_seenOnes 84 = .ok (.ixor, 1) := by decide +kernel
theorem dX11_seenOnes_85 : decode cX11_seenOnes 85 = .ok (.iand, 1) := by decide +kernel
theorem dX11_seenOnes_86 : decode cX11_seenOnes 86 = .ok (.istore_n 1, 1) := by decide +kernel
theorem dX11_seenOnes_87 : decode cX11_seenOnes 87 = .ok (.iinc 3 1, 3) := by decide +kernel
theorem dX11_seenOnes_90 : decode cX11_seenOnes 90 = .ok (.goto (-48), 3) := by decide +kernel
theorem dX11_seenOnes_93 : decode cX11_seenOnes 93 = .ok (.iinc 2 1, 3) := by decide +kernel
theorem dX11_seenOnes_96 : decode cX11_seenOnes 96 = .ok (.goto (-85), 3) := by decide +kernel
theorem dX11_seenOnes_99 : decode cX11_seenOnes 99 = .ok (.iload_n 1, 1) := by decide +kernel
theorem dX11_seenOnes_100 : decode cX11_seenOnes 100 = .ok (.ireturn, 1) := by decide +kernel
set_option maxRecDepth 20000 in
theorem ggX11_which_X11_seenOnes : GoodIn wsX11_which wsX11_seenOnes := goodIn_r _ [5, 6, 7, 8, 9, 10, 4, 11, 12, 13, 14, 15, 16, 17, 18, 19, 20, 21, 22, 23, 24, 25, 26, 27, 28, 29, 30, 31, 32, 33, 34, 35, 36, 37, 38, 39, 40, 41, 42, 43, 44, 45, 46, 47, 48, 49, 50, 51, 52, 53, 54, 55, 56, 57, 58, 59, 60, 61, 62, 63, 64] rfl (by decide +kernel)
set_option maxRecDepth 20000 in
theorem gX11_which_X11_seenOnes : GoodIn wsX11_which (wsV RX11 172 RX11 yX11_seenOnes wsX11_seenOnes) := goodIn_app (goodIn_of _ (by decide +kernel)) ggX11_which_X11_seenOnes
theorem dX11_which_0 : decode cX11_which 0 = .ok (.aload_n 0, 1) := by decide +kernel
theorem dX11_which_1 : decode cX11_which 1 = .ok (.invokevirtual 172, 3) := by decide +kernel
theorem dX11_which_4 : decode cX11_which 4 = .ok (.ireturn, 1) := by decide +kernel
set_option maxRecDepth 20000 in
theorem ggX11_tell_X11_seenOnes : GoodIn wsX11_tell wsX11_seenOnes := goodIn_r _ [7, 8, 2, 9, 10, 11, 6, 12, 13, 14, 15, 16, 17, 18, 19, 20, 21, 22, 23, 24, 25, 26, 27, 28, 29, 30, 31, 32, 33, 34, 35, 36, 37, 38, 39, 40, 41, 42, 43, 44, 45, 46, 47, 48, 49, 50, 51, 52, 53, 54, 55, 56, 57, 58, 59, 60, 61, 62, 63, 64, 65] rfl (by decide +kernel)
set_option maxRecDepth 20000 in
theorem gX11_tell_X11_seenOnes : GoodIn wsX11_tell (wsV RX11 172 RX11 yX11_seenOnes wsX11_seenOnes) := goodIn_app (goodIn_of _ (by decide +kernel)) ggX11_tell_X11_seenOnes
set_option maxRecDepth 20000 in
theorem ggX11_tell_X11_layHand : GoodIn wsX11_tell wsX11_layHand := goodIn_r _ [16, 2, 8, 48, 49, 50, 51, 52, 53, 54, 55, 56, 57, 58, 59, 60, 61, 62, 63, 64, 65] rfl (by decide +kernel)
set_option maxRecDepth 20000 in
theorem gX11_tell_X11_layHand : GoodIn wsX11_tell (wsV RX11 147 RX11 yX11_layHand wsX11_layHand) := goodIn_app (goodIn_of _ (by decide +kernel)) ggX11_tell_X11_layHand
set_option maxRecDepth 20000 in
theorem ggX11_tell_X11_many : GoodIn wsX11_tell wsX11_many := goodIn_r _ [12, 8, 48, 49, 50, 51, 52, 53, 54, 55, 56, 57, 58, 59, 60, 61, 62, 63, 64, 65] rfl (by decide +kernel)
set_option maxRecDepth 20000 in
theorem gX11_tell_X11_many : GoodIn wsX11_tell (wsV RX11 52 RX11 yX11_many wsX11_many) := goodIn_app (goodIn_of _ (by decide +kernel)) ggX11_tell_X11_many
set_option maxRecDepth 20000 in
theorem ggX11_tell_X11_has : GoodIn wsX11_tell wsX11_has := goodIn_r _ [29] rfl (by decide +kernel)
set_option maxRecDepth 20000 in
theorem gX11_tell_X11_has : GoodIn wsX11_tell (va_wsS RX11 112 yX11_has wsX11_has) := goodIn_app (goodIn_of _ (by decide +kernel)) ggX11_tell_X11_has
set_option maxRecDepth 20000 in
theorem ggX11_tell_X11_goHour : GoodIn wsX11_tell wsX11_goHour := goodIn_r _ [23, 24, 25, 6, 26, 27, 28, 29, 30, 31, 32, 33, 34, 35, 36, 37, 38, 39, 40, 41, 42, 43, 44, 45, 46, 47] rfl (by decide +kernel)
set_option maxRecDepth 20000 in
theorem gX11_tell_X11_goHour : GoodIn wsX11_tell (va_wsS RX11 122 yX11_goHour wsX11_goHour) := goodIn_app (goodIn_of _ (by decide +kernel)) ggX11_tell_X11_goHour
theorem dX11_tell_0 : decode cX11_tell 0 = .ok (.aload_n 0, 1) := by decide +kernel
theorem dX11_tell_1 : decode cX11_tell 1 = .ok (.invokevirtual 172, 3) := by decide +kernel
theorem dX11_tell_4 : decode cX11_tell 4 = .ok (.istore_n 1, 1) := by decide +kernel
theorem dX11_tell_5 : decode cX11_tell 5 = .ok (.iconst (-1), 1) := by decide +kernel
theorem dX11_tell_6 : decode cX11_tell 6 = .ok (.istore_n 2, 1) := by decide +kernel
theorem dX11_tell_7 : decode cX11_tell 7 = .ok (.ldc 175, 2) := by decide +kernel
theorem dX11_tell_9 : decode cX11_tell 9 = .ok (.istore_n 3, 1) := by decide +kernel
theorem dX11_tell_10 : decode cX11_tell 10 = .ok (.aload_n 0, 1) := by decide +kernel
theorem dX11_tell_11 : decode cX11_tell 11 = .ok (.invokevirtual 147, 3) := by decide +kernel
theorem dX11_tell_14 : decode cX11_tell 14 = .ok (.iconst 0, 1) := by decide +kernel
theorem dX11_tell_15 : decode cX11_tell 15 = .ok (.istore 4, 2) := by decide +kernel
theorem dX11_tell_17 : decode cX11_tell 17 = .ok (.iload 4, 2) := by decide +kernel
theorem dX11_tell_19 : decode cX11_tell 19 = .ok (.bipush 20, 2) := by decide +kernel
theorem dX11_tell_21 : decode cX11_tell 21 = .ok (.if_icmp .gt 155, 3) := by decide +kernel
theorem dX11_tell_24 : decode cX11_tell 24 = .ok (.iload_n 1, 1) := by decide +kernel
theorem dX11_tell_25 : decode cX11_tell 25 = .ok (.ifCond .eq 151, 3) := by decide +kernel
theorem dX11_tell_28 : decode cX11_tell 28 = .ok (.iconst 0, 1) := by decide +kernel
theorem dX11_tell_29 : decode cX11_tell 29 = .ok (.istore 5, 2) := by decide +kernel
theorem dX11_tell_31 : decode cX11_tell 31 = .ok (.iconst 0, 1) := by decide +kernel
theorem dX11_tell_32 : decode cX11_tell 32 = .ok (.istore 6, 2) := by decide +kernel
theorem dX11_tell_34 : decode cX11_tell 34 = .ok (.iload 6, 2) := by decide +kernel
theorem dX11_tell_36 : decode cX11_tell 36 = .ok (.aload_n 0, 1) := by decide +kernel
theorem dX11_tell_37 : decode cX11_tell 37 = .ok (.invokevirtual 52, 3) := by decide +kernel
theorem dX11_tell_40 : decode cX11_tell 40 = .ok (.if_icmp .ge 97, 3) := by decide +kernel
theorem dX11_tell_43 : decode cX11_tell 43 = .ok (.iconst 0, 1) := by decide +kernel
theorem dX11_tell_44 : decode cX11_tell 44 = .ok (.istore 7, 2) := by decide +kernel
theorem dX11_tell_46 : decode cX11_tell 46 = .ok (.iconst 0, 1) := by decide +kernel
theorem dX11_tell_47 : decode cX11_tell 47 = .ok (.istore 8, 2) := by decide +kernel
theorem dX11_tell_49 : decode cX11_tell 49 = .ok (.iload 8, 2) := by decide +kernel
theorem dX11_tell_51 : decode cX11_tell 51 = .ok (.aload_n 0, 1) := by decide +kernel
theorem dX11_tell_52 : decode cX11_tell 52 = .ok (.invokevirtual 52, 3) := by decide +kernel
theorem dX11_tell_55 : decode cX11_tell 55 = .ok (.if_icmp .ge 60, 3) := by decide +kernel
theorem dX11_tell_58 : decode cX11_tell 58 = .ok (.iload_n 1, 1) := by decide +kernel
theorem dX11_tell_59 : decode cX11_tell 59 = .ok (.iload 6, 2) := by decide +kernel
theorem dX11_tell_61 : decode cX11_tell 61 = .ok (.invokestatic 112, 3) := by decide +kernel
theorem dX11_tell_64 : decode cX11_tell 64 = .ok (.ifCond .eq 51, 3) := by decide +kernel
theorem dX11_tell_67 : decode cX11_tell 67 = .ok (.iload 7, 2) := by decide +kernel
theorem dX11_tell_69 : decode cX11_tell 69 = .ok (.iload_n 1, 1) := by decide +kernel
theorem dX11_tell_70 : decode cX11_tell 70 = .ok (.iload 8, 2) := by decide +kernel
theorem dX11_tell_72 : decode cX11_tell 72 = .ok (.invokestatic 112, 3) := by decide +kernel
theorem dX11_tell_75 : decode cX11_tell 75 = .ok (.ifCond .eq 30, 3) := by decide +kernel
theorem dX11_tell_78 : decode cX11_tell 78 = .ok (.aload_n 0, 1) := by decide +kernel
theorem dX11_tell_79 : decode cX11_tell 79 = .ok (.getfield 27, 3) := by decide +kernel
theorem dX11_tell_82 : decode cX11_tell 82 = .ok (.bipush 6, 2) := by decide +kernel
theorem dX11_tell_84 : decode cX11_tell 84 = .ok (.iload 8, 2) := by decide +kernel
theorem dX11_tell_86 : decode cX11_tell 86 = .ok (.iadd, 1) := by decide +kernel
theorem dX11_tell_87 : decode cX11_tell 87 = .ok (.iaload, 1) := by decide +kernel
theorem dX11_tell_88 : decode cX11_tell 88 = .ok (.aload_n 0, 1) := by decide +kernel
theorem dX11_tell_89 : decode cX11_tell 89 = .ok (.getfield 27, 3) := by decide +kernel
theorem dX11_tell_92 : decode cX11_tell 92 = .ok (.bipush 6, 2) := by decide +kernel
theorem dX11_tell_94 : decode cX11_tell 94 = .ok (.iload 6, 2) := by decide +kernel
theorem dX11_tell_96 : decode cX11_tell 96 = .ok (.iadd, 1) := by decide +kernel
theorem dX11_tell_97 : decode cX11_tell 97 = .ok (.iaload, 1) := by decide +kernel
theorem dX11_tell_98 : decode cX11_tell 98 = .ok (.if_icmp .ne 7, 3) := by decide +kernel
theorem dX11_tell_101 : decode cX11_tell 101 = .ok (.iconst 1, 1) := by decide +kernel
theorem dX11_tell_102 : decode cX11_tell 102 = .ok (.goto 4, 3) := by decide +kernel
theorem dX11_tell_105 : decode cX11_tell 105 = .ok (.iconst 0, 1) := by decide +kernel
theorem dX11_tell_106 : decode cX11_tell 106 = .ok (.iadd, 1) := by decide +kernel
theorem dX11_tell_107 : decode cX11_tell 107 = .ok (.istore 7, 2) := by decide +kernel
theorem dX11_tell_109 : decode cX11_tell 109 = .ok (.iinc 8 1, 3) := by decide +kernel
theorem dX11_tell_112 : decode cX11_tell 112 = .ok (.goto (-63), 3) := by decide +kernel
theorem dX11_tell_115 : decode cX11_tell 115 = .ok (.iload 7, 2) := by decide +kernel
theorem dX11_tell_117 : decode cX11_tell 117 = .ok (.iload 5, 2) := by decide +kernel
theorem dX11_tell_119 : decode cX11_tell 119 = .ok (.if_icmp .le 8, 3) := by decide +kernel
theorem dX11_tell_122 : decode cX11_tell 122 = .ok (.iload 7, 2) := by decide +kernel
theorem dX11_tell_124 : decode cX11_tell 124 = .ok (.goto 5, 3) := by decide +kernel
theorem dX11_tell_127 : decode cX11_tell 127 = .ok (.iload 5, 2) := by decide +kernel
theorem dX11_tell_129 : decode cX11_tell 129 = .ok (.istore 5, 2) := by decide +kernel
theorem dX11_tell_131 : decode cX11_tell 131 = .ok (.iinc 6 1, 3) := by decide +kernel
theorem dX11_tell_134 : decode cX11_tell 134 = .ok (.goto (-100), 3) := by decide +kernel
theorem dX11_tell_137 : decode cX11_tell 137 = .ok (.iload 5, 2) := by decide +kernel
theorem dX11_tell_139 : decode cX11_tell 139 = .ok (.iload_n 3, 1) := by decide +kernel
theorem dX11_tell_140 : decode cX11_tell 140 = .ok (.if_icmp .ge 8, 3) := by decide +kernel
theorem dX11_tell_143 : decode cX11_tell 143 = .ok (.iload 4, 2) := by decide +kernel
theorem dX11_tell_145 : decode cX11_tell 145 = .ok (.goto 4, 3) := by decide +kernel
theorem dX11_tell_148 : decode cX11_tell 148 = .ok (.iload_n 2, 1) := by decide +kernel
theorem dX11_tell_149 : decode cX11_tell 149 = .ok (.istore_n 2, 1) := by decide +kernel
theorem dX11_tell_150 : decode cX11_tell 150 = .ok (.iload 5, 2) := by decide +kernel
theorem dX11_tell_152 : decode cX11_tell 152 = .ok (.iload_n 3, 1) := by decide +kernel
theorem dX11_tell_153 : decode cX11_tell 153 = .ok (.if_icmp .ge 8, 3) := by decide +kernel
theorem dX11_tell_156 : decode cX11_tell 156 = .ok (.iload 5, 2) := by decide +kernel
theorem dX11_tell_158 : decode cX11_tell 158 = .ok (.goto 4, 3) := by decide +kernel
theorem dX11_tell_161 : decode cX11_tell 161 = .ok (.iload_n 3, 1) := by decide +kernel
theorem dX11_tell_162 : decode cX11_tell 162 = .ok (.istore_n 3, 1) := by decide +kernel
theorem dX11_tell_163 : decode cX11_tell 163 = .ok (.aload_n 0, 1) := by decide +kernel
theorem dX11_tell_164 : decode cX11_tell 164 = .ok (.getfield 27, 3) := by decide +kernel
theorem dX11_tell_167 : decode cX11_tell 167 = .ok (.invokestatic 122, 3) := by decide +kernel
theorem dX11_tell_170 : decode cX11_tell 170 = .ok (.iinc 4 1, 3) := by decide +kernel
theorem dX11_tell_173 : decode cX11_tell 173 = .ok (.goto (-156), 3) := by decide +kernel
theorem dX11_tell_176 : decode cX11_tell 176 = .ok (.iload_n 2, 1) := by decide +kernel
theorem dX11_tell_177 : decode cX11_tell 177 = .ok (.ireturn, 1) := by decide +kernel
set_option maxRecDepth 20000 in
theorem ggX11_note_X11_isGlove : GoodIn wsX11_note wsX11_isGlove := goodIn_r _ [8, 9, 10, 11, 7, 12, 3, 13, 14, 15, 33, 34, 35, 36, 37, 38, 39, 40, 41, 42, 43, 44, 45, 46, 47, 48, 49, 50] rfl (by decide +kernel)
set_option maxRecDepth 20000 in
theorem gX11_note_X11_isGlove : GoodIn wsX11_note (wsV RX11 140 RX11 yX11_isGlove wsX11_isGlove) := goodIn_app (goodIn_of _ (by decide +kernel)) ggX11_note_X11_isGlove
set_option maxRecDepth 20000 in
theorem ggX11_note_X11_in : GoodIn wsX11_note wsX11_in := goodIn_r _ [15] rfl (by decide +kernel)
set_option maxRecDepth 20000 in
theorem gX11_note_X11_in : GoodIn wsX11_note (va_wsS RX11 56 yX11_in wsX11_in) := goodIn_app (goodIn_of _ (by decide +kernel)) ggX11_note_X11_in
set_option maxRecDepth 20000 in
theorem ggX11_note_X11_isWet : GoodIn wsX11_note wsX11_isWet := goodIn_r _ [18, 19, 13, 14, 7, 15] rfl (by decide +kernel)
set_option maxRecDepth 20000 in
theorem gX11_note_X11_isWet : GoodIn wsX11_note (va_wsS RX11 66 yX11_isWet wsX11_isWet) := goodIn_app (goodIn_of _ (by decide +kernel)) ggX11_note_X11_isWet
set_option maxRecDepth 20000 in
theorem ggX11_note_X11_bad : GoodIn wsX11_note wsX11_bad := goodIn_r _ [23, 24, 33, 34, 35, 36, 37, 38, 39, 40, 41, 42, 43, 44, 45, 46, 47, 48, 49, 50] rfl (by decide +kernel)
set_option maxRecDepth 20000 in
theorem gX11_note_X11_bad : GoodIn wsX11_note (wsV RX11 70 RX11 yX11_bad wsX11_bad) := goodIn_app (goodIn_of _ (by decide +kernel)) ggX11_note_X11_bad
set_option maxRecDepth 20000 in
theorem ggX11_note_X11_full : GoodIn wsX11_note wsX11_full := goodIn_r _ [28, 24, 33, 34, 35, 36, 37, 38, 39, 40, 41, 42, 43, 44, 45, 46, 47, 48, 49, 50] rfl (by decide +kernel)
set_option maxRecDepth 20000 in
theorem gX11_note_X11_full : GoodIn wsX11_note (wsV RX11 82 RX11 yX11_full wsX11_full) := goodIn_app (goodIn_of _ (by decide +kernel)) ggX11_note_X11_full
set_option maxRecDepth 20000 in
theorem ggX11_note_X11_layFour : GoodIn wsX11_note wsX11_layFour := goodIn_r _ [32, 3, 33, 34, 35, 36, 37, 38, 39, 40, 41, 42, 43, 44, 45, 46, 47, 48, 49, 50] rfl (by decide +kernel)
set_option maxRecDepth 20000 in
theorem gX11_note_X11_layFour : GoodIn wsX11_note (wsV RX11 180 RX11 yX11_layFour wsX11_layFour) := goodIn_app (goodIn_of _ (by decide +kernel)) ggX11_note_X11_layFour
theorem dX11_note_0 : decode cX11_note 0 = .ok (.aload_n 0, 1) := by decide +kernel
theorem dX11_note_1 : decode cX11_note 1 = .ok (.iload_n 1, 1) := by decide +kernel
theorem dX11_note_2 : decode cX11_note 2 = .ok (.invokevirtual 140, 3) := by decide +kernel
theorem dX11_note_5 : decode cX11_note 5 = .ok (.ifCond .eq 35, 3) := by decide +kernel
theorem dX11_note_8 : decode cX11_note 8 = .ok (.iload_n 2, 1) := by decide +kernel
theorem dX11_note_9 : decode cX11_note 9 = .ok (.i2l, 1) := by decide +kernel
theorem dX11_note_10 : decode cX11_note 10 = .ok (.lconst 0, 1) := by decide +kernel
theorem dX11_note_11 : decode cX11_note 11 = .ok (.ldc2_w 176, 3) := by decide +kernel
theorem dX11_note_14 : decode cX11_note 14 = .ok (.invokestatic 56, 3) := by decide +kernel
theorem dX11_note_17 : decode cX11_note 17 = .ok (.ifCond .eq 23, 3) := by decide +kernel
theorem dX11_note_20 : decode cX11_note 20 = .ok (.iload_n 3, 1) := by decide +kernel
theorem dX11_note_21 : decode cX11_note 21 = .ok (.invokestatic 66, 3) := by decide +kernel
theorem dX11_note_24 : decode cX11_note 24 = .ok (.ifCond .eq 16, 3) := by decide +kernel
theorem dX11_note_27 : decode cX11_note 27 = .ok (.iload 4, 2) := by decide +kernel
theorem dX11_note_29 : decode cX11_note 29 = .ok (.i2l, 1) := by decide +kernel
theorem dX11_note_30 : decode cX11_note 30 = .ok (.lconst 0, 1) := by decide +kernel
theorem dX11_note_31 : decode cX11_note 31 = .ok (.ldc2_w 178, 3) := by decide +kernel
theorem dX11_note_34 : decode cX11_note 34 = .ok (.invokestatic 56, 3) := by decide +kernel
theorem dX11_note_37 : decode cX11_note 37 = .ok (.ifCond .ne 10, 3) := by decide +kernel
theorem dX11_note_40 : decode cX11_note 40 = .ok (.aload_n 0, 1) := by decide +kernel
theorem dX11_note_41 : decode cX11_note 41 = .ok (.bipush (-2), 2) := by decide +kernel
theorem dX11_note_43 : decode cX11_note 43 = .ok (.invokevirtual 70, 3) := by decide +kernel
theorem dX11_note_46 : decode cX11_note 46 = .ok (.ireturn, 1) := by decide +kernel
theorem dX11_note_47 : decode cX11_note 47 = .ok (.aload_n 0, 1) := by decide +kernel
theorem dX11_note_48 : decode cX11_note 48 = .ok (.getfield 7, 3) := by decide +kernel
theorem dX11_note_51 : decode cX11_note 51 = .ok (.iconst 3, 1) := by decide +kernel
theorem dX11_note_52 : decode cX11_note 52 = .ok (.iaload, 1) := by decide +kernel
theorem dX11_note_53 : decode cX11_note 53 = .ok (.bipush 6, 2) := by decide +kernel
theorem dX11_note_55 : decode cX11_note 55 = .ok (.if_icmp .ne 8, 3) := by decide +kernel
theorem dX11_note_58 : decode cX11_note 58 = .ok (.aload_n 0, 1) := by decide +kernel
theorem dX11_note_59 : decode cX11_note 59 = .ok (.invokevirtual 82, 3) := by decide +kernel
theorem dX11_note_62 : decode cX11_note 62 = .ok (.ireturn, 1) := by decide +kernel
theorem dX11_note_63 : decode cX11_note 63 = .ok (.aload_n 0, 1) := by decide +kernel
theorem dX11_note_64 : decode cX11_note 64 = .ok (.bipush 53, 2) := by decide +kernel
theorem dX11_note_66 : decode cX11_note 66 = .ok (.iconst 4, 1) := by decide +kernel
theorem dX11_note_67 : decode cX11_note 67 = .ok (.aload_n 0, 1) := by decide +kernel
theorem dX11_note_68 : decode cX11_note 68 = .ok (.getfield 7, 3) := by decide +kernel
theorem dX11_note_71 : decode cX11_note 71 = .ok (.iconst 3, 1) := by decide +kernel
theorem dX11_note_72 : decode cX11_note 72 = .ok (.iaload, 1) := by decide +kernel
theorem dX11_note_73 : decode cX11_note 73 = .ok (.imul, 1) := by decide +kernel
theorem dX11_note_74 : decode cX11_note 74 = .ok (.iadd, 1) := by decide +kernel
theorem dX11_note_75 : decode cX11_note 75 = .ok (.iload_n 1, 1) := by decide +kernel
theorem dX11_note_76 : decode cX11_note 76 = .ok (.iload_n 2, 1) := by decide +kernel
theorem dX11_note_77 : decode cX11_note 77 = .ok (.iload_n 3, 1) := by decide +kernel
theorem dX11_note_78 : decode cX11_note 78 = .ok (.iload 4, 2) := by decide +kernel
theorem dX11_note_80 : decode cX11_note 80 = .ok (.invokevirtual 180, 3) := by decide +kernel
theorem dX11_note_83 : decode cX11_note 83 = .ok (.aload_n 0, 1) := by decide +kernel
theorem dX11_note_84 : decode cX11_note 84 = .ok (.getfield 7, 3) := by decide +kernel
theorem dX11_note_87 : decode cX11_note 87 = .ok (.iconst 3, 1) := by decide +kernel
theorem dX11_note_88 : decode cX11_note 88 = .ok (.dup2, 1) := by decide +kernel
theorem dX11_note_89 : decode cX11_note 89 = .ok (.iaload, 1) := by decide +kernel
theorem dX11_note_90 : decode cX11_note 90 = .ok (.iconst 1, 1) := by decide +kernel
theorem dX11_note_91 : decode cX11_note 91 = .ok (.iadd, 1) := by decide +kernel
theorem dX11_note_92 : decode cX11_note 92 = .ok (.iastore, 1) := by decide +kernel
theorem dX11_note_93 : decode cX11_note 93 = .ok (.aload_n 0, 1) := by decide +kernel
theorem dX11_note_94 : decode cX11_note 94 = .ok (.getfield 7, 3) := by decide +kernel
theorem dX11_note_97 : decode cX11_note 97 = .ok (.iconst 3, 1) := by decide +kernel
theorem dX11_note_98 : decode cX11_note 98 = .ok (.iaload, 1) := by decide +kernel
theorem dX11_note_99 : decode cX11_note 99 = .ok (.ireturn, 1) := by decide +kernel
theorem dX11_layFour_0 : decode cX11_layFour 0 = .ok (.aload_n 0, 1) := by decide +kernel
theorem dX11_layFour_1 : decode cX11_layFour 1 = .ok (.getfield 7, 3) := by decide +kernel
theorem dX11_layFour_4 : decode cX11_layFour 4 = .ok (.iload_n 1, 1) := by decide +kernel
theorem dX11_layFour_5 : decode cX11_layFour 5 = .ok (.iload_n 2, 1) := by decide +kernel
theorem dX11_layFour_6 : decode cX11_layFour 6 = .ok (.iastore, 1) := by decide +kernel
theorem dX11_layFour_7 : decode cX11_layFour 7 = .ok (.aload_n 0, 1) := by decide +kernel
theorem dX11_layFour_8 : decode cX11_layFour 8 = .ok (.getfield 7, 3) := by decide +kernel
theorem dX11_layFour_11 : decode cX11_layFour 11 = .ok (.iload_n 1, 1) := by decide +kernel
theorem dX11_layFour_12 : decode cX11_layFour 12 = .ok (.iconst 1, 1) := by decide +kernel
theorem dX11_layFour_13 : decode cX11_layFour 13 = .ok (.iadd, 1) := by decide +kernel
theorem dX11_layFour_14 : decode cX11_layFour 14 = .ok (.iload_n 3, 1) := by decide +kernel
theorem dX11_layFour_15 : decode cX11_layFour 15 = .ok (.iastore, 1) := by decide +kernel
theorem dX11_layFour_16 : decode cX11_layFour 16 = .ok (.aload_n 0, 1) := by decide +kernel
theorem dX11_layFour_17 : decode cX11_layFour 17 = .ok (.getfield 7, 3) := by decide +kernel
theorem dX11_layFour_20 : decode cX11_layFour 20 = .ok (.iload_n 1, 1) := by decide +kernel
theorem dX11_layFour_21 : decode cX11_layFour 21 = .ok (.iconst 2, 1) := by decide +kernel
theorem dX11_layFour_22 : decode cX11_layFour 22 = .ok (.iadd, 1) := by decide +kernel
theorem dX11_layFour_23 : decode cX11_layFour 23 = .ok (.iload 4, 2) := by decide +kernel
theorem dX11_layFour_25 : decode cX11_layFour 25 = .ok (.iastore, 1) := by decide +kernel
theorem dX11_layFour_26 : decode cX11_layFour 26 = .ok (.aload_n 0, 1) := by decide +kernel
theorem dX11_layFour_27 : decode cX11_layFour 27 = .ok (.getfield 7, 3) := by decide +kernel
theorem dX11_layFour_30 : decode cX11_layFour 30 = .ok (.iload_n 1, 1) := by decide +kernel
theorem dX11_layFour_31 : decode cX11_layFour 31 = .ok (.iconst 3, 1) := by decide +kernel
theorem dX11_layFour_32 : decode cX11_layFour 32 = .ok (.iadd, 1) := by decide +kernel
theorem dX11_layFour_33 : decode cX11_layFour 33 = .ok (.iload 5, 2) := by decide +kernel
theorem dX11_layFour_35 : decode cX11_layFour 35 = .ok (.iastore, 1) := by decide +kernel
theorem dX11_layFour_36 : decode cX11_layFour 36 = .ok (.return_, 1) := by decide +kernel
set_option maxRecDepth 20000 in
theorem ggX11_mark_X11_isCrossing : GoodIn wsX11_mark wsX11_isCrossing := goodIn_r _ [9, 4, 10, 11, 8, 12, 26, 27, 28, 29, 30, 31, 32, 33, 34, 35, 36, 37, 38, 39, 40, 41, 42, 43] rfl (by decide +kernel)
set_option maxRecDepth 20000 in
theorem gX11_mark_X11_isCrossing : GoodIn wsX11_mark (wsV RX11 134 RX11 yX11_isCrossing wsX11_isCrossing) := goodIn_app (goodIn_of _ (by decide +kernel)) ggX11_mark_X11_isCrossing
set_option maxRecDepth 20000 in
theorem ggX11_mark_X11_in : GoodIn wsX11_mark wsX11_in := goodIn_r _ [12] rfl (by decide +kernel)
set_option maxRecDepth 20000 in
theorem gX11_mark_X11_in : GoodIn wsX11_mark (va_wsS RX11 56 yX11_in wsX11_in) := goodIn_app (goodIn_of _ (by decide +kernel)) ggX11_mark_X11_in
set_option maxRecDepth 20000 in
theorem ggX11_mark_X11_bad : GoodIn wsX11_mark wsX11_bad := goodIn_r _ [16, 17, 26, 27, 28, 29, 30, 31, 32, 33, 34, 35, 36, 37, 38, 39, 40, 41, 42, 43] rfl (by decide +kernel)
set_option maxRecDepth 20000 in
theorem gX11_mark_X11_bad : GoodIn wsX11_mark (wsV RX11 70 RX11 yX11_bad wsX11_bad) := goodIn_app (goodIn_of _ (by decide +kernel)) ggX11_mark_X11_bad
set_option maxRecDepth 20000 in
theorem ggX11_mark_X11_full : GoodIn wsX11_mark wsX11_full := goodIn_r _ [21, 17, 26, 27, 28, 29, 30, 31, 32, 33, 34, 35, 36, 37, 38, 39, 40, 41, 42, 43] rfl (by decide +kernel)
set_option maxRecDepth 20000 in
theorem gX11_mark_X11_full : GoodIn wsX11_mark (wsV RX11 82 RX11 yX11_full wsX11_full) := goodIn_app (goodIn_of _ (by decide +kernel)) ggX11_mark_X11_full
set_option maxRecDepth 20000 in
theorem ggX11_mark_X11_layFour : GoodIn wsX11_mark wsX11_layFour := goodIn_r _ [25, 4, 26, 27, 28, 29, 30, 31, 32, 33, 34, 35, 36, 37, 38, 39, 40, 41, 42, 43] rfl (by decide +kernel)
set_option maxRecDepth 20000 in
theorem gX11_mark_X11_layFour : GoodIn wsX11_mark (wsV RX11 180 RX11 yX11_layFour wsX11_layFour) := goodIn_app (goodIn_of _ (by decide +kernel)) ggX11_mark_X11_layFour
theorem dX11_mark_0 : decode cX11_mark 0 = .ok (.aload_n 0, 1) := by decide +kernel
theorem dX11_mark_1 : decode cX11_mark 1 = .ok (.iload_n 1, 1) := by decide +kernel
theorem dX11_mark_2 : decode cX11_mark 2 = .ok (.invokevirtual 134, 3) := by decide +kernel
theorem dX11_mark_5 : decode cX11_mark 5 = .ok (.ifCond .eq 40, 3) := by decide +kernel
theorem dX11_mark_8 : decode cX11_mark 8 = .ok (.iload_n 2, 1) := by decide +kernel
theorem dX11_mark_9 : decode cX11_mark 9 = .ok (.i2l, 1) := by decide +kernel
theorem dX11_mark_10 : decode cX11_mark 10 = .ok (.lconst 0, 1) := by decide +kernel
theorem dX11_mark_11 : decode cX11_mark 11 = .ok (.ldc2_w 176, 3) := by decide +kernel
theorem dX11_mark_14 : decode cX11_mark 14 = .ok (.invokestatic 56, 3) := by decide +kernel
theorem dX11_mark_17 : decode cX11_mark 17 = .ok (.ifCond .eq 28, 3) := by decide +kernel
theorem dX11_mark_20 : decode cX11_mark 20 = .ok (.iload_n 3, 1) := by decide +kernel
theorem dX11_mark_21 : decode cX11_mark 21 = .ok (.i2l, 1) := by decide +kernel
theorem dX11_mark_22 : decode cX11_mark 22 = .ok (.lconst 1, 1) := by decide +kernel
theorem dX11_mark_23 : decode cX11_mark 23 = .ok (.ldc2_w 184, 3) := by decide +kernel
theorem dX11_mark_26 : decode cX11_mark 26 = .ok (.invokestatic 56, 3) := by decide +kernel
theorem dX11_mark_29 : decode cX11_mark 29 = .ok (.ifCond .eq 16, 3) := by decide +kernel
theorem dX11_mark_32 : decode cX11_mark 32 = .ok (.iload 4, 2) := by decide +kernel
theorem dX11_mark_34 : decode cX11_mark 34 = .ok (.i2l, 1) := by decide +kernel
theorem dX11_mark_35 : decode cX11_mark 35 = .ok (.lconst 0, 1) := by decide +kernel
theorem dX11_mark_36 : decode cX11_mark 36 = .ok (.ldc2_w 178, 3) := by decide +kernel
theorem dX11_mark_39 : decode cX11_mark 39 = .ok (.invokestatic 56, 3) := by decide +kernel
theorem dX11_mark_42 : decode cX11_mark 42 = .ok (.ifCond .ne 10, 3) := by decide +kernel
theorem dX11_mark_45 : decode cX11_mark 45 = .ok (.aload_n 0, 1) := by decide +kernel
theorem dX11_mark_46 : decode cX11_mark 46 = .ok (.bipush (-2), 2) := by decide +kernel
theorem dX11_mark_48 : decode cX11_mark 48 = .ok (.invokevirtual 70, 3) := by decide +kernel
theorem dX11_mark_51 : decode cX11_mark 51 = .ok (.ireturn, 1) := by decide +kernel
theorem dX11_mark_52 : decode cX11_mark 52 = .ok (.aload_n 0, 1) := by decide +kernel
theorem dX11_mark_53 : decode cX11_mark 53 = .ok (.getfield 7, 3) := by decide +kernel
theorem dX11_mark_56 : decode cX11_mark 56 = .ok (.iconst 4, 1) := by decide +kernel
theorem dX11_mark_57 : decode cX11_mark 57 = .ok (.iaload, 1) := by decide +kernel
theorem dX11_mark_58 : decode cX11_mark 58 = .ok (.bipush 6, 2) := by decide +kernel
theorem dX11_mark_60 : decode cX11_mark 60 = .ok (.if_icmp .ne 8, 3) := by decide +kernel
theorem dX11_mark_63 : decode cX11_mark 63 = .ok (.aload_n 0, 1) := by decide +kernel
theorem dX11_mark_64 : decode cX11_mark 64 = .ok (.invokevirtual 82, 3) := by decide +kernel
theorem dX11_mark_67 : decode cX11_mark 67 = .ok (.ireturn, 1) := by decide +kernel
theorem dX11_mark_68 : decode cX11_mark 68 = .ok (.aload_n 0, 1) := by decide +kernel
theorem dX11_mark_69 : decode cX11_mark 69 = .ok (.bipush 77, 2) := by decide +kernel
theorem dX11_mark_71 : decode cX11_mark 71 = .ok (.iconst 4, 1) := by decide +kernel
theorem dX11_mark_72 : decode cX11_mark 72 = .ok (.aload_n 0, 1) := by decide +kernel
theorem dX11_mark_73 : decode cX11_mark 73 = .ok (.getfield 7, 3) := by decide +kernel
theorem dX11_mark_76 : decode cX11_mark 76 = .ok (.iconst 4, 1) := by decide +kernel
theorem dX11_mark_77 : decode cX11_mark 77 = .ok (.iaload, 1) := by decide +kernel
theorem dX11_mark_78 : decode cX11_mark 78 = .ok (.imul, 1) := by decide +kernel
theorem dX11_mark_79 : decode cX11_mark 79 = .ok (.iadd, 1) := by decide +kernel
theorem dX11_mark_80 : decode cX11_mark 80 = .ok (.iload_n 1, 1) := by decide +kernel
theorem dX11_mark_81 : decode cX11_mark 81 = .ok (.iload_n 2, 1) := by decide +kernel
theorem dX11_mark_82 : decode cX11_mark 82 = .ok (.iload_n 3, 1) := by decide +kernel
theorem dX11_mark_83 : decode cX11_mark 83 = .ok (.iload 4, 2) := by decide +kernel
theorem dX11_mark_85 : decode cX11_mark 85 = .ok (.invokevirtual 180, 3) := by decide +kernel
theorem dX11_mark_88 : decode cX11_mark 88 = .ok (.aload_n 0, 1) := by decide +kernel
theorem dX11_mark_89 : decode cX11_mark 89 = .ok (.getfield 7, 3) := by decide +kernel
theorem dX11_mark_92 : decode cX11_mark 92 = .ok (.iconst 4, 1) := by decide +kernel
theorem dX11_mark_93 : decode cX11_mark 93 = .ok (.dup2, 1) := by decide +kernel
theorem dX11_mark_94 : decode cX11_mark 94 = .ok (.iaload, 1) := by decide +kernel
theorem dX11_mark_95 : decode cX11_mark 95 = .ok (.iconst 1, 1) := by decide +kernel
theorem dX11_mark_96 : decode cX11_mark 96 = .ok (.iadd, 1) := by decide +kernel
theorem dX11_mark_97 : decode cX11_mark 97 = .ok (.iastore, 1) := by decide +kernel
theorem dX11_mark_98 : decode cX11_mark 98 = .ok (.aload_n 0, 1) := by decide +kernel
theorem dX11_mark_99 : decode cX11_mark 99 = .ok (.getfield 7, 3) := by decide +kernel
theorem dX11_mark_102 : decode cX11_mark 102 = .ok (.iconst 4, 1) := by decide +kernel
theorem dX11_mark_103 : decode cX11_mark 103 = .ok (.iaload, 1) := by decide +kernel
theorem dX11_mark_104 : decode cX11_mark 104 = .ok (.ireturn, 1) := by decide +kernel
set_option maxRecDepth 20000 in
theorem ggX11_forget_X11_in : GoodIn wsX11_forget wsX11_in := goodIn_r _ [6] rfl (by decide +kernel)
set_option maxRecDepth 20000 in
theorem gX11_forget_X11_in : GoodIn wsX11_forget (va_wsS RX11 56 yX11_in wsX11_in) := goodIn_app (goodIn_of _ (by decide +kernel)) ggX11_forget_X11_in
set_option maxRecDepth 20000 in
theorem ggX11_forget_X11_bad : GoodIn wsX11_forget wsX11_bad := goodIn_r _ [10, 11, 12, 13, 14, 15, 16, 17, 18, 19, 20, 21, 22, 23, 24, 25, 26, 27, 28, 29] rfl (by decide +kernel)
set_option maxRecDepth 20000 in
theorem gX11_forget_X11_bad : GoodIn wsX11_forget (wsV RX11 70 RX11 yX11_bad wsX11_bad) := goodIn_app (goodIn_of _ (by decide +kernel)) ggX11_forget_X11_bad
theorem dX11_forget_0 : decode cX11_forget 0 = .ok (.iload_n 1, 1) := by decide +kernel
theorem dX11_forget_1 : decode cX11_forget 1 = .ok (.i2l, 1) := by decide +kernel
theorem dX11_forget_2 : decode cX11_forget 2 = .ok (.lconst 0, 1) := by decide +kernel
theorem dX11_forget_3 : decode cX11_forget 3 = .ok (.ldc2_w 165, 3) := by decide +kernel
theorem dX11_forget_6 : decode cX11_forget 6 = .ok (.invokestatic 56, 3) := by decide +kernel
theorem dX11_forget_9 : decode cX11_forget 9 = .ok (.ifCond .ne 10, 3) := by decide +kernel
theorem dX11_forget_12 : decode cX11_forget 12 = .ok (.aload_n 0, 1) := by decide +kernel
theorem dX11_forget_13 : decode cX11_forget 13 = .ok (.bipush (-2), 2) := by decide +kernel
theorem dX11_forget_15 : decode cX11_forget 15 = .ok (.invokevirtual 70, 3) := by decide +kernel
theorem dX11_forget_18 : decode cX11_forget 18 = .ok (.ireturn, 1) := by decide +kernel
theorem dX11_forget_19 : decode cX11_forget 19 = .ok (.aload_n 0, 1) := by decide +kernel
theorem dX11_forget_20 : decode cX11_forget 20 = .ok (.getfield 7, 3) := by decide +kernel
theorem dX11_forget_23 : decode cX11_forget 23 = .ok (.iconst 2, 1) := by decide +kernel
theorem dX11_forget_24 : decode cX11_forget 24 = .ok (.iload_n 1, 1) := by decide +kernel
theorem dX11_forget_25 : decode cX11_forget 25 = .ok (.iadd, 1) := by decide +kernel
theorem dX11_forget_26 : decode cX11_forget 26 = .ok (.iaload, 1) := by decide +kernel
theorem dX11_forget_27 : decode cX11_forget 27 = .ok (.istore_n 2, 1) := by decide +kernel
theorem dX11_forget_28 : decode cX11_forget 28 = .ok (.aload_n 0, 1) := by decide +kernel
theorem dX11_forget_29 : decode cX11_forget 29 = .ok (.getfield 7, 3) := by decide +kernel
theorem dX11_forget_32 : decode cX11_forget 32 = .ok (.iconst 2, 1) := by decide +kernel
theorem dX11_forget_33 : decode cX11_forget 33 = .ok (.iload_n 1, 1) := by decide +kernel
theorem dX11_forget_34 : decode cX11_forget 34 = .ok (.iadd, 1) := by decide +kernel
theorem dX11_forget_35 : decode cX11_forget 35 = .ok (.iconst 0, 1) := by decide +kernel
theorem dX11_forget_36 : decode cX11_forget 36 = .ok (.iastore, 1) := by decide +kernel
theorem dX11_forget_37 : decode cX11_forget 37 = .ok (.iload_n 2, 1) := by decide +kernel
theorem dX11_forget_38 : decode cX11_forget 38 = .ok (.ireturn, 1) := by decide +kernel
set_option maxRecDepth 20000 in
theorem ggX11_kindsBy_X11_goesAs : GoodIn wsX11_kindsBy wsX11_goesAs := goodIn_r _ [5] rfl (by decide +kernel)
set_option maxRecDepth 20000 in
theorem gX11_kindsBy_X11_goesAs : GoodIn wsX11_kindsBy (va_wsS RX11 99 yX11_goesAs wsX11_goesAs) := goodIn_app (goodIn_of _ (by decide +kernel)) ggX11_kindsBy_X11_goesAs
set_option maxRecDepth 20000 in
theorem ggX11_kindsBy_X11_letsAs : GoodIn wsX11_kindsBy wsX11_letsAs := goodIn_r _ [8] rfl (by decide +kernel)
set_option maxRecDepth 20000 in
theorem gX11_kindsBy_X11_letsAs : GoodIn wsX11_kindsBy (va_wsS RX11 119 yX11_letsAs wsX11_letsAs) := goodIn_app (goodIn_of _ (by decide +kernel)) ggX11_kindsBy_X11_letsAs
theorem dX11_kindsBy_0 : decode cX11_kindsBy 0 = .ok (.iconst 0, 1) := by decide +kernel
theorem dX11_kindsBy_1 : decode cX11_kindsBy 1 = .ok (.istore 5, 2) := by decide +kernel
theorem dX11_kindsBy_3 : decode cX11_kindsBy 3 = .ok (.iconst 0, 1) := by decide +kernel
theorem dX11_kindsBy_4 : decode cX11_kindsBy 4 = .ok (.istore 6, 2) := by decide +kernel
theorem dX11_kindsBy_6 : decode cX11_kindsBy 6 = .ok (.iload 6, 2) := by decide +kernel
theorem dX11_kindsBy_8 : decode cX11_kindsBy 8 = .ok (.bipush 6, 2) := by decide +kernel
theorem dX11_kindsBy_10 : decode cX11_kindsBy 10 = .ok (.if_icmp .ge 146, 3) := by decide +kernel
theorem dX11_kindsBy_13 : decode cX11_kindsBy 13 = .ok (.iconst 1, 1) := by decide +kernel
theorem dX11_kindsBy_14 : decode cX11_kindsBy 14 = .ok (.istore 7, 2) := by decide +kernel
theorem dX11_kindsBy_16 : decode cX11_kindsBy 16 = .ok (.iconst 0, 1) := by decide +kernel
theorem dX11_kindsBy_17 : decode cX11_kindsBy 17 = .ok (.istore 8, 2) := by decide +kernel
theorem dX11_kindsBy_19 : decode cX11_kindsBy 19 = .ok (.iload 8, 2) := by decide +kernel
theorem dX11_kindsBy_21 : decode cX11_kindsBy 21 = .ok (.iload_n 3, 1) := by decide +kernel
theorem dX11_kindsBy_22 : decode cX11_kindsBy 22 = .ok (.if_icmp .ge 110, 3) := by decide +kernel
theorem dX11_kindsBy_25 : decode cX11_kindsBy 25 = .ok (.iload_n 2, 1) := by decide +kernel
theorem dX11_kindsBy_26 : decode cX11_kindsBy 26 = .ok (.iconst 4, 1) := by decide +kernel
theorem dX11_kindsBy_27 : decode cX11_kindsBy 27 = .ok (.iload 8, 2) := by decide +kernel
theorem dX11_kindsBy_29 : decode cX11_kindsBy 29 = .ok (.imul, 1) := by decide +kernel
theorem dX11_kindsBy_30 : decode cX11_kindsBy 30 = .ok (.iadd, 1) := by decide +kernel
theorem dX11_kindsBy_31 : decode cX11_kindsBy 31 = .ok (.istore 9, 2) := by decide +kernel
theorem dX11_kindsBy_33 : decode cX11_kindsBy 33 = .ok (.iload 4, 2) := by decide +kernel
theorem dX11_kindsBy_35 : decode cX11_kindsBy 35 = .ok (.ifCond .eq 29, 3) := by decide +kernel
theorem dX11_kindsBy_38 : decode cX11_kindsBy 38 = .ok (.iload 6, 2) := by decide +kernel
theorem dX11_kindsBy_40 : decode cX11_kindsBy 40 = .ok (.aload_n 0, 1) := by decide +kernel
theorem dX11_kindsBy_41 : decode cX11_kindsBy 41 = .ok (.getfield 7, 3) := by decide +kernel
theorem dX11_kindsBy_44 : decode cX11_kindsBy 44 = .ok (.iload 9, 2) := by decide +kernel
theorem dX11_kindsBy_46 : decode cX11_kindsBy 46 = .ok (.iconst 1, 1) := by decide +kernel
theorem dX11_kindsBy_47 : decode cX11_kindsBy 47 = .ok (.iadd, 1) := by decide +kernel
theorem dX11_kindsBy_48 : decode cX11_kindsBy 48 = .ok (.iaload, 1) := by decide +kernel
theorem dX11_kindsBy_49 : decode cX11_kindsBy 49 = .ok (.aload_n 0, 1) := by decide +kernel
theorem dX11_kindsBy_50 : decode cX11_kindsBy 50 = .ok (.getfield 7, 3) := by decide +kernel
theorem dX11_kindsBy_53 : decode cX11_kindsBy 53 = .ok (.iload 9, 2) := by decide +kernel
theorem dX11_kindsBy_55 : decode cX11_kindsBy 55 = .ok (.iconst 2, 1) := by decide +kernel
theorem dX11_kindsBy_56 : decode cX11_kindsBy 56 = .ok (.iadd, 1) := by decide +kernel
theorem dX11_kindsBy_57 : decode cX11_kindsBy 57 = .ok (.iaload, 1) := by decide +kernel
theorem dX11_kindsBy_58 : decode cX11_kindsBy 58 = .ok (.invokestatic 99, 3) := by decide +kernel
theorem dX11_kindsBy_61 : decode cX11_kindsBy 61 = .ok (.goto 26, 3) := by decide +kernel
theorem dX11_kindsBy_64 : decode cX11_kindsBy 64 = .ok (.iload 6, 2) := by decide +kernel
theorem dX11_kindsBy_66 : decode cX11_kindsBy 66 = .ok (.aload_n 0, 1) := by decide +kernel
theorem dX11_kindsBy_67 : decode cX11_kindsBy 67 = .ok (.getfield 7, 3) := by decide +kernel
theorem dX11_kindsBy_70 : decode cX11_kindsBy 70 = .ok (.iload 9, 2) := by decide +kernel
theorem dX11_kindsBy_72 : decode cX11_kindsBy 72 = .ok (.iconst 1, 1) := by decide +kernel
theorem dX11_kindsBy_73 : decode cX11_kindsBy 73 = .ok (.iadd, 1) := by decide +kernel
theorem dX11_kindsBy_74 : decode cX11_kindsBy 74 = .ok (.iaload, 1) := by decide +kernel
theorem dX11_kindsBy_75 : decode cX11_kindsBy 75 = .ok (.aload_n 0, 1) := by decide +kernel
theorem dX11_kindsBy_76 : decode cX11_kindsBy 76 = .ok (.getfield 7, 3) := by decide +kernel
theorem dX11_kindsBy_79 : decode cX11_kindsBy 79 = .ok (.iload 9, 2) := by decide +kernel
theorem dX11_kindsBy_81 : decode cX11_kindsBy 81 = .ok (.iconst 2, 1) := by decide +kernel
theorem dX11_kindsBy_82 : decode cX11_kindsBy 82 = .ok (.iadd, 1) := by decide +kernel
theorem dX11_kindsBy_83 : decode cX11_kindsBy 83 = .ok (.iaload, 1) := by decide +kernel
theorem dX11_kindsBy_84 : decode cX11_kindsBy 84 = .ok (.invokestatic 119, 3) := by decide +kernel
theorem dX11_kindsBy_87 : decode cX11_kindsBy 87 = .ok (.istore 10, 2) := by decide +kernel
theorem dX11_kindsBy_89 : decode cX11_kindsBy 89 = .ok (.iload 7, 2) := by decide +kernel
theorem dX11_kindsBy_91 : decode cX11_kindsBy 91 = .ok (.ifCond .eq 32, 3) := by decide +kernel
theorem dX11_kindsBy_94 : decode cX11_kindsBy 94 = .ok (.aload_n 0, 1) := by decide +kernel
theorem dX11_kindsBy_95 : decode cX11_kindsBy 95 = .ok (.getfield 7, 3) := by decide +kernel
theorem dX11_kindsBy_98 : decode cX11_kindsBy 98 = .ok (.iload 9, 2) := by decide +kernel
theorem dX11_kindsBy_100 : decode cX11_kindsBy 100 = .ok (.iaload, 1) := by decide +kernel
theorem dX11_kindsBy_101 : decode cX11_kindsBy 101 = .ok (.iload_n 1, 1) := by decide +kernel
theorem dX11_kindsBy_102 : decode cX11_kindsBy 102 = .ok (.if_icmp .ne 17, 3) := by decide +kernel
theorem dX11_kindsBy_105 : decode cX11_kindsBy 105 = .ok (.iload 10, 2) := by decide +kernel
theorem dX11_kindsBy_107 : decode cX11_kindsBy 107 = .ok (.aload_n 0, 1) := by decide +kernel
theorem dX11_kindsBy_108 : decode cX11_kindsBy 108 = .ok (.getfield 7, 3) := by decide +kernel
theorem dX11_kindsBy_111 : decode cX11_kindsBy 111 = .ok (.iload 9, 2) := by decide +kernel
theorem dX11_kindsBy_113 : decode cX11_kindsBy 113 = .ok (.iconst 3, 1) := by decide +kernel
theorem dX11_kindsBy_114 : decode cX11_kindsBy 114 = .ok (.iadd, 1) := by decide +kernel
theorem dX11_kindsBy_115 : decode cX11_kindsBy 115 = .ok (.iaload, 1) := by decide +kernel
theorem dX11_kindsBy_116 : decode cX11_kindsBy 116 = .ok (.if_icmp .ne 7, 3) := by decide +kernel
theorem dX11_kindsBy_119 : decode cX11_kindsBy 119 = .ok (.iconst 1, 1) := by decide +kernel
theorem dX11_kindsBy_120 : decode cX11_kindsBy 120 = .ok (.goto 4, 3) := by decide +kernel
theorem dX11_kindsBy_123 : decode cX11_kindsBy 123 = .ok (.iconst 0, 1) := by decide +kernel
theorem dX11_kindsBy_124 : decode cX11_kindsBy 124 = .ok (.istore 7, 2) := by decide +kernel
theorem dX11_kindsBy_126 : decode cX11_kindsBy 126 = .ok (.iinc 8 1, 3) := by decide +kernel
theorem dX11_kindsBy_129 : decode cX11_kindsBy 129 = .ok (.goto (-110), 3) := by decide +kernel
theorem dX11_kindsBy_132 : decode cX11_kindsBy 132 = .ok (.iload 5, 2) := by decide +kernel
theorem dX11_kindsBy_134 : decode cX11_kindsBy 134 = .ok (.iload 7, 2) := by decide +kernel
theorem dX11_kindsBy_136 : decode cX11_kindsBy 136 = .ok (.ifCond .eq 10, 3) := by decide +kernel
theorem dX11_kindsBy_139 : decode cX11_kindsBy 139 = .ok (.iconst 1, 1) := by decide +kernel
theorem dX11_kindsBy_140 : decode cX11_kindsBy 140 = .ok (.iload 6, 2) := by decide +kernel
theorem dX11_kindsBy_142 : decode cX11_kindsBy 142 = .ok (.ishl, 1) := by decide +kernel
theorem dX11_kindsBy_143 : decode cX11_kindsBy 143 = .ok (.goto 4, 3) := by decide +kernel
theorem dX11_kindsBy_146 : decode cX11_kindsBy 146 = .ok (.iconst 0, 1) := by decide +kernel
theorem dX11_kindsBy_147 : decode cX11_kindsBy 147 = .ok (.ior, 1) := by decide +kernel
theorem dX11_kindsBy_148 : decode cX11_kindsBy 148 = .ok (.istore 5, 2) := by decide +kernel
theorem dX11_kindsBy_150 : decode cX11_kindsBy 150 = .ok (.iinc 6 1, 3) := by decide +kernel
theorem dX11_kindsBy_153 : decode cX11_kindsBy 153 = .ok (.goto (-147), 3) := by decide +kernel
theorem dX11_kindsBy_156 : decode cX11_kindsBy 156 = .ok (.iload 5, 2) := by decide +kernel
theorem dX11_kindsBy_158 : decode cX11_kindsBy 158 = .ok (.ireturn, 1) := by decide +kernel
set_option maxRecDepth 20000 in
theorem ggX11_kindsOfGlove_X11_kindsBy : GoodIn wsX11_kindsOfGlove wsX11_kindsBy := goodIn_r _ [6, 1, 7, 8, 5, 9, 10, 11, 12, 13, 14, 15, 16, 17, 18, 19, 20, 21, 22, 23, 24, 25, 26, 27, 28, 29, 30] rfl (by decide +kernel)
set_option maxRecDepth 20000 in
theorem gX11_kindsOfGlove_X11_kindsBy : GoodIn wsX11_kindsOfGlove (wsV RX11 186 RX11 yX11_kindsBy wsX11_kindsBy) := goodIn_app (goodIn_of _ (by decide +kernel)) ggX11_kindsOfGlove_X11_kindsBy
theorem dX11_kindsOfGlove_0 : decode cX11_kindsOfGlove 0 = .ok (.aload_n 0, 1) := by decide +kernel
theorem dX11_kindsOfGlove_1 : decode cX11_kindsOfGlove 1 = .ok (.iload_n 1, 1) := by decide +kernel
theorem dX11_kindsOfGlove_2 : decode cX11_kindsOfGlove 2 = .ok (.bipush 53, 2) := by decide +kernel
theorem dX11_kindsOfGlove_4 : decode cX11_kindsOfGlove 4 = .ok (.aload_n 0, 1) := by decide +kernel
theorem dX11_kindsOfGlove_5 : decode cX11_kindsOfGlove 5 = .ok (.getfield 7, 3) := by decide +kernel
theorem dX11_kindsOfGlove_8 : decode cX11_kindsOfGlove 8 = .ok (.iconst 3, 1) := by decide +kernel
theorem dX11_kindsOfGlove_9 : decode cX11_kindsOfGlove 9 = .ok (.iaload, 1) := by decide +kernel
theorem dX11_kindsOfGlove_10 : decode cX11_kindsOfGlove 10 = .ok (.iconst 1, 1) := by decide +kernel
theorem dX11_kindsOfGlove_11 : decode cX11_kindsOfGlove 11 = .ok (.invokevirtual 186, 3) := by decide +kernel
theorem dX11_kindsOfGlove_14 : decode cX11_kindsOfGlove 14 = .ok (.ireturn, 1) := by decide +kernel
set_option maxRecDepth 20000 in
theorem ggX11_kindsOfCrossing_X11_kindsBy : GoodIn wsX11_kindsOfCrossing wsX11_kindsBy := goodIn_r _ [6, 1, 7, 8, 5, 9, 10, 11, 12, 13, 14, 15, 16, 17, 18, 19, 20, 21, 22, 23, 24, 25, 26, 27, 28, 29, 30] rfl (by decide +kernel)
set_option maxRecDepth 20000 in
theorem gX11_kindsOfCrossing_X11_kindsBy : GoodIn wsX11_kindsOfCrossing (wsV RX11 186 RX11 yX11_kindsBy wsX11_kindsBy) := goodIn_app (goodIn_of _ (by decide +kernel)) ggX11_kindsOfCrossing_X11_kindsBy
theorem dX11_kindsOfCrossing_0 : decode cX11_kindsOfCrossing 0 = .ok (.aload_n 0, 1) := by decide +kernel
theorem dX11_kindsOfCrossing_1 : decode cX11_kindsOfCrossing 1 = .ok (.iload_n 1, 1) := by decide +kernel
theorem dX11_kindsOfCrossing_2 : decode cX11_kindsOfCrossing 2 = .ok (.bipush 77, 2) := by decide +kernel
theorem dX11_kindsOfCrossing_4 : decode cX11_kindsOfCrossing 4 = .ok (.aload_n 0, 1) := by decide +kernel
theorem dX11_kindsOfCrossing_5 : decode cX11_kindsOfCrossing 5 = .ok (.getfield 7, 3) := by decide +kernel
theorem dX11_kindsOfCrossing_8 : decode cX11_kindsOfCrossing 8 = .ok (.iconst 4, 1) := by decide +kernel
theorem dX11_kindsOfCrossing_9 : decode cX11_kindsOfCrossing 9 = .ok (.iaload, 1) := by decide +kernel
theorem dX11_kindsOfCrossing_10 : decode cX11_kindsOfCrossing 10 = .ok (.iconst 0, 1) := by decide +kernel
theorem dX11_kindsOfCrossing_11 : decode cX11_kindsOfCrossing 11 = .ok (.invokevirtual 186, 3) := by decide +kernel
theorem dX11_kindsOfCrossing_14 : decode cX11_kindsOfCrossing 14 = .ok (.ireturn, 1) := by decide +kernel
set_option maxRecDepth 20000 in
theorem ggX11_mostAlike_X11_has : GoodIn wsX11_mostAlike wsX11_has := goodIn_r _ [5] rfl (by decide +kernel)
set_option maxRecDepth 20000 in
theorem gX11_mostAlike_X11_has : GoodIn wsX11_mostAlike (va_wsS RX11 112 yX11_has wsX11_has) := goodIn_app (goodIn_of _ (by decide +kernel)) ggX11_mostAlike_X11_has
theorem dX11_mostAlike_0 : decode cX11_mostAlike 0 = .ok (.iconst 0, 1) := by decide +kernel
theorem dX11_mostAlike_1 : decode cX11_mostAlike 1 = .ok (.istore_n 2, 1) := by decide +kernel
theorem dX11_mostAlike_2 : decode cX11_mostAlike 2 = .ok (.iconst 0, 1) := by decide +kernel
theorem dX11_mostAlike_3 : decode cX11_mostAlike 3 = .ok (.istore_n 3, 1) := by decide +kernel
theorem dX11_mostAlike_4 : decode cX11_mostAlike 4 = .ok (.iload_n 3, 1) := by decide +kernel
theorem dX11_mostAlike_5 : decode cX11_mostAlike 5 = .ok (.bipush 6, 2) := by decide +kernel
theorem dX11_mostAlike_7 : decode cX11_mostAlike 7 = .ok (.if_icmp .ge 84, 3) := by decide +kernel
theorem dX11_mostAlike_10 : decode cX11_mostAlike 10 = .ok (.iconst 0, 1) := by decide +kernel
theorem dX11_mostAlike_11 : decode cX11_mostAlike 11 = .ok (.istore 4, 2) := by decide +kernel
theorem dX11_mostAlike_13 : decode cX11_mostAlike 13 = .ok (.iconst 0, 1) := by decide +kernel
theorem dX11_mostAlike_14 : decode cX11_mostAlike 14 = .ok (.istore 5, 2) := by decide +kernel
theorem dX11_mostAlike_16 : decode cX11_mostAlike 16 = .ok (.iload 5, 2) := by decide +kernel
theorem dX11_mostAlike_18 : decode cX11_mostAlike 18 = .ok (.bipush 6, 2) := by decide +kernel
theorem dX11_mostAlike_20 : decode cX11_mostAlike 20 = .ok (.if_icmp .ge 52, 3) := by decide +kernel
theorem dX11_mostAlike_23 : decode cX11_mostAlike 23 = .ok (.iload_n 1, 1) := by decide +kernel
theorem dX11_mostAlike_24 : decode cX11_mostAlike 24 = .ok (.iload_n 3, 1) := by decide +kernel
theorem dX11_mostAlike_25 : decode cX11_mostAlike 25 = .ok (.invokestatic 112, 3) := by decide +kernel
theorem dX11_mostAlike_28 : decode cX11_mostAlike 28 = .ok (.ifCond .eq 44, 3) := by decide +kernel
theorem dX11_mostAlike_31 : decode cX11_mostAlike 31 = .ok (.iload 4, 2) := by decide +kernel
theorem dX11_mostAlike_33 : decode cX11_mostAlike 33 = .ok (.iload_n 1, 1) := by decide +kernel
theorem dX11_mostAlike_34 : decode cX11_mostAlike 34 = .ok (.iload 5, 2) := by decide +kernel
theorem dX11_mostAlike_36 : decode cX11_mostAlike 36 = .ok (.invokestatic 112, 3) := by decide +kernel
theorem dX11_mostAlike_39 : decode cX11_mostAlike 39 = .ok (.ifCond .eq 23, 3) := by decide +kernel
theorem dX11_mostAlike_42 : decode cX11_mostAlike 42 = .ok (.aload_n 0, 1) := by decide +kernel
theorem dX11_mostAlike_43 : decode cX11_mostAlike 43 = .ok (.getfield 36, 3) := by decide +kernel
theorem dX11_mostAlike_46 : decode cX11_mostAlike 46 = .ok (.iload_n 3, 1) := by decide +kernel
theorem dX11_mostAlike_47 : decode cX11_mostAlike 47 = .ok (.iaload, 1) := by decide +kernel
theorem dX11_mostAlike_48 : decode cX11_mostAlike 48 = .ok (.aload_n 0, 1) := by decide +kernel
theorem dX11_mostAlike_49 : decode cX11_mostAlike 49 = .ok (.getfield 36, 3) := by decide +kernel
theorem dX11_mostAlike_52 : decode cX11_mostAlike 52 = .ok (.iload 5, 2) := by decide +kernel
theorem dX11_mostAlike_54 : decode cX11_mostAlike 54 = .ok (.iaload, 1) := by decide +kernel
theorem dX11_mostAlike_55 : decode cX11_mostAlike 55 = .ok (.if_icmp .ne 7, 3) := by decide +kernel
theorem dX11_mostAlike_58 : decode cX11_mostAlike 58 = .ok (.iconst 1, 1) := by decide +kernel
theorem dX11_mostAlike_59 : decode cX11_mostAlike 59 = .ok (.goto 4, 3) := by decide +kernel
theorem dX11_mostAlike_62 : decode cX11_mostAlike 62 = .ok (.iconst 0, 1) := by decide +kernel
theorem dX11_mostAlike_63 : decode cX11_mostAlike 63 = .ok (.iadd, 1) := by decide +kernel
theorem dX11_mostAlike_64 : decode cX11_mostAlike 64 = .ok (.istore 4, 2) := by decide +kernel
theorem dX11_mostAlike_66 : decode cX11_mostAlike 66 = .ok (.iinc 5 1, 3) := by decide +kernel
theorem dX11_mostAlike_69 : decode cX11_mostAlike 69 = .ok (.goto (-53), 3) := by decide +kernel
theorem dX11_mostAlike_72 : decode cX11_mostAlike 72 = .ok (.iload 4, 2) := by decide +kernel
theorem dX11_mostAlike_74 : decode cX11_mostAlike 74 = .ok (.iload_n 2, 1) := by decide +kernel
theorem dX11_mostAlike_75 : decode cX11_mostAlike 75 = .ok (.if_icmp .le 8, 3) := by decide +kernel
theorem dX11_mostAlike_78 : decode cX11_mostAlike 78 = .ok (.iload 4, 2) := by decide +kernel
theorem dX11_mostAlike_80 : decode cX11_mostAlike 80 = .ok (.goto 4, 3) := by decide +kernel
theorem dX11_mostAlike_83 : decode cX11_mostAlike 83 = .ok (.iload_n 2, 1) := by decide +kernel
theorem dX11_mostAlike_84 : decode cX11_mostAlike 84 = .ok (.istore_n 2, 1) := by decide +kernel
theorem dX11_mostAlike_85 : decode cX11_mostAlike 85 = .ok (.iinc 3 1, 3) := by decide +kernel
theorem dX11_mostAlike_88 : decode cX11_mostAlike 88 = .ok (.goto (-84), 3) := by decide +kernel
theorem dX11_mostAlike_91 : decode cX11_mostAlike 91 = .ok (.iload_n 2, 1) := by decide +kernel
theorem dX11_mostAlike_92 : decode cX11_mostAlike 92 = .ok (.ireturn, 1) := by decide +kernel
set_option maxRecDepth 20000 in
theorem ggX11_bestLook_X11_goesAs : GoodIn wsX11_bestLook wsX11_goesAs := goodIn_r _ [6] rfl (by decide +kernel)
set_option maxRecDepth 20000 in
theorem gX11_bestLook_X11_goesAs : GoodIn wsX11_bestLook (va_wsS RX11 99 yX11_goesAs wsX11_goesAs) := goodIn_app (goodIn_of _ (by decide +kernel)) ggX11_bestLook_X11_goesAs
set_option maxRecDepth 20000 in
theorem ggX11_bestLook_X11_letsAs : GoodIn wsX11_bestLook wsX11_letsAs := goodIn_r _ [9] rfl (by decide +kernel)
set_option maxRecDepth 20000 in
theorem gX11_bestLook_X11_letsAs : GoodIn wsX11_bestLook (va_wsS RX11 119 yX11_letsAs wsX11_letsAs) := goodIn_app (goodIn_of _ (by decide +kernel)) ggX11_bestLook_X11_letsAs
set_option maxRecDepth 20000 in
theorem ggX11_bestLook_X11_mostAlike : GoodIn wsX11_bestLook wsX11_mostAlike := goodIn_r _ [13, 2, 14, 15, 5, 16, 17, 18, 19, 20, 21, 22, 23, 24, 25, 26, 27, 28, 29, 30, 31, 32, 33, 34] rfl (by decide +kernel)
set_option maxRecDepth 20000 in
theorem gX11_bestLook_X11_mostAlike : GoodIn wsX11_bestLook (wsV RX11 190 RX11 yX11_mostAlike wsX11_mostAlike) := goodIn_app (goodIn_of _ (by decide +kernel)) ggX11_bestLook_X11_mostAlike
theorem dX11_bestLook_0 : decode cX11_bestLook 0 = .ok (.iconst (-1), 1) := by decide +kernel
theorem dX11_bestLook_1 : decode cX11_bestLook 1 = .ok (.istore 6, 2) := by decide +kernel
theorem dX11_bestLook_3 : decode cX11_bestLook 3 = .ok (.ldc 175, 2) := by decide +kernel
theorem dX11_bestLook_5 : decode cX11_bestLook 5 = .ok (.istore 7, 2) := by decide +kernel
theorem dX11_bestLook_7 : decode cX11_bestLook 7 = .ok (.iconst 0, 1) := by decide +kernel
theorem dX11_bestLook_8 : decode cX11_bestLook 8 = .ok (.istore 8, 2) := by decide +kernel
theorem dX11_bestLook_10 : decode cX11_bestLook 10 = .ok (.iload 8, 2) := by decide +kernel
theorem dX11_bestLook_12 : decode cX11_bestLook 12 = .ok (.iload_n 2, 1) := by decide +kernel
theorem dX11_bestLook_13 : decode cX11_bestLook 13 = .ok (.if_icmp .ge 123, 3) := by decide +kernel
theorem dX11_bestLook_16 : decode cX11_bestLook 16 = .ok (.iload_n 1, 1) := by decide +kernel
theorem dX11_bestLook_17 : decode cX11_bestLook 17 = .ok (.ifCond .le 119, 3) := by decide +kernel
theorem dX11_bestLook_20 : decode cX11_bestLook 20 = .ok (.iload_n 3, 1) := by decide +kernel
theorem dX11_bestLook_21 : decode cX11_bestLook 21 = .ok (.istore 9, 2) := by decide +kernel
theorem dX11_bestLook_23 : decode cX11_bestLook 23 = .ok (.iload 9, 2) := by decide +kernel
theorem dX11_bestLook_25 : decode cX11_bestLook 25 = .ok (.iload 4, 2) := by decide +kernel
theorem dX11_bestLook_27 : decode cX11_bestLook 27 = .ok (.if_icmp .gt 103, 3) := by decide +kernel
theorem dX11_bestLook_30 : decode cX11_bestLook 30 = .ok (.iconst 0, 1) := by decide +kernel
theorem dX11_bestLook_31 : decode cX11_bestLook 31 = .ok (.istore 10, 2) := by decide +kernel
theorem dX11_bestLook_33 : decode cX11_bestLook 33 = .ok (.iload 10, 2) := by decide +kernel
theorem dX11_bestLook_35 : decode cX11_bestLook 35 = .ok (.bipush 6, 2) := by decide +kernel
theorem dX11_bestLook_37 : decode cX11_bestLook 37 = .ok (.if_icmp .ge 42, 3) := by decide +kernel
theorem dX11_bestLook_40 : decode cX11_bestLook 40 = .ok (.aload_n 0, 1) := by decide +kernel
theorem dX11_bestLook_41 : decode cX11_bestLook 41 = .ok (.getfield 36, 3) := by decide +kernel
theorem dX11_bestLook_44 : decode cX11_bestLook 44 = .ok (.iload 10, 2) := by decide +kernel
theorem dX11_bestLook_46 : decode cX11_bestLook 46 = .ok (.iload 5, 2) := by decide +kernel
theorem dX11_bestLook_48 : decode cX11_bestLook 48 = .ok (.ifCond .eq 15, 3) := by decide +kernel
theorem dX11_bestLook_51 : decode cX11_bestLook 51 = .ok (.iload 10, 2) := by decide +kernel
theorem dX11_bestLook_53 : decode cX11_bestLook 53 = .ok (.iload 8, 2) := by decide +kernel
theorem dX11_bestLook_55 : decode cX11_bestLook 55 = .ok (.iload 9, 2) := by decide +kernel
theorem dX11_bestLook_57 : decode cX11_bestLook 57 = .ok (.invokestatic 99, 3) := by decide +kernel
theorem dX11_bestLook_60 : decode cX11_bestLook 60 = .ok (.goto 12, 3) := by decide +kernel
theorem dX11_bestLook_63 : decode cX11_bestLook 63 = .ok (.iload 10, 2) := by decide +kernel
theorem dX11_bestLook_65 : decode cX11_bestLook 65 = .ok (.iload 8, 2) := by decide +kernel
theorem dX11_bestLook_67 : decode cX11_bestLook 67 = .ok (.iload 9, 2) := by decide +kernel
theorem dX11_bestLook_69 : decode cX11_bestLook 69 = .ok (.invokestatic 119, 3) := by decide +kernel
theorem dX11_bestLook_72 : decode cX11_bestLook 72 = .ok (.iastore, 1) := by decide +kernel
theorem dX11_bestLook_73 : decode cX11_bestLook 73 = .ok (.iinc 10 1, 3) := by decide +kernel
theorem dX11_bestLook_76 : decode cX11_bestLook 76 = .ok (.goto (-43), 3) := by decide +kernel
theorem dX11_bestLook_79 : decode cX11_bestLook 79 = .ok (.aload_n 0, 1) := by decide +kernel
theorem dX11_bestLook_80 : decode cX11_bestLook 80 = .ok (.iload_n 1, 1) := by decide +kernel
theorem dX11_bestLook_81 : decode cX11_bestLook 81 = .ok (.invokevirtual 190, 3) := by decide +kernel
theorem dX11_bestLook_84 : decode cX11_bestLook 84 = .ok (.istore 10, 2) := by decide +kernel
theorem dX11_bestLook_86 : decode cX11_bestLook 86 = .ok (.iload 10, 2) := by decide +kernel
theorem dX11_bestLook_88 : decode cX11_bestLook 88 = .ok (.iload 7, 2) := by decide +kernel
theorem dX11_bestLook_90 : decode cX11_bestLook 90 = .ok (.if_icmp .ge 14, 3) := by decide +kernel
theorem dX11_bestLook_93 : decode cX11_bestLook 93 = .ok (.bipush 10, 2) := by decide +kernel
theorem dX11_bestLook_95 : decode cX11_bestLook 95 = .ok (.iload 8, 2) := by decide +kernel
theorem dX11_bestLook_97 : decode cX11_bestLook 97 = .ok (.imul, 1) := by decide +kernel
theorem dX11_bestLook_98 : decode cX11_bestLook 98 = .ok (.iload 9, 2) := by decide +kernel
theorem dX11_bestLook_100 : decode cX11_bestLook 100 = .ok (.iadd, 1) := by decide +kernel
theorem dX11_bestLook_101 : decode cX11_bestLook 101 = .ok (.goto 5, 3) := by decide +kernel
theorem dX11_bestLook_104 : decode cX11_bestLook 104 = .ok (.iload 6, 2) := by decide +kernel
theorem dX11_bestLook_106 : decode cX11_bestLook 106 = .ok (.istore 6, 2) := by decide +kernel
theorem dX11_bestLook_108 : decode cX11_bestLook 108 = .ok (.iload 10, 2) := by decide +kernel
theorem dX11_bestLook_110 : decode cX11_bestLook 110 = .ok (.iload 7, 2) := by decide +kernel
theorem dX11_bestLook_112 : decode cX11_bestLook 112 = .ok (.if_icmp .ge 8, 3) := by decide +kernel
theorem dX11_bestLook_115 : decode cX11_bestLook 115 = .ok (.iload 10, 2) := by decide +kernel
theorem dX11_bestLook_117 : decode cX11_bestLook 117 = .ok (.goto 5, 3) := by decide +kernel
theorem dX11_bestLook_120 : decode cX11_bestLook 120 = .ok (.iload 7, 2) := by decide +kernel
theorem dX11_bestLook_122 : decode cX11_bestLook 122 = .ok (.istore 7, 2) := by decide +kernel
theorem dX11_bestLook_124 : decode cX11_bestLook 124 = .ok (.iinc 9 1, 3) := by decide +kernel
theorem dX11_bestLook_127 : decode cX11_bestLook 127 = .ok (.goto (-104), 3) := by decide +kernel
theorem dX11_bestLook_130 : decode cX11_bestLook 130 = .ok (.iinc 8 1, 3) := by decide +kernel
theorem dX11_bestLook_133 : decode cX11_bestLook 133 = .ok (.goto (-123), 3) := by decide +kernel
theorem dX11_bestLook_136 : decode cX11_bestLook 136 = .ok (.iload 6, 2) := by decide +kernel
theorem dX11_bestLook_138 : decode cX11_bestLook 138 = .ok (.ireturn, 1) := by decide +kernel
set_option maxRecDepth 20000 in
theorem ggX11_is_X11_isGlove : GoodIn wsX11_is wsX11_isGlove := goodIn_r _ [5, 6, 7, 8, 4, 9, 10, 11, 12, 13, 33, 34, 35, 36, 37, 38, 39, 40, 41, 42, 43, 44, 45, 46, 47, 48, 49, 50] rfl (by decide +kernel)
set_option maxRecDepth 20000 in
theorem gX11_is_X11_isGlove : GoodIn wsX11_is (wsV RX11 140 RX11 yX11_isGlove wsX11_isGlove) := goodIn_app (goodIn_of _ (by decide +kernel)) ggX11_is_X11_isGlove
set_option maxRecDepth 20000 in
theorem ggX11_is_X11_kindsOfGlove : GoodIn wsX11_is wsX11_kindsOfGlove := goodIn_r _ [17, 10, 18, 19, 20, 4, 21, 22, 23, 24, 25, 26, 27, 33, 34, 35, 36, 37, 38, 39, 40, 41, 42, 43, 44, 45, 46, 47, 48, 49, 50] rfl (by decide +kernel)
set_option maxRecDepth 20000 in
theorem gX11_is_X11_kindsOfGlove : GoodIn wsX11_is (wsV RX11 193 RX11 yX11_kindsOfGlove wsX11_kindsOfGlove) := goodIn_app (goodIn_of _ (by decide +kernel)) ggX11_is_X11_kindsOfGlove
set_option maxRecDepth 20000 in
theorem ggX11_is_X11_bad : GoodIn wsX11_is wsX11_bad := goodIn_r _ [31, 32, 33, 34, 35, 36, 37, 38, 39, 40, 41, 42, 43, 44, 45, 46, 47, 48, 49, 50] rfl (by decide +kernel)
set_option maxRecDepth 20000 in
theorem gX11_is_X11_bad : GoodIn wsX11_is (wsV RX11 70 RX11 yX11_bad wsX11_bad) := goodIn_app (goodIn_of _ (by decide +kernel)) ggX11_is_X11_bad
theorem dX11_is_0 : decode cX11_is 0 = .ok (.aload_n 0, 1) := by decide +kernel
theorem dX11_is_1 : decode cX11_is 1 = .ok (.iload_n 1, 1) := by decide +kernel
theorem dX11_is_2 : decode cX11_is 2 = .ok (.invokevirtual 140, 3) := by decide +kernel
theorem dX11_is_5 : decode cX11_is 5 = .ok (.ifCond .eq 11, 3) := by decide +kernel
theorem dX11_is_8 : decode cX11_is 8 = .ok (.aload_n 0, 1) := by decide +kernel
theorem dX11_is_9 : decode cX11_is 9 = .ok (.iload_n 1, 1) := by decide +kernel
theorem dX11_is_10 : decode cX11_is 10 = .ok (.invokevirtual 193, 3) := by decide +kernel
theorem dX11_is_13 : decode cX11_is 13 = .ok (.goto 9, 3) := by decide +kernel
theorem dX11_is_16 : decode cX11_is 16 = .ok (.aload_n 0, 1) := by decide +kernel
theorem dX11_is_17 : decode cX11_is 17 = .ok (.bipush (-2), 2) := by decide +kernel
theorem dX11_is_19 : decode cX11_is 19 = .ok (.invokevirtual 70, 3) := by decide +kernel
theorem dX11_is_22 : decode cX11_is 22 = .ok (.ireturn, 1) := by decide +kernel
set_option maxRecDepth 20000 in
theorem ggX11_look_X11_isGlove : GoodIn wsX11_look wsX11_isGlove := goodIn_r _ [5, 6, 7, 8, 4, 9, 10, 11, 12, 13, 46, 47, 48, 49, 50, 51, 52, 53, 54, 55, 56, 57, 58, 59, 60, 61, 62, 63] rfl (by decide +kernel)
set_option maxRecDepth 20000 in
theorem gX11_look_X11_isGlove : GoodIn wsX11_look (wsV RX11 140 RX11 yX11_isGlove wsX11_isGlove) := goodIn_app (goodIn_of _ (by decide +kernel)) ggX11_look_X11_isGlove
set_option maxRecDepth 20000 in
theorem ggX11_look_X11_kindsOfGlove : GoodIn wsX11_look wsX11_kindsOfGlove := goodIn_r _ [17, 10, 18, 19, 20, 4, 21, 22, 23, 24, 25, 26, 27, 46, 47, 48, 49, 50, 51, 52, 53, 54, 55, 56, 57, 58, 59, 60, 61, 62, 63] rfl (by decide +kernel)
set_option maxRecDepth 20000 in
theorem gX11_look_X11_kindsOfGlove : GoodIn wsX11_look (wsV RX11 193 RX11 yX11_kindsOfGlove wsX11_kindsOfGlove) := goodIn_app (goodIn_of _ (by decide +kernel)) ggX11_look_X11_kindsOfGlove
set_option maxRecDepth 20000 in
theorem ggX11_look_X11_bestLook : GoodIn wsX11_look wsX11_bestLook := goodIn_r _ [31, 32, 33, 22, 23, 4, 24, 25, 26, 27, 34, 35, 36, 37, 38, 39, 40, 46, 47, 48, 49, 50, 51, 52, 53, 54, 55, 56, 57, 58, 59, 60, 61, 62, 63] rfl (by decide +kernel)
set_option maxRecDepth 20000 in
theorem gX11_look_X11_bestLook : GoodIn wsX11_look (wsV RX11 196 RX11 yX11_bestLook wsX11_bestLook) := goodIn_app (goodIn_of _ (by decide +kernel)) ggX11_look_X11_bestLook
set_option maxRecDepth 20000 in
theorem ggX11_look_X11_bad : GoodIn wsX11_look wsX11_bad := goodIn_r _ [44, 45, 46, 47, 48, 49, 50, 51, 52, 53, 54, 55, 56, 57, 58, 59, 60, 61, 62, 63] rfl (by decide +kernel)
set_option maxRecDepth 20000 in
theorem gX11_look_X11_bad : GoodIn wsX11_look (wsV RX11 70 RX11 yX11_bad wsX11_bad) := goodIn_app (goodIn_of _ (by decide +kernel)) ggX11_look_X11_bad
theorem dX11_look_0 : decode cX11_look 0 = .ok (.aload_n 0, 1) := by decide +kernel
theorem dX11_look_1 : decode cX11_look 1 = .ok (.iload_n 1, 1) := by decide +kernel
theorem dX11_look_2 : decode cX11_look 2 = .ok (.invokevirtual 140, 3) := by decide +kernel
theorem dX11_look_5 : decode cX11_look 5 = .ok (.ifCond .eq 20, 3) := by decide +kernel
theorem dX11_look_8 : decode cX11_look 8 = .ok (.aload_n 0, 1) := by decide +kernel
theorem dX11_look_9 : decode cX11_look 9 = .ok (.aload_n 0, 1) := by decide +kernel
theorem dX11_look_10 : decode cX11_look 10 = .ok (.iload_n 1, 1) := by decide +kernel
theorem dX11_look_11 : decode cX11_look 11 = .ok (.invokevirtual 193, 3) := by decide +kernel
theorem dX11_look_14 : decode cX11_look 14 = .ok (.bipush 10, 2) := by decide +kernel
theorem dX11_look_16 : decode cX11_look 16 = .ok (.iconst 0, 1) := by decide +kernel
theorem dX11_look_17 : decode cX11_look 17 = .ok (.iconst 4, 1) := by decide +kernel
theorem dX11_look_18 : decode cX11_look 18 = .ok (.iconst 1, 1) := by decide +kernel
theorem dX11_look_19 : decode cX11_look 19 = .ok (.invokevirtual 196, 3) := by decide +kernel
theorem dX11_look_22 : decode cX11_look 22 = .ok (.goto 9, 3) := by decide +kernel
theorem dX11_look_25 : decode cX11_look 25 = .ok (.aload_n 0, 1) := by decide +kernel
theorem dX11_look_26 : decode cX11_look 26 = .ok (.bipush (-2), 2) := by decide +kernel
theorem dX11_look_28 : decode cX11_look 28 = .ok (.invokevirtual 70, 3) := by decide +kernel
theorem dX11_look_31 : decode cX11_look 31 = .ok (.ireturn, 1) := by decide +kernel
set_option maxRecDepth 20000 in
theorem ggX11_kinds_X11_isCrossing : GoodIn wsX11_kinds wsX11_isCrossing := goodIn_r _ [5, 6, 7, 8, 4, 9, 29, 30, 31, 32, 33, 34, 35, 36, 37, 38, 39, 40, 41, 42, 43, 44, 45, 46] rfl (by decide +kernel)
set_option maxRecDepth 20000 in
theorem gX11_kinds_X11_isCrossing : GoodIn wsX11_kinds (wsV RX11 134 RX11 yX11_isCrossing wsX11_isCrossing) := goodIn_app (goodIn_of _ (by decide +kernel)) ggX11_kinds_X11_isCrossing
set_option maxRecDepth 20000 in
theorem ggX11_kinds_X11_kindsOfCrossing : GoodIn wsX11_kinds wsX11_kindsOfCrossing := goodIn_r _ [13, 6, 14, 15, 16, 4, 17, 18, 19, 20, 21, 22, 23, 29, 30, 31, 32, 33, 34, 35, 36, 37, 38, 39, 40, 41, 42, 43, 44, 45, 46] rfl (by decide +kernel)
set_option maxRecDepth 20000 in
theorem gX11_kinds_X11_kindsOfCrossing : GoodIn wsX11_kinds (wsV RX11 200 RX11 yX11_kindsOfCrossing wsX11_kindsOfCrossing) := goodIn_app (goodIn_of _ (by decide +kernel)) ggX11_kinds_X11_kindsOfCrossing
set_option maxRecDepth 20000 in
theorem ggX11_kinds_X11_bad : GoodIn wsX11_kinds wsX11_bad := goodIn_r _ [27, 28, 29, 30, 31, 32, 33, 34, 35, 36, 37, 38, 39, 40, 41, 42, 43, 44, 45, 46] rfl (by decide +kernel)
set_option maxRecDepth 20000 in
theorem gX11_kinds_X11_bad : GoodIn wsX11_kinds (wsV RX11 70 RX11 yX11_bad wsX11_bad) := goodIn_app (goodIn_of _ (by decide +kernel)) ggX11_kinds_X11_bad
theorem dX11_kinds_0 : decode cX11_kinds 0 = .ok (.aload_n 0, 1) := by decide +kernel
theorem dX11_kinds_1 : decode cX11_kinds 1 = .ok (.iload_n 1, 1) := by decide +kernel
theorem dX11_kinds_2 : decode cX11_kinds 2 = .ok (.invokevirtual 134, 3) := by decide +kernel
theorem dX11_kinds_5 : decode cX11_kinds 5 = .ok (.ifCond .eq 11, 3) := by decide +kernel
theorem dX11_kinds_8 : decode cX11_kinds 8 = .ok (.aload_n 0, 1) := by decide +kernel
theorem dX11_kinds_9 : decode cX11_kinds 9 = .ok (.iload_n 1, 1) := by decide +kernel
theorem dX11_kinds_10 : decode cX11_kinds 10 = .ok (.invokevirtual 200, 3) := by decide +kernel
theorem dX11_kinds_13 : decode cX11_kinds 13 = .ok (.goto 9, 3) := by decide +kernel
theorem dX11_kinds_16 : decode cX11_kinds 16 = .ok (.aload_n 0, 1) := by decide +kernel
theorem dX11_kinds_17 : decode cX11_kinds 17 = .ok (.bipush (-2), 2) := by decide +kernel
theorem dX11_kinds_19 : decode cX11_kinds 19 = .ok (.invokevirtual 70, 3) := by decide +kernel
theorem dX11_kinds_22 : decode cX11_kinds 22 = .ok (.ireturn, 1) := by decide +kernel
set_option maxRecDepth 20000 in
theorem ggX11_ask_X11_isCrossing : GoodIn wsX11_ask wsX11_isCrossing := goodIn_r _ [5, 6, 7, 8, 4, 9, 42, 43, 44, 45, 46, 47, 48, 49, 50, 51, 52, 53, 54, 55, 56, 57, 58, 59] rfl (by decide +kernel)
set_option maxRecDepth 20000 in
theorem gX11_ask_X11_isCrossing : GoodIn wsX11_ask (wsV RX11 134 RX11 yX11_isCrossing wsX11_isCrossing) := goodIn_app (goodIn_of _ (by decide +kernel)) ggX11_ask_X11_isCrossing
set_option maxRecDepth 20000 in
theorem ggX11_ask_X11_kindsOfCrossing : GoodIn wsX11_ask wsX11_kindsOfCrossing := goodIn_r _ [13, 6, 14, 15, 16, 4, 17, 18, 19, 20, 21, 22, 23, 42, 43, 44, 45, 46, 47, 48, 49, 50, 51, 52, 53, 54, 55, 56, 57, 58, 59] rfl (by decide +kernel)
set_option maxRecDepth 20000 in
theorem gX11_ask_X11_kindsOfCrossing : GoodIn wsX11_ask (wsV RX11 200 RX11 yX11_kindsOfCrossing wsX11_kindsOfCrossing) := goodIn_app (goodIn_of _ (by decide +kernel)) ggX11_ask_X11_kindsOfCrossing
set_option maxRecDepth 20000 in
theorem ggX11_ask_X11_bestLook : GoodIn wsX11_ask wsX11_bestLook := goodIn_r _ [27, 28, 29, 18, 19, 4, 20, 21, 22, 23, 30, 31, 32, 33, 34, 35, 36, 42, 43, 44, 45, 46, 47, 48, 49, 50, 51, 52, 53, 54, 55, 56, 57, 58, 59] rfl (by decide +kernel)
set_option maxRecDepth 20000 in
theorem gX11_ask_X11_bestLook : GoodIn wsX11_ask (wsV RX11 196 RX11 yX11_bestLook wsX11_bestLook) := goodIn_app (goodIn_of _ (by decide +kernel)) ggX11_ask_X11_bestLook
set_option maxRecDepth 20000 in
theorem ggX11_ask_X11_bad : GoodIn wsX11_ask wsX11_bad := goodIn_r _ [40, 41, 42, 43, 44, 45, 46, 47, 48, 49, 50, 51, 52, 53, 54, 55, 56, 57, 58, 59] rfl (by decide +kernel)
set_option maxRecDepth 20000 in
theorem gX11_ask_X11_bad : GoodIn wsX11_ask (wsV RX11 70 RX11 yX11_bad wsX11_bad) := goodIn_app (goodIn_of _ (by decide +kernel)) ggX11_ask_X11_bad
theorem dX11_ask_0 : decode cX11_ask 0 = .ok (.aload_n 0, 1) := by decide +kernel
theorem dX11_ask_1 : decode cX11_ask 1 = .ok (.iload_n 1, 1) := by decide +kernel
theorem dX11_ask_2 : decode cX11_ask 2 = .ok (.invokevirtual 134, 3) := by decide +kernel
theorem dX11_ask_5 : decode cX11_ask 5 = .ok (.ifCond .eq 21, 3) := by decide +kernel
theorem dX11_ask_8 : decode cX11_ask 8 = .ok (.aload_n 0, 1) := by decide +kernel
theorem dX11_ask_9 : decode cX11_ask 9 = .ok (.aload_n 0, 1) := by decide +kernel
theorem dX11_ask_10 : decode cX11_ask 10 = .ok (.iload_n 1, 1) := by decide +kernel
theorem dX11_ask_11 : decode cX11_ask 11 = .ok (.invokevirtual 200, 3) := by decide +kernel
theorem dX11_ask_14 : decode cX11_ask 14 = .ok (.bipush 24, 2) := by decide +kernel
theorem dX11_ask_16 : decode cX11_ask 16 = .ok (.iconst 1, 1) := by decide +kernel
theorem dX11_ask_17 : decode cX11_ask 17 = .ok (.bipush 7, 2) := by decide +kernel
theorem dX11_ask_19 : decode cX11_ask 19 = .ok (.iconst 0, 1) := by decide +kernel
theorem dX11_ask_20 : decode cX11_ask 20 = .ok (.invokevirtual 196, 3) := by decide +kernel
theorem dX11_ask_23 : decode cX11_ask 23 = .ok (.goto 9, 3) := by decide +kernel
theorem dX11_ask_26 : decode cX11_ask 26 = .ok (.aload_n 0, 1) := by decide +kernel
theorem dX11_ask_27 : decode cX11_ask 27 = .ok (.bipush (-2), 2) := by decide +kernel
theorem dX11_ask_29 : decode cX11_ask 29 = .ok (.invokevirtual 70, 3) := by decide +kernel
theorem dX11_ask_32 : decode cX11_ask 32 = .ok (.ireturn, 1) := by decide +kernel
set_option maxRecDepth 20000 in
theorem ggX11_spikesOf_X11_layHand : GoodIn wsX11_spikesOf wsX11_layHand := goodIn_r _ [6, 1, 7, 35, 36, 37, 38, 39, 40, 41, 42, 43, 44, 45, 46, 47, 48, 49, 50, 51, 52] rfl (by decide +kernel)
set_option maxRecDepth 20000 in
theorem gX11_spikesOf_X11_layHand : GoodIn wsX11_spikesOf (wsV RX11 147 RX11 yX11_layHand wsX11_layHand) := goodIn_app (goodIn_of _ (by decide +kernel)) ggX11_spikesOf_X11_layHand
set_option maxRecDepth 20000 in
theorem ggX11_spikesOf_X11_goHour : GoodIn wsX11_spikesOf wsX11_goHour := goodIn_r _ [10, 11, 12, 5, 13, 14, 15, 16, 17, 18, 19, 20, 21, 22, 23, 24, 25, 26, 27, 28, 29, 30, 31, 32, 33, 34] rfl (by decide +kernel)
set_option maxRecDepth 20000 in
theorem gX11_spikesOf_X11_goHour : GoodIn wsX11_spikesOf (va_wsS RX11 122 yX11_goHour wsX11_goHour) := goodIn_app (goodIn_of _ (by decide +kernel)) ggX11_spikesOf_X11_goHour
theorem dX11_spikesOf_0 : decode cX11_spikesOf 0 = .ok (.iconst 0, 1) := by decide +kernel
theorem dX11_spikesOf_1 : decode cX11_spikesOf 1 = .ok (.istore_n 2, 1) := by decide +kernel
theorem dX11_spikesOf_2 : decode cX11_spikesOf 2 = .ok (.aload_n 0, 1) := by decide +kernel
theorem dX11_spikesOf_3 : decode cX11_spikesOf 3 = .ok (.invokevirtual 147, 3) := by decide +kernel
theorem dX11_spikesOf_6 : decode cX11_spikesOf 6 = .ok (.iconst 0, 1) := by decide +kernel
theorem dX11_spikesOf_7 : decode cX11_spikesOf 7 = .ok (.istore_n 3, 1) := by decide +kernel
theorem dX11_spikesOf_8 : decode cX11_spikesOf 8 = .ok (.iload_n 3, 1) := by decide +kernel
theorem dX11_spikesOf_9 : decode cX11_spikesOf 9 = .ok (.bipush 30, 2) := by decide +kernel
theorem dX11_spikesOf_11 : decode cX11_spikesOf 11 = .ok (.if_icmp .gt 30, 3) := by decide +kernel
theorem dX11_spikesOf_14 : decode cX11_spikesOf 14 = .ok (.iload_n 2, 1) := by decide +kernel
theorem dX11_spikesOf_15 : decode cX11_spikesOf 15 = .ok (.iconst 1, 1) := by decide +kernel
theorem dX11_spikesOf_16 : decode cX11_spikesOf 16 = .ok (.aload_n 0, 1) := by decide +kernel
theorem dX11_spikesOf_17 : decode cX11_spikesOf 17 = .ok (.getfield 27, 3) := by decide +kernel
theorem dX11_spikesOf_20 : decode cX11_spikesOf 20 = .ok (.bipush 6, 2) := by decide +kernel
theorem dX11_spikesOf_22 : decode cX11_spikesOf 22 = .ok (.iload_n 1, 1) := by decide +kernel
theorem dX11_spikesOf_23 : decode cX11_spikesOf 23 = .ok (.iadd, 1) := by decide +kernel
theorem dX11_spikesOf_24 : decode cX11_spikesOf 24 = .ok (.iaload, 1) := by decide +kernel
theorem dX11_spikesOf_25 : decode cX11_spikesOf 25 = .ok (.ishl, 1) := by decide +kernel
theorem dX11_spikesOf_26 : decode cX11_spikesOf 26 = .ok (.ior, 1) := by decide +kernel
theorem dX11_spikesOf_27 : decode cX11_spikesOf 27 = .ok (.istore_n 2, 1) := by decide +kernel
theorem dX11_spikesOf_28 : decode cX11_spikesOf 28 = .ok (.aload_n 0, 1) := by decide +kernel
theorem dX11_spikesOf_29 : decode cX11_spikesOf 29 = .ok (.getfield 27, 3) := by decide +kernel
theorem dX11_spikesOf_32 : decode cX11_spikesOf 32 = .ok (.invokestatic 122, 3) := by decide +kernel
theorem dX11_spikesOf_35 : decode cX11_spikesOf 35 = .ok (.iinc 3 1, 3) := by decide +kernel
theorem dX11_spikesOf_38 : decode cX11_spikesOf 38 = .ok (.goto (-30), 3) := by decide +kernel
theorem dX11_spikesOf_41 : decode cX11_spikesOf 41 = .ok (.iload_n 2, 1) := by decide +kernel
theorem dX11_spikesOf_42 : decode cX11_spikesOf 42 = .ok (.ireturn, 1) := by decide +kernel
set_option maxRecDepth 20000 in
theorem ggX11_toHer_X11_has : GoodIn wsX11_toHer wsX11_has := goodIn_r _ [4] rfl (by decide +kernel)
set_option maxRecDepth 20000 in
theorem gX11_toHer_X11_has : GoodIn wsX11_toHer (va_wsS RX11 112 yX11_has wsX11_has) := goodIn_app (goodIn_of _ (by decide +kernel)) ggX11_toHer_X11_has
theorem dX11_toHer_0 : decode cX11_toHer 0 = .ok (.iload_n 0, 1) := by decide +kernel
theorem dX11_toHer_1 : decode cX11_toHer 1 = .ok (.iload_n 1, 1) := by decide +kernel
theorem dX11_toHer_2 : decode cX11_toHer 2 = .ok (.invokestatic 112, 3) := by decide +kernel
theorem dX11_toHer_5 : decode cX11_toHer 5 = .ok (.ifCond .eq 7, 3) := by decide +kernel
theorem dX11_toHer_8 : decode cX11_toHer 8 = .ok (.iconst 5, 1) := by decide +kernel
theorem dX11_toHer_9 : decode cX11_toHer 9 = .ok (.goto 4, 3) := by decide +kernel
theorem dX11_toHer_12 : decode cX11_toHer 12 = .ok (.iconst 0, 1) := by decide +kernel
theorem dX11_toHer_13 : decode cX11_toHer 13 = .ok (.iload_n 1, 1) := by decide +kernel
theorem dX11_toHer_14 : decode cX11_toHer 14 = .ok (.iconst 3, 1) := by decide +kernel
theorem dX11_toHer_15 : decode cX11_toHer 15 = .ok (.idiv, 1) := by decide +kernel
theorem dX11_toHer_16 : decode cX11_toHer 16 = .ok (.isub, 1) := by decide +kernel
theorem dX11_toHer_17 : decode cX11_toHer 17 = .ok (.iload_n 1, 1) := by decide +kernel
theorem dX11_toHer_18 : decode cX11_toHer 18 = .ok (.iload_n 2, 1) := by decide +kernel
theorem dX11_toHer_19 : decode cX11_toHer 19 = .ok (.if_icmp .ne 7, 3) := by decide +kernel
theorem dX11_toHer_22 : decode cX11_toHer 22 = .ok (.iconst 3, 1) := by decide +kernel
theorem dX11_toHer_23 : decode cX11_toHer 23 = .ok (.goto 4, 3) := by decide +kernel
theorem dX11_toHer_26 : decode cX11_toHer 26 = .ok (.iconst 0, 1) := by decide +kernel
theorem dX11_toHer_27 : decode cX11_toHer 27 = .ok (.isub, 1) := by decide +kernel
theorem dX11_toHer_28 : decode cX11_toHer 28 = .ok (.ireturn, 1) := by decide +kernel
theorem dX11_toHim_0 : decode cX11_toHim 0 = .ok (.iload_n 0, 1) := by decide +kernel
theorem dX11_toHim_1 : decode cX11_toHim 1 = .ok (.iload_n 1, 1) := by decide +kernel
theorem dX11_toHim_2 : decode cX11_toHim 2 = .ok (.if_icmp .ne 7, 3) := by decide +kernel
theorem dX11_toHim_5 : decode cX11_toHim 5 = .ok (.iconst 3, 1) := by decide +kernel
theorem dX11_toHim_6 : decode cX11_toHim 6 = .ok (.goto 4, 3) := by decide +kernel
theorem dX11_toHim_9 : decode cX11_toHim 9 = .ok (.iconst 0, 1) := by decide +kernel
theorem dX11_toHim_10 : decode cX11_toHim 10 = .ok (.iload_n 1, 1) := by decide +kernel
theorem dX11_toHim_11 : decode cX11_toHim 11 = .ok (.iconst 3, 1) := by decide +kernel
theorem dX11_toHim_12 : decode cX11_toHim 12 = .ok (.idiv, 1) := by decide +kernel
theorem dX11_toHim_13 : decode cX11_toHim 13 = .ok (.isub, 1) := by decide +kernel
theorem dX11_toHim_14 : decode cX11_toHim 14 = .ok (.ireturn, 1) := by decide +kernel
set_option maxRecDepth 20000 in
theorem ggX11_rests_X11_toHer : GoodIn wsX11_rests wsX11_toHer := goodIn_r _ [4, 5, 6, 3, 7] rfl (by decide +kernel)
set_option maxRecDepth 20000 in
theorem gX11_rests_X11_toHer : GoodIn wsX11_rests (va_wsS RX11 203 yX11_toHer wsX11_toHer) := goodIn_app (goodIn_of _ (by decide +kernel)) ggX11_rests_X11_toHer
set_option maxRecDepth 20000 in
theorem ggX11_rests_X11_toHim : GoodIn wsX11_rests wsX11_toHim := goodIn_r _ [10] rfl (by decide +kernel)
set_option maxRecDepth 20000 in
theorem gX11_rests_X11_toHim : GoodIn wsX11_rests (va_wsS RX11 206 yX11_toHim wsX11_toHim) := goodIn_app (goodIn_of _ (by decide +kernel)) ggX11_rests_X11_toHim
theorem dX11_rests_0 : decode cX11_rests 0 = .ok (.iconst 1, 1) := by decide +kernel
theorem dX11_rests_1 : decode cX11_rests 1 = .ok (.istore_n 3, 1) := by decide +kernel
theorem dX11_rests_2 : decode cX11_rests 2 = .ok (.iconst 0, 1) := by decide +kernel
theorem dX11_rests_3 : decode cX11_rests 3 = .ok (.istore 4, 2) := by decide +kernel
theorem dX11_rests_5 : decode cX11_rests 5 = .ok (.iload 4, 2) := by decide +kernel
theorem dX11_rests_7 : decode cX11_rests 7 = .ok (.bipush 10, 2) := by decide +kernel
theorem dX11_rests_9 : decode cX11_rests 9 = .ok (.if_icmp .ge 49, 3) := by decide +kernel
theorem dX11_rests_12 : decode cX11_rests 12 = .ok (.iload_n 3, 1) := by decide +kernel
theorem dX11_rests_13 : decode cX11_rests 13 = .ok (.ifCond .eq 37, 3) := by decide +kernel
theorem dX11_rests_16 : decode cX11_rests 16 = .ok (.iload_n 0, 1) := by decide +kernel
theorem dX11_rests_17 : decode cX11_rests 17 = .ok (.iload 4, 2) := by decide +kernel
theorem dX11_rests_19 : decode cX11_rests 19 = .ok (.iload_n 2, 1) := by decide +kernel
theorem dX11_rests_20 : decode cX11_rests 20 = .ok (.invokestatic 203, 3) := by decide +kernel
theorem dX11_rests_23 : decode cX11_rests 23 = .ok (.iload_n 0, 1) := by decide +kernel
theorem dX11_rests_24 : decode cX11_rests 24 = .ok (.iload_n 1, 1) := by decide +kernel
theorem dX11_rests_25 : decode cX11_rests 25 = .ok (.iload_n 2, 1) := by decide +kernel
theorem dX11_rests_26 : decode cX11_rests 26 = .ok (.invokestatic 203, 3) := by decide +kernel
theorem dX11_rests_29 : decode cX11_rests 29 = .ok (.if_icmp .gt 21, 3) := by decide +kernel
theorem dX11_rests_32 : decode cX11_rests 32 = .ok (.iload_n 1, 1) := by decide +kernel
theorem dX11_rests_33 : decode cX11_rests 33 = .ok (.iload 4, 2) := by decide +kernel
theorem dX11_rests_35 : decode cX11_rests 35 = .ok (.invokestatic 206, 3) := by decide +kernel
theorem dX11_rests_38 : decode cX11_rests 38 = .ok (.iload_n 1, 1) := by decide +kernel
theorem dX11_rests_39 : decode cX11_rests 39 = .ok (.iload_n 2, 1) := by decide +kernel
theorem dX11_rests_40 : decode cX11_rests 40 = .ok (.invokestatic 206, 3) := by decide +kernel
theorem dX11_rests_43 : decode cX11_rests 43 = .ok (.if_icmp .gt 7, 3) := by decide +kernel
theorem dX11_rests_46 : decode cX11_rests 46 = .ok (.iconst 1, 1) := by decide +kernel
theorem dX11_rests_47 : decode cX11_rests 47 = .ok (.goto 4, 3) := by decide +kernel
theorem dX11_rests_50 : decode cX11_rests 50 = .ok (.iconst 0, 1) := by decide +kernel
theorem dX11_rests_51 : decode cX11_rests 51 = .ok (.istore_n 3, 1) := by decide +kernel
theorem dX11_rests_52 : decode cX11_rests 52 = .ok (.iinc 4 1, 3) := by decide +kernel
theorem dX11_rests_55 : decode cX11_rests 55 = .ok (.goto (-50), 3) := by decide +kernel
theorem dX11_rests_58 : decode cX11_rests 58 = .ok (.iload_n 3, 1) := by decide +kernel
theorem dX11_rests_59 : decode cX11_rests 59 = .ok (.ireturn, 1) := by decide +kernel
set_option maxRecDepth 20000 in
theorem ggX11_lady_X11_isGlove : GoodIn wsX11_lady wsX11_isGlove := goodIn_r _ [5, 6, 7, 8, 4, 9, 10, 11, 12, 13, 64, 65, 66, 67, 68, 69, 70, 71, 72, 73, 74, 75, 76, 77, 78, 79, 80, 81] rfl (by decide +kernel)
set_option maxRecDepth 20000 in
theorem gX11_lady_X11_isGlove : GoodIn wsX11_lady (wsV RX11 140 RX11 yX11_isGlove wsX11_isGlove) := goodIn_app (goodIn_of _ (by decide +kernel)) ggX11_lady_X11_isGlove
set_option maxRecDepth 20000 in
theorem ggX11_lady_X11_bad : GoodIn wsX11_lady wsX11_bad := goodIn_r _ [17, 18, 64, 65, 66, 67, 68, 69, 70, 71, 72, 73, 74, 75, 76, 77, 78, 79, 80, 81] rfl (by decide +kernel)
set_option maxRecDepth 20000 in
theorem gX11_lady_X11_bad : GoodIn wsX11_lady (wsV RX11 70 RX11 yX11_bad wsX11_bad) := goodIn_app (goodIn_of _ (by decide +kernel)) ggX11_lady_X11_bad
set_option maxRecDepth 20000 in
theorem ggX11_lady_X11_spikesOf : GoodIn wsX11_lady wsX11_spikesOf := goodIn_r _ [22, 23, 24, 25, 26, 4, 27, 10, 28, 29, 30, 31, 32, 33, 34, 35, 36, 37, 38, 39, 40, 41, 42, 43, 44, 45, 46, 47, 48, 49, 50, 51, 52, 53, 54, 64, 65, 66, 67, 68, 69, 70, 71, 72, 73, 74, 75, 76, 77, 78, 79, 80, 81] rfl (by decide +kernel)
set_option maxRecDepth 20000 in
theorem gX11_lady_X11_spikesOf : GoodIn wsX11_lady (wsV RX11 210 RX11 yX11_spikesOf wsX11_spikesOf) := goodIn_app (goodIn_of _ (by decide +kernel)) ggX11_lady_X11_spikesOf
set_option maxRecDepth 20000 in
theorem ggX11_lady_X11_rests : GoodIn wsX11_lady wsX11_rests := goodIn_r _ [57, 58, 59, 4, 60, 34, 35, 36, 61, 62, 63] rfl (by decide +kernel)
set_option maxRecDepth 20000 in
theorem gX11_lady_X11_rests : GoodIn wsX11_lady (va_wsS RX11 213 yX11_rests wsX11_rests) := goodIn_app (goodIn_of _ (by decide +kernel)) ggX11_lady_X11_rests
theorem dX11_lady_0 : decode cX11_lady 0 = .ok (.aload_n 0, 1) := by decide +kernel
theorem dX11_lady_1 : decode cX11_lady 1 = .ok (.iload_n 1, 1) := by decide +kernel
theorem dX11_lady_2 : decode cX11_lady 2 = .ok (.invokevirtual 140, 3) := by decide +kernel
theorem dX11_lady_5 : decode cX11_lady 5 = .ok (.ifCond .eq 8, 3) := by decide +kernel
theorem dX11_lady_8 : decode cX11_lady 8 = .ok (.iload_n 2, 1) := by decide +kernel
theorem dX11_lady_9 : decode cX11_lady 9 = .ok (.iconst (-1), 1) := by decide +kernel
theorem dX11_lady_10 : decode cX11_lady 10 = .ok (.if_icmp .ge 10, 3) := by decide +kernel
theorem dX11_lady_13 : decode cX11_lady 13 = .ok (.aload_n 0, 1) := by decide +kernel
theorem dX11_lady_14 : decode cX11_lady 14 = .ok (.bipush (-10), 2) := by decide +kernel
theorem dX11_lady_16 : decode cX11_lady 16 = .ok (.invokevirtual 70, 3) := by decide +kernel
theorem dX11_lady_19 : decode cX11_lady 19 = .ok (.ireturn, 1) := by decide +kernel
theorem dX11_lady_20 : decode cX11_lady 20 = .ok (.aload_n 0, 1) := by decide +kernel
theorem dX11_lady_21 : decode cX11_lady 21 = .ok (.iload_n 1, 1) := by decide +kernel
theorem dX11_lady_22 : decode cX11_lady 22 = .ok (.invokevirtual 210, 3) := by decide +kernel
theorem dX11_lady_25 : decode cX11_lady 25 = .ok (.istore_n 3, 1) := by decide +kernel
theorem dX11_lady_26 : decode cX11_lady 26 = .ok (.iconst 0, 1) := by decide +kernel
theorem dX11_lady_27 : decode cX11_lady 27 = .ok (.istore 4, 2) := by decide +kernel
theorem dX11_lady_29 : decode cX11_lady 29 = .ok (.iconst 0, 1) := by decide +kernel
theorem dX11_lady_30 : decode cX11_lady 30 = .ok (.istore 5, 2) := by decide +kernel
theorem dX11_lady_32 : decode cX11_lady 32 = .ok (.iload 5, 2) := by decide +kernel
theorem dX11_lady_34 : decode cX11_lady 34 = .ok (.bipush 100, 2) := by decide +kernel
theorem dX11_lady_36 : decode cX11_lady 36 = .ok (.if_icmp .ge 38, 3) := by decide +kernel
theorem dX11_lady_39 : decode cX11_lady 39 = .ok (.iload_n 3, 1) := by decide +kernel
theorem dX11_lady_40 : decode cX11_lady 40 = .ok (.iload 5, 2) := by decide +kernel
theorem dX11_lady_42 : decode cX11_lady 42 = .ok (.bipush 10, 2) := by decide +kernel
theorem dX11_lady_44 : decode cX11_lady 44 = .ok (.idiv, 1) := by decide +kernel
theorem dX11_lady_45 : decode cX11_lady 45 = .ok (.iload 5, 2) := by decide +kernel
theorem dX11_lady_47 : decode cX11_lady 47 = .ok (.bipush 10, 2) := by decide +kernel
theorem dX11_lady_49 : decode cX11_lady 49 = .ok (.irem, 1) := by decide +kernel
theorem dX11_lady_50 : decode cX11_lady 50 = .ok (.invokestatic 213, 3) := by decide +kernel
theorem dX11_lady_53 : decode cX11_lady 53 = .ok (.ifCond .eq 15, 3) := by decide +kernel
theorem dX11_lady_56 : decode cX11_lady 56 = .ok (.iload 4, 2) := by decide +kernel
theorem dX11_lady_58 : decode cX11_lady 58 = .ok (.iload_n 2, 1) := by decide +kernel
theorem dX11_lady_59 : decode cX11_lady 59 = .ok (.if_icmp .ne 6, 3) := by decide +kernel
theorem dX11_lady_62 : decode cX11_lady 62 = .ok (.iload 5, 2) := by decide +kernel
theorem dX11_lady_64 : decode cX11_lady 64 = .ok (.ireturn, 1) := by decide +kernel
theorem dX11_lady_65 : decode cX11_lady 65 = .ok (.iinc 4 1, 3) := by decide +kernel
theorem dX11_lady_68 : decode cX11_lady 68 = .ok (.iinc 5 1, 3) := by decide +kernel
theorem dX11_lady_71 : decode cX11_lady 71 = .ok (.goto (-39), 3) := by decide +kernel
theorem dX11_lady_74 : decode cX11_lady 74 = .ok (.iload_n 2, 1) := by decide +kernel
theorem dX11_lady_75 : decode cX11_lady 75 = .ok (.iconst (-1), 1) := by decide +kernel
theorem dX11_lady_76 : decode cX11_lady 76 = .ok (.if_icmp .ne 8, 3) := by decide +kernel
theorem dX11_lady_79 : decode cX11_lady 79 = .ok (.iload 4, 2) := by decide +kernel
theorem dX11_lady_81 : decode cX11_lady 81 = .ok (.goto 5, 3) := by decide +kernel
theorem dX11_lady_84 : decode cX11_lady 84 = .ok (.bipush (-5), 2) := by decide +kernel
theorem dX11_lady_86 : decode cX11_lady 86 = .ok (.ireturn, 1) := by decide +kernel
theorem dX11_fraction_0 : decode cX11_fraction 0 = .ok (.lload_n 1, 1) := by decide +kernel
theorem dX11_fraction_1 : decode cX11_fraction 1 = .ok (.lstore 5, 2) := by decide +kernel
theorem dX11_fraction_3 : decode cX11_fraction 3 = .ok (.lload_n 3, 1) := by decide +kernel
theorem dX11_fraction_4 : decode cX11_fraction 4 = .ok (.lstore 7, 2) := by decide +kernel
theorem dX11_fraction_6 : decode cX11_fraction 6 = .ok (.lload 7, 2) := by decide +kernel
theorem dX11_fraction_8 : decode cX11_fraction 8 = .ok (.lconst 0, 1) := by decide +kernel
theorem dX11_fraction_9 : decode cX11_fraction 9 = .ok (.lcmp, 1) := by decide +kernel
theorem dX11_fraction_10 : decode cX11_fraction 10 = .ok (.ifCond .eq 21, 3) := by decide +kernel
theorem dX11_fraction_13 : decode cX11_fraction 13 = .ok (.lload 5, 2) := by decide +kernel
theorem dX11_fraction_15 : decode cX11_fraction 15 = .ok (.lload 7, 2) := by decide +kernel
theorem dX11_fraction_17 : decode cX11_fraction 17 = .ok (.lrem, 1) := by decide +kernel
theorem dX11_fraction_18 : decode cX11_fraction 18 = .ok (.lstore 9, 2) := by decide +kernel
theorem dX11_fraction_20 : decode cX11_fraction 20 = .ok (.lload 7, 2) := by decide +kernel
theorem dX11_fraction_22 : decode cX11_fraction 22 = .ok (.lstore 5, 2) := by decide +kernel
theorem dX11_fraction_24 : decode cX11_fraction 24 = .ok (.lload 9, 2) := by decide +kernel
theorem dX11_fraction_26 : decode cX11_fraction 26 = .ok (.lstore 7, 2) := by decide +kernel
theorem dX11_fraction_28 : decode cX11_fraction 28 = .ok (.goto (-22), 3) := by decide +kernel
theorem dX11_fraction_31 : decode cX11_fraction 31 = .ok (.aload_n 0, 1) := by decide +kernel
theorem dX11_fraction_32 : decode cX11_fraction 32 = .ok (.lload_n 1, 1) := by decide +kernel
theorem dX11_fraction_33 : decode cX11_fraction 33 = .ok (.lload 5, 2) := by decide +kernel
theorem dX11_fraction_35 : decode cX11_fraction 35 = .ok (.ldiv, 1) := by decide +kernel
theorem dX11_fraction_36 : decode cX11_fraction 36 = .ok (.putfield 217, 3) := by decide +kernel
theorem dX11_fraction_39 : decode cX11_fraction 39 = .ok (.aload_n 0, 1) := by decide +kernel
theorem dX11_fraction_40 : decode cX11_fraction 40 = .ok (.lload_n 3, 1) := by decide +kernel
theorem dX11_fraction_41 : decode cX11_fraction 41 = .ok (.lload 5, 2) := by decide +kernel
theorem dX11_fraction_43 : decode cX11_fraction 43 = .ok (.ldiv, 1) := by decide +kernel
theorem dX11_fraction_44 : decode cX11_fraction 44 = .ok (.putfield 23, 3) := by decide +kernel
theorem dX11_fraction_47 : decode cX11_fraction 47 = .ok (.return_, 1) := by decide +kernel
set_option maxRecDepth 20000 in
theorem ggX11_rain_X11_in : GoodIn wsX11_rain wsX11_in := goodIn_r _ [6] rfl (by decide +kernel)
set_option maxRecDepth 20000 in
theorem gX11_rain_X11_in : GoodIn wsX11_rain (va_wsS RX11 56 yX11_in wsX11_in) := goodIn_app (goodIn_of _ (by decide +kernel)) ggX11_rain_X11_in
set_option maxRecDepth 20000 in
theorem ggX11_rain_X11_bad : GoodIn wsX11_rain wsX11_bad := goodIn_r _ [10, 11, 31, 32, 33, 34, 35, 36, 37, 38, 39, 40, 41, 42, 43, 44, 45, 46, 47, 48] rfl (by decide +kernel)
set_option maxRecDepth 20000 in
theorem gX11_rain_X11_bad : GoodIn wsX11_rain (wsV RX11 70 RX11 yX11_bad wsX11_bad) := goodIn_app (goodIn_of _ (by decide +kernel)) ggX11_rain_X11_bad
set_option maxRecDepth 20000 in
theorem ggX11_rain_X11_many : GoodIn wsX11_rain wsX11_many := goodIn_r _ [15, 2, 31, 32, 33, 34, 35, 36, 37, 38, 39, 40, 41, 42, 43, 44, 45, 46, 47, 48] rfl (by decide +kernel)
set_option maxRecDepth 20000 in
theorem gX11_rain_X11_many : GoodIn wsX11_rain (wsV RX11 52 RX11 yX11_many wsX11_many) := goodIn_app (goodIn_of _ (by decide +kernel)) ggX11_rain_X11_many
set_option maxRecDepth 20000 in
theorem ggX11_rain_X11_waits : GoodIn wsX11_rain wsX11_waits := goodIn_r _ [18, 19, 20, 5, 21] rfl (by decide +kernel)
set_option maxRecDepth 20000 in
theorem gX11_rain_X11_waits : GoodIn wsX11_rain (va_wsS RX11 143 yX11_waits wsX11_waits) := goodIn_app (goodIn_of _ (by decide +kernel)) ggX11_rain_X11_waits
set_option maxRecDepth 20000 in
theorem ggX11_rain_X11_goesAs : GoodIn wsX11_rain wsX11_goesAs := goodIn_r _ [24] rfl (by decide +kernel)
set_option maxRecDepth 20000 in
theorem gX11_rain_X11_goesAs : GoodIn wsX11_rain (va_wsS RX11 99 yX11_goesAs wsX11_goesAs) := goodIn_app (goodIn_of _ (by decide +kernel)) ggX11_rain_X11_goesAs
set_option maxRecDepth 20000 in
theorem ggX11_rain_X11_fraction : GoodIn wsX11_rain wsX11_fraction := goodIn_r _ [28, 29, 30, 31, 32, 33, 34, 35, 36, 37, 38, 39, 40, 41, 42, 43, 44, 45, 46, 47, 48] rfl (by decide +kernel)
set_option maxRecDepth 20000 in
theorem gX11_rain_X11_fraction : GoodIn wsX11_rain (wsV RX11 222 RX11 yX11_fraction wsX11_fraction) := goodIn_app (goodIn_of _ (by decide +kernel)) ggX11_rain_X11_fraction
theorem dX11_rain_0 : decode cX11_rain 0 = .ok (.iload_n 1, 1) := by decide +kernel
theorem dX11_rain_1 : decode cX11_rain 1 = .ok (.i2l, 1) := by decide +kernel
theorem dX11_rain_2 : decode cX11_rain 2 = .ok (.lconst 0, 1) := by decide +kernel
theorem dX11_rain_3 : decode cX11_rain 3 = .ok (.ldc2_w 220, 3) := by decide +kernel
theorem dX11_rain_6 : decode cX11_rain 6 = .ok (.invokestatic 56, 3) := by decide +kernel
theorem dX11_rain_9 : decode cX11_rain 9 = .ok (.ifCond .ne 10, 3) := by decide +kernel
theorem dX11_rain_12 : decode cX11_rain 12 = .ok (.aload_n 0, 1) := by decide +kernel
theorem dX11_rain_13 : decode cX11_rain 13 = .ok (.bipush (-2), 2) := by decide +kernel
theorem dX11_rain_15 : decode cX11_rain 15 = .ok (.invokevirtual 70, 3) := by decide +kernel
theorem dX11_rain_18 : decode cX11_rain 18 = .ok (.ireturn, 1) := by decide +kernel
theorem dX11_rain_19 : decode cX11_rain 19 = .ok (.lconst 0, 1) := by decide +kernel
theorem dX11_rain_20 : decode cX11_rain 20 = .ok (.lstore_n 2, 1) := by decide +kernel
theorem dX11_rain_21 : decode cX11_rain 21 = .ok (.iconst 0, 1) := by decide +kernel
theorem dX11_rain_22 : decode cX11_rain 22 = .ok (.istore 4, 2) := by decide +kernel
theorem dX11_rain_24 : decode cX11_rain 24 = .ok (.iload 4, 2) := by decide +kernel
theorem dX11_rain_26 : decode cX11_rain 26 = .ok (.aload_n 0, 1) := by decide +kernel
theorem dX11_rain_27 : decode cX11_rain 27 = .ok (.invokevirtual 52, 3) := by decide +kernel
theorem dX11_rain_30 : decode cX11_rain 30 = .ok (.if_icmp .ge 75, 3) := by decide +kernel
theorem dX11_rain_33 : decode cX11_rain 33 = .ok (.aload_n 0, 1) := by decide +kernel
theorem dX11_rain_34 : decode cX11_rain 34 = .ok (.getfield 7, 3) := by decide +kernel
theorem dX11_rain_37 : decode cX11_rain 37 = .ok (.iload 4, 2) := by decide +kernel
theorem dX11_rain_39 : decode cX11_rain 39 = .ok (.invokestatic 143, 3) := by decide +kernel
theorem dX11_rain_42 : decode cX11_rain 42 = .ok (.ifCond .ne 57, 3) := by decide +kernel
theorem dX11_rain_45 : decode cX11_rain 45 = .ok (.lload_n 2, 1) := by decide +kernel
theorem dX11_rain_46 : decode cX11_rain 46 = .ok (.iload_n 1, 1) := by decide +kernel
theorem dX11_rain_47 : decode cX11_rain 47 = .ok (.aload_n 0, 1) := by decide +kernel
theorem dX11_rain_48 : decode cX11_rain 48 = .ok (.getfield 7, 3) := by decide +kernel
theorem dX11_rain_51 : decode cX11_rain 51 = .ok (.bipush 22, 2) := by decide +kernel
theorem dX11_rain_53 : decode cX11_rain 53 = .ok (.iload 4, 2) := by decide +kernel
theorem dX11_rain_55 : decode cX11_rain 55 = .ok (.iadd, 1) := by decide +kernel
theorem dX11_rain_56 : decode cX11_rain 56 = .ok (.iaload, 1) := by decide +kernel
theorem dX11_rain_57 : decode cX11_rain 57 = .ok (.aload_n 0, 1) := by decide +kernel
theorem dX11_rain_58 : decode cX11_rain 58 = .ok (.getfield 7, 3) := by decide +kernel
theorem dX11_rain_61 : decode cX11_rain 61 = .ok (.bipush 15, 2) := by decide +kernel
theorem dX11_rain_63 : decode cX11_rain 63 = .ok (.iaload, 1) := by decide +kernel
theorem dX11_rain_64 : decode cX11_rain 64 = .ok (.iconst 4, 1) := by decide +kernel
theorem dX11_rain_65 : decode cX11_rain 65 = .ok (.invokestatic 99, 3) := by decide +kernel
theorem dX11_rain_68 : decode cX11_rain 68 = .ok (.imul, 1) := by decide +kernel
theorem dX11_rain_69 : decode cX11_rain 69 = .ok (.bipush 10, 2) := by decide +kernel
theorem dX11_rain_71 : decode cX11_rain 71 = .ok (.iload_n 1, 1) := by decide +kernel
theorem dX11_rain_72 : decode cX11_rain 72 = .ok (.isub, 1) := by decide +kernel
theorem dX11_rain_73 : decode cX11_rain 73 = .ok (.aload_n 0, 1) := by decide +kernel
theorem dX11_rain_74 : decode cX11_rain 74 = .ok (.getfield 7, 3) := by decide +kernel
theorem dX11_rain_77 : decode cX11_rain 77 = .ok (.bipush 22, 2) := by decide +kernel
theorem dX11_rain_79 : decode cX11_rain 79 = .ok (.iload 4, 2) := by decide +kernel
theorem dX11_rain_81 : decode cX11_rain 81 = .ok (.iadd, 1) := by decide +kernel
theorem dX11_rain_82 : decode cX11_rain 82 = .ok (.iaload, 1) := by decide +kernel
theorem dX11_rain_83 : decode cX11_rain 83 = .ok (.aload_n 0, 1) := by decide +kernel
theorem dX11_rain_84 : decode cX11_rain 84 = .ok (.getfield 7, 3) := by decide +kernel
theorem dX11_rain_87 : decode cX11_rain 87 = .ok (.bipush 15, 2) := by decide +kernel
theorem dX11_rain_89 : decode cX11_rain 89 = .ok (.iaload, 1) := by decide +kernel
theorem dX11_rain_90 : decode cX11_rain 90 = .ok (.iconst 0, 1) := by decide +kernel
theorem dX11_rain_91 : decode cX11_rain 91 = .ok (.invokestatic 99, 3) := by decide +kernel
theorem dX11_rain_94 : decode cX11_rain 94 = .ok (.imul, 1) := by decide +kernel
theorem dX11_rain_95 : decode cX11_rain 95 = .ok (.iadd, 1) := by decide +kernel
theorem dX11_rain_96 : decode cX11_rain 96 = .ok (.i2l, 1) := by decide +kernel
theorem dX11_rain_97 : decode cX11_rain 97 = .ok (.ladd, 1) := by decide +kernel
theorem dX11_rain_98 : decode cX11_rain 98 = .ok (.lstore_n 2, 1) := by decide +kernel
theorem dX11_rain_99 : decode cX11_rain 99 = .ok (.iinc 4 1, 3) := by decide +kernel
theorem dX11_rain_102 : decode cX11_rain 102 = .ok (.goto (-78), 3) := by decide +kernel
theorem dX11_rain_105 : decode cX11_rain 105 = .ok (.aload_n 0, 1) := by decide +kernel
theorem dX11_rain_106 : decode cX11_rain 106 = .ok (.lload_n 2, 1) := by decide +kernel
theorem dX11_rain_107 : decode cX11_rain 107 = .ok (.ldc2_w 220, 3) := by decide +kernel
theorem dX11_rain_110 : decode cX11_rain 110 = .ok (.invokevirtual 222, 3) := by decide +kernel
theorem dX11_rain_113 : decode cX11_rain 113 = .ok (.iconst 1, 1) := by decide +kernel
theorem dX11_rain_114 : decode cX11_rain 114 = .ok (.ireturn, 1) := by decide +kernel
set_option maxRecDepth 20000 in
theorem ggX11_winters_X11_in : GoodIn wsX11_winters wsX11_in := goodIn_r _ [12] rfl (by decide +kernel)
set_option maxRecDepth 20000 in
theorem gX11_winters_X11_in : GoodIn wsX11_winters (va_wsS RX11 56 yX11_in wsX11_in) := goodIn_app (goodIn_of _ (by decide +kernel)) ggX11_winters_X11_in
set_option maxRecDepth 20000 in
theorem ggX11_winters_X11_bad : GoodIn wsX11_winters wsX11_bad := goodIn_r _ [16, 17, 54, 55, 56, 57, 58, 59, 60, 61, 62, 63, 64, 65, 66, 67, 68, 69, 70, 71] rfl (by decide +kernel)
set_option maxRecDepth 20000 in
theorem gX11_winters_X11_bad : GoodIn wsX11_winters (wsV RX11 70 RX11 yX11_bad wsX11_bad) := goodIn_app (goodIn_of _ (by decide +kernel)) ggX11_winters_X11_bad
set_option maxRecDepth 20000 in
theorem ggX11_winters_X11_layHand : GoodIn wsX11_winters wsX11_layHand := goodIn_r _ [21, 8, 22, 54, 55, 56, 57, 58, 59, 60, 61, 62, 63, 64, 65, 66, 67, 68, 69, 70, 71] rfl (by decide +kernel)
set_option maxRecDepth 20000 in
theorem gX11_winters_X11_layHand : GoodIn wsX11_winters (wsV RX11 147 RX11 yX11_layHand wsX11_layHand) := goodIn_app (goodIn_of _ (by decide +kernel)) ggX11_winters_X11_layHand
set_option maxRecDepth 20000 in
theorem ggX11_winters_X11_isCrossing : GoodIn wsX11_winters wsX11_isCrossing := goodIn_r _ [26, 22, 9, 10, 11, 12, 54, 55, 56, 57, 58, 59, 60, 61, 62, 63, 64, 65, 66, 67, 68, 69, 70, 71] rfl (by decide +kernel)
set_option maxRecDepth 20000 in
theorem gX11_winters_X11_isCrossing : GoodIn wsX11_winters (wsV RX11 134 RX11 yX11_isCrossing wsX11_isCrossing) := goodIn_app (goodIn_of _ (by decide +kernel)) ggX11_winters_X11_isCrossing
set_option maxRecDepth 20000 in
theorem ggX11_winters_X11_goHour : GoodIn wsX11_winters wsX11_goHour := goodIn_r _ [29, 30, 31, 11, 32, 33, 34, 35, 36, 37, 38, 39, 40, 41, 42, 43, 44, 45, 46, 47, 48, 49, 50, 51, 52, 53] rfl (by decide +kernel)
set_option maxRecDepth 20000 in
theorem gX11_winters_X11_goHour : GoodIn wsX11_winters (va_wsS RX11 122 yX11_goHour wsX11_goHour) := goodIn_app (goodIn_of _ (by decide +kernel)) ggX11_winters_X11_goHour
set_option maxRecDepth 20000 in
theorem ggX11_winters_X11_manyAt : GoodIn wsX11_winters wsX11_manyAt := goodIn_r _ [38] rfl (by decide +kernel)
set_option maxRecDepth 20000 in
theorem gX11_winters_X11_manyAt : GoodIn wsX11_winters (va_wsS RX11 116 yX11_manyAt wsX11_manyAt) := goodIn_app (goodIn_of _ (by decide +kernel)) ggX11_winters_X11_manyAt
theorem dX11_winters_0 : decode cX11_winters 0 = .ok (.iload_n 1, 1) := by decide +kernel
theorem dX11_winters_1 : decode cX11_winters 1 = .ok (.i2l, 1) := by decide +kernel
theorem dX11_winters_2 : decode cX11_winters 2 = .ok (.lconst 0, 1) := by decide +kernel
theorem dX11_winters_3 : decode cX11_winters 3 = .ok (.ldc2_w 226, 3) := by decide +kernel
theorem dX11_winters_6 : decode cX11_winters 6 = .ok (.invokestatic 56, 3) := by decide +kernel
theorem dX11_winters_9 : decode cX11_winters 9 = .ok (.ifCond .eq 15, 3) := by decide +kernel
theorem dX11_winters_12 : decode cX11_winters 12 = .ok (.iload_n 2, 1) := by decide +kernel
theorem dX11_winters_13 : decode cX11_winters 13 = .ok (.i2l, 1) := by decide +kernel
theorem dX11_winters_14 : decode cX11_winters 14 = .ok (.lconst 0, 1) := by decide +kernel
theorem dX11_winters_15 : decode cX11_winters 15 = .ok (.ldc2_w 125, 3) := by decide +kernel
theorem dX11_winters_18 : decode cX11_winters 18 = .ok (.invokestatic 56, 3) := by decide +kernel
theorem dX11_winters_21 : decode cX11_winters 21 = .ok (.ifCond .ne 10, 3) := by decide +kernel
theorem dX11_winters_24 : decode cX11_winters 24 = .ok (.aload_n 0, 1) := by decide +kernel
theorem dX11_winters_25 : decode cX11_winters 25 = .ok (.bipush (-2), 2) := by decide +kernel
theorem dX11_winters_27 : decode cX11_winters 27 = .ok (.invokevirtual 70, 3) := by decide +kernel
theorem dX11_winters_30 : decode cX11_winters 30 = .ok (.ireturn, 1) := by decide +kernel
theorem dX11_winters_31 : decode cX11_winters 31 = .ok (.iload_n 1, 1) := by decide +kernel
theorem dX11_winters_32 : decode cX11_winters 32 = .ok (.i2l, 1) := by decide +kernel
theorem dX11_winters_33 : decode cX11_winters 33 = .ok (.lstore_n 3, 1) := by decide +kernel
theorem dX11_winters_34 : decode cX11_winters 34 = .ok (.aload_n 0, 1) := by decide +kernel
theorem dX11_winters_35 : decode cX11_winters 35 = .ok (.invokevirtual 147, 3) := by decide +kernel
theorem dX11_winters_38 : decode cX11_winters 38 = .ok (.iconst 0, 1) := by decide +kernel
theorem dX11_winters_39 : decode cX11_winters 39 = .ok (.istore 5, 2) := by decide +kernel
theorem dX11_winters_41 : decode cX11_winters 41 = .ok (.iload 5, 2) := by decide +kernel
theorem dX11_winters_43 : decode cX11_winters 43 = .ok (.iload_n 2, 1) := by decide +kernel
theorem dX11_winters_44 : decode cX11_winters 44 = .ok (.if_icmp .ge 69, 3) := by decide +kernel
theorem dX11_winters_47 : decode cX11_winters 47 = .ok (.lload_n 3, 1) := by decide +kernel
theorem dX11_winters_48 : decode cX11_winters 48 = .ok (.ldc2_w 228, 3) := by decide +kernel
theorem dX11_winters_51 : decode cX11_winters 51 = .ok (.lmul, 1) := by decide +kernel
theorem dX11_winters_52 : decode cX11_winters 52 = .ok (.ldc2_w 230, 3) := by decide +kernel
theorem dX11_winters_55 : decode cX11_winters 55 = .ok (.ladd, 1) := by decide +kernel
theorem dX11_winters_56 : decode cX11_winters 56 = .ok (.ldc2_w 232, 3) := by decide +kernel
theorem dX11_winters_59 : decode cX11_winters 59 = .ok (.lrem, 1) := by decide +kernel
theorem dX11_winters_60 : decode cX11_winters 60 = .ok (.lstore_n 3, 1) := by decide +kernel
theorem dX11_winters_61 : decode cX11_winters 61 = .ok (.lload_n 3, 1) := by decide +kernel
theorem dX11_winters_62 : decode cX11_winters 62 = .ok (.ldc2_w 234, 3) := by decide +kernel
theorem dX11_winters_65 : decode cX11_winters 65 = .ok (.ldiv, 1) := by decide +kernel
theorem dX11_winters_66 : decode cX11_winters 66 = .ok (.ldc2_w 62, 3) := by decide +kernel
theorem dX11_winters_69 : decode cX11_winters 69 = .ok (.lrem, 1) := by decide +kernel
theorem dX11_winters_70 : decode cX11_winters 70 = .ok (.l2i, 1) := by decide +kernel
theorem dX11_winters_71 : decode cX11_winters 71 = .ok (.istore 6, 2) := by decide +kernel
theorem dX11_winters_73 : decode cX11_winters 73 = .ok (.aload_n 0, 1) := by decide +kernel
theorem dX11_winters_74 : decode cX11_winters 74 = .ok (.getfield 27, 3) := by decide +kernel
theorem dX11_winters_77 : decode cX11_winters 77 = .ok (.bipush 14, 2) := by decide +kernel
theorem dX11_winters_79 : decode cX11_winters 79 = .ok (.dup2, 1) := by decide +kernel
theorem dX11_winters_80 : decode cX11_winters 80 = .ok (.iaload, 1) := by decide +kernel
theorem dX11_winters_81 : decode cX11_winters 81 = .ok (.aload_n 0, 1) := by decide +kernel
theorem dX11_winters_82 : decode cX11_winters 82 = .ok (.iload 6, 2) := by decide +kernel
theorem dX11_winters_84 : decode cX11_winters 84 = .ok (.invokevirtual 134, 3) := by decide +kernel
theorem dX11_winters_87 : decode cX11_winters 87 = .ok (.ifCond .eq 10, 3) := by decide +kernel
theorem dX11_winters_90 : decode cX11_winters 90 = .ok (.iconst 1, 1) := by decide +kernel
theorem dX11_winters_91 : decode cX11_winters 91 = .ok (.iload 6, 2) := by decide +kernel
theorem dX11_winters_93 : decode cX11_winters 93 = .ok (.ishl, 1) := by decide +kernel
theorem dX11_winters_94 : decode cX11_winters 94 = .ok (.goto 4, 3) := by decide +kernel
theorem dX11_winters_97 : decode cX11_winters 97 = .ok (.iconst 0, 1) := by decide +kernel
theorem dX11_winters_98 : decode cX11_winters 98 = .ok (.ixor, 1) := by decide +kernel
theorem dX11_winters_99 : decode cX11_winters 99 = .ok (.iastore, 1) := by decide +kernel
theorem dX11_winters_100 : decode cX11_winters 100 = .ok (.aload_n 0, 1) := by decide +kernel
theorem dX11_winters_101 : decode cX11_winters 101 = .ok (.getfield 27, 3) := by decide +kernel
theorem dX11_winters_104 : decode cX11_winters 104 = .ok (.invokestatic 122, 3) := by decide +kernel
theorem dX11_winters_107 : decode cX11_winters 107 = .ok (.iinc 5 1, 3) := by decide +kernel
theorem dX11_winters_110 : decode cX11_winters 110 = .ok (.goto (-69), 3) := by decide +kernel
theorem dX11_winters_113 : decode cX11_winters 113 = .ok (.aload_n 0, 1) := by decide +kernel
theorem dX11_winters_114 : decode cX11_winters 114 = .ok (.getfield 27, 3) := by decide +kernel
theorem dX11_winters_117 : decode cX11_winters 117 = .ok (.bipush 23, 2) := by decide +kernel
theorem dX11_winters_119 : decode cX11_winters 119 = .ok (.invokestatic 116, 3) := by decide +kernel
theorem dX11_winters_122 : decode cX11_winters 122 = .ok (.ireturn, 1) := by decide +kernel
set_option maxRecDepth 20000 in
theorem ggX11_type_X11_in : GoodIn wsX11_type wsX11_in := goodIn_r _ [7] rfl (by decide +kernel)
set_option maxRecDepth 20000 in
theorem gX11_type_X11_in : GoodIn wsX11_type (va_wsS RX11 56 yX11_in wsX11_in) := goodIn_app (goodIn_of _ (by decide +kernel)) ggX11_type_X11_in
set_option maxRecDepth 20000 in
theorem ggX11_type_X11_bad : GoodIn wsX11_type wsX11_bad := goodIn_r _ [11, 12, 17, 18, 19, 20, 21, 22, 23, 24, 25, 26, 27, 28, 29, 30, 31, 32, 33, 34] rfl (by decide +kernel)
set_option maxRecDepth 20000 in
theorem gX11_type_X11_bad : GoodIn wsX11_type (wsV RX11 70 RX11 yX11_bad wsX11_bad) := goodIn_app (goodIn_of _ (by decide +kernel)) ggX11_type_X11_bad
set_option maxRecDepth 20000 in
theorem ggX11_type_X11_full : GoodIn wsX11_type wsX11_full := goodIn_r _ [16, 12, 17, 18, 19, 20, 21, 22, 23, 24, 25, 26, 27, 28, 29, 30, 31, 32, 33, 34] rfl (by decide +kernel)
set_option maxRecDepth 20000 in
theorem gX11_type_X11_full : GoodIn wsX11_type (wsV RX11 82 RX11 yX11_full wsX11_full) := goodIn_app (goodIn_of _ (by decide +kernel)) ggX11_type_X11_full
theorem dX11_type_0 : decode cX11_type 0 = .ok (.iload_n 1, 1) := by decide +kernel
theorem dX11_type_1 : decode cX11_type 1 = .ok (.i2l, 1) := by decide +kernel
theorem dX11_type_2 : decode cX11_type 2 = .ok (.lconst 0, 1) := by decide +kernel
theorem dX11_type_3 : decode cX11_type 3 = .ok (.ldc2_w 236, 3) := by decide +kernel
theorem dX11_type_6 : decode cX11_type 6 = .ok (.invokestatic 56, 3) := by decide +kernel
theorem dX11_type_9 : decode cX11_type 9 = .ok (.ifCond .ne 10, 3) := by decide +kernel
theorem dX11_type_12 : decode cX11_type 12 = .ok (.aload_n 0, 1) := by decide +kernel
theorem dX11_type_13 : decode cX11_type 13 = .ok (.bipush (-2), 2) := by decide +kernel
theorem dX11_type_15 : decode cX11_type 15 = .ok (.invokevirtual 70, 3) := by decide +kernel
theorem dX11_type_18 : decode cX11_type 18 = .ok (.ireturn, 1) := by decide +kernel
theorem dX11_type_19 : decode cX11_type 19 = .ok (.aload_n 0, 1) := by decide +kernel
theorem dX11_type_20 : decode cX11_type 20 = .ok (.getfield 238, 3) := by decide +kernel
theorem dX11_type_23 : decode cX11_type 23 = .ok (.sipush 150, 3) := by decide +kernel
theorem dX11_type_26 : decode cX11_type 26 = .ok (.if_icmp .ne 8, 3) := by decide +kernel
theorem dX11_type_29 : decode cX11_type 29 = .ok (.aload_n 0, 1) := by decide +kernel
theorem dX11_type_30 : decode cX11_type 30 = .ok (.invokevirtual 82, 3) := by decide +kernel
theorem dX11_type_33 : decode cX11_type 33 = .ok (.ireturn, 1) := by decide +kernel
theorem dX11_type_34 : decode cX11_type 34 = .ok (.aload_n 0, 1) := by decide +kernel
theorem dX11_type_35 : decode cX11_type 35 = .ok (.getfield 39, 3) := by decide +kernel
theorem dX11_type_38 : decode cX11_type 38 = .ok (.aload_n 0, 1) := by decide +kernel
theorem dX11_type_39 : decode cX11_type 39 = .ok (.getfield 238, 3) := by decide +kernel
theorem dX11_type_42 : decode cX11_type 42 = .ok (.iload_n 1, 1) := by decide +kernel
theorem dX11_type_43 : decode cX11_type 43 = .ok (.iastore, 1) := by decide +kernel
theorem dX11_type_44 : decode cX11_type 44 = .ok (.aload_n 0, 1) := by decide +kernel
theorem dX11_type_45 : decode cX11_type 45 = .ok (.dup, 1) := by decide +kernel
theorem dX11_type_46 : decode cX11_type 46 = .ok (.getfield 238, 3) := by decide +kernel
theorem dX11_type_49 : decode cX11_type 49 = .ok (.iconst 1, 1) := by decide +kernel
theorem dX11_type_50 : decode cX11_type 50 = .ok (.iadd, 1) := by decide +kernel
theorem dX11_type_51 : decode cX11_type 51 = .ok (.putfield 238, 3) := by decide +kernel
theorem dX11_type_54 : decode cX11_type 54 = .ok (.aload_n 0, 1) := by decide +kernel
theorem dX11_type_55 : decode cX11_type 55 = .ok (.getfield 238, 3) := by decide +kernel
theorem dX11_type_58 : decode cX11_type 58 = .ok (.ireturn, 1) := by decide +kernel
theorem dX11_clear_0 : decode cX11_clear 0 = .ok (.aload_n 0, 1) := by decide +kernel
theorem dX11_clear_1 : decode cX11_clear 1 = .ok (.getfield 238, 3) := by decide +kernel
theorem dX11_clear_4 : decode cX11_clear 4 = .ok (.istore_n 1, 1) := by decide +kernel
theorem dX11_clear_5 : decode cX11_clear 5 = .ok (.aload_n 0, 1) := by decide +kernel
theorem dX11_clear_6 : decode cX11_clear 6 = .ok (.iconst 0, 1) := by decide +kernel
theorem dX11_clear_7 : decode cX11_clear 7 = .ok (.putfield 238, 3) := by decide +kernel
theorem dX11_clear_10 : decode cX11_clear 10 = .ok (.iload_n 1, 1) := by decide +kernel
theorem dX11_clear_11 : decode cX11_clear 11 = .ok (.ireturn, 1) := by decide +kernel
set_option maxRecDepth 20000 in
theorem ggX11_isSmall_X11_in : GoodIn wsX11_isSmall wsX11_in := goodIn_r _ [6] rfl (by decide +kernel)
set_option maxRecDepth 20000 in
theorem gX11_isSmall_X11_in : GoodIn wsX11_isSmall (va_wsS RX11 56 yX11_in wsX11_in) := goodIn_app (goodIn_of _ (by decide +kernel)) ggX11_isSmall_X11_in
theorem dX11_isSmall_0 : decode cX11_isSmall 0 = .ok (.iload_n 0, 1) := by decide +kernel
theorem dX11_isSmall_1 : decode cX11_isSmall 1 = .ok (.i2l, 1) := by decide +kernel
theorem dX11_isSmall_2 : decode cX11_isSmall 2 = .ok (.ldc2_w 242, 3) := by decide +kernel
theorem dX11_isSmall_5 : decode cX11_isSmall 5 = .ok (.ldc2_w 244, 3) := by decide +kernel
theorem dX11_isSmall_8 : decode cX11_isSmall 8 = .ok (.invokestatic 56, 3) := by decide +kernel
theorem dX11_isSmall_11 : decode cX11_isSmall 11 = .ok (.ireturn, 1) := by decide +kernel
set_option maxRecDepth 20000 in
theorem ggX11_isFigure_X11_in : GoodIn wsX11_isFigure wsX11_in := goodIn_r _ [6] rfl (by decide +kernel)
set_option maxRecDepth 20000 in
theorem gX11_isFigure_X11_in : GoodIn wsX11_isFigure (va_wsS RX11 56 yX11_in wsX11_in) := goodIn_app (goodIn_of _ (by decide +kernel)) ggX11_isFigure_X11_in
theorem dX11_isFigure_0 : decode cX11_isFigure 0 = .ok (.iload_n 0, 1) := by decide +kernel
theorem dX11_isFigure_1 : decode cX11_isFigure 1 = .ok (.i2l, 1) := by decide +kernel
theorem dX11_isFigure_2 : decode cX11_isFigure 2 = .ok (.ldc2_w 246, 3) := by decide +kernel
theorem dX11_isFigure_5 : decode cX11_isFigure 5 = .ok (.ldc2_w 248, 3) := by decide +kernel
theorem dX11_isFigure_8 : decode cX11_isFigure 8 = .ok (.invokestatic 56, 3) := by decide +kernel
theorem dX11_isFigure_11 : decode cX11_isFigure 11 = .ok (.ireturn, 1) := by decide +kernel
set_option maxRecDepth 20000 in
theorem ggX11_lookAt_X11_isSmall : GoodIn wsX11_lookAt wsX11_isSmall := goodIn_r _ [10, 11, 12, 13, 14, 9, 15] rfl (by decide +kernel)
set_option maxRecDepth 20000 in
theorem gX11_lookAt_X11_isSmall : GoodIn wsX11_lookAt (va_wsS RX11 262 yX11_isSmall wsX11_isSmall) := goodIn_app (goodIn_of _ (by decide +kernel)) ggX11_lookAt_X11_isSmall
set_option maxRecDepth 20000 in
theorem ggX11_lookAt_X11_isFigure : GoodIn wsX11_lookAt wsX11_isFigure := goodIn_r _ [18, 19, 20, 13, 14, 9, 15] rfl (by decide +kernel)
set_option maxRecDepth 20000 in
theorem gX11_lookAt_X11_isFigure : GoodIn wsX11_lookAt (va_wsS RX11 265 yX11_isFigure wsX11_isFigure) := goodIn_app (goodIn_of _ (by decide +kernel)) ggX11_lookAt_X11_isFigure
theorem dX11_lookAt_0 : decode cX11_lookAt 0 = .ok (.aload_n 0, 1) := by decide +kernel
theorem dX11_lookAt_1 : decode cX11_lookAt 1 = .ok (.iload_n 1, 1) := by decide +kernel
theorem dX11_lookAt_2 : decode cX11_lookAt 2 = .ok (.putfield 250, 3) := by decide +kernel
theorem dX11_lookAt_5 : decode cX11_lookAt 5 = .ok (.aload_n 0, 1) := by decide +kernel
theorem dX11_lookAt_6 : decode cX11_lookAt 6 = .ok (.getfield 250, 3) := by decide +kernel
theorem dX11_lookAt_9 : decode cX11_lookAt 9 = .ok (.aload_n 0, 1) := by decide +kernel
theorem dX11_lookAt_10 : decode cX11_lookAt 10 = .ok (.getfield 238, 3) := by decide +kernel
theorem dX11_lookAt_13 : decode cX11_lookAt 13 = .ok (.if_icmp .ge 30, 3) := by decide +kernel
theorem dX11_lookAt_16 : decode cX11_lookAt 16 = .ok (.aload_n 0, 1) := by decide +kernel
theorem dX11_lookAt_17 : decode cX11_lookAt 17 = .ok (.getfield 39, 3) := by decide +kernel
theorem dX11_lookAt_20 : decode cX11_lookAt 20 = .ok (.aload_n 0, 1) := by decide +kernel
theorem dX11_lookAt_21 : decode cX11_lookAt 21 = .ok (.getfield 250, 3) := by decide +kernel
theorem dX11_lookAt_24 : decode cX11_lookAt 24 = .ok (.iaload, 1) := by decide +kernel
theorem dX11_lookAt_25 : decode cX11_lookAt 25 = .ok (.bipush 32, 2) := by decide +kernel
theorem dX11_lookAt_27 : decode cX11_lookAt 27 = .ok (.if_icmp .ne 16, 3) := by decide +kernel
theorem dX11_lookAt_30 : decode cX11_lookAt 30 = .ok (.aload_n 0, 1) := by decide +kernel
theorem dX11_lookAt_31 : decode cX11_lookAt 31 = .ok (.dup, 1) := by decide +kernel
theorem dX11_lookAt_32 : decode cX11_lookAt 32 = .ok (.getfield 250, 3) := by decide +kernel
theorem dX11_lookAt_35 : decode cX11_lookAt 35 = .ok (.iconst 1, 1) := by decide +kernel
theorem dX11_lookAt_36 : decode cX11_lookAt 36 = .ok (.iadd, 1) := by decide +kernel
theorem dX11_lookAt_37 : decode cX11_lookAt 37 = .ok (.putfield 250, 3) := by decide +kernel
theorem dX11_lookAt_40 : decode cX11_lookAt 40 = .ok (.goto (-35), 3) := by decide +kernel
theorem dX11_lookAt_43 : decode cX11_lookAt 43 = .ok (.aload_n 0, 1) := by decide +kernel
theorem dX11_lookAt_44 : decode cX11_lookAt 44 = .ok (.iconst 0, 1) := by decide +kernel
theorem dX11_lookAt_45 : decode cX11_lookAt 45 = .ok (.putfield 253, 3) := by decide +kernel
theorem dX11_lookAt_48 : decode cX11_lookAt 48 = .ok (.aload_n 0, 1) := by decide +kernel
theorem dX11_lookAt_49 : decode cX11_lookAt 49 = .ok (.iconst 0, 1) := by decide +kernel
theorem dX11_lookAt_50 : decode cX11_lookAt 50 = .ok (.putfield 256, 3) := by decide +kernel
theorem dX11_lookAt_53 : decode cX11_lookAt 53 = .ok (.aload_n 0, 1) := by decide +kernel
theorem dX11_lookAt_54 : decode cX11_lookAt 54 = .ok (.iconst 0, 1) := by decide +kernel
theorem dX11_lookAt_55 : decode cX11_lookAt 55 = .ok (.putfield 259, 3) := by decide +kernel
theorem dX11_lookAt_58 : decode cX11_lookAt 58 = .ok (.aload_n 0, 1) := by decide +kernel
theorem dX11_lookAt_59 : decode cX11_lookAt 59 = .ok (.getfield 250, 3) := by decide +kernel
theorem dX11_lookAt_62 : decode cX11_lookAt 62 = .ok (.aload_n 0, 1) := by decide +kernel
theorem dX11_lookAt_63 : decode cX11_lookAt 63 = .ok (.getfield 238, 3) := by decide +kernel
theorem dX11_lookAt_66 : decode cX11_lookAt 66 = .ok (.if_icmp .ne 4, 3) := by decide +kernel
theorem dX11_lookAt_69 : decode cX11_lookAt 69 = .ok (.return_, 1) := by decide +kernel
theorem dX11_lookAt_70 : decode cX11_lookAt 70 = .ok (.aload_n 0, 1) := by decide +kernel
theorem dX11_lookAt_71 : decode cX11_lookAt 71 = .ok (.getfield 39, 3) := by decide +kernel
theorem dX11_lookAt_74 : decode cX11_lookAt 74 = .ok (.aload_n 0, 1) := by decide +kernel
theorem dX11_lookAt_75 : decode cX11_lookAt 75 = .ok (.getfield 250, 3) := by decide +kernel
theorem dX11_lookAt_78 : decode cX11_lookAt 78 = .ok (.iaload, 1) := by decide +kernel
theorem dX11_lookAt_79 : decode cX11_lookAt 79 = .ok (.istore_n 2, 1) := by decide +kernel
theorem dX11_lookAt_80 : decode cX11_lookAt 80 = .ok (.aload_n 0, 1) := by decide +kernel
theorem dX11_lookAt_81 : decode cX11_lookAt 81 = .ok (.iload_n 2, 1) := by decide +kernel
theorem dX11_lookAt_82 : decode cX11_lookAt 82 = .ok (.invokestatic 262, 3) := by decide +kernel
theorem dX11_lookAt_85 : decode cX11_lookAt 85 = .ok (.ifCond .eq 7, 3) := by decide +kernel
theorem dX11_lookAt_88 : decode cX11_lookAt 88 = .ok (.iconst 1, 1) := by decide +kernel
theorem dX11_lookAt_89 : decode cX11_lookAt 89 = .ok (.goto 25, 3) := by decide +kernel
theorem dX11_lookAt_92 : decode cX11_lookAt 92 = .ok (.iload_n 2, 1) := by decide +kernel
theorem dX11_lookAt_93 : decode cX11_lookAt 93 = .ok (.invokestatic 265, 3) := by decide +kernel
theorem dX11_lookAt_96 : decode cX11_lookAt 96 = .ok (.ifCond .eq 7, 3) := by decide +kernel
theorem dX11_lookAt_99 : decode cX11_lookAt 99 = .ok (.iconst 2, 1) := by decide +kernel
theorem dX11_lookAt_100 : decode cX11_lookAt 100 = .ok (.goto 14, 3) := by decide +kernel
theorem dX11_lookAt_103 : decode cX11_lookAt 103 = .ok (.iload_n 2, 1) := by decide +kernel
theorem dX11_lookAt_104 : decode cX11_lookAt 104 = .ok (.bipush 59, 2) := by decide +kernel
theorem dX11_lookAt_106 : decode cX11_lookAt 106 = .ok (.if_icmp .ne 7, 3) := by decide +kernel
theorem dX11_lookAt_109 : decode cX11_lookAt 109 = .ok (.iconst 3, 1) := by decide +kernel
theorem dX11_lookAt_110 : decode cX11_lookAt 110 = .ok (.goto 4, 3) := by decide +kernel
theorem dX11_lookAt_113 : decode cX11_lookAt 113 = .ok (.iconst 4, 1) := by decide +kernel
theorem dX11_lookAt_114 : decode cX11_lookAt 114 = .ok (.putfield 256, 3) := by decide +kernel
theorem dX11_lookAt_117 : decode cX11_lookAt 117 = .ok (.aload_n 0, 1) := by decide +kernel
theorem dX11_lookAt_118 : decode cX11_lookAt 118 = .ok (.iconst 1, 1) := by decide +kernel
theorem dX11_lookAt_119 : decode cX11_lookAt 119 = .ok (.putfield 253, 3) := by decide +kernel
theorem dX11_lookAt_122 : decode cX11_lookAt 122 = .ok (.aload_n 0, 1) := by decide +kernel
theorem dX11_lookAt_123 : decode cX11_lookAt 123 = .ok (.getfield 256, 3) := by decide +kernel
theorem dX11_lookAt_126 : decode cX11_lookAt 126 = .ok (.iconst 3, 1) := by decide +kernel
theorem dX11_lookAt_127 : decode cX11_lookAt 127 = .ok (.if_icmp .ge 7, 3) := by decide +kernel
theorem dX11_lookAt_130 : decode cX11_lookAt 130 = .ok (.iconst 1, 1) := by decide +kernel
theorem dX11_lookAt_131 : decode cX11_lookAt 131 = .ok (.goto 4, 3) := by decide +kernel
theorem dX11_lookAt_134 : decode cX11_lookAt 134 = .ok (.iconst 0, 1) := by decide +kernel
theorem dX11_lookAt_135 : decode cX11_lookAt 135 = .ok (.istore_n 3, 1) := by decide +kernel
theorem dX11_lookAt_136 : decode cX11_lookAt 136 = .ok (.iload_n 3, 1) := by decide +kernel
theorem dX11_lookAt_137 : decode cX11_lookAt 137 = .ok (.ifCond .eq 78, 3) := by decide +kernel
theorem dX11_lookAt_140 : decode cX11_lookAt 140 = .ok (.aload_n 0, 1) := by decide +kernel
theorem dX11_lookAt_141 : decode cX11_lookAt 141 = .ok (.getfield 250, 3) := by decide +kernel
theorem dX11_lookAt_144 : decode cX11_lookAt 144 = .ok (.aload_n 0, 1) := by decide +kernel
theorem dX11_lookAt_145 : decode cX11_lookAt 145 = .ok (.getfield 253, 3) := by decide +kernel
theorem dX11_lookAt_148 : decode cX11_lookAt 148 = .ok (.iadd, 1) := by decide +kernel
theorem dX11_lookAt_149 : decode cX11_lookAt 149 = .ok (.aload_n 0, 1) := by decide +kernel
theorem dX11_lookAt_150 : decode cX11_lookAt 150 = .ok (.getfield 238, 3) := by decide +kernel
theorem dX11_lookAt_153 : decode cX11_lookAt 153 = .ok (.if_icmp .ge 62, 3) := by decide +kernel
theorem dX11_lookAt_156 : decode cX11_lookAt 156 = .ok (.aload_n 0, 1) := by decide +kernel
theorem dX11_lookAt_157 : decode cX11_lookAt 157 = .ok (.getfield 39, 3) := by decide +kernel
theorem dX11_lookAt_160 : decode cX11_lookAt 160 = .ok (.aload_n 0, 1) := by decide +kernel
theorem dX11_lookAt_161 : decode cX11_lookAt 161 = .ok (.getfield 250, 3) := by decide +kernel
theorem dX11_lookAt_164 : decode cX11_lookAt 164 = .ok (.aload_n 0, 1) := by decide +kernel
theorem dX11_lookAt_165 : decode cX11_lookAt 165 = .ok (.getfield 253, 3) := by decide +kernel
theorem dX11_lookAt_168 : decode cX11_lookAt 168 = .ok (.iadd, 1) := by decide +kernel
theorem dX11_lookAt_169 : decode cX11_lookAt 169 = .ok (.iaload, 1) := by decide +kernel
theorem dX11_lookAt_170 : decode cX11_lookAt 170 = .ok (.istore 4, 2) := by decide +kernel
theorem dX11_lookAt_172 : decode cX11_lookAt 172 = .ok (.aload_n 0, 1) := by decide +kernel
theorem dX11_lookAt_173 : decode cX11_lookAt 173 = .ok (.getfield 256, 3) := by decide +kernel
theorem dX11_lookAt_176 : decode cX11_lookAt 176 = .ok (.iconst 1, 1) := by decide +kernel
theorem dX11_lookAt_177 : decode cX11_lookAt 177 = .ok (.if_icmp .ne 11, 3) := by decide +kernel
theorem dX11_lookAt_180 : decode cX11_lookAt 180 = .ok (.iload 4, 2) := by decide +kernel
theorem dX11_lookAt_182 : decode cX11_lookAt 182 = .ok (.invokestatic 262, 3) := by decide +kernel
theorem dX11_lookAt_185 : decode cX11_lookAt 185 = .ok (.goto 8, 3) := by decide +kernel
theorem dX11_lookAt_188 : decode cX11_lookAt 188 = .ok (.iload 4, 2) := by decide +kernel
theorem dX11_lookAt_190 : decode cX11_lookAt 190 = .ok (.invokestatic 265, 3) := by decide +kernel
theorem dX11_lookAt_193 : decode cX11_lookAt 193 = .ok (.istore_n 3, 1) := by decide +kernel
theorem dX11_lookAt_194 : decode cX11_lookAt 194 = .ok (.aload_n 0, 1) := by decide +kernel
theorem dX11_lookAt_195 : decode cX11_lookAt 195 = .ok (.dup, 1) := by decide +kernel
theorem dX11_lookAt_196 : decode cX11_lookAt 196 = .ok (.getfield 253, 3) := by decide +kernel
theorem dX11_lookAt_199 : decode cX11_lookAt 199 = .ok (.iload_n 3, 1) := by decide +kernel
theorem dX11_lookAt_200 : decode cX11_lookAt 200 = .ok (.ifCond .eq 7, 3) := by decide +kernel
theorem dX11_lookAt_203 : decode cX11_lookAt 203 = .ok (.iconst 1, 1) := by decide +kernel
theorem dX11_lookAt_204 : decode cX11_lookAt 204 = .ok (.goto 4, 3) := by decide +kernel
theorem dX11_lookAt_207 : decode cX11_lookAt 207 = .ok (.iconst 0, 1) := by decide +kernel
theorem dX11_lookAt_208 : decode cX11_lookAt 208 = .ok (.iadd, 1) := by decide +kernel
theorem dX11_lookAt_209 : decode cX11_lookAt 209 = .ok (.putfield 253, 3) := by decide +kernel
theorem dX11_lookAt_212 : decode cX11_lookAt 212 = .ok (.goto (-76), 3) := by decide +kernel
theorem dX11_lookAt_215 : decode cX11_lookAt 215 = .ok (.iconst 0, 1) := by decide +kernel
theorem dX11_lookAt_216 : decode cX11_lookAt 216 = .ok (.istore 4, 2) := by decide +kernel
theorem dX11_lookAt_218 : decode cX11_lookAt 218 = .ok (.iload 4, 2) := by decide +kernel
theorem dX11_lookAt_220 : decode cX11_lookAt 220 = .ok (.aload_n 0, 1) := by decide +kernel
theorem dX11_lookAt_221 : decode cX11_lookAt 221 = .ok (.getfield 253, 3) := by decide +kernel
theorem dX11_lookAt_224 : decode cX11_lookAt 224 = .ok (.if_icmp .ge 50, 3) := by decide +kernel
theorem dX11_lookAt_227 : decode cX11_lookAt 227 = .ok (.iload 4, 2) := by decide +kernel
theorem dX11_lookAt_229 : decode cX11_lookAt 229 = .ok (.iconst 2, 1) := by decide +kernel
theorem dX11_lookAt_230 : decode cX11_lookAt 230 = .ok (.if_icmp .ge 44, 3) := by decide +kernel
theorem dX11_lookAt_233 : decode cX11_lookAt 233 = .ok (.aload_n 0, 1) := by decide +kernel
theorem dX11_lookAt_234 : decode cX11_lookAt 234 = .ok (.getfield 256, 3) := by decide +kernel
theorem dX11_lookAt_237 : decode cX11_lookAt 237 = .ok (.iconst 2, 1) := by decide +kernel
theorem dX11_lookAt_238 : decode cX11_lookAt 238 = .ok (.if_icmp .ne 36, 3) := by decide +kernel
theorem dX11_lookAt_241 : decode cX11_lookAt 241 = .ok (.aload_n 0, 1) := by decide +kernel
theorem dX11_lookAt_242 : decode cX11_lookAt 242 = .ok (.bipush 10, 2) := by decide +kernel
theorem dX11_lookAt_244 : decode cX11_lookAt 244 = .ok (.aload_n 0, 1) := by decide +kernel
theorem dX11_lookAt_245 : decode cX11_lookAt 245 = .ok (.getfield 259, 3) := by decide +kernel
theorem dX11_lookAt_248 : decode cX11_lookAt 248 = .ok (.imul, 1) := by decide +kernel
theorem dX11_lookAt_249 : decode cX11_lookAt 249 = .ok (.aload_n 0, 1) := by decide +kernel
theorem dX11_lookAt_250 : decode cX11_lookAt 250 = .ok (.getfield 39, 3) := by decide +kernel
theorem dX11_lookAt_253 : decode cX11_lookAt 253 = .ok (.aload_n 0, 1) := by decide +kernel
theorem dX11_lookAt_254 : decode cX11_lookAt 254 = .ok (.getfield 250, 3) := by decide +kernel
theorem dX11_lookAt_257 : decode cX11_lookAt 257 = .ok (.iload 4, 2) := by decide +kernel
theorem dX11_lookAt_259 : decode cX11_lookAt 259 = .ok (.iadd, 1) := by decide +kernel
theorem dX11_lookAt_260 : decode cX11_lookAt 260 = .ok (.iaload, 1) := by decide +kernel
theorem dX11_lookAt_261 : decode cX11_lookAt 261 = .ok (.iadd, 1) := by decide +kernel
theorem dX11_lookAt_262 : decode cX11_lookAt 262 = .ok (.bipush 48, 2) := by decide +kernel
theorem dX11_lookAt_264 : decode cX11_lookAt 264 = .ok (.isub, 1) := by decide +kernel
theorem dX11_lookAt_265 : decode cX11_lookAt 265 = .ok (.putfield 259, 3) := by decide +kernel
theorem dX11_lookAt_268 : decode cX11_lookAt 268 = .ok (.iinc 4 1, 3) := by decide +kernel
theorem dX11_lookAt_271 : decode cX11_lookAt 271 = .ok (.goto (-53), 3) := by decide +kernel
theorem dX11_lookAt_274 : decode cX11_lookAt 274 = .ok (.aload_n 0, 1) := by decide +kernel
theorem dX11_lookAt_275 : decode cX11_lookAt 275 = .ok (.aload_n 0, 1) := by decide +kernel
theorem dX11_lookAt_276 : decode cX11_lookAt 276 = .ok (.getfield 256, 3) := by decide +kernel
theorem dX11_lookAt_279 : decode cX11_lookAt 279 = .ok (.iconst 2, 1) := by decide +kernel
theorem dX11_lookAt_280 : decode cX11_lookAt 280 = .ok (.if_icmp .ne 15, 3) := by decide +kernel
theorem dX11_lookAt_283 : decode cX11_lookAt 283 = .ok (.aload_n 0, 1) := by decide +kernel
theorem dX11_lookAt_284 : decode cX11_lookAt 284 = .ok (.getfield 253, 3) := by decide +kernel
theorem dX11_lookAt_287 : decode cX11_lookAt 287 = .ok (.iconst 2, 1) := by decide +kernel
theorem dX11_lookAt_288 : decode cX11_lookAt 288 = .ok (.if_icmp .le 7, 3) := by decide +kernel
theorem dX11_lookAt_291 : decode cX11_lookAt 291 = .ok (.iconst 4, 1) := by decide +kernel
theorem dX11_lookAt_292 : decode cX11_lookAt 292 = .ok (.goto 7, 3) := by decide +kernel
theorem dX11_lookAt_295 : decode cX11_lookAt 295 = .ok (.aload_n 0, 1) := by decide +kernel
theorem dX11_lookAt_296 : decode cX11_lookAt 296 = .ok (.getfield 256, 3) := by decide +kernel
theorem dX11_lookAt_299 : decode cX11_lookAt 299 = .ok (.putfield 256, 3) := by decide +kernel
theorem dX11_lookAt_302 : decode cX11_lookAt 302 = .ok (.return_, 1) := by decide +kernel
set_option maxRecDepth 20000 in
theorem ggX11_goBehind_X11_lookAt : GoodIn wsX11_goBehind wsX11_lookAt := goodIn_r _ [7, 1, 8, 9, 2, 10, 11, 12, 13, 6, 14, 15, 16, 17, 18, 19, 20, 21, 22, 23, 24, 25, 26, 27, 28, 29, 30, 31, 32, 33, 34, 35, 36, 37, 38, 39, 40, 41, 42] rfl (by decide +kernel)
set_option maxRecDepth 20000 in
theorem gX11_goBehind_X11_lookAt : GoodIn wsX11_goBehind (wsV RX11 268 RX11 yX11_lookAt wsX11_lookAt) := goodIn_app (goodIn_of _ (by decide +kernel)) ggX11_goBehind_X11_lookAt
theorem dX11_goBehind_0 : decode cX11_goBehind 0 = .ok (.aload_n 0, 1) := by decide +kernel
theorem dX11_goBehind_1 : decode cX11_goBehind 1 = .ok (.aload_n 0, 1) := by decide +kernel
theorem dX11_goBehind_2 : decode cX11_goBehind 2 = .ok (.getfield 250, 3) := by decide +kernel
theorem dX11_goBehind_5 : decode cX11_goBehind 5 = .ok (.aload_n 0, 1) := by decide +kernel
theorem dX11_goBehind_6 : decode cX11_goBehind 6 = .ok (.getfield 253, 3) := by decide +kernel
theorem dX11_goBehind_9 : decode cX11_goBehind 9 = .ok (.iadd, 1) := by decide +kernel
theorem dX11_goBehind_10 : decode cX11_goBehind 10 = .ok (.invokevirtual 268, 3) := by decide +kernel
theorem dX11_goBehind_13 : decode cX11_goBehind 13 = .ok (.return_, 1) := by decide +kernel
theorem dX11_spells_0 : decode cX11_spells 0 = .ok (.aload_n 0, 1) := by decide +kernel
theorem dX11_spells_1 : decode cX11_spells 1 = .ok (.getfield 256, 3) := by decide +kernel
theorem dX11_spells_4 : decode cX11_spells 4 = .ok (.iconst 1, 1) := by decide +kernel
theorem dX11_spells_5 : decode cX11_spells 5 = .ok (.if_icmp .ne 15, 3) := by decide +kernel
theorem dX11_spells_8 : decode cX11_spells 8 = .ok (.aload_n 0, 1) := by decide +kernel
theorem dX11_spells_9 : decode cX11_spells 9 = .ok (.getfield 253, 3) := by decide +kernel
theorem dX11_spells_12 : decode cX11_spells 12 = .ok (.iload_n 1, 1) := by decide +kernel
theorem dX11_spells_13 : decode cX11_spells 13 = .ok (.if_icmp .ne 7, 3) := by decide +kernel
theorem dX11_spells_16 : decode cX11_spells 16 = .ok (.iconst 1, 1) := by decide +kernel
theorem dX11_spells_17 : decode cX11_spells 17 = .ok (.goto 4, 3) := by decide +kernel
theorem dX11_spells_20 : decode cX11_spells 20 = .ok (.iconst 0, 1) := by decide +kernel
theorem dX11_spells_21 : decode cX11_spells 21 = .ok (.istore 8, 2) := by decide +kernel
theorem dX11_spells_23 : decode cX11_spells 23 = .ok (.iconst 0, 1) := by decide +kernel
theorem dX11_spells_24 : decode cX11_spells 24 = .ok (.istore 9, 2) := by decide +kernel
theorem dX11_spells_26 : decode cX11_spells 26 = .ok (.iload 9, 2) := by decide +kernel
theorem dX11_spells_28 : decode cX11_spells 28 = .ok (.iload_n 1, 1) := by decide +kernel
theorem dX11_spells_29 : decode cX11_spells 29 = .ok (.if_icmp .ge 90, 3) := by decide +kernel
theorem dX11_spells_32 : decode cX11_spells 32 = .ok (.iload 8, 2) := by decide +kernel
theorem dX11_spells_34 : decode cX11_spells 34 = .ok (.ifCond .eq 85, 3) := by decide +kernel
theorem dX11_spells_37 : decode cX11_spells 37 = .ok (.aload_n 0, 1) := by decide +kernel
theorem dX11_spells_38 : decode cX11_spells 38 = .ok (.getfield 39, 3) := by decide +kernel
theorem dX11_spells_41 : decode cX11_spells 41 = .ok (.aload_n 0, 1) := by decide +kernel
theorem dX11_spells_42 : decode cX11_spells 42 = .ok (.getfield 250, 3) := by decide +kernel
theorem dX11_spells_45 : decode cX11_spells 45 = .ok (.iload 9, 2) := by decide +kernel
theorem dX11_spells_47 : decode cX11_spells 47 = .ok (.iadd, 1) := by decide +kernel
theorem dX11_spells_48 : decode cX11_spells 48 = .ok (.iaload, 1) := by decide +kernel
theorem dX11_spells_49 : decode cX11_spells 49 = .ok (.iload 9, 2) := by decide +kernel
theorem dX11_spells_51 : decode cX11_spells 51 = .ok (.ifCond .ne 7, 3) := by decide +kernel
theorem dX11_spells_54 : decode cX11_spells 54 = .ok (.iload_n 2, 1) := by decide +kernel
theorem dX11_spells_55 : decode cX11_spells 55 = .ok (.goto 48, 3) := by decide +kernel
theorem dX11_spells_58 : decode cX11_spells 58 = .ok (.iload 9, 2) := by decide +kernel
theorem dX11_spells_60 : decode cX11_spells 60 = .ok (.iconst 1, 1) := by decide +kernel
theorem dX11_spells_61 : decode cX11_spells 61 = .ok (.if_icmp .ne 7, 3) := by decide +kernel
theorem dX11_spells_64 : decode cX11_spells 64 = .ok (.iload_n 3, 1) := by decide +kernel
theorem dX11_spells_65 : decode cX11_spells 65 = .ok (.goto 38, 3) := by decide +kernel
theorem dX11_spells_68 : decode cX11_spells 68 = .ok (.iload 9, 2) := by decide +kernel
theorem dX11_spells_70 : decode cX11_spells 70 = .ok (.iconst 2, 1) := by decide +kernel
theorem dX11_spells_71 : decode cX11_spells 71 = .ok (.if_icmp .ne 8, 3) := by decide +kernel
theorem dX11_spells_74 : decode cX11_spells 74 = .ok (.iload 4, 2) := by decide +kernel
theorem dX11_spells_76 : decode cX11_spells 76 = .ok (.goto 27, 3) := by decide +kernel
theorem dX11_spells_79 : decode cX11_spells 79 = .ok (.iload 9, 2) := by decide +kernel
theorem dX11_spells_81 : decode cX11_spells 81 = .ok (.iconst 3, 1) := by decide +kernel
theorem dX11_spells_82 : decode cX11_spells 82 = .ok (.if_icmp .ne 8, 3) := by decide +kernel
theorem dX11_spells_85 : decode cX11_spells 85 = .ok (.iload 5, 2) := by decide +kernel
theorem dX11_spells_87 : decode cX11_spells 87 = .ok (.goto 16, 3) := by decide +kernel
theorem dX11_spells_90 : decode cX11_spells 90 = .ok (.iload 9, 2) := by decide +kernel
theorem dX11_spells_92 : decode cX11_spells 92 = .ok (.iconst 4, 1) := by decide +kernel
theorem dX11_spells_93 : decode cX11_spells 93 = .ok (.if_icmp .ne 8, 3) := by decide +kernel
theorem dX11_spells_96 : decode cX11_spells 96 = .ok (.iload 6, 2) := by decide +kernel
theorem dX11_spells_98 : decode cX11_spells 98 = .ok (.goto 5, 3) := by decide +kernel
theorem dX11_spells_101 : decode cX11_spells 101 = .ok (.iload 7, 2) := by decide +kernel
theorem dX11_spells_103 : decode cX11_spells 103 = .ok (.if_icmp .ne 7, 3) := by decide +kernel
theorem dX11_spells_106 : decode cX11_spells 106 = .ok (.iconst 1, 1) := by decide +kernel
theorem dX11_spells_107 : decode cX11_spells 107 = .ok (.goto 4, 3) := by decide +kernel
theorem dX11_spells_110 : decode cX11_spells 110 = .ok (.iconst 0, 1) := by decide +kernel
theorem dX11_spells_111 : decode cX11_spells 111 = .ok (.istore 8, 2) := by decide +kernel
theorem dX11_spells_113 : decode cX11_spells 113 = .ok (.iinc 9 1, 3) := by decide +kernel
theorem dX11_spells_116 : decode cX11_spells 116 = .ok (.goto (-90), 3) := by decide +kernel
theorem dX11_spells_119 : decode cX11_spells 119 = .ok (.iload 8, 2) := by decide +kernel
theorem dX11_spells_121 : decode cX11_spells 121 = .ok (.ireturn, 1) := by decide +kernel
set_option maxRecDepth 20000 in
theorem ggX11_takes_X11_in : GoodIn wsX11_takes wsX11_in := goodIn_r _ [7] rfl (by decide +kernel)
set_option maxRecDepth 20000 in
theorem gX11_takes_X11_in : GoodIn wsX11_takes (va_wsS RX11 56 yX11_in wsX11_in) := goodIn_app (goodIn_of _ (by decide +kernel)) ggX11_takes_X11_in
set_option maxRecDepth 20000 in
theorem ggX11_takes_X11_goBehind : GoodIn wsX11_takes wsX11_goBehind := goodIn_r _ [11, 12, 13, 14, 15, 16, 6, 17, 18, 19, 1, 2, 20, 21, 22, 23, 24, 4, 5, 7, 25, 26, 27, 28, 29, 30, 31, 32, 33, 34, 35, 36, 37, 38, 39, 40, 41, 42, 43, 44, 45, 46, 47] rfl (by decide +kernel)
set_option maxRecDepth 20000 in
theorem gX11_takes_X11_goBehind : GoodIn wsX11_takes (wsV RX11 271 RX11 yX11_goBehind wsX11_goBehind) := goodIn_app (goodIn_of _ (by decide +kernel)) ggX11_takes_X11_goBehind
theorem dX11_takes_0 : decode cX11_takes 0 = .ok (.aload_n 0, 1) := by decide +kernel
theorem dX11_takes_1 : decode cX11_takes 1 = .ok (.getfield 256, 3) := by decide +kernel
theorem dX11_takes_4 : decode cX11_takes 4 = .ok (.iconst 2, 1) := by decide +kernel
theorem dX11_takes_5 : decode cX11_takes 5 = .ok (.if_icmp .ne 18, 3) := by decide +kernel
theorem dX11_takes_8 : decode cX11_takes 8 = .ok (.aload_n 0, 1) := by decide +kernel
theorem dX11_takes_9 : decode cX11_takes 9 = .ok (.getfield 259, 3) := by decide +kernel
theorem dX11_takes_12 : decode cX11_takes 12 = .ok (.i2l, 1) := by decide +kernel
theorem dX11_takes_13 : decode cX11_takes 13 = .ok (.iload_n 2, 1) := by decide +kernel
theorem dX11_takes_14 : decode cX11_takes 14 = .ok (.i2l, 1) := by decide +kernel
theorem dX11_takes_15 : decode cX11_takes 15 = .ok (.iload_n 3, 1) := by decide +kernel
theorem dX11_takes_16 : decode cX11_takes 16 = .ok (.i2l, 1) := by decide +kernel
theorem dX11_takes_17 : decode cX11_takes 17 = .ok (.invokestatic 56, 3) := by decide +kernel
theorem dX11_takes_20 : decode cX11_takes 20 = .ok (.ifCond .ne 5, 3) := by decide +kernel
theorem dX11_takes_23 : decode cX11_takes 23 = .ok (.iconst 0, 1) := by decide +kernel
theorem dX11_takes_24 : decode cX11_takes 24 = .ok (.ireturn, 1) := by decide +kernel
theorem dX11_takes_25 : decode cX11_takes 25 = .ok (.aload_n 0, 1) := by decide +kernel
theorem dX11_takes_26 : decode cX11_takes 26 = .ok (.getfield 45, 3) := by decide +kernel
theorem dX11_takes_29 : decode cX11_takes 29 = .ok (.iload_n 1, 1) := by decide +kernel
theorem dX11_takes_30 : decode cX11_takes 30 = .ok (.aload_n 0, 1) := by decide +kernel
theorem dX11_takes_31 : decode cX11_takes 31 = .ok (.getfield 259, 3) := by decide +kernel
theorem dX11_takes_34 : decode cX11_takes 34 = .ok (.iastore, 1) := by decide +kernel
theorem dX11_takes_35 : decode cX11_takes 35 = .ok (.aload_n 0, 1) := by decide +kernel
theorem dX11_takes_36 : decode cX11_takes 36 = .ok (.invokevirtual 271, 3) := by decide +kernel
theorem dX11_takes_39 : decode cX11_takes 39 = .ok (.iconst 1, 1) := by decide +kernel
theorem dX11_takes_40 : decode cX11_takes 40 = .ok (.ireturn, 1) := by decide +kernel
set_option maxRecDepth 20000 in
theorem ggX11_takesWet_X11_goBehind : GoodIn wsX11_takesWet wsX11_goBehind := goodIn_r _ [8, 9, 10, 11, 12, 13, 7, 14, 15, 16, 1, 17, 18, 19, 20, 21, 22, 23, 24, 25, 26, 27, 28, 29, 30, 35, 36, 37, 38, 39, 40, 41, 42, 43, 44, 45, 46, 47, 48, 49, 50, 51, 52] rfl (by decide +kernel)
set_option maxRecDepth 20000 in
theorem gX11_takesWet_X11_goBehind : GoodIn wsX11_takesWet (wsV RX11 271 RX11 yX11_goBehind wsX11_goBehind) := goodIn_app (goodIn_of _ (by decide +kernel)) ggX11_takesWet_X11_goBehind
set_option maxRecDepth 20000 in
theorem ggX11_takesWet_X11_takes : GoodIn wsX11_takesWet wsX11_takes := goodIn_r _ [34, 1, 17, 3, 23, 24, 7, 25, 4, 5, 6, 8, 9, 10, 11, 12, 13, 14, 15, 16, 18, 19, 20, 21, 22, 26, 27, 28, 29, 30, 35, 36, 37, 38, 39, 40, 41, 42, 43, 44, 45, 46, 47, 48, 49, 50, 51, 52] rfl (by decide +kernel)
set_option maxRecDepth 20000 in
theorem gX11_takesWet_X11_takes : GoodIn wsX11_takesWet (wsV RX11 274 RX11 yX11_takes wsX11_takes) := goodIn_app (goodIn_of _ (by decide +kernel)) ggX11_takesWet_X11_takes
theorem dX11_takesWet_0 : decode cX11_takesWet 0 = .ok (.iconst 0, 1) := by decide +kernel
theorem dX11_takesWet_1 : decode cX11_takesWet 1 = .ok (.istore_n 1, 1) := by decide +kernel
theorem dX11_takesWet_2 : decode cX11_takesWet 2 = .ok (.aload_n 0, 1) := by decide +kernel
theorem dX11_takesWet_3 : decode cX11_takesWet 3 = .ok (.invokevirtual 271, 3) := by decide +kernel
theorem dX11_takesWet_6 : decode cX11_takesWet 6 = .ok (.iload_n 1, 1) := by decide +kernel
theorem dX11_takesWet_7 : decode cX11_takesWet 7 = .ok (.ifCond .eq 11, 3) := by decide +kernel
theorem dX11_takesWet_10 : decode cX11_takesWet 10 = .ok (.aload_n 0, 1) := by decide +kernel
theorem dX11_takesWet_11 : decode cX11_takesWet 11 = .ok (.getfield 256, 3) := by decide +kernel
theorem dX11_takesWet_14 : decode cX11_takesWet 14 = .ok (.iconst 3, 1) := by decide +kernel
theorem dX11_takesWet_15 : decode cX11_takesWet 15 = .ok (.if_icmp .eq 42, 3) := by decide +kernel
theorem dX11_takesWet_18 : decode cX11_takesWet 18 = .ok (.iload_n 1, 1) := by decide +kernel
theorem dX11_takesWet_19 : decode cX11_takesWet 19 = .ok (.bipush 6, 2) := by decide +kernel
theorem dX11_takesWet_21 : decode cX11_takesWet 21 = .ok (.if_icmp .eq 13, 3) := by decide +kernel
theorem dX11_takesWet_24 : decode cX11_takesWet 24 = .ok (.aload_n 0, 1) := by decide +kernel
theorem dX11_takesWet_25 : decode cX11_takesWet 25 = .ok (.iconst 0, 1) := by decide +kernel
theorem dX11_takesWet_26 : decode cX11_takesWet 26 = .ok (.iconst 0, 1) := by decide +kernel
theorem dX11_takesWet_27 : decode cX11_takesWet 27 = .ok (.iconst 4, 1) := by decide +kernel
theorem dX11_takesWet_28 : decode cX11_takesWet 28 = .ok (.invokevirtual 274, 3) := by decide +kernel
theorem dX11_takesWet_31 : decode cX11_takesWet 31 = .ok (.ifCond .ne 5, 3) := by decide +kernel
theorem dX11_takesWet_34 : decode cX11_takesWet 34 = .ok (.iconst 0, 1) := by decide +kernel
theorem dX11_takesWet_35 : decode cX11_takesWet 35 = .ok (.ireturn, 1) := by decide +kernel
theorem dX11_takesWet_36 : decode cX11_takesWet 36 = .ok (.aload_n 0, 1) := by decide +kernel
theorem dX11_takesWet_37 : decode cX11_takesWet 37 = .ok (.getfield 42, 3) := by decide +kernel
theorem dX11_takesWet_40 : decode cX11_takesWet 40 = .ok (.bipush 16, 2) := by decide +kernel
theorem dX11_takesWet_42 : decode cX11_takesWet 42 = .ok (.iload_n 1, 1) := by decide +kernel
theorem dX11_takesWet_43 : decode cX11_takesWet 43 = .ok (.iadd, 1) := by decide +kernel
theorem dX11_takesWet_44 : decode cX11_takesWet 44 = .ok (.aload_n 0, 1) := by decide +kernel
theorem dX11_takesWet_45 : decode cX11_takesWet 45 = .ok (.getfield 45, 3) := by decide +kernel
theorem dX11_takesWet_48 : decode cX11_takesWet 48 = .ok (.iconst 0, 1) := by decide +kernel
theorem dX11_takesWet_49 : decode cX11_takesWet 49 = .ok (.iaload, 1) := by decide +kernel
theorem dX11_takesWet_50 : decode cX11_takesWet 50 = .ok (.iastore, 1) := by decide +kernel
theorem dX11_takesWet_51 : decode cX11_takesWet 51 = .ok (.iinc 1 1, 3) := by decide +kernel
theorem dX11_takesWet_54 : decode cX11_takesWet 54 = .ok (.goto (-48), 3) := by decide +kernel
theorem dX11_takesWet_57 : decode cX11_takesWet 57 = .ok (.iconst 1, 1) := by decide +kernel
theorem dX11_takesWet_58 : decode cX11_takesWet 58 = .ok (.ireturn, 1) := by decide +kernel
set_option maxRecDepth 20000 in
theorem ggX11_takesGlove_X11_goBehind : GoodIn wsX11_takesGlove wsX11_goBehind := goodIn_r _ [7, 8, 9, 10, 11, 12, 6, 13, 14, 15, 16, 17, 18, 19, 20, 21, 22, 23, 24, 25, 26, 27, 28, 29, 30, 38, 39, 40, 41, 42, 43, 44, 45, 46, 47, 48, 49, 50, 51, 52, 53, 54, 55] rfl (by decide +kernel)
set_option maxRecDepth 20000 in
theorem gX11_takesGlove_X11_goBehind : GoodIn wsX11_takesGlove (wsV RX11 271 RX11 yX11_goBehind wsX11_goBehind) := goodIn_app (goodIn_of _ (by decide +kernel)) ggX11_takesGlove_X11_goBehind
set_option maxRecDepth 20000 in
theorem ggX11_takesGlove_X11_takes : GoodIn wsX11_takesGlove wsX11_takes := goodIn_r _ [34, 16, 17, 2, 23, 24, 6, 25, 3, 4, 5, 7, 8, 9, 10, 11, 12, 13, 14, 15, 18, 19, 20, 21, 22, 26, 27, 28, 29, 30, 38, 39, 40, 41, 42, 43, 44, 45, 46, 47, 48, 49, 50, 51, 52, 53, 54, 55] rfl (by decide +kernel)
set_option maxRecDepth 20000 in
theorem gX11_takesGlove_X11_takes : GoodIn wsX11_takesGlove (wsV RX11 274 RX11 yX11_takes wsX11_takes) := goodIn_app (goodIn_of _ (by decide +kernel)) ggX11_takesGlove_X11_takes
set_option maxRecDepth 20000 in
theorem ggX11_takesGlove_X11_layGlove : GoodIn wsX11_takesGlove wsX11_layGlove := goodIn_r _ [37] rfl (by decide +kernel)
set_option maxRecDepth 20000 in
theorem gX11_takesGlove_X11_layGlove : GoodIn wsX11_takesGlove (va_wsS RX11 85 yX11_layGlove wsX11_layGlove) := goodIn_app (goodIn_of _ (by decide +kernel)) ggX11_takesGlove_X11_layGlove
theorem dX11_takesGlove_0 : decode cX11_takesGlove 0 = .ok (.aload_n 0, 1) := by decide +kernel
theorem dX11_takesGlove_1 : decode cX11_takesGlove 1 = .ok (.getfield 42, 3) := by decide +kernel
theorem dX11_takesGlove_4 : decode cX11_takesGlove 4 = .ok (.iconst 0, 1) := by decide +kernel
theorem dX11_takesGlove_5 : decode cX11_takesGlove 5 = .ok (.iaload, 1) := by decide +kernel
theorem dX11_takesGlove_6 : decode cX11_takesGlove 6 = .ok (.bipush 7, 2) := by decide +kernel
theorem dX11_takesGlove_8 : decode cX11_takesGlove 8 = .ok (.if_icmp .ne 5, 3) := by decide +kernel
theorem dX11_takesGlove_11 : decode cX11_takesGlove 11 = .ok (.iconst 0, 1) := by decide +kernel
theorem dX11_takesGlove_12 : decode cX11_takesGlove 12 = .ok (.ireturn, 1) := by decide +kernel
theorem dX11_takesGlove_13 : decode cX11_takesGlove 13 = .ok (.aload_n 0, 1) := by decide +kernel
theorem dX11_takesGlove_14 : decode cX11_takesGlove 14 = .ok (.invokevirtual 271, 3) := by decide +kernel
theorem dX11_takesGlove_17 : decode cX11_takesGlove 17 = .ok (.aload_n 0, 1) := by decide +kernel
theorem dX11_takesGlove_18 : decode cX11_takesGlove 18 = .ok (.iconst 0, 1) := by decide +kernel
theorem dX11_takesGlove_19 : decode cX11_takesGlove 19 = .ok (.iconst 0, 1) := by decide +kernel
theorem dX11_takesGlove_20 : decode cX11_takesGlove 20 = .ok (.iconst 5, 1) := by decide +kernel
theorem dX11_takesGlove_21 : decode cX11_takesGlove 21 = .ok (.invokevirtual 274, 3) := by decide +kernel
theorem dX11_takesGlove_24 : decode cX11_takesGlove 24 = .ok (.ifCond .eq 25, 3) := by decide +kernel
theorem dX11_takesGlove_27 : decode cX11_takesGlove 27 = .ok (.aload_n 0, 1) := by decide +kernel
theorem dX11_takesGlove_28 : decode cX11_takesGlove 28 = .ok (.iconst 1, 1) := by decide +kernel
theorem dX11_takesGlove_29 : decode cX11_takesGlove 29 = .ok (.iconst 1, 1) := by decide +kernel
theorem dX11_takesGlove_30 : decode cX11_takesGlove 30 = .ok (.bipush 9, 2) := by decide +kernel
theorem dX11_takesGlove_32 : decode cX11_takesGlove 32 = .ok (.invokevirtual 274, 3) := by decide +kernel
theorem dX11_takesGlove_35 : decode cX11_takesGlove 35 = .ok (.ifCond .eq 14, 3) := by decide +kernel
theorem dX11_takesGlove_38 : decode cX11_takesGlove 38 = .ok (.aload_n 0, 1) := by decide +kernel
theorem dX11_takesGlove_39 : decode cX11_takesGlove 39 = .ok (.iconst 2, 1) := by decide +kernel
theorem dX11_takesGlove_40 : decode cX11_takesGlove 40 = .ok (.iconst 0, 1) := by decide +kernel
theorem dX11_takesGlove_41 : decode cX11_takesGlove 41 = .ok (.bipush 23, 2) := by decide +kernel
theorem dX11_takesGlove_43 : decode cX11_takesGlove 43 = .ok (.invokevirtual 274, 3) := by decide +kernel
theorem dX11_takesGlove_46 : decode cX11_takesGlove 46 = .ok (.ifCond .ne 5, 3) := by decide +kernel
theorem dX11_takesGlove_49 : decode cX11_takesGlove 49 = .ok (.iconst 0, 1) := by decide +kernel
theorem dX11_takesGlove_50 : decode cX11_takesGlove 50 = .ok (.ireturn, 1) := by decide +kernel
theorem dX11_takesGlove_51 : decode cX11_takesGlove 51 = .ok (.aload_n 0, 1) := by decide +kernel
theorem dX11_takesGlove_52 : decode cX11_takesGlove 52 = .ok (.getfield 42, 3) := by decide +kernel
theorem dX11_takesGlove_55 : decode cX11_takesGlove 55 = .ok (.aload_n 0, 1) := by decide +kernel
theorem dX11_takesGlove_56 : decode cX11_takesGlove 56 = .ok (.getfield 45, 3) := by decide +kernel
theorem dX11_takesGlove_59 : decode cX11_takesGlove 59 = .ok (.iconst 0, 1) := by decide +kernel
theorem dX11_takesGlove_60 : decode cX11_takesGlove 60 = .ok (.iaload, 1) := by decide +kernel
theorem dX11_takesGlove_61 : decode cX11_takesGlove 61 = .ok (.aload_n 0, 1) := by decide +kernel
theorem dX11_takesGlove_62 : decode cX11_takesGlove 62 = .ok (.getfield 45, 3) := by decide +kernel
theorem dX11_takesGlove_65 : decode cX11_takesGlove 65 = .ok (.iconst 1, 1) := by decide +kernel
theorem dX11_takesGlove_66 : decode cX11_takesGlove 66 = .ok (.iaload, 1) := by decide +kernel
theorem dX11_takesGlove_67 : decode cX11_takesGlove 67 = .ok (.aload_n 0, 1) := by decide +kernel
theorem dX11_takesGlove_68 : decode cX11_takesGlove 68 = .ok (.getfield 45, 3) := by decide +kernel
theorem dX11_takesGlove_71 : decode cX11_takesGlove 71 = .ok (.iconst 2, 1) := by decide +kernel
theorem dX11_takesGlove_72 : decode cX11_takesGlove 72 = .ok (.iaload, 1) := by decide +kernel
theorem dX11_takesGlove_73 : decode cX11_takesGlove 73 = .ok (.invokestatic 85, 3) := by decide +kernel
theorem dX11_takesGlove_76 : decode cX11_takesGlove 76 = .ok (.iconst 1, 1) := by decide +kernel
theorem dX11_takesGlove_77 : decode cX11_takesGlove 77 = .ok (.ireturn, 1) := by decide +kernel
set_option maxRecDepth 20000 in
theorem ggX11_takesCrossing_X11_goBehind : GoodIn wsX11_takesCrossing wsX11_goBehind := goodIn_r _ [9, 10, 11, 12, 13, 14, 8, 15, 16, 17, 2, 3, 18, 19, 20, 21, 22, 23, 24, 25, 26, 27, 28, 29, 30, 41, 42, 43, 44, 45, 46, 47, 48, 49, 50, 51, 52, 53, 54, 55, 56, 57, 58] rfl (by decide +kernel)
set_option maxRecDepth 20000 in
theorem gX11_takesCrossing_X11_goBehind : GoodIn wsX11_takesCrossing (wsV RX11 271 RX11 yX11_goBehind wsX11_goBehind) := goodIn_app (goodIn_of _ (by decide +kernel)) ggX11_takesCrossing_X11_goBehind
set_option maxRecDepth 20000 in
theorem ggX11_takesCrossing_X11_takes : GoodIn wsX11_takesCrossing wsX11_takes := goodIn_r _ [34, 2, 3, 4, 23, 24, 8, 25, 5, 6, 7, 9, 10, 11, 12, 13, 14, 15, 16, 17, 18, 19, 20, 21, 22, 26, 27, 28, 29, 30, 41, 42, 43, 44, 45, 46, 47, 48, 49, 50, 51, 52, 53, 54, 55, 56, 57, 58] rfl (by decide +kernel)
set_option maxRecDepth 20000 in
theorem gX11_takesCrossing_X11_takes : GoodIn wsX11_takesCrossing (wsV RX11 274 RX11 yX11_takes wsX11_takes) := goodIn_app (goodIn_of _ (by decide +kernel)) ggX11_takesCrossing_X11_takes
set_option maxRecDepth 20000 in
theorem ggX11_takesCrossing_X11_behind : GoodIn wsX11_takesCrossing wsX11_behind := goodIn_r _ [37] rfl (by decide +kernel)
set_option maxRecDepth 20000 in
theorem gX11_takesCrossing_X11_behind : GoodIn wsX11_takesCrossing (va_wsS RX11 91 yX11_behind wsX11_behind) := goodIn_app (goodIn_of _ (by decide +kernel)) ggX11_takesCrossing_X11_behind
set_option maxRecDepth 20000 in
theorem ggX11_takesCrossing_X11_layCrossing : GoodIn wsX11_takesCrossing wsX11_layCrossing := goodIn_r _ [40] rfl (by decide +kernel)
set_option maxRecDepth 20000 in
theorem gX11_takesCrossing_X11_layCrossing : GoodIn wsX11_takesCrossing (va_wsS RX11 95 yX11_layCrossing wsX11_layCrossing) := goodIn_app (goodIn_of _ (by decide +kernel)) ggX11_takesCrossing_X11_layCrossing
theorem dX11_takesCrossing_0 : decode cX11_takesCrossing 0 = .ok (.aload_n 0, 1) := by decide +kernel
theorem dX11_takesCrossing_1 : decode cX11_takesCrossing 1 = .ok (.getfield 42, 3) := by decide +kernel
theorem dX11_takesCrossing_4 : decode cX11_takesCrossing 4 = .ok (.iconst 1, 1) := by decide +kernel
theorem dX11_takesCrossing_5 : decode cX11_takesCrossing 5 = .ok (.iaload, 1) := by decide +kernel
theorem dX11_takesCrossing_6 : decode cX11_takesCrossing 6 = .ok (.iconst 3, 1) := by decide +kernel
theorem dX11_takesCrossing_7 : decode cX11_takesCrossing 7 = .ok (.if_icmp .ne 5, 3) := by decide +kernel
theorem dX11_takesCrossing_10 : decode cX11_takesCrossing 10 = .ok (.iconst 0, 1) := by decide +kernel
theorem dX11_takesCrossing_11 : decode cX11_takesCrossing 11 = .ok (.ireturn, 1) := by decide +kernel
theorem dX11_takesCrossing_12 : decode cX11_takesCrossing 12 = .ok (.aload_n 0, 1) := by decide +kernel
theorem dX11_takesCrossing_13 : decode cX11_takesCrossing 13 = .ok (.invokevirtual 271, 3) := by decide +kernel
theorem dX11_takesCrossing_16 : decode cX11_takesCrossing 16 = .ok (.aload_n 0, 1) := by decide +kernel
theorem dX11_takesCrossing_17 : decode cX11_takesCrossing 17 = .ok (.iconst 0, 1) := by decide +kernel
theorem dX11_takesCrossing_18 : decode cX11_takesCrossing 18 = .ok (.iconst 0, 1) := by decide +kernel
theorem dX11_takesCrossing_19 : decode cX11_takesCrossing 19 = .ok (.iconst 5, 1) := by decide +kernel
theorem dX11_takesCrossing_20 : decode cX11_takesCrossing 20 = .ok (.invokevirtual 274, 3) := by decide +kernel
theorem dX11_takesCrossing_23 : decode cX11_takesCrossing 23 = .ok (.ifCond .eq 37, 3) := by decide +kernel
theorem dX11_takesCrossing_26 : decode cX11_takesCrossing 26 = .ok (.aload_n 0, 1) := by decide +kernel
theorem dX11_takesCrossing_27 : decode cX11_takesCrossing 27 = .ok (.getfield 256, 3) := by decide +kernel
theorem dX11_takesCrossing_30 : decode cX11_takesCrossing 30 = .ok (.iconst 2, 1) := by decide +kernel
theorem dX11_takesCrossing_31 : decode cX11_takesCrossing 31 = .ok (.if_icmp .ne 29, 3) := by decide +kernel
theorem dX11_takesCrossing_34 : decode cX11_takesCrossing 34 = .ok (.aload_n 0, 1) := by decide +kernel
theorem dX11_takesCrossing_35 : decode cX11_takesCrossing 35 = .ok (.getfield 42, 3) := by decide +kernel
theorem dX11_takesCrossing_38 : decode cX11_takesCrossing 38 = .ok (.aload_n 0, 1) := by decide +kernel
theorem dX11_takesCrossing_39 : decode cX11_takesCrossing 39 = .ok (.getfield 259, 3) := by decide +kernel
theorem dX11_takesCrossing_42 : decode cX11_takesCrossing 42 = .ok (.invokestatic 91, 3) := by decide +kernel
theorem dX11_takesCrossing_45 : decode cX11_takesCrossing 45 = .ok (.iconst (-1), 1) := by decide +kernel
theorem dX11_takesCrossing_46 : decode cX11_takesCrossing 46 = .ok (.if_icmp .ne 14, 3) := by decide +kernel
theorem dX11_takesCrossing_49 : decode cX11_takesCrossing 49 = .ok (.aload_n 0, 1) := by decide +kernel
theorem dX11_takesCrossing_50 : decode cX11_takesCrossing 50 = .ok (.iconst 1, 1) := by decide +kernel
theorem dX11_takesCrossing_51 : decode cX11_takesCrossing 51 = .ok (.iconst 0, 1) := by decide +kernel
theorem dX11_takesCrossing_52 : decode cX11_takesCrossing 52 = .ok (.bipush 22, 2) := by decide +kernel
theorem dX11_takesCrossing_54 : decode cX11_takesCrossing 54 = .ok (.invokevirtual 274, 3) := by decide +kernel
theorem dX11_takesCrossing_57 : decode cX11_takesCrossing 57 = .ok (.ifCond .ne 5, 3) := by decide +kernel
theorem dX11_takesCrossing_60 : decode cX11_takesCrossing 60 = .ok (.iconst 0, 1) := by decide +kernel
theorem dX11_takesCrossing_61 : decode cX11_takesCrossing 61 = .ok (.ireturn, 1) := by decide +kernel
theorem dX11_takesCrossing_62 : decode cX11_takesCrossing 62 = .ok (.aload_n 0, 1) := by decide +kernel
theorem dX11_takesCrossing_63 : decode cX11_takesCrossing 63 = .ok (.getfield 42, 3) := by decide +kernel
theorem dX11_takesCrossing_66 : decode cX11_takesCrossing 66 = .ok (.aload_n 0, 1) := by decide +kernel
theorem dX11_takesCrossing_67 : decode cX11_takesCrossing 67 = .ok (.getfield 45, 3) := by decide +kernel
theorem dX11_takesCrossing_70 : decode cX11_takesCrossing 70 = .ok (.iconst 0, 1) := by decide +kernel
theorem dX11_takesCrossing_71 : decode cX11_takesCrossing 71 = .ok (.iaload, 1) := by decide +kernel
theorem dX11_takesCrossing_72 : decode cX11_takesCrossing 72 = .ok (.aload_n 0, 1) := by decide +kernel
theorem dX11_takesCrossing_73 : decode cX11_takesCrossing 73 = .ok (.getfield 45, 3) := by decide +kernel
theorem dX11_takesCrossing_76 : decode cX11_takesCrossing 76 = .ok (.iconst 1, 1) := by decide +kernel
theorem dX11_takesCrossing_77 : decode cX11_takesCrossing 77 = .ok (.iaload, 1) := by decide +kernel
theorem dX11_takesCrossing_78 : decode cX11_takesCrossing 78 = .ok (.invokestatic 95, 3) := by decide +kernel
theorem dX11_takesCrossing_81 : decode cX11_takesCrossing 81 = .ok (.iconst 1, 1) := by decide +kernel
theorem dX11_takesCrossing_82 : decode cX11_takesCrossing 82 = .ok (.ireturn, 1) := by decide +kernel
set_option maxRecDepth 20000 in
theorem ggX11_takesShut_X11_goBehind : GoodIn wsX11_takesShut wsX11_goBehind := goodIn_r _ [7, 8, 9, 10, 11, 12, 6, 13, 14, 15, 16, 17, 18, 19, 20, 21, 22, 23, 24, 25, 26, 27, 28, 29, 30, 35, 36, 37, 38, 39, 40, 41, 42, 43, 44, 45, 46, 47, 48, 49, 50, 51, 52] rfl (by decide +kernel)
set_option maxRecDepth 20000 in
theorem gX11_takesShut_X11_goBehind : GoodIn wsX11_takesShut (wsV RX11 271 RX11 yX11_goBehind wsX11_goBehind) := goodIn_app (goodIn_of _ (by decide +kernel)) ggX11_takesShut_X11_goBehind
set_option maxRecDepth 20000 in
theorem ggX11_takesShut_X11_takes : GoodIn wsX11_takesShut wsX11_takes := goodIn_r _ [34, 16, 17, 2, 23, 24, 6, 25, 3, 4, 5, 7, 8, 9, 10, 11, 12, 13, 14, 15, 18, 19, 20, 21, 22, 26, 27, 28, 29, 30, 35, 36, 37, 38, 39, 40, 41, 42, 43, 44, 45, 46, 47, 48, 49, 50, 51, 52] rfl (by decide +kernel)
set_option maxRecDepth 20000 in
theorem gX11_takesShut_X11_takes : GoodIn wsX11_takesShut (wsV RX11 274 RX11 yX11_takes wsX11_takes) := goodIn_app (goodIn_of _ (by decide +kernel)) ggX11_takesShut_X11_takes
theorem dX11_takesShut_0 : decode cX11_takesShut 0 = .ok (.aload_n 0, 1) := by decide +kernel
theorem dX11_takesShut_1 : decode cX11_takesShut 1 = .ok (.invokevirtual 271, 3) := by decide +kernel
theorem dX11_takesShut_4 : decode cX11_takesShut 4 = .ok (.aload_n 0, 1) := by decide +kernel
theorem dX11_takesShut_5 : decode cX11_takesShut 5 = .ok (.iconst 0, 1) := by decide +kernel
theorem dX11_takesShut_6 : decode cX11_takesShut 6 = .ok (.iconst 0, 1) := by decide +kernel
theorem dX11_takesShut_7 : decode cX11_takesShut 7 = .ok (.aload_n 0, 1) := by decide +kernel
theorem dX11_takesShut_8 : decode cX11_takesShut 8 = .ok (.getfield 42, 3) := by decide +kernel
theorem dX11_takesShut_11 : decode cX11_takesShut 11 = .ok (.iconst 1, 1) := by decide +kernel
theorem dX11_takesShut_12 : decode cX11_takesShut 12 = .ok (.iaload, 1) := by decide +kernel
theorem dX11_takesShut_13 : decode cX11_takesShut 13 = .ok (.iconst 1, 1) := by decide +kernel
theorem dX11_takesShut_14 : decode cX11_takesShut 14 = .ok (.isub, 1) := by decide +kernel
theorem dX11_takesShut_15 : decode cX11_takesShut 15 = .ok (.invokevirtual 274, 3) := by decide +kernel
theorem dX11_takesShut_18 : decode cX11_takesShut 18 = .ok (.ifCond .ne 5, 3) := by decide +kernel
theorem dX11_takesShut_21 : decode cX11_takesShut 21 = .ok (.iconst 0, 1) := by decide +kernel
theorem dX11_takesShut_22 : decode cX11_takesShut 22 = .ok (.ireturn, 1) := by decide +kernel
theorem dX11_takesShut_23 : decode cX11_takesShut 23 = .ok (.aload_n 0, 1) := by decide +kernel
theorem dX11_takesShut_24 : decode cX11_takesShut 24 = .ok (.getfield 42, 3) := by decide +kernel
theorem dX11_takesShut_27 : decode cX11_takesShut 27 = .ok (.bipush 14, 2) := by decide +kernel
theorem dX11_takesShut_29 : decode cX11_takesShut 29 = .ok (.dup2, 1) := by decide +kernel
theorem dX11_takesShut_30 : decode cX11_takesShut 30 = .ok (.iaload, 1) := by decide +kernel
theorem dX11_takesShut_31 : decode cX11_takesShut 31 = .ok (.iconst 1, 1) := by decide +kernel
theorem dX11_takesShut_32 : decode cX11_takesShut 32 = .ok (.aload_n 0, 1) := by decide +kernel
theorem dX11_takesShut_33 : decode cX11_takesShut 33 = .ok (.getfield 45, 3) := by decide +kernel
theorem dX11_takesShut_36 : decode cX11_takesShut 36 = .ok (.iconst 0, 1) := by decide +kernel
theorem dX11_takesShut_37 : decode cX11_takesShut 37 = .ok (.iaload, 1) := by decide +kernel
theorem dX11_takesShut_38 : decode cX11_takesShut 38 = .ok (.ishl, 1) := by decide +kernel
theorem dX11_takesShut_39 : decode cX11_takesShut 39 = .ok (.ixor, 1) := by decide +kernel
theorem dX11_takesShut_40 : decode cX11_takesShut 40 = .ok (.iastore, 1) := by decide +kernel
theorem dX11_takesShut_41 : decode cX11_takesShut 41 = .ok (.iconst 1, 1) := by decide +kernel
theorem dX11_takesShut_42 : decode cX11_takesShut 42 = .ok (.ireturn, 1) := by decide +kernel
set_option maxRecDepth 20000 in
theorem ggX11_takesHours_X11_goBehind : GoodIn wsX11_takesHours wsX11_goBehind := goodIn_r _ [7, 8, 9, 10, 11, 12, 6, 13, 14, 15, 16, 17, 18, 19, 20, 21, 22, 23, 24, 25, 26, 27, 28, 29, 30, 65, 66, 67, 68, 69, 70, 71, 72, 73, 74, 75, 76, 77, 78, 79, 80, 81, 82] rfl (by decide +kernel)
set_option maxRecDepth 20000 in
theorem gX11_takesHours_X11_goBehind : GoodIn wsX11_takesHours (wsV RX11 271 RX11 yX11_goBehind wsX11_goBehind) := goodIn_app (goodIn_of _ (by decide +kernel)) ggX11_takesHours_X11_goBehind
set_option maxRecDepth 20000 in
theorem ggX11_takesHours_X11_takes : GoodIn wsX11_takesHours wsX11_takes := goodIn_r _ [34, 16, 17, 2, 23, 24, 6, 25, 3, 4, 5, 7, 8, 9, 10, 11, 12, 13, 14, 15, 18, 19, 20, 21, 22, 26, 27, 28, 29, 30, 65, 66, 67, 68, 69, 70, 71, 72, 73, 74, 75, 76, 77, 78, 79, 80, 81, 82] rfl (by decide +kernel)
set_option maxRecDepth 20000 in
theorem gX11_takesHours_X11_takes : GoodIn wsX11_takesHours (wsV RX11 274 RX11 yX11_takes wsX11_takes) := goodIn_app (goodIn_of _ (by decide +kernel)) ggX11_takesHours_X11_takes
set_option maxRecDepth 20000 in
theorem ggX11_takesHours_X11_goHours : GoodIn wsX11_takesHours wsX11_goHours := goodIn_r _ [37, 38, 39, 6, 40, 41, 42, 43, 44, 45, 46, 47, 48, 49, 50, 51, 52, 53, 54, 55, 56, 57, 58, 59, 60, 61, 62, 63, 64] rfl (by decide +kernel)
set_option maxRecDepth 20000 in
theorem gX11_takesHours_X11_goHours : GoodIn wsX11_takesHours (va_wsS RX11 130 yX11_goHours wsX11_goHours) := goodIn_app (goodIn_of _ (by decide +kernel)) ggX11_takesHours_X11_goHours
theorem dX11_takesHours_0 : decode cX11_takesHours 0 = .ok (.aload_n 0, 1) := by decide +kernel
theorem dX11_takesHours_1 : decode cX11_takesHours 1 = .ok (.invokevirtual 271, 3) := by decide +kernel
theorem dX11_takesHours_4 : decode cX11_takesHours 4 = .ok (.aload_n 0, 1) := by decide +kernel
theorem dX11_takesHours_5 : decode cX11_takesHours 5 = .ok (.iconst 0, 1) := by decide +kernel
theorem dX11_takesHours_6 : decode cX11_takesHours 6 = .ok (.iconst 1, 1) := by decide +kernel
theorem dX11_takesHours_7 : decode cX11_takesHours 7 = .ok (.bipush 99, 2) := by decide +kernel
theorem dX11_takesHours_9 : decode cX11_takesHours 9 = .ok (.invokevirtual 274, 3) := by decide +kernel
theorem dX11_takesHours_12 : decode cX11_takesHours 12 = .ok (.ifCond .ne 5, 3) := by decide +kernel
theorem dX11_takesHours_15 : decode cX11_takesHours 15 = .ok (.iconst 0, 1) := by decide +kernel
theorem dX11_takesHours_16 : decode cX11_takesHours 16 = .ok (.ireturn, 1) := by decide +kernel
theorem dX11_takesHours_17 : decode cX11_takesHours 17 = .ok (.aload_n 0, 1) := by decide +kernel
theorem dX11_takesHours_18 : decode cX11_takesHours 18 = .ok (.getfield 42, 3) := by decide +kernel
theorem dX11_takesHours_21 : decode cX11_takesHours 21 = .ok (.aload_n 0, 1) := by decide +kernel
theorem dX11_takesHours_22 : decode cX11_takesHours 22 = .ok (.getfield 45, 3) := by decide +kernel
theorem dX11_takesHours_25 : decode cX11_takesHours 25 = .ok (.iconst 0, 1) := by decide +kernel
theorem dX11_takesHours_26 : decode cX11_takesHours 26 = .ok (.iaload, 1) := by decide +kernel
theorem dX11_takesHours_27 : decode cX11_takesHours 27 = .ok (.invokestatic 130, 3) := by decide +kernel
theorem dX11_takesHours_30 : decode cX11_takesHours 30 = .ok (.iconst 1, 1) := by decide +kernel
theorem dX11_takesHours_31 : decode cX11_takesHours 31 = .ok (.ireturn, 1) := by decide +kernel
theorem dX11_spellsCrossing_0 : decode cX11_spellsCrossing 0 = .ok (.aload_n 0, 1) := by decide +kernel
theorem dX11_spellsCrossing_1 : decode cX11_spellsCrossing 1 = .ok (.getfield 256, 3) := by decide +kernel
theorem dX11_spellsCrossing_4 : decode cX11_spellsCrossing 4 = .ok (.iconst 1, 1) := by decide +kernel
theorem dX11_spellsCrossing_5 : decode cX11_spellsCrossing 5 = .ok (.if_icmp .ne 16, 3) := by decide +kernel
theorem dX11_spellsCrossing_8 : decode cX11_spellsCrossing 8 = .ok (.aload_n 0, 1) := by decide +kernel
theorem dX11_spellsCrossing_9 : decode cX11_spellsCrossing 9 = .ok (.getfield 253, 3) := by decide +kernel
theorem dX11_spellsCrossing_12 : decode cX11_spellsCrossing 12 = .ok (.bipush 8, 2) := by decide +kernel
theorem dX11_spellsCrossing_14 : decode cX11_spellsCrossing 14 = .ok (.if_icmp .ne 7, 3) := by decide +kernel
theorem dX11_spellsCrossing_17 : decode cX11_spellsCrossing 17 = .ok (.iconst 1, 1) := by decide +kernel
theorem dX11_spellsCrossing_18 : decode cX11_spellsCrossing 18 = .ok (.goto 4, 3) := by decide +kernel
theorem dX11_spellsCrossing_21 : decode cX11_spellsCrossing 21 = .ok (.iconst 0, 1) := by decide +kernel
theorem dX11_spellsCrossing_22 : decode cX11_spellsCrossing 22 = .ok (.istore_n 1, 1) := by decide +kernel
theorem dX11_spellsCrossing_23 : decode cX11_spellsCrossing 23 = .ok (.iload_n 1, 1) := by decide +kernel
theorem dX11_spellsCrossing_24 : decode cX11_spellsCrossing 24 = .ok (.ifCond .eq 135, 3) := by decide +kernel
theorem dX11_spellsCrossing_27 : decode cX11_spellsCrossing 27 = .ok (.aload_n 0, 1) := by decide +kernel
theorem dX11_spellsCrossing_28 : decode cX11_spellsCrossing 28 = .ok (.getfield 39, 3) := by decide +kernel
theorem dX11_spellsCrossing_31 : decode cX11_spellsCrossing 31 = .ok (.aload_n 0, 1) := by decide +kernel
theorem dX11_spellsCrossing_32 : decode cX11_spellsCrossing 32 = .ok (.getfield 250, 3) := by decide +kernel
theorem dX11_spellsCrossing_35 : decode cX11_spellsCrossing 35 = .ok (.iaload, 1) := by decide +kernel
theorem dX11_spellsCrossing_36 : decode cX11_spellsCrossing 36 = .ok (.bipush 99, 2) := by decide +kernel
theorem dX11_spellsCrossing_38 : decode cX11_spellsCrossing 38 = .ok (.if_icmp .ne 121, 3) := by decide +kernel
theorem dX11_spellsCrossing_41 : decode cX11_spellsCrossing 41 = .ok (.aload_n 0, 1) := by decide +kernel
theorem dX11_spellsCrossing_42 : decode cX11_spellsCrossing 42 = .ok (.getfield 39, 3) := by decide +kernel
theorem dX11_spellsCrossing_45 : decode cX11_spellsCrossing 45 = .ok (.aload_n 0, 1) := by decide +kernel
theorem dX11_spellsCrossing_46 : decode cX11_spellsCrossing 46 = .ok (.getfield 250, 3) := by decide +kernel
theorem dX11_spellsCrossing_49 : decode cX11_spellsCrossing 49 = .ok (.iconst 1, 1) := by decide +kernel
theorem dX11_spellsCrossing_50 : decode cX11_spellsCrossing 50 = .ok (.iadd, 1) := by decide +kernel
theorem dX11_spellsCrossing_51 : decode cX11_spellsCrossing 51 = .ok (.iaload, 1) := by decide +kernel
theorem dX11_spellsCrossing_52 : decode cX11_spellsCrossing 52 = .ok (.bipush 114, 2) := by decide +kernel
theorem dX11_spellsCrossing_54 : decode cX11_spellsCrossing 54 = .ok (.if_icmp .ne 105, 3) := by decide +kernel
theorem dX11_spellsCrossing_57 : decode cX11_spellsCrossing 57 = .ok (.aload_n 0, 1) := by decide +kernel
theorem dX11_spellsCrossing_58 : decode cX11_spellsCrossing 58 = .ok (.getfield 39, 3) := by decide +kernel
theorem dX11_spellsCrossing_61 : decode cX11_spellsCrossing 61 = .ok (.aload_n 0, 1) := by decide +kernel
theorem dX11_spellsCrossing_62 : decode cX11_spellsCrossing 62 = .ok (.getfield 250, 3) := by decide +kernel
theorem dX11_spellsCrossing_65 : decode cX11_spellsCrossing 65 = .ok (.iconst 2, 1) := by decide +kernel
theorem dX11_spellsCrossing_66 : decode cX11_spellsCrossing 66 = .ok (.iadd, 1) := by decide +kernel
theorem dX11_spellsCrossing_67 : decode cX11_spellsCrossing 67 = .ok (.iaload, 1) := by decide +kernel
theorem dX11_spellsCrossing_68 : decode cX11_spellsCrossing 68 = .ok (.bipush 111, 2) := by decide +kernel
theorem dX11_spellsCrossing_70 : decode cX11_spellsCrossing 70 = .ok (.if_icmp .ne 89, 3) := by decide +kernel
theorem dX11_spellsCrossing_73 : decode cX11_spellsCrossing 73 = .ok (.aload_n 0, 1) := by decide +kernel
theorem dX11_spellsCrossing_74 : decode cX11_spellsCrossing 74 = .ok (.getfield 39, 3) := by decide +kernel
theorem dX11_spellsCrossing_77 : decode cX11_spellsCrossing 77 = .ok (.aload_n 0, 1) := by decide +kernel
theorem dX11_spellsCrossing_78 : decode cX11_spellsCrossing 78 = .ok (.getfield 250, 3) := by decide +kernel
theorem dX11_spellsCrossing_81 : decode cX11_spellsCrossing 81 = .ok (.iconst 3, 1) := by decide +kernel
theorem dX11_spellsCrossing_82 : decode cX11_spellsCrossing 82 = .ok (.iadd, 1) := by decide +kernel
theorem dX11_spellsCrossing_83 : decode cX11_spellsCrossing 83 = .ok (.iaload, 1) := by decide +kernel
theorem dX11_spellsCrossing_84 : decode cX11_spellsCrossing 84 = .ok (.bipush 115, 2) := by decide +kernel
theorem dX11_spellsCrossing_86 : decode cX11_spellsCrossing 86 = .ok (.if_icmp .ne 73, 3) := by decide +kernel
theorem dX11_spellsCrossing_89 : decode cX11_spellsCrossing 89 = .ok (.aload_n 0, 1) := by decide +kernel
theorem dX11_spellsCrossing_90 : decode cX11_spellsCrossing 90 = .ok (.getfield 39, 3) := by decide +kernel
theorem dX11_spellsCrossing_93 : decode cX11_spellsCrossing 93 = .ok (.aload_n 0, 1) := by decide +kernel
theorem dX11_spellsCrossing_94 : decode cX11_spellsCrossing 94 = .ok (.getfield 250, 3) := by decide +kernel
theorem dX11_spellsCrossing_97 : decode cX11_spellsCrossing 97 = .ok (.iconst 4, 1) := by decide +kernel
theorem dX11_spellsCrossing_98 : decode cX11_spellsCrossing 98 = .ok (.iadd, 1) := by decide +kernel
theorem dX11_spellsCrossing_99 : decode cX11_spellsCrossing 99 = .ok (.iaload, 1) := by decide +kernel
theorem dX11_spellsCrossing_100 : decode cX11_spellsCrossing 100 = .ok (.bipush 115, 2) := by decide +kernel
theorem dX11_spellsCrossing_102 : decode cX11_spellsCrossing 102 = .ok (.if_icmp .ne 57, 3) := by decide +kernel
theorem dX11_spellsCrossing_105 : decode cX11_spellsCrossing 105 = .ok (.aload_n 0, 1) := by decide +kernel
theorem dX11_spellsCrossing_106 : decode cX11_spellsCrossing 106 = .ok (.getfield 39, 3) := by decide +kernel
theorem dX11_spellsCrossing_109 : decode cX11_spellsCrossing 109 = .ok (.aload_n 0, 1) := by decide +kernel
theorem dX11_spellsCrossing_110 : decode cX11_spellsCrossing 110 = .ok (.getfield 250, 3) := by decide +kernel
theorem dX11_spellsCrossing_113 : decode cX11_spellsCrossing 113 = .ok (.iconst 5, 1) := by decide +kernel
theorem dX11_spellsCrossing_114 : decode cX11_spellsCrossing 114 = .ok (.iadd, 1) := by decide +kernel
theorem dX11_spellsCrossing_115 : decode cX11_spellsCrossing 115 = .ok (.iaload, 1) := by decide +kernel
theorem dX11_spellsCrossing_116 : decode cX11_spellsCrossing 116 = .ok (.bipush 105, 2) := by decide +kernel
theorem dX11_spellsCrossing_118 : decode cX11_spellsCrossing 118 = .ok (.if_icmp .ne 41, 3) := by decide +kernel
theorem dX11_spellsCrossing_121 : decode cX11_spellsCrossing 121 = .ok (.aload_n 0, 1) := by decide +kernel
theorem dX11_spellsCrossing_122 : decode cX11_spellsCrossing 122 = .ok (.getfield 39, 3) := by decide +kernel
theorem dX11_spellsCrossing_125 : decode cX11_spellsCrossing 125 = .ok (.aload_n 0, 1) := by decide +kernel
theorem dX11_spellsCrossing_126 : decode cX11_spellsCrossing 126 = .ok (.getfield 250, 3) := by decide +kernel
theorem dX11_spellsCrossing_129 : decode cX11_spellsCrossing 129 = .ok (.bipush 6, 2) := by decide +kernel
theorem dX11_spellsCrossing_131 : decode cX11_spellsCrossing 131 = .ok (.iadd, 1) := by decide +kernel
theorem dX11_spellsCrossing_132 : decode cX11_spellsCrossing 132 = .ok (.iaload, 1) := by decide +kernel
theorem dX11_spellsCrossing_133 : decode cX11_spellsCrossing 133 = .ok (.bipush 110, 2) := by decide +kernel
theorem dX11_spellsCrossing_135 : decode cX11_spellsCrossing 135 = .ok (.if_icmp .ne 24, 3) := by decide +kernel
theorem dX11_spellsCrossing_138 : decode cX11_spellsCrossing 138 = .ok (.aload_n 0, 1) := by decide +kernel
theorem dX11_spellsCrossing_139 : decode cX11_spellsCrossing 139 = .ok (.getfield 39, 3) := by decide +kernel
theorem dX11_spellsCrossing_142 : decode cX11_spellsCrossing 142 = .ok (.aload_n 0, 1) := by decide +kernel
theorem dX11_spellsCrossing_143 : decode cX11_spellsCrossing 143 = .ok (.getfield 250, 3) := by decide +kernel
theorem dX11_spellsCrossing_146 : decode cX11_spellsCrossing 146 = .ok (.bipush 7, 2) := by decide +kernel
theorem dX11_spellsCrossing_148 : decode cX11_spellsCrossing 148 = .ok (.iadd, 1) := by decide +kernel
theorem dX11_spellsCrossing_149 : decode cX11_spellsCrossing 149 = .ok (.iaload, 1) := by decide +kernel
theorem dX11_spellsCrossing_150 : decode cX11_spellsCrossing 150 = .ok (.bipush 103, 2) := by decide +kernel
theorem dX11_spellsCrossing_152 : decode cX11_spellsCrossing 152 = .ok (.if_icmp .ne 7, 3) := by decide +kernel
theorem dX11_spellsCrossing_155 : decode cX11_spellsCrossing 155 = .ok (.iconst 1, 1) := by decide +kernel
theorem dX11_spellsCrossing_156 : decode cX11_spellsCrossing 156 = .ok (.goto 4, 3) := by decide +kernel
theorem dX11_spellsCrossing_159 : decode cX11_spellsCrossing 159 = .ok (.iconst 0, 1) := by decide +kernel
theorem dX11_spellsCrossing_160 : decode cX11_spellsCrossing 160 = .ok (.ireturn, 1) := by decide +kernel
set_option maxRecDepth 20000 in
theorem ggX11_takesItem_X11_spells : GoodIn wsX11_takesItem wsX11_spells := goodIn_r _ [5, 6, 7, 8, 9, 99, 100, 101, 102, 103, 104, 105, 106, 107, 108, 109, 110, 111, 112, 113, 114, 115, 116] rfl (by decide +kernel)
set_option maxRecDepth 20000 in
theorem gX11_takesItem_X11_spells : GoodIn wsX11_takesItem (wsV RX11 277 RX11 yX11_spells wsX11_spells) := goodIn_app (goodIn_of _ (by decide +kernel)) ggX11_takesItem_X11_spells
set_option maxRecDepth 20000 in
theorem ggX11_takesItem_X11_takesWet : GoodIn wsX11_takesItem wsX11_takesWet := goodIn_r _ [13, 6, 14, 15, 16, 17, 18, 4, 19, 9, 7, 20, 21, 22, 23, 24, 8, 25, 26, 27, 28, 29, 30, 31, 32, 33, 34, 35, 36, 37, 38, 39, 40, 41, 42, 99, 100, 101, 102, 103, 104, 105, 106, 107, 108, 109, 110, 111, 112, 113, 114, 115, 116] rfl (by decide +kernel)
set_option maxRecDepth 20000 in
theorem gX11_takesItem_X11_takesWet : GoodIn wsX11_takesItem (wsV RX11 281 RX11 yX11_takesWet wsX11_takesWet) := goodIn_app (goodIn_of _ (by decide +kernel)) ggX11_takesItem_X11_takesWet
set_option maxRecDepth 20000 in
theorem ggX11_takesItem_X11_takesGlove : GoodIn wsX11_takesItem wsX11_takesGlove := goodIn_r _ [46, 14, 15, 16, 17, 18, 4, 19, 9, 7, 20, 21, 22, 23, 24, 8, 6, 25, 26, 27, 28, 29, 30, 31, 32, 33, 34, 35, 36, 37, 38, 39, 40, 41, 42, 47, 48, 49, 99, 100, 101, 102, 103, 104, 105, 106, 107, 108, 109, 110, 111, 112, 113, 114, 115, 116] rfl (by decide +kernel)
set_option maxRecDepth 20000 in
theorem gX11_takesItem_X11_takesGlove : GoodIn wsX11_takesItem (wsV RX11 285 RX11 yX11_takesGlove wsX11_takesGlove) := goodIn_app (goodIn_of _ (by decide +kernel)) ggX11_takesItem_X11_takesGlove
set_option maxRecDepth 20000 in
theorem ggX11_takesItem_X11_spellsCrossing : GoodIn wsX11_takesItem wsX11_spellsCrossing := goodIn_r _ [53, 6, 7, 8, 9, 99, 100, 101, 102, 103, 104, 105, 106, 107, 108, 109, 110, 111, 112, 113, 114, 115, 116] rfl (by decide +kernel)
set_option maxRecDepth 20000 in
theorem gX11_takesItem_X11_spellsCrossing : GoodIn wsX11_takesItem (wsV RX11 288 RX11 yX11_spellsCrossing wsX11_spellsCrossing) := goodIn_app (goodIn_of _ (by decide +kernel)) ggX11_takesItem_X11_spellsCrossing
set_option maxRecDepth 20000 in
theorem ggX11_takesItem_X11_takesCrossing : GoodIn wsX11_takesItem wsX11_takesCrossing := goodIn_r _ [57, 14, 6, 25, 15, 16, 17, 18, 4, 19, 9, 7, 20, 21, 22, 23, 24, 8, 26, 27, 28, 29, 30, 31, 32, 33, 34, 35, 36, 37, 38, 39, 40, 41, 42, 58, 59, 60, 61, 62, 63, 99, 100, 101, 102, 103, 104, 105, 106, 107, 108, 109, 110, 111, 112, 113, 114, 115, 116] rfl (by decide +kernel)
set_option maxRecDepth 20000 in
theorem gX11_takesItem_X11_takesCrossing : GoodIn wsX11_takesItem (wsV RX11 291 RX11 yX11_takesCrossing wsX11_takesCrossing) := goodIn_app (goodIn_of _ (by decide +kernel)) ggX11_takesItem_X11_takesCrossing
set_option maxRecDepth 20000 in
theorem ggX11_takesItem_X11_takesShut : GoodIn wsX11_takesItem wsX11_takesShut := goodIn_r _ [67, 14, 15, 16, 17, 18, 4, 19, 9, 7, 20, 21, 22, 23, 24, 8, 6, 25, 26, 27, 28, 29, 30, 31, 32, 33, 34, 35, 36, 37, 38, 39, 40, 41, 42, 99, 100, 101, 102, 103, 104, 105, 106, 107, 108, 109, 110, 111, 112, 113, 114, 115, 116] rfl (by decide +kernel)
set_option maxRecDepth 20000 in
theorem gX11_takesItem_X11_takesShut : GoodIn wsX11_takesItem (wsV RX11 294 RX11 yX11_takesShut wsX11_takesShut) := goodIn_app (goodIn_of _ (by decide +kernel)) ggX11_takesItem_X11_takesShut
set_option maxRecDepth 20000 in
theorem ggX11_takesItem_X11_takesHours : GoodIn wsX11_takesItem wsX11_takesHours := goodIn_r _ [71, 14, 15, 16, 17, 18, 4, 19, 9, 7, 20, 21, 22, 23, 24, 8, 6, 25, 26, 27, 28, 29, 30, 31, 32, 33, 34, 35, 36, 37, 38, 39, 40, 41, 42, 72, 73, 74, 75, 76, 77, 78, 79, 80, 81, 82, 83, 84, 85, 86, 87, 88, 89, 58, 59, 60, 90, 91, 92, 93, 94, 95, 96, 97, 98, 99, 100, 101, 102, 103, 104, 105, 106, 107, 108, 109, 110, 111, 112, 113, 114, 115, 116] rfl (by decide +kernel)
set_option maxRecDepth 20000 in
theorem gX11_takesItem_X11_takesHours : GoodIn wsX11_takesItem (wsV RX11 297 RX11 yX11_takesHours wsX11_takesHours) := goodIn_app (goodIn_of _ (by decide +kernel)) ggX11_takesItem_X11_takesHours
theorem dX11_takesItem_0 : decode cX11_takesItem 0 = .ok (.aload_n 0, 1) := by decide +kernel
theorem dX11_takesItem_1 : decode cX11_takesItem 1 = .ok (.iconst 3, 1) := by decide +kernel
theorem dX11_takesItem_2 : decode cX11_takesItem 2 = .ok (.bipush 119, 2) := by decide +kernel
theorem dX11_takesItem_4 : decode cX11_takesItem 4 = .ok (.bipush 101, 2) := by decide +kernel
theorem dX11_takesItem_6 : decode cX11_takesItem 6 = .ok (.bipush 116, 2) := by decide +kernel
theorem dX11_takesItem_8 : decode cX11_takesItem 8 = .ok (.iconst 0, 1) := by decide +kernel
theorem dX11_takesItem_9 : decode cX11_takesItem 9 = .ok (.iconst 0, 1) := by decide +kernel
theorem dX11_takesItem_10 : decode cX11_takesItem 10 = .ok (.iconst 0, 1) := by decide +kernel
theorem dX11_takesItem_11 : decode cX11_takesItem 11 = .ok (.invokevirtual 277, 3) := by decide +kernel
theorem dX11_takesItem_14 : decode cX11_takesItem 14 = .ok (.ifCond .eq 8, 3) := by decide +kernel
theorem dX11_takesItem_17 : decode cX11_takesItem 17 = .ok (.aload_n 0, 1) := by decide +kernel
theorem dX11_takesItem_18 : decode cX11_takesItem 18 = .ok (.invokevirtual 281, 3) := by decide +kernel
theorem dX11_takesItem_21 : decode cX11_takesItem 21 = .ok (.ireturn, 1) := by decide +kernel
theorem dX11_takesItem_22 : decode cX11_takesItem 22 = .ok (.aload_n 0, 1) := by decide +kernel
theorem dX11_takesItem_23 : decode cX11_takesItem 23 = .ok (.iconst 5, 1) := by decide +kernel
theorem dX11_takesItem_24 : decode cX11_takesItem 24 = .ok (.bipush 103, 2) := by decide +kernel
theorem dX11_takesItem_26 : decode cX11_takesItem 26 = .ok (.bipush 108, 2) := by decide +kernel
theorem dX11_takesItem_28 : decode cX11_takesItem 28 = .ok (.bipush 111, 2) := by decide +kernel
theorem dX11_takesItem_30 : decode cX11_takesItem 30 = .ok (.bipush 118, 2) := by decide +kernel
theorem dX11_takesItem_32 : decode cX11_takesItem 32 = .ok (.bipush 101, 2) := by decide +kernel
theorem dX11_takesItem_34 : decode cX11_takesItem 34 = .ok (.iconst 0, 1) := by decide +kernel
theorem dX11_takesItem_35 : decode cX11_takesItem 35 = .ok (.invokevirtual 277, 3) := by decide +kernel
theorem dX11_takesItem_38 : decode cX11_takesItem 38 = .ok (.ifCond .eq 8, 3) := by decide +kernel
theorem dX11_takesItem_41 : decode cX11_takesItem 41 = .ok (.aload_n 0, 1) := by decide +kernel
theorem dX11_takesItem_42 : decode cX11_takesItem 42 = .ok (.invokevirtual 285, 3) := by decide +kernel
theorem dX11_takesItem_45 : decode cX11_takesItem 45 = .ok (.ireturn, 1) := by decide +kernel
theorem dX11_takesItem_46 : decode cX11_takesItem 46 = .ok (.aload_n 0, 1) := by decide +kernel
theorem dX11_takesItem_47 : decode cX11_takesItem 47 = .ok (.invokevirtual 288, 3) := by decide +kernel
theorem dX11_takesItem_50 : decode cX11_takesItem 50 = .ok (.ifCond .eq 8, 3) := by decide +kernel
theorem dX11_takesItem_53 : decode cX11_takesItem 53 = .ok (.aload_n 0, 1) := by decide +kernel
theorem dX11_takesItem_54 : decode cX11_takesItem 54 = .ok (.invokevirtual 291, 3) := by decide +kernel
theorem dX11_takesItem_57 : decode cX11_takesItem 57 = .ok (.ireturn, 1) := by decide +kernel
theorem dX11_takesItem_58 : decode cX11_takesItem 58 = .ok (.aload_n 0, 1) := by decide +kernel
theorem dX11_takesItem_59 : decode cX11_takesItem 59 = .ok (.iconst 4, 1) := by decide +kernel
theorem dX11_takesItem_60 : decode cX11_takesItem 60 = .ok (.bipush 115, 2) := by decide +kernel
theorem dX11_takesItem_62 : decode cX11_takesItem 62 = .ok (.bipush 104, 2) := by decide +kernel
theorem dX11_takesItem_64 : decode cX11_takesItem 64 = .ok (.bipush 117, 2) := by decide +kernel
theorem dX11_takesItem_66 : decode cX11_takesItem 66 = .ok (.bipush 116, 2) := by decide +kernel
theorem dX11_takesItem_68 : decode cX11_takesItem 68 = .ok (.iconst 0, 1) := by decide +kernel
theorem dX11_takesItem_69 : decode cX11_takesItem 69 = .ok (.iconst 0, 1) := by decide +kernel
theorem dX11_takesItem_70 : decode cX11_takesItem 70 = .ok (.invokevirtual 277, 3) := by decide +kernel
theorem dX11_takesItem_73 : decode cX11_takesItem 73 = .ok (.ifCond .eq 8, 3) := by decide +kernel
theorem dX11_takesItem_76 : decode cX11_takesItem 76 = .ok (.aload_n 0, 1) := by decide +kernel
theorem dX11_takesItem_77 : decode cX11_takesItem 77 = .ok (.invokevirtual 294, 3) := by decide +kernel
theorem dX11_takesItem_80 : decode cX11_takesItem 80 = .ok (.ireturn, 1) := by decide +kernel
theorem dX11_takesItem_81 : decode cX11_takesItem 81 = .ok (.aload_n 0, 1) := by decide +kernel
theorem dX11_takesItem_82 : decode cX11_takesItem 82 = .ok (.iconst 5, 1) := by decide +kernel
theorem dX11_takesItem_83 : decode cX11_takesItem 83 = .ok (.bipush 104, 2) := by decide +kernel
theorem dX11_takesItem_85 : decode cX11_takesItem 85 = .ok (.bipush 111, 2) := by decide +kernel
theorem dX11_takesItem_87 : decode cX11_takesItem 87 = .ok (.bipush 117, 2) := by decide +kernel
theorem dX11_takesItem_89 : decode cX11_takesItem 89 = .ok (.bipush 114, 2) := by decide +kernel
theorem dX11_takesItem_91 : decode cX11_takesItem 91 = .ok (.bipush 115, 2) := by decide +kernel
theorem dX11_takesItem_93 : decode cX11_takesItem 93 = .ok (.iconst 0, 1) := by decide +kernel
theorem dX11_takesItem_94 : decode cX11_takesItem 94 = .ok (.invokevirtual 277, 3) := by decide +kernel
theorem dX11_takesItem_97 : decode cX11_takesItem 97 = .ok (.ifCond .eq 14, 3) := by decide +kernel
theorem dX11_takesItem_100 : decode cX11_takesItem 100 = .ok (.aload_n 0, 1) := by decide +kernel
theorem dX11_takesItem_101 : decode cX11_takesItem 101 = .ok (.invokevirtual 297, 3) := by decide +kernel
theorem dX11_takesItem_104 : decode cX11_takesItem 104 = .ok (.ifCond .eq 7, 3) := by decide +kernel
theorem dX11_takesItem_107 : decode cX11_takesItem 107 = .ok (.iconst 1, 1) := by decide +kernel
theorem dX11_takesItem_108 : decode cX11_takesItem 108 = .ok (.goto 4, 3) := by decide +kernel
theorem dX11_takesItem_111 : decode cX11_takesItem 111 = .ok (.iconst 0, 1) := by decide +kernel
theorem dX11_takesItem_112 : decode cX11_takesItem 112 = .ok (.ireturn, 1) := by decide +kernel
set_option maxRecDepth 20000 in
theorem ggX11_read_X11_lookAt : GoodIn wsX11_read wsX11_lookAt := goodIn_r _ [9, 1, 10, 11, 12, 2, 13, 14, 15, 8, 16, 17, 18, 19, 20, 21, 22, 23, 24, 25, 26, 107, 108, 109, 110, 111, 112, 113, 114, 115, 116, 117, 118, 119, 120, 121, 122, 123, 124] rfl (by decide +kernel)
set_option maxRecDepth 20000 in
theorem gX11_read_X11_lookAt : GoodIn wsX11_read (wsV RX11 268 RX11 yX11_lookAt wsX11_lookAt) := goodIn_app (goodIn_of _ (by decide +kernel)) ggX11_read_X11_lookAt
set_option maxRecDepth 20000 in
theorem ggX11_read_X11_spells : GoodIn wsX11_read wsX11_spells := goodIn_r _ [30, 2, 12, 11, 1, 107, 108, 109, 110, 111, 112, 113, 114, 115, 116, 117, 118, 119, 120, 121, 122, 123, 124] rfl (by decide +kernel)
set_option maxRecDepth 20000 in
theorem gX11_read_X11_spells : GoodIn wsX11_read (wsV RX11 277 RX11 yX11_spells wsX11_spells) := goodIn_app (goodIn_of _ (by decide +kernel)) ggX11_read_X11_spells
set_option maxRecDepth 20000 in
theorem ggX11_read_X11_goBehind : GoodIn wsX11_read wsX11_goBehind := goodIn_r _ [34, 1, 12, 5, 6, 7, 8, 9, 10, 11, 2, 13, 14, 15, 16, 17, 18, 19, 20, 21, 22, 23, 24, 25, 26, 107, 108, 109, 110, 111, 112, 113, 114, 115, 116, 117, 118, 119, 120, 121, 122, 123, 124] rfl (by decide +kernel)
set_option maxRecDepth 20000 in
theorem gX11_read_X11_goBehind : GoodIn wsX11_read (wsV RX11 271 RX11 yX11_goBehind wsX11_goBehind) := goodIn_app (goodIn_of _ (by decide +kernel)) ggX11_read_X11_goBehind
set_option maxRecDepth 20000 in
theorem ggX11_read_X11_begin : GoodIn wsX11_read wsX11_begin := goodIn_r _ [37] rfl (by decide +kernel)
set_option maxRecDepth 20000 in
theorem gX11_read_X11_begin : GoodIn wsX11_read (va_wsS RX11 48 yX11_begin wsX11_begin) := goodIn_app (goodIn_of _ (by decide +kernel)) ggX11_read_X11_begin
set_option maxRecDepth 20000 in
theorem ggX11_read_X11_takesItem : GoodIn wsX11_read wsX11_takesItem := goodIn_r _ [41, 27, 28, 29, 8, 30, 2, 12, 11, 1, 42, 43, 44, 45, 3, 46, 31, 32, 33, 34, 5, 6, 7, 9, 10, 13, 14, 15, 16, 17, 18, 19, 20, 21, 22, 23, 24, 25, 26, 47, 48, 49, 50, 51, 52, 53, 54, 55, 56, 57, 58, 59, 60, 61, 62, 63, 64, 65, 66, 67, 68, 69, 70, 71, 72, 73, 74, 75, 76, 77, 78, 79, 80, 81, 82, 83, 84, 85, 86, 87, 88, 89, 90, 91, 92, 93, 94, 95, 96, 97, 98, 99, 100, 101, 102, 103, 104, 105, 106, 107, 108, 109, 110, 111, 112, 113, 114, 115, 116, 117, 118, 119, 120, 121, 122, 123, 124] rfl (by decide +kernel)
set_option maxRecDepth 20000 in
theorem gX11_read_X11_takesItem : GoodIn wsX11_read (wsV RX11 300 RX11 yX11_takesItem wsX11_takesItem) := goodIn_app (goodIn_of _ (by decide +kernel)) ggX11_read_X11_takesItem
theorem dX11_read_0 : decode cX11_read 0 = .ok (.aload_n 0, 1) := by decide +kernel
theorem dX11_read_1 : decode cX11_read 1 = .ok (.iconst 0, 1) := by decide +kernel
theorem dX11_read_2 : decode cX11_read 2 = .ok (.invokevirtual 268, 3) := by decide +kernel
theorem dX11_read_5 : decode cX11_read 5 = .ok (.aload_n 0, 1) := by decide +kernel
theorem dX11_read_6 : decode cX11_read 6 = .ok (.bipush 6, 2) := by decide +kernel
theorem dX11_read_8 : decode cX11_read 8 = .ok (.bipush 115, 2) := by decide +kernel
theorem dX11_read_10 : decode cX11_read 10 = .ok (.bipush 116, 2) := by decide +kernel
theorem dX11_read_12 : decode cX11_read 12 = .ok (.bipush 114, 2) := by decide +kernel
theorem dX11_read_14 : decode cX11_read 14 = .ok (.bipush 101, 2) := by decide +kernel
theorem dX11_read_16 : decode cX11_read 16 = .ok (.bipush 101, 2) := by decide +kernel
theorem dX11_read_18 : decode cX11_read 18 = .ok (.bipush 116, 2) := by decide +kernel
theorem dX11_read_20 : decode cX11_read 20 = .ok (.invokevirtual 277, 3) := by decide +kernel
theorem dX11_read_23 : decode cX11_read 23 = .ok (.ifCond .ne 11, 3) := by decide +kernel
theorem dX11_read_26 : decode cX11_read 26 = .ok (.bipush (-10), 2) := by decide +kernel
theorem dX11_read_28 : decode cX11_read 28 = .ok (.aload_n 0, 1) := by decide +kernel
theorem dX11_read_29 : decode cX11_read 29 = .ok (.getfield 250, 3) := by decide +kernel
theorem dX11_read_32 : decode cX11_read 32 = .ok (.isub, 1) := by decide +kernel
theorem dX11_read_33 : decode cX11_read 33 = .ok (.ireturn, 1) := by decide +kernel
theorem dX11_read_34 : decode cX11_read 34 = .ok (.aload_n 0, 1) := by decide +kernel
theorem dX11_read_35 : decode cX11_read 35 = .ok (.invokevirtual 271, 3) := by decide +kernel
theorem dX11_read_38 : decode cX11_read 38 = .ok (.aload_n 0, 1) := by decide +kernel
theorem dX11_read_39 : decode cX11_read 39 = .ok (.getfield 256, 3) := by decide +kernel
theorem dX11_read_42 : decode cX11_read 42 = .ok (.iconst 3, 1) := by decide +kernel
theorem dX11_read_43 : decode cX11_read 43 = .ok (.if_icmp .eq 11, 3) := by decide +kernel
theorem dX11_read_46 : decode cX11_read 46 = .ok (.bipush (-10), 2) := by decide +kernel
theorem dX11_read_48 : decode cX11_read 48 = .ok (.aload_n 0, 1) := by decide +kernel
theorem dX11_read_49 : decode cX11_read 49 = .ok (.getfield 250, 3) := by decide +kernel
theorem dX11_read_52 : decode cX11_read 52 = .ok (.isub, 1) := by decide +kernel
theorem dX11_read_53 : decode cX11_read 53 = .ok (.ireturn, 1) := by decide +kernel
theorem dX11_read_54 : decode cX11_read 54 = .ok (.aload_n 0, 1) := by decide +kernel
theorem dX11_read_55 : decode cX11_read 55 = .ok (.invokevirtual 271, 3) := by decide +kernel
theorem dX11_read_58 : decode cX11_read 58 = .ok (.aload_n 0, 1) := by decide +kernel
theorem dX11_read_59 : decode cX11_read 59 = .ok (.getfield 42, 3) := by decide +kernel
theorem dX11_read_62 : decode cX11_read 62 = .ok (.invokestatic 48, 3) := by decide +kernel
theorem dX11_read_65 : decode cX11_read 65 = .ok (.iconst 1, 1) := by decide +kernel
theorem dX11_read_66 : decode cX11_read 66 = .ok (.istore_n 1, 1) := by decide +kernel
theorem dX11_read_67 : decode cX11_read 67 = .ok (.aload_n 0, 1) := by decide +kernel
theorem dX11_read_68 : decode cX11_read 68 = .ok (.getfield 256, 3) := by decide +kernel
theorem dX11_read_71 : decode cX11_read 71 = .ok (.ifCond .eq 36, 3) := by decide +kernel
theorem dX11_read_74 : decode cX11_read 74 = .ok (.aload_n 0, 1) := by decide +kernel
theorem dX11_read_75 : decode cX11_read 75 = .ok (.invokevirtual 300, 3) := by decide +kernel
theorem dX11_read_78 : decode cX11_read 78 = .ok (.ifCond .eq 11, 3) := by decide +kernel
theorem dX11_read_81 : decode cX11_read 81 = .ok (.aload_n 0, 1) := by decide +kernel
theorem dX11_read_82 : decode cX11_read 82 = .ok (.getfield 256, 3) := by decide +kernel
theorem dX11_read_85 : decode cX11_read 85 = .ok (.iconst 3, 1) := by decide +kernel
theorem dX11_read_86 : decode cX11_read 86 = .ok (.if_icmp .eq 11, 3) := by decide +kernel
theorem dX11_read_89 : decode cX11_read 89 = .ok (.bipush (-10), 2) := by decide +kernel
theorem dX11_read_91 : decode cX11_read 91 = .ok (.aload_n 0, 1) := by decide +kernel
theorem dX11_read_92 : decode cX11_read 92 = .ok (.getfield 250, 3) := by decide +kernel
theorem dX11_read_95 : decode cX11_read 95 = .ok (.isub, 1) := by decide +kernel
theorem dX11_read_96 : decode cX11_read 96 = .ok (.ireturn, 1) := by decide +kernel
theorem dX11_read_97 : decode cX11_read 97 = .ok (.aload_n 0, 1) := by decide +kernel
theorem dX11_read_98 : decode cX11_read 98 = .ok (.invokevirtual 271, 3) := by decide +kernel
theorem dX11_read_101 : decode cX11_read 101 = .ok (.iinc 1 1, 3) := by decide +kernel
theorem dX11_read_104 : decode cX11_read 104 = .ok (.goto (-37), 3) := by decide +kernel
theorem dX11_read_107 : decode cX11_read 107 = .ok (.iconst 0, 1) := by decide +kernel
theorem dX11_read_108 : decode cX11_read 108 = .ok (.istore_n 2, 1) := by decide +kernel
theorem dX11_read_109 : decode cX11_read 109 = .ok (.iload_n 2, 1) := by decide +kernel
theorem dX11_read_110 : decode cX11_read 110 = .ok (.bipush 101, 2) := by decide +kernel
theorem dX11_read_112 : decode cX11_read 112 = .ok (.if_icmp .ge 21, 3) := by decide +kernel
theorem dX11_read_115 : decode cX11_read 115 = .ok (.aload_n 0, 1) := by decide +kernel
theorem dX11_read_116 : decode cX11_read 116 = .ok (.getfield 7, 3) := by decide +kernel
theorem dX11_read_119 : decode cX11_read 119 = .ok (.iload_n 2, 1) := by decide +kernel
theorem dX11_read_120 : decode cX11_read 120 = .ok (.aload_n 0, 1) := by decide +kernel
theorem dX11_read_121 : decode cX11_read 121 = .ok (.getfield 42, 3) := by decide +kernel
theorem dX11_read_124 : decode cX11_read 124 = .ok (.iload_n 2, 1) := by decide +kernel
theorem dX11_read_125 : decode cX11_read 125 = .ok (.iaload, 1) := by decide +kernel
theorem dX11_read_126 : decode cX11_read 126 = .ok (.iastore, 1) := by decide +kernel
theorem dX11_read_127 : decode cX11_read 127 = .ok (.iinc 2 1, 3) := by decide +kernel
theorem dX11_read_130 : decode cX11_read 130 = .ok (.goto (-21), 3) := by decide +kernel
theorem dX11_read_133 : decode cX11_read 133 = .ok (.iload_n 1, 1) := by decide +kernel
theorem dX11_read_134 : decode cX11_read 134 = .ok (.ireturn, 1) := by decide +kernel
set_option maxRecDepth 20000 in
theorem ggX11_part_X11_bad : GoodIn wsX11_part wsX11_bad := goodIn_r _ [7, 8, 9, 10, 11, 12, 13, 14, 15, 16, 17, 18, 19, 20, 21, 22, 23, 24, 25, 26] rfl (by decide +kernel)
set_option maxRecDepth 20000 in
theorem gX11_part_X11_bad : GoodIn wsX11_part (wsV RX11 70 RX11 yX11_bad wsX11_bad) := goodIn_app (goodIn_of _ (by decide +kernel)) ggX11_part_X11_bad
theorem dX11_part_0 : decode cX11_part 0 = .ok (.iload_n 1, 1) := by decide +kernel
theorem dX11_part_1 : decode cX11_part 1 = .ok (.ifCond .ne 10, 3) := by decide +kernel
theorem dX11_part_4 : decode cX11_part 4 = .ok (.aload_n 0, 1) := by decide +kernel
theorem dX11_part_5 : decode cX11_part 5 = .ok (.getfield 217, 3) := by decide +kernel
theorem dX11_part_8 : decode cX11_part 8 = .ok (.goto 22, 3) := by decide +kernel
theorem dX11_part_11 : decode cX11_part 11 = .ok (.iload_n 1, 1) := by decide +kernel
theorem dX11_part_12 : decode cX11_part 12 = .ok (.iconst 1, 1) := by decide +kernel
theorem dX11_part_13 : decode cX11_part 13 = .ok (.if_icmp .ne 10, 3) := by decide +kernel
theorem dX11_part_16 : decode cX11_part 16 = .ok (.aload_n 0, 1) := by decide +kernel
theorem dX11_part_17 : decode cX11_part 17 = .ok (.getfield 23, 3) := by decide +kernel
theorem dX11_part_20 : decode cX11_part 20 = .ok (.goto 10, 3) := by decide +kernel
theorem dX11_part_23 : decode cX11_part 23 = .ok (.aload_n 0, 1) := by decide +kernel
theorem dX11_part_24 : decode cX11_part 24 = .ok (.bipush (-2), 2) := by decide +kernel
theorem dX11_part_26 : decode cX11_part 26 = .ok (.invokevirtual 70, 3) := by decide +kernel
theorem dX11_part_29 : decode cX11_part 29 = .ok (.i2l, 1) := by decide +kernel
theorem dX11_part_30 : decode cX11_part 30 = .ok (.lreturn, 1) := by decide +kernel
set_option maxRecDepth 20000 in
theorem ggX11_image_X11_in : GoodIn wsX11_image wsX11_in := goodIn_r _ [7] rfl (by decide +kernel)
set_option maxRecDepth 20000 in
theorem gX11_image_X11_in : GoodIn wsX11_image (va_wsS RX11 56 yX11_in wsX11_in) := goodIn_app (goodIn_of _ (by decide +kernel)) ggX11_image_X11_in
set_option maxRecDepth 20000 in
theorem ggX11_image_X11_bad : GoodIn wsX11_image wsX11_bad := goodIn_r _ [11, 12, 13, 14, 15, 16, 17, 18, 19, 20, 21, 22, 23, 24, 25, 26, 27, 28, 29, 30] rfl (by decide +kernel)
set_option maxRecDepth 20000 in
theorem gX11_image_X11_bad : GoodIn wsX11_image (wsV RX11 70 RX11 yX11_bad wsX11_bad) := goodIn_app (goodIn_of _ (by decide +kernel)) ggX11_image_X11_bad
theorem dX11_image_0 : decode cX11_image 0 = .ok (.iload_n 1, 1) := by decide +kernel
theorem dX11_image_1 : decode cX11_image 1 = .ok (.i2l, 1) := by decide +kernel
theorem dX11_image_2 : decode cX11_image 2 = .ok (.lconst 0, 1) := by decide +kernel
theorem dX11_image_3 : decode cX11_image 3 = .ok (.lconst 1, 1) := by decide +kernel
theorem dX11_image_4 : decode cX11_image 4 = .ok (.invokestatic 56, 3) := by decide +kernel
theorem dX11_image_7 : decode cX11_image 7 = .ok (.ifCond .ne 10, 3) := by decide +kernel
theorem dX11_image_10 : decode cX11_image 10 = .ok (.aload_n 0, 1) := by decide +kernel
theorem dX11_image_11 : decode cX11_image 11 = .ok (.bipush (-2), 2) := by decide +kernel
theorem dX11_image_13 : decode cX11_image 13 = .ok (.invokevirtual 70, 3) := by decide +kernel
theorem dX11_image_16 : decode cX11_image 16 = .ok (.ireturn, 1) := by decide +kernel
theorem dX11_image_17 : decode cX11_image 17 = .ok (.iconst 0, 1) := by decide +kernel
theorem dX11_image_18 : decode cX11_image 18 = .ok (.istore_n 2, 1) := by decide +kernel
theorem dX11_image_19 : decode cX11_image 19 = .ok (.iload_n 2, 1) := by decide +kernel
theorem dX11_image_20 : decode cX11_image 20 = .ok (.sipush 181, 3) := by decide +kernel
theorem dX11_image_23 : decode cX11_image 23 = .ok (.if_icmp .ge 27, 3) := by decide +kernel
theorem dX11_image_26 : decode cX11_image 26 = .ok (.aload_n 0, 1) := by decide +kernel
theorem dX11_image_27 : decode cX11_image 27 = .ok (.getfield 13, 3) := by decide +kernel
theorem dX11_image_30 : decode cX11_image 30 = .ok (.sipush 181, 3) := by decide +kernel
theorem dX11_image_33 : decode cX11_image 33 = .ok (.iload_n 1, 1) := by decide +kernel
theorem dX11_image_34 : decode cX11_image 34 = .ok (.imul, 1) := by decide +kernel
theorem dX11_image_35 : decode cX11_image 35 = .ok (.iload_n 2, 1) := by decide +kernel
theorem dX11_image_36 : decode cX11_image 36 = .ok (.iadd, 1) := by decide +kernel
theorem dX11_image_37 : decode cX11_image 37 = .ok (.aload_n 0, 1) := by decide +kernel
theorem dX11_image_38 : decode cX11_image 38 = .ok (.getfield 7, 3) := by decide +kernel
theorem dX11_image_41 : decode cX11_image 41 = .ok (.iload_n 2, 1) := by decide +kernel
theorem dX11_image_42 : decode cX11_image 42 = .ok (.iaload, 1) := by decide +kernel
theorem dX11_image_43 : decode cX11_image 43 = .ok (.iastore, 1) := by decide +kernel
theorem dX11_image_44 : decode cX11_image 44 = .ok (.iinc 2 1, 3) := by decide +kernel
theorem dX11_image_47 : decode cX11_image 47 = .ok (.goto (-28), 3) := by decide +kernel
theorem dX11_image_50 : decode cX11_image 50 = .ok (.aload_n 0, 1) := by decide +kernel
theorem dX11_image_51 : decode cX11_image 51 = .ok (.getfield 16, 3) := by decide +kernel
theorem dX11_image_54 : decode cX11_image 54 = .ok (.iload_n 1, 1) := by decide +kernel
theorem dX11_image_55 : decode cX11_image 55 = .ok (.iconst 1, 1) := by decide +kernel
theorem dX11_image_56 : decode cX11_image 56 = .ok (.bastore, 1) := by decide +kernel
theorem dX11_image_57 : decode cX11_image 57 = .ok (.iconst 1, 1) := by decide +kernel
theorem dX11_image_58 : decode cX11_image 58 = .ok (.ireturn, 1) := by decide +kernel
set_option maxRecDepth 20000 in
theorem ggX11_from_X11_in : GoodIn wsX11_from wsX11_in := goodIn_r _ [7] rfl (by decide +kernel)
set_option maxRecDepth 20000 in
theorem gX11_from_X11_in : GoodIn wsX11_from (va_wsS RX11 56 yX11_in wsX11_in) := goodIn_app (goodIn_of _ (by decide +kernel)) ggX11_from_X11_in
set_option maxRecDepth 20000 in
theorem ggX11_from_X11_bad : GoodIn wsX11_from wsX11_bad := goodIn_r _ [11, 12, 17, 18, 19, 20, 21, 22, 23, 24, 25, 26, 27, 28, 29, 30, 31, 32, 33, 34] rfl (by decide +kernel)
set_option maxRecDepth 20000 in
theorem gX11_from_X11_bad : GoodIn wsX11_from (wsV RX11 70 RX11 yX11_bad wsX11_bad) := goodIn_app (goodIn_of _ (by decide +kernel)) ggX11_from_X11_bad
set_option maxRecDepth 20000 in
theorem ggX11_from_X11_no : GoodIn wsX11_from wsX11_no := goodIn_r _ [16, 12, 17, 18, 19, 20, 21, 22, 23, 24, 25, 26, 27, 28, 29, 30, 31, 32, 33, 34] rfl (by decide +kernel)
set_option maxRecDepth 20000 in
theorem gX11_from_X11_no : GoodIn wsX11_from (wsV RX11 137 RX11 yX11_no wsX11_no) := goodIn_app (goodIn_of _ (by decide +kernel)) ggX11_from_X11_no
