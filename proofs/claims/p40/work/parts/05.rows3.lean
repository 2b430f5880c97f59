theorem dL_cell_0 : decode cL_cell 0 = .ok (.iload_n 1, 1) := by decide +kernel
theorem dL_cell_1 : decode cL_cell 1 = .ok (.aload_n 0, 1) := by decide +kernel
theorem dL_cell_2 : decode cL_cell 2 = .ok (.arraylength, 1) := by decide +kernel
theorem dL_cell_3 : decode cL_cell 3 = .ok (.if_icmp .ge 9, 3) := by decide +kernel
theorem dL_cell_6 : decode cL_cell 6 = .ok (.aload_n 0, 1) := by decide +kernel
theorem dL_cell_7 : decode cL_cell 7 = .ok (.iload_n 1, 1) := by decide +kernel
theorem dL_cell_8 : decode cL_cell 8 = .ok (.iaload, 1) := by decide +kernel
theorem dL_cell_9 : decode cL_cell 9 = .ok (.goto 11, 3) := by decide +kernel
theorem dL_cell_12 : decode cL_cell 12 = .ok (.ldc 7, 2) := by decide +kernel
theorem dL_cell_14 : decode cL_cell 14 = .ok (.iload_n 1, 1) := by decide +kernel
theorem dL_cell_15 : decode cL_cell 15 = .ok (.sipush 587, 3) := by decide +kernel
theorem dL_cell_18 : decode cL_cell 18 = .ok (.iadd, 1) := by decide +kernel
theorem dL_cell_19 : decode cL_cell 19 = .ok (.imul, 1) := by decide +kernel
theorem dL_cell_20 : decode cL_cell 20 = .ok (.ireturn, 1) := by decide +kernel
theorem dL_up_0 : decode cL_up 0 = .ok (.iload_n 0, 1) := by decide +kernel
theorem dL_up_1 : decode cL_up 1 = .ok (.ldc 8, 2) := by decide +kernel
theorem dL_up_3 : decode cL_up 3 = .ok (.iand, 1) := by decide +kernel
theorem dL_up_4 : decode cL_up 4 = .ok (.iload_n 1, 1) := by decide +kernel
theorem dL_up_5 : decode cL_up 5 = .ok (.irem, 1) := by decide +kernel
theorem dL_up_6 : decode cL_up 6 = .ok (.ireturn, 1) := by decide +kernel
theorem dL_bits_0 : decode cL_bits 0 = .ok (.iconst 0, 1) := by decide +kernel
theorem dL_bits_1 : decode cL_bits 1 = .ok (.istore_n 1, 1) := by decide +kernel
theorem dL_bits_2 : decode cL_bits 2 = .ok (.iload_n 0, 1) := by decide +kernel
theorem dL_bits_3 : decode cL_bits 3 = .ok (.istore_n 2, 1) := by decide +kernel
theorem dL_bits_4 : decode cL_bits 4 = .ok (.iload_n 2, 1) := by decide +kernel
theorem dL_bits_5 : decode cL_bits 5 = .ok (.ifCond .le 16, 3) := by decide +kernel
theorem dL_bits_8 : decode cL_bits 8 = .ok (.iload_n 1, 1) := by decide +kernel
theorem dL_bits_9 : decode cL_bits 9 = .ok (.iload_n 2, 1) := by decide +kernel
theorem dL_bits_10 : decode cL_bits 10 = .ok (.iconst 1, 1) := by decide +kernel
theorem dL_bits_11 : decode cL_bits 11 = .ok (.iand, 1) := by decide +kernel
theorem dL_bits_12 : decode cL_bits 12 = .ok (.iadd, 1) := by decide +kernel
theorem dL_bits_13 : decode cL_bits 13 = .ok (.istore_n 1, 1) := by decide +kernel
theorem dL_bits_14 : decode cL_bits 14 = .ok (.iload_n 2, 1) := by decide +kernel
theorem dL_bits_15 : decode cL_bits 15 = .ok (.iconst 1, 1) := by decide +kernel
theorem dL_bits_16 : decode cL_bits 16 = .ok (.ishr, 1) := by decide +kernel
theorem dL_bits_17 : decode cL_bits 17 = .ok (.istore_n 2, 1) := by decide +kernel
theorem dL_bits_18 : decode cL_bits 18 = .ok (.goto (-14), 3) := by decide +kernel
theorem dL_bits_21 : decode cL_bits 21 = .ok (.iload_n 1, 1) := by decide +kernel
theorem dL_bits_22 : decode cL_bits 22 = .ok (.ireturn, 1) := by decide +kernel
set_option maxRecDepth 20000 in
theorem ggL_lay_L_cell : GoodIn wsL_lay wsL_cell := goodIn_r _ [4, 5] rfl (by decide +kernel)
set_option maxRecDepth 20000 in
theorem gL_lay_L_cell : GoodIn wsL_lay (va_wsS RL 9 yL_cell wsL_cell) := goodIn_app (goodIn_of _ (by decide +kernel)) ggL_lay_L_cell
set_option maxRecDepth 20000 in
theorem ggL_lay_L_up : GoodIn wsL_lay wsL_up := goodIn_r _ [8, 9] rfl (by decide +kernel)
set_option maxRecDepth 20000 in
theorem gL_lay_L_up : GoodIn wsL_lay (va_wsS RL 15 yL_up wsL_up) := goodIn_app (goodIn_of _ (by decide +kernel)) ggL_lay_L_up
theorem dL_lay_0 : decode cL_lay 0 = .ok (.iconst 0, 1) := by decide +kernel
theorem dL_lay_1 : decode cL_lay 1 = .ok (.istore_n 2, 1) := by decide +kernel
theorem dL_lay_2 : decode cL_lay 2 = .ok (.iload_n 2, 1) := by decide +kernel
theorem dL_lay_3 : decode cL_lay 3 = .ok (.bipush 39, 2) := by decide +kernel
theorem dL_lay_5 : decode cL_lay 5 = .ok (.if_icmp .ge 13, 3) := by decide +kernel
theorem dL_lay_8 : decode cL_lay 8 = .ok (.aload_n 1, 1) := by decide +kernel
theorem dL_lay_9 : decode cL_lay 9 = .ok (.iload_n 2, 1) := by decide +kernel
theorem dL_lay_10 : decode cL_lay 10 = .ok (.iconst 0, 1) := by decide +kernel
theorem dL_lay_11 : decode cL_lay 11 = .ok (.iastore, 1) := by decide +kernel
theorem dL_lay_12 : decode cL_lay 12 = .ok (.iinc 2 1, 3) := by decide +kernel
theorem dL_lay_15 : decode cL_lay 15 = .ok (.goto (-13), 3) := by decide +kernel
theorem dL_lay_18 : decode cL_lay 18 = .ok (.iconst 0, 1) := by decide +kernel
theorem dL_lay_19 : decode cL_lay 19 = .ok (.istore_n 2, 1) := by decide +kernel
theorem dL_lay_20 : decode cL_lay 20 = .ok (.iload_n 2, 1) := by decide +kernel
theorem dL_lay_21 : decode cL_lay 21 = .ok (.bipush 6, 2) := by decide +kernel
theorem dL_lay_23 : decode cL_lay 23 = .ok (.if_icmp .ge 46, 3) := by decide +kernel
theorem dL_lay_26 : decode cL_lay 26 = .ok (.aload_n 1, 1) := by decide +kernel
theorem dL_lay_27 : decode cL_lay 27 = .ok (.iconst 4, 1) := by decide +kernel
theorem dL_lay_28 : decode cL_lay 28 = .ok (.iload_n 2, 1) := by decide +kernel
theorem dL_lay_29 : decode cL_lay 29 = .ok (.iadd, 1) := by decide +kernel
theorem dL_lay_30 : decode cL_lay 30 = .ok (.aload_n 0, 1) := by decide +kernel
theorem dL_lay_31 : decode cL_lay 31 = .ok (.iconst 0, 1) := by decide +kernel
theorem dL_lay_32 : decode cL_lay 32 = .ok (.invokestatic 9, 3) := by decide +kernel
theorem dL_lay_35 : decode cL_lay 35 = .ok (.iconst 3, 1) := by decide +kernel
theorem dL_lay_36 : decode cL_lay 36 = .ok (.iload_n 2, 1) := by decide +kernel
theorem dL_lay_37 : decode cL_lay 37 = .ok (.imul, 1) := by decide +kernel
theorem dL_lay_38 : decode cL_lay 38 = .ok (.ishr, 1) := by decide +kernel
theorem dL_lay_39 : decode cL_lay 39 = .ok (.aload_n 0, 1) := by decide +kernel
theorem dL_lay_40 : decode cL_lay 40 = .ok (.iconst 0, 1) := by decide +kernel
theorem dL_lay_41 : decode cL_lay 41 = .ok (.invokestatic 9, 3) := by decide +kernel
theorem dL_lay_44 : decode cL_lay 44 = .ok (.bipush 20, 2) := by decide +kernel
theorem dL_lay_46 : decode cL_lay 46 = .ok (.ishr, 1) := by decide +kernel
theorem dL_lay_47 : decode cL_lay 47 = .ok (.iconst 3, 1) := by decide +kernel
theorem dL_lay_48 : decode cL_lay 48 = .ok (.invokestatic 15, 3) := by decide +kernel
theorem dL_lay_51 : decode cL_lay 51 = .ok (.ifCond .ne 7, 3) := by decide +kernel
theorem dL_lay_54 : decode cL_lay 54 = .ok (.iconst 5, 1) := by decide +kernel
theorem dL_lay_55 : decode cL_lay 55 = .ok (.goto 4, 3) := by decide +kernel
theorem dL_lay_58 : decode cL_lay 58 = .ok (.iconst 2, 1) := by decide +kernel
theorem dL_lay_59 : decode cL_lay 59 = .ok (.invokestatic 15, 3) := by decide +kernel
theorem dL_lay_62 : decode cL_lay 62 = .ok (.iastore, 1) := by decide +kernel
theorem dL_lay_63 : decode cL_lay 63 = .ok (.iinc 2 1, 3) := by decide +kernel
theorem dL_lay_66 : decode cL_lay 66 = .ok (.goto (-46), 3) := by decide +kernel
theorem dL_lay_69 : decode cL_lay 69 = .ok (.aload_n 1, 1) := by decide +kernel
theorem dL_lay_70 : decode cL_lay 70 = .ok (.iconst 1, 1) := by decide +kernel
theorem dL_lay_71 : decode cL_lay 71 = .ok (.aload_n 0, 1) := by decide +kernel
theorem dL_lay_72 : decode cL_lay 72 = .ok (.iconst 1, 1) := by decide +kernel
theorem dL_lay_73 : decode cL_lay 73 = .ok (.invokestatic 9, 3) := by decide +kernel
theorem dL_lay_76 : decode cL_lay 76 = .ok (.bipush 8, 2) := by decide +kernel
theorem dL_lay_78 : decode cL_lay 78 = .ok (.invokestatic 15, 3) := by decide +kernel
theorem dL_lay_81 : decode cL_lay 81 = .ok (.iastore, 1) := by decide +kernel
theorem dL_lay_82 : decode cL_lay 82 = .ok (.aload_n 1, 1) := by decide +kernel
theorem dL_lay_83 : decode cL_lay 83 = .ok (.iconst 2, 1) := by decide +kernel
theorem dL_lay_84 : decode cL_lay 84 = .ok (.aload_n 0, 1) := by decide +kernel
theorem dL_lay_85 : decode cL_lay 85 = .ok (.iconst 1, 1) := by decide +kernel
theorem dL_lay_86 : decode cL_lay 86 = .ok (.invokestatic 9, 3) := by decide +kernel
theorem dL_lay_89 : decode cL_lay 89 = .ok (.iconst 4, 1) := by decide +kernel
theorem dL_lay_90 : decode cL_lay 90 = .ok (.ishr, 1) := by decide +kernel
theorem dL_lay_91 : decode cL_lay 91 = .ok (.iconst 4, 1) := by decide +kernel
theorem dL_lay_92 : decode cL_lay 92 = .ok (.invokestatic 15, 3) := by decide +kernel
theorem dL_lay_95 : decode cL_lay 95 = .ok (.iastore, 1) := by decide +kernel
theorem dL_lay_96 : decode cL_lay 96 = .ok (.iconst 0, 1) := by decide +kernel
theorem dL_lay_97 : decode cL_lay 97 = .ok (.istore_n 2, 1) := by decide +kernel
theorem dL_lay_98 : decode cL_lay 98 = .ok (.iload_n 2, 1) := by decide +kernel
theorem dL_lay_99 : decode cL_lay 99 = .ok (.aload_n 1, 1) := by decide +kernel
theorem dL_lay_100 : decode cL_lay 100 = .ok (.iconst 1, 1) := by decide +kernel
theorem dL_lay_101 : decode cL_lay 101 = .ok (.iaload, 1) := by decide +kernel
theorem dL_lay_102 : decode cL_lay 102 = .ok (.if_icmp .ge 76, 3) := by decide +kernel
theorem dL_lay_105 : decode cL_lay 105 = .ok (.aload_n 0, 1) := by decide +kernel
theorem dL_lay_106 : decode cL_lay 106 = .ok (.iconst 2, 1) := by decide +kernel
theorem dL_lay_107 : decode cL_lay 107 = .ok (.iload_n 2, 1) := by decide +kernel
theorem dL_lay_108 : decode cL_lay 108 = .ok (.iadd, 1) := by decide +kernel
theorem dL_lay_109 : decode cL_lay 109 = .ok (.invokestatic 9, 3) := by decide +kernel
theorem dL_lay_112 : decode cL_lay 112 = .ok (.istore_n 3, 1) := by decide +kernel
theorem dL_lay_113 : decode cL_lay 113 = .ok (.aload_n 1, 1) := by decide +kernel
theorem dL_lay_114 : decode cL_lay 114 = .ok (.bipush 10, 2) := by decide +kernel
theorem dL_lay_116 : decode cL_lay 116 = .ok (.iload_n 2, 1) := by decide +kernel
theorem dL_lay_117 : decode cL_lay 117 = .ok (.iadd, 1) := by decide +kernel
theorem dL_lay_118 : decode cL_lay 118 = .ok (.iload_n 3, 1) := by decide +kernel
theorem dL_lay_119 : decode cL_lay 119 = .ok (.bipush 6, 2) := by decide +kernel
theorem dL_lay_121 : decode cL_lay 121 = .ok (.invokestatic 15, 3) := by decide +kernel
theorem dL_lay_124 : decode cL_lay 124 = .ok (.iastore, 1) := by decide +kernel
theorem dL_lay_125 : decode cL_lay 125 = .ok (.aload_n 1, 1) := by decide +kernel
theorem dL_lay_126 : decode cL_lay 126 = .ok (.bipush 18, 2) := by decide +kernel
theorem dL_lay_128 : decode cL_lay 128 = .ok (.iload_n 2, 1) := by decide +kernel
theorem dL_lay_129 : decode cL_lay 129 = .ok (.iadd, 1) := by decide +kernel
theorem dL_lay_130 : decode cL_lay 130 = .ok (.iconst 1, 1) := by decide +kernel
theorem dL_lay_131 : decode cL_lay 131 = .ok (.iload_n 3, 1) := by decide +kernel
theorem dL_lay_132 : decode cL_lay 132 = .ok (.iconst 4, 1) := by decide +kernel
theorem dL_lay_133 : decode cL_lay 133 = .ok (.ishr, 1) := by decide +kernel
theorem dL_lay_134 : decode cL_lay 134 = .ok (.bipush 9, 2) := by decide +kernel
theorem dL_lay_136 : decode cL_lay 136 = .ok (.invokestatic 15, 3) := by decide +kernel
theorem dL_lay_139 : decode cL_lay 139 = .ok (.iadd, 1) := by decide +kernel
theorem dL_lay_140 : decode cL_lay 140 = .ok (.iastore, 1) := by decide +kernel
theorem dL_lay_141 : decode cL_lay 141 = .ok (.aload_n 1, 1) := by decide +kernel
theorem dL_lay_142 : decode cL_lay 142 = .ok (.bipush 25, 2) := by decide +kernel
theorem dL_lay_144 : decode cL_lay 144 = .ok (.iload_n 2, 1) := by decide +kernel
theorem dL_lay_145 : decode cL_lay 145 = .ok (.iadd, 1) := by decide +kernel
theorem dL_lay_146 : decode cL_lay 146 = .ok (.iload_n 3, 1) := by decide +kernel
theorem dL_lay_147 : decode cL_lay 147 = .ok (.bipush 8, 2) := by decide +kernel
theorem dL_lay_149 : decode cL_lay 149 = .ok (.ishr, 1) := by decide +kernel
theorem dL_lay_150 : decode cL_lay 150 = .ok (.iload_n 3, 1) := by decide +kernel
theorem dL_lay_151 : decode cL_lay 151 = .ok (.bipush 20, 2) := by decide +kernel
theorem dL_lay_153 : decode cL_lay 153 = .ok (.ishr, 1) := by decide +kernel
theorem dL_lay_154 : decode cL_lay 154 = .ok (.iconst 4, 1) := by decide +kernel
theorem dL_lay_155 : decode cL_lay 155 = .ok (.invokestatic 15, 3) := by decide +kernel
theorem dL_lay_158 : decode cL_lay 158 = .ok (.ifCond .ne 8, 3) := by decide +kernel
theorem dL_lay_161 : decode cL_lay 161 = .ok (.bipush 24, 2) := by decide +kernel
theorem dL_lay_163 : decode cL_lay 163 = .ok (.goto 5, 3) := by decide +kernel
theorem dL_lay_166 : decode cL_lay 166 = .ok (.bipush 10, 2) := by decide +kernel
theorem dL_lay_168 : decode cL_lay 168 = .ok (.invokestatic 15, 3) := by decide +kernel
theorem dL_lay_171 : decode cL_lay 171 = .ok (.iastore, 1) := by decide +kernel
theorem dL_lay_172 : decode cL_lay 172 = .ok (.iinc 2 1, 3) := by decide +kernel
theorem dL_lay_175 : decode cL_lay 175 = .ok (.goto (-77), 3) := by decide +kernel
theorem dL_lay_178 : decode cL_lay 178 = .ok (.iconst 0, 1) := by decide +kernel
theorem dL_lay_179 : decode cL_lay 179 = .ok (.istore_n 2, 1) := by decide +kernel
theorem dL_lay_180 : decode cL_lay 180 = .ok (.iload_n 2, 1) := by decide +kernel
theorem dL_lay_181 : decode cL_lay 181 = .ok (.aload_n 1, 1) := by decide +kernel
theorem dL_lay_182 : decode cL_lay 182 = .ok (.iconst 2, 1) := by decide +kernel
theorem dL_lay_183 : decode cL_lay 183 = .ok (.iaload, 1) := by decide +kernel
theorem dL_lay_184 : decode cL_lay 184 = .ok (.if_icmp .ge 59, 3) := by decide +kernel
theorem dL_lay_187 : decode cL_lay 187 = .ok (.aload_n 0, 1) := by decide +kernel
theorem dL_lay_188 : decode cL_lay 188 = .ok (.bipush 9, 2) := by decide +kernel
theorem dL_lay_190 : decode cL_lay 190 = .ok (.iload_n 2, 1) := by decide +kernel
theorem dL_lay_191 : decode cL_lay 191 = .ok (.iadd, 1) := by decide +kernel
theorem dL_lay_192 : decode cL_lay 192 = .ok (.invokestatic 9, 3) := by decide +kernel
theorem dL_lay_195 : decode cL_lay 195 = .ok (.istore_n 3, 1) := by decide +kernel
theorem dL_lay_196 : decode cL_lay 196 = .ok (.aload_n 1, 1) := by decide +kernel
theorem dL_lay_197 : decode cL_lay 197 = .ok (.bipush 33, 2) := by decide +kernel
theorem dL_lay_199 : decode cL_lay 199 = .ok (.iload_n 2, 1) := by decide +kernel
theorem dL_lay_200 : decode cL_lay 200 = .ok (.iadd, 1) := by decide +kernel
theorem dL_lay_201 : decode cL_lay 201 = .ok (.iload_n 3, 1) := by decide +kernel
theorem dL_lay_202 : decode cL_lay 202 = .ok (.bipush 6, 2) := by decide +kernel
theorem dL_lay_204 : decode cL_lay 204 = .ok (.invokestatic 15, 3) := by decide +kernel
theorem dL_lay_207 : decode cL_lay 207 = .ok (.iastore, 1) := by decide +kernel
theorem dL_lay_208 : decode cL_lay 208 = .ok (.aload_n 1, 1) := by decide +kernel
theorem dL_lay_209 : decode cL_lay 209 = .ok (.bipush 36, 2) := by decide +kernel
theorem dL_lay_211 : decode cL_lay 211 = .ok (.iload_n 2, 1) := by decide +kernel
theorem dL_lay_212 : decode cL_lay 212 = .ok (.iadd, 1) := by decide +kernel
theorem dL_lay_213 : decode cL_lay 213 = .ok (.bipush 8, 2) := by decide +kernel
theorem dL_lay_215 : decode cL_lay 215 = .ok (.iload_n 2, 1) := by decide +kernel
theorem dL_lay_216 : decode cL_lay 216 = .ok (.imul, 1) := by decide +kernel
theorem dL_lay_217 : decode cL_lay 217 = .ok (.iload_n 3, 1) := by decide +kernel
theorem dL_lay_218 : decode cL_lay 218 = .ok (.iconst 4, 1) := by decide +kernel
theorem dL_lay_219 : decode cL_lay 219 = .ok (.ishr, 1) := by decide +kernel
theorem dL_lay_220 : decode cL_lay 220 = .ok (.iload_n 2, 1) := by decide +kernel
theorem dL_lay_221 : decode cL_lay 221 = .ok (.iconst 2, 1) := by decide +kernel
theorem dL_lay_222 : decode cL_lay 222 = .ok (.if_icmp .ne 8, 3) := by decide +kernel
theorem dL_lay_225 : decode cL_lay 225 = .ok (.bipush 7, 2) := by decide +kernel
theorem dL_lay_227 : decode cL_lay 227 = .ok (.goto 5, 3) := by decide +kernel
theorem dL_lay_230 : decode cL_lay 230 = .ok (.bipush 8, 2) := by decide +kernel
theorem dL_lay_232 : decode cL_lay 232 = .ok (.invokestatic 15, 3) := by decide +kernel
theorem dL_lay_235 : decode cL_lay 235 = .ok (.iadd, 1) := by decide +kernel
theorem dL_lay_236 : decode cL_lay 236 = .ok (.iastore, 1) := by decide +kernel
theorem dL_lay_237 : decode cL_lay 237 = .ok (.iinc 2 1, 3) := by decide +kernel
theorem dL_lay_240 : decode cL_lay 240 = .ok (.goto (-60), 3) := by decide +kernel
theorem dL_lay_243 : decode cL_lay 243 = .ok (.return_, 1) := by decide +kernel
set_option maxRecDepth 20000 in
theorem ggL_made_X10_street : GoodIn wsL_made wsX10_street := goodIn_r _ [5, 6, 7, 8, 9, 10, 11, 12, 13, 14, 15, 16, 17, 18, 19, 20, 21, 22, 23, 24, 25, 26, 27, 28, 29, 30, 31, 32, 33, 34, 35, 36, 86, 87, 88, 89, 90, 91, 92, 93, 94, 95, 96, 97, 98, 99, 100, 101, 102, 103, 104, 105, 106, 107, 108, 109, 110, 111, 112, 113, 114, 115, 116, 117, 118, 119, 120, 121] rfl (by decide +kernel)
set_option maxRecDepth 20000 in
theorem gL_made_X10_street : GoodIn wsL_made (wsV RL 19 RX10 yX10_street wsX10_street) := goodIn_app (goodIn_of _ (by decide +kernel)) ggL_made_X10_street
set_option maxRecDepth 20000 in
theorem ggL_made_X10_wet : GoodIn wsL_made wsX10_wet := goodIn_r _ [40, 6, 7, 41, 42, 43, 44, 45, 4, 46, 47, 48, 49, 50, 51, 86, 87, 88, 89, 90, 91, 92, 93, 94, 95, 96, 97, 98, 99, 100, 101, 102, 103, 104, 105, 106, 107, 108, 109, 110, 111, 112, 113, 114, 115, 116, 117] rfl (by decide +kernel)
set_option maxRecDepth 20000 in
theorem gL_made_X10_wet : GoodIn wsL_made (wsV RL 25 RX10 yX10_wet wsX10_wet) := goodIn_app (goodIn_of _ (by decide +kernel)) ggL_made_X10_wet
set_option maxRecDepth 20000 in
theorem ggL_made_X10_glove : GoodIn wsL_made wsX10_glove := goodIn_r _ [55, 6, 7, 8, 42, 43, 56, 57, 4, 58, 44, 45, 46, 47, 48, 49, 50, 51, 59, 60, 61, 62, 63, 64, 65, 66, 23, 67, 27, 68, 69, 70, 86, 87, 88, 89, 90, 91, 92, 93, 94, 95, 96, 97, 98, 99, 100, 101, 102, 103, 104, 105, 106, 107, 108, 109, 110, 111, 112, 113, 114, 115, 116, 117] rfl (by decide +kernel)
set_option maxRecDepth 20000 in
theorem gL_made_X10_glove : GoodIn wsL_made (wsV RL 28 RX10 yX10_glove wsX10_glove) := goodIn_app (goodIn_of _ (by decide +kernel)) ggL_made_X10_glove
set_option maxRecDepth 20000 in
theorem ggL_made_X10_crossing : GoodIn wsL_made wsX10_crossing := goodIn_r _ [74, 6, 7, 75, 42, 43, 56, 57, 4, 58, 44, 45, 46, 76, 77, 78, 23, 79, 26, 47, 48, 49, 50, 51, 59, 60, 61, 62, 63, 80, 81, 82, 83, 28, 84, 85, 86, 87, 88, 89, 90, 91, 92, 93, 94, 95, 96, 97, 98, 99, 100, 101, 102, 103, 104, 105, 106, 107, 108, 109, 110, 111, 112, 113, 114, 115, 116, 117] rfl (by decide +kernel)
set_option maxRecDepth 20000 in
theorem gL_made_X10_crossing : GoodIn wsL_made (wsV RL 32 RX10 yX10_crossing wsX10_crossing) := goodIn_app (goodIn_of _ (by decide +kernel)) ggL_made_X10_crossing
theorem dL_made_0 : decode cL_made 0 = .ok (.aload_n 0, 1) := by decide +kernel
theorem dL_made_1 : decode cL_made 1 = .ok (.invokevirtual 19, 3) := by decide +kernel
theorem dL_made_4 : decode cL_made 4 = .ok (.ifCond .ne 7, 3) := by decide +kernel
theorem dL_made_7 : decode cL_made 7 = .ok (.iconst 1, 1) := by decide +kernel
theorem dL_made_8 : decode cL_made 8 = .ok (.goto 4, 3) := by decide +kernel
theorem dL_made_11 : decode cL_made 11 = .ok (.iconst 0, 1) := by decide +kernel
theorem dL_made_12 : decode cL_made 12 = .ok (.istore_n 2, 1) := by decide +kernel
theorem dL_made_13 : decode cL_made 13 = .ok (.iconst 0, 1) := by decide +kernel
theorem dL_made_14 : decode cL_made 14 = .ok (.istore_n 3, 1) := by decide +kernel
theorem dL_made_15 : decode cL_made 15 = .ok (.iload_n 3, 1) := by decide +kernel
theorem dL_made_16 : decode cL_made 16 = .ok (.bipush 6, 2) := by decide +kernel
theorem dL_made_18 : decode cL_made 18 = .ok (.if_icmp .ge 32, 3) := by decide +kernel
theorem dL_made_21 : decode cL_made 21 = .ok (.iload_n 2, 1) := by decide +kernel
theorem dL_made_22 : decode cL_made 22 = .ok (.ifCond .eq 20, 3) := by decide +kernel
theorem dL_made_25 : decode cL_made 25 = .ok (.aload_n 0, 1) := by decide +kernel
theorem dL_made_26 : decode cL_made 26 = .ok (.iload_n 3, 1) := by decide +kernel
theorem dL_made_27 : decode cL_made 27 = .ok (.aload_n 1, 1) := by decide +kernel
theorem dL_made_28 : decode cL_made 28 = .ok (.iconst 4, 1) := by decide +kernel
theorem dL_made_29 : decode cL_made 29 = .ok (.iload_n 3, 1) := by decide +kernel
theorem dL_made_30 : decode cL_made 30 = .ok (.iadd, 1) := by decide +kernel
theorem dL_made_31 : decode cL_made 31 = .ok (.iaload, 1) := by decide +kernel
theorem dL_made_32 : decode cL_made 32 = .ok (.invokevirtual 25, 3) := by decide +kernel
theorem dL_made_35 : decode cL_made 35 = .ok (.ifCond .ne 7, 3) := by decide +kernel
theorem dL_made_38 : decode cL_made 38 = .ok (.iconst 1, 1) := by decide +kernel
theorem dL_made_39 : decode cL_made 39 = .ok (.goto 4, 3) := by decide +kernel
theorem dL_made_42 : decode cL_made 42 = .ok (.iconst 0, 1) := by decide +kernel
theorem dL_made_43 : decode cL_made 43 = .ok (.istore_n 2, 1) := by decide +kernel
theorem dL_made_44 : decode cL_made 44 = .ok (.iinc 3 1, 3) := by decide +kernel
theorem dL_made_47 : decode cL_made 47 = .ok (.goto (-32), 3) := by decide +kernel
theorem dL_made_50 : decode cL_made 50 = .ok (.iconst 0, 1) := by decide +kernel
theorem dL_made_51 : decode cL_made 51 = .ok (.istore_n 3, 1) := by decide +kernel
theorem dL_made_52 : decode cL_made 52 = .ok (.iload_n 3, 1) := by decide +kernel
theorem dL_made_53 : decode cL_made 53 = .ok (.aload_n 1, 1) := by decide +kernel
theorem dL_made_54 : decode cL_made 54 = .ok (.iconst 1, 1) := by decide +kernel
theorem dL_made_55 : decode cL_made 55 = .ok (.iaload, 1) := by decide +kernel
theorem dL_made_56 : decode cL_made 56 = .ok (.if_icmp .ge 45, 3) := by decide +kernel
theorem dL_made_59 : decode cL_made 59 = .ok (.iload_n 2, 1) := by decide +kernel
theorem dL_made_60 : decode cL_made 60 = .ok (.ifCond .eq 33, 3) := by decide +kernel
theorem dL_made_63 : decode cL_made 63 = .ok (.aload_n 0, 1) := by decide +kernel
theorem dL_made_64 : decode cL_made 64 = .ok (.aload_n 1, 1) := by decide +kernel
theorem dL_made_65 : decode cL_made 65 = .ok (.bipush 10, 2) := by decide +kernel
theorem dL_made_67 : decode cL_made 67 = .ok (.iload_n 3, 1) := by decide +kernel
theorem dL_made_68 : decode cL_made 68 = .ok (.iadd, 1) := by decide +kernel
theorem dL_made_69 : decode cL_made 69 = .ok (.iaload, 1) := by decide +kernel
theorem dL_made_70 : decode cL_made 70 = .ok (.aload_n 1, 1) := by decide +kernel
theorem dL_made_71 : decode cL_made 71 = .ok (.bipush 18, 2) := by decide +kernel
theorem dL_made_73 : decode cL_made 73 = .ok (.iload_n 3, 1) := by decide +kernel
theorem dL_made_74 : decode cL_made 74 = .ok (.iadd, 1) := by decide +kernel
theorem dL_made_75 : decode cL_made 75 = .ok (.iaload, 1) := by decide +kernel
theorem dL_made_76 : decode cL_made 76 = .ok (.aload_n 1, 1) := by decide +kernel
theorem dL_made_77 : decode cL_made 77 = .ok (.bipush 25, 2) := by decide +kernel
theorem dL_made_79 : decode cL_made 79 = .ok (.iload_n 3, 1) := by decide +kernel
theorem dL_made_80 : decode cL_made 80 = .ok (.iadd, 1) := by decide +kernel
theorem dL_made_81 : decode cL_made 81 = .ok (.iaload, 1) := by decide +kernel
theorem dL_made_82 : decode cL_made 82 = .ok (.invokevirtual 28, 3) := by decide +kernel
theorem dL_made_85 : decode cL_made 85 = .ok (.iload_n 3, 1) := by decide +kernel
theorem dL_made_86 : decode cL_made 86 = .ok (.if_icmp .ne 7, 3) := by decide +kernel
theorem dL_made_89 : decode cL_made 89 = .ok (.iconst 1, 1) := by decide +kernel
theorem dL_made_90 : decode cL_made 90 = .ok (.goto 4, 3) := by decide +kernel
theorem dL_made_93 : decode cL_made 93 = .ok (.iconst 0, 1) := by decide +kernel
theorem dL_made_94 : decode cL_made 94 = .ok (.istore_n 2, 1) := by decide +kernel
theorem dL_made_95 : decode cL_made 95 = .ok (.iinc 3 1, 3) := by decide +kernel
theorem dL_made_98 : decode cL_made 98 = .ok (.goto (-46), 3) := by decide +kernel
theorem dL_made_101 : decode cL_made 101 = .ok (.iconst 0, 1) := by decide +kernel
theorem dL_made_102 : decode cL_made 102 = .ok (.istore_n 3, 1) := by decide +kernel
theorem dL_made_103 : decode cL_made 103 = .ok (.iload_n 3, 1) := by decide +kernel
theorem dL_made_104 : decode cL_made 104 = .ok (.aload_n 1, 1) := by decide +kernel
theorem dL_made_105 : decode cL_made 105 = .ok (.iconst 2, 1) := by decide +kernel
theorem dL_made_106 : decode cL_made 106 = .ok (.iaload, 1) := by decide +kernel
theorem dL_made_107 : decode cL_made 107 = .ok (.if_icmp .ge 39, 3) := by decide +kernel
theorem dL_made_110 : decode cL_made 110 = .ok (.iload_n 2, 1) := by decide +kernel
theorem dL_made_111 : decode cL_made 111 = .ok (.ifCond .eq 27, 3) := by decide +kernel
theorem dL_made_114 : decode cL_made 114 = .ok (.aload_n 0, 1) := by decide +kernel
theorem dL_made_115 : decode cL_made 115 = .ok (.aload_n 1, 1) := by decide +kernel
theorem dL_made_116 : decode cL_made 116 = .ok (.bipush 33, 2) := by decide +kernel
theorem dL_made_118 : decode cL_made 118 = .ok (.iload_n 3, 1) := by decide +kernel
theorem dL_made_119 : decode cL_made 119 = .ok (.iadd, 1) := by decide +kernel
theorem dL_made_120 : decode cL_made 120 = .ok (.iaload, 1) := by decide +kernel
theorem dL_made_121 : decode cL_made 121 = .ok (.aload_n 1, 1) := by decide +kernel
theorem dL_made_122 : decode cL_made 122 = .ok (.bipush 36, 2) := by decide +kernel
theorem dL_made_124 : decode cL_made 124 = .ok (.iload_n 3, 1) := by decide +kernel
theorem dL_made_125 : decode cL_made 125 = .ok (.iadd, 1) := by decide +kernel
theorem dL_made_126 : decode cL_made 126 = .ok (.iaload, 1) := by decide +kernel
theorem dL_made_127 : decode cL_made 127 = .ok (.invokevirtual 32, 3) := by decide +kernel
theorem dL_made_130 : decode cL_made 130 = .ok (.iload_n 3, 1) := by decide +kernel
theorem dL_made_131 : decode cL_made 131 = .ok (.if_icmp .ne 7, 3) := by decide +kernel
theorem dL_made_134 : decode cL_made 134 = .ok (.iconst 1, 1) := by decide +kernel
theorem dL_made_135 : decode cL_made 135 = .ok (.goto 4, 3) := by decide +kernel
theorem dL_made_138 : decode cL_made 138 = .ok (.iconst 0, 1) := by decide +kernel
theorem dL_made_139 : decode cL_made 139 = .ok (.istore_n 2, 1) := by decide +kernel
theorem dL_made_140 : decode cL_made 140 = .ok (.iinc 3 1, 3) := by decide +kernel
theorem dL_made_143 : decode cL_made 143 = .ok (.goto (-40), 3) := by decide +kernel
theorem dL_made_146 : decode cL_made 146 = .ok (.iload_n 2, 1) := by decide +kernel
theorem dL_made_147 : decode cL_made 147 = .ok (.ireturn, 1) := by decide +kernel
