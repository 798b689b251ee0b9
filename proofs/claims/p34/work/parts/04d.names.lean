theorem dJ9_min_7cf53_5 : decode cJ9_min_7cf53 5 = .ok (.iload_n 0, 1) := by decide +kernel
theorem dJ9_min_7cf53_6 : decode cJ9_min_7cf53 6 = .ok (.goto 4, 3) := by decide +kernel
theorem dJ9_min_7cf53_9 : decode cJ9_min_7cf53 9 = .ok (.iload_n 1, 1) := by decide +kernel
theorem dJ9_min_7cf53_10 : decode cJ9_min_7cf53 10 = .ok (.ireturn, 1) := by decide +kernel
theorem dL_below_0 : decode cL_below 0 = .ok (.iload_n 0, 1) := by decide +kernel
theorem dL_below_1 : decode cL_below 1 = .ok (.ldc 7, 2) := by decide +kernel
theorem dL_below_3 : decode cL_below 3 = .ok (.iand, 1) := by decide +kernel
theorem dL_below_4 : decode cL_below 4 = .ok (.iload_n 1, 1) := by decide +kernel
theorem dL_below_5 : decode cL_below 5 = .ok (.irem, 1) := by decide +kernel
theorem dL_below_6 : decode cL_below 6 = .ok (.ireturn, 1) := by decide +kernel
theorem dL_cell_0 : decode cL_cell 0 = .ok (.iload_n 1, 1) := by decide +kernel
theorem dL_cell_1 : decode cL_cell 1 = .ok (.aload_n 0, 1) := by decide +kernel
theorem dL_cell_2 : decode cL_cell 2 = .ok (.arraylength, 1) := by decide +kernel
theorem dL_cell_3 : decode cL_cell 3 = .ok (.if_icmp .ge 9, 3) := by decide +kernel
theorem dL_cell_6 : decode cL_cell 6 = .ok (.aload_n 0, 1) := by decide +kernel
theorem dL_cell_7 : decode cL_cell 7 = .ok (.iload_n 1, 1) := by decide +kernel
theorem dL_cell_8 : decode cL_cell 8 = .ok (.iaload, 1) := by decide +kernel
theorem dL_cell_9 : decode cL_cell 9 = .ok (.goto 9, 3) := by decide +kernel
theorem dL_cell_12 : decode cL_cell 12 = .ok (.ldc 8, 2) := by decide +kernel
theorem dL_cell_14 : decode cL_cell 14 = .ok (.iload_n 1, 1) := by decide +kernel
theorem dL_cell_15 : decode cL_cell 15 = .ok (.iconst 3, 1) := by decide +kernel
theorem dL_cell_16 : decode cL_cell 16 = .ok (.iadd, 1) := by decide +kernel
theorem dL_cell_17 : decode cL_cell 17 = .ok (.imul, 1) := by decide +kernel
theorem dL_cell_18 : decode cL_cell 18 = .ok (.ireturn, 1) := by decide +kernel
set_option maxRecDepth 20000 in
theorem ggL_build_L_cell : GoodIn wsL_build wsL_cell := goodIn_r _ [4, 5] (by decide +kernel) (by decide +kernel)
set_option maxRecDepth 20000 in
theorem gL_build_L_cell : GoodIn wsL_build (va_wsS RL 9 yL_cell wsL_cell) := goodIn_app (goodIn_of _ (by decide +kernel)) ggL_build_L_cell
set_option maxRecDepth 20000 in
theorem ggL_build_L_below : GoodIn wsL_build wsL_below := goodIn_r _ [8, 9] (by decide +kernel) (by decide +kernel)
set_option maxRecDepth 20000 in
theorem gL_build_L_below : GoodIn wsL_build (va_wsS RL 15 yL_below wsL_below) := goodIn_app (goodIn_of _ (by decide +kernel)) ggL_build_L_below
set_option maxRecDepth 20000 in
theorem ggL_build_X3_addState : GoodIn wsL_build wsX3_addState := goodIn_ca (goodIn_r _ [14, 15, 16, 17, 18, 19, 20, 13, 21, 22, 23, 71, 72, 73, 74, 75, 76, 77, 78, 79, 80, 81, 82, 83, 84, 85, 86, 87, 88, 89, 90, 91, 92, 93] (by decide +kernel) (by decide +kernel)) (goodIn_sub (fun _ h => List.mem_cons_of_mem _ (List.mem_append_left _ (List.mem_append_right _ h))) (by decide +kernel))
set_option maxRecDepth 20000 in
theorem gL_build_X3_addState : GoodIn wsL_build (wsV RL 19 RX3 yX3_addState wsX3_addState) := goodIn_app (goodIn_of _ (by decide +kernel)) ggL_build_X3_addState
set_option maxRecDepth 20000 in
theorem ggL_build_X3_step : GoodIn wsL_build wsX3_step := goodIn_ca (goodIn_r _ [27, 17, 28, 29, 30, 13, 31, 32, 33, 34, 35, 36, 37, 38, 39, 40, 41, 42, 43, 44, 45, 46, 47, 48, 49, 50, 51, 52, 53, 54, 55, 56, 57, 58, 59, 60, 61, 62, 63, 64, 65, 66, 18, 19, 20, 21, 22, 23, 71, 72, 73, 74, 75, 76, 77, 78, 79, 80, 81, 82, 83, 84, 85, 86, 87, 88, 89, 90, 91, 92, 93] (by decide +kernel) (by decide +kernel)) (goodIn_sub (fun _ h => List.mem_cons_of_mem _ (List.mem_append_right _ h)) (by decide +kernel))
set_option maxRecDepth 20000 in
theorem gL_build_X3_step : GoodIn wsL_build (wsV RL 25 RX3 yX3_step wsX3_step) := goodIn_app (goodIn_of _ (by decide +kernel)) ggL_build_X3_step
set_option maxRecDepth 20000 in
theorem ggL_build_X3_stateCount : GoodIn wsL_build wsX3_stateCount := goodIn_r _ [70, 17, 71, 72, 73, 74, 75, 76, 77, 78] (by decide +kernel) (by decide +kernel)
set_option maxRecDepth 20000 in
theorem gL_build_X3_stateCount : GoodIn wsL_build (wsV RL 29 RX3 yX3_stateCount wsX3_stateCount) := goodIn_app (goodIn_of _ (by decide +kernel)) ggL_build_X3_stateCount
theorem dL_build_0 : decode cL_build 0 = .ok (.iconst 1, 1) := by decide +kernel
theorem dL_build_1 : decode cL_build 1 = .ok (.aload_n 1, 1) := by decide +kernel
theorem dL_build_2 : decode cL_build 2 = .ok (.iload_n 2, 1) := by decide +kernel
theorem dL_build_3 : decode cL_build 3 = .ok (.invokestatic 9, 3) := by decide +kernel
theorem dL_build_6 : decode cL_build 6 = .ok (.iload_n 3, 1) := by decide +kernel
theorem dL_build_7 : decode cL_build 7 = .ok (.invokestatic 15, 3) := by decide +kernel
theorem dL_build_10 : decode cL_build 10 = .ok (.iadd, 1) := by decide +kernel
theorem dL_build_11 : decode cL_build 11 = .ok (.istore 5, 2) := by decide +kernel
theorem dL_build_13 : decode cL_build 13 = .ok (.iconst 1, 1) := by decide +kernel
theorem dL_build_14 : decode cL_build 14 = .ok (.aload_n 1, 1) := by decide +kernel
theorem dL_build_15 : decode cL_build 15 = .ok (.iload_n 2, 1) := by decide +kernel
theorem dL_build_16 : decode cL_build 16 = .ok (.invokestatic 9, 3) := by decide +kernel
theorem dL_build_19 : decode cL_build 19 = .ok (.iconst 4, 1) := by decide +kernel
theorem dL_build_20 : decode cL_build 20 = .ok (.ishr, 1) := by decide +kernel
theorem dL_build_21 : decode cL_build 21 = .ok (.bipush 6, 2) := by decide +kernel
theorem dL_build_23 : decode cL_build 23 = .ok (.invokestatic 15, 3) := by decide +kernel
theorem dL_build_26 : decode cL_build 26 = .ok (.iadd, 1) := by decide +kernel
theorem dL_build_27 : decode cL_build 27 = .ok (.istore 6, 2) := by decide +kernel
theorem dL_build_29 : decode cL_build 29 = .ok (.iconst 0, 1) := by decide +kernel
theorem dL_build_30 : decode cL_build 30 = .ok (.istore 7, 2) := by decide +kernel
theorem dL_build_32 : decode cL_build 32 = .ok (.iload 7, 2) := by decide +kernel
theorem dL_build_34 : decode cL_build 34 = .ok (.aload 4, 2) := by decide +kernel
theorem dL_build_36 : decode cL_build 36 = .ok (.arraylength, 1) := by decide +kernel
theorem dL_build_37 : decode cL_build 37 = .ok (.if_icmp .ge 15, 3) := by decide +kernel
theorem dL_build_40 : decode cL_build 40 = .ok (.aload 4, 2) := by decide +kernel
theorem dL_build_42 : decode cL_build 42 = .ok (.iload 7, 2) := by decide +kernel
theorem dL_build_44 : decode cL_build 44 = .ok (.iconst (-1), 1) := by decide +kernel
theorem dL_build_45 : decode cL_build 45 = .ok (.iastore, 1) := by decide +kernel
theorem dL_build_46 : decode cL_build 46 = .ok (.iinc 7 1, 3) := by decide +kernel
theorem dL_build_49 : decode cL_build 49 = .ok (.goto (-17), 3) := by decide +kernel
theorem dL_build_52 : decode cL_build 52 = .ok (.iconst 1, 1) := by decide +kernel
theorem dL_build_53 : decode cL_build 53 = .ok (.istore 7, 2) := by decide +kernel
theorem dL_build_55 : decode cL_build 55 = .ok (.iload 7, 2) := by decide +kernel
theorem dL_build_57 : decode cL_build 57 = .ok (.iload 5, 2) := by decide +kernel
theorem dL_build_59 : decode cL_build 59 = .ok (.if_icmp .ge 20, 3) := by decide +kernel
theorem dL_build_62 : decode cL_build 62 = .ok (.aload_n 0, 1) := by decide +kernel
theorem dL_build_63 : decode cL_build 63 = .ok (.invokevirtual 19, 3) := by decide +kernel
theorem dL_build_66 : decode cL_build 66 = .ok (.iload 7, 2) := by decide +kernel
theorem dL_build_68 : decode cL_build 68 = .ok (.if_icmp .eq 5, 3) := by decide +kernel
theorem dL_build_71 : decode cL_build 71 = .ok (.iconst (-1), 1) := by decide +kernel
theorem dL_build_72 : decode cL_build 72 = .ok (.ireturn, 1) := by decide +kernel
theorem dL_build_73 : decode cL_build 73 = .ok (.iinc 7 1, 3) := by decide +kernel
theorem dL_build_76 : decode cL_build 76 = .ok (.goto (-21), 3) := by decide +kernel
theorem dL_build_79 : decode cL_build 79 = .ok (.aload_n 1, 1) := by decide +kernel
theorem dL_build_80 : decode cL_build 80 = .ok (.iload_n 2, 1) := by decide +kernel
theorem dL_build_81 : decode cL_build 81 = .ok (.invokestatic 9, 3) := by decide +kernel
theorem dL_build_84 : decode cL_build 84 = .ok (.bipush 8, 2) := by decide +kernel
theorem dL_build_86 : decode cL_build 86 = .ok (.ishr, 1) := by decide +kernel
theorem dL_build_87 : decode cL_build 87 = .ok (.iconst 2, 1) := by decide +kernel
theorem dL_build_88 : decode cL_build 88 = .ok (.iload 5, 2) := by decide +kernel
theorem dL_build_90 : decode cL_build 90 = .ok (.imul, 1) := by decide +kernel
theorem dL_build_91 : decode cL_build 91 = .ok (.iconst 4, 1) := by decide +kernel
theorem dL_build_92 : decode cL_build 92 = .ok (.iadd, 1) := by decide +kernel
theorem dL_build_93 : decode cL_build 93 = .ok (.invokestatic 15, 3) := by decide +kernel
theorem dL_build_96 : decode cL_build 96 = .ok (.istore 7, 2) := by decide +kernel
theorem dL_build_98 : decode cL_build 98 = .ok (.iconst 0, 1) := by decide +kernel
theorem dL_build_99 : decode cL_build 99 = .ok (.istore 8, 2) := by decide +kernel
theorem dL_build_101 : decode cL_build 101 = .ok (.iload 8, 2) := by decide +kernel
theorem dL_build_103 : decode cL_build 103 = .ok (.iload 7, 2) := by decide +kernel
theorem dL_build_105 : decode cL_build 105 = .ok (.if_icmp .ge 154, 3) := by decide +kernel
theorem dL_build_108 : decode cL_build 108 = .ok (.aload_n 1, 1) := by decide +kernel
theorem dL_build_109 : decode cL_build 109 = .ok (.iload_n 2, 1) := by decide +kernel
theorem dL_build_110 : decode cL_build 110 = .ok (.iconst 1, 1) := by decide +kernel
theorem dL_build_111 : decode cL_build 111 = .ok (.iadd, 1) := by decide +kernel
theorem dL_build_112 : decode cL_build 112 = .ok (.iload 8, 2) := by decide +kernel
theorem dL_build_114 : decode cL_build 114 = .ok (.bipush 6, 2) := by decide +kernel
theorem dL_build_116 : decode cL_build 116 = .ok (.irem, 1) := by decide +kernel
theorem dL_build_117 : decode cL_build 117 = .ok (.iadd, 1) := by decide +kernel
theorem dL_build_118 : decode cL_build 118 = .ok (.invokestatic 9, 3) := by decide +kernel
theorem dL_build_121 : decode cL_build 121 = .ok (.iload 8, 2) := by decide +kernel
theorem dL_build_123 : decode cL_build 123 = .ok (.bipush 6, 2) := by decide +kernel
theorem dL_build_125 : decode cL_build 125 = .ok (.idiv, 1) := by decide +kernel
theorem dL_build_126 : decode cL_build 126 = .ok (.iconst 5, 1) := by decide +kernel
theorem dL_build_127 : decode cL_build 127 = .ok (.imul, 1) := by decide +kernel
theorem dL_build_128 : decode cL_build 128 = .ok (.ishr, 1) := by decide +kernel
theorem dL_build_129 : decode cL_build 129 = .ok (.istore 9, 2) := by decide +kernel
theorem dL_build_131 : decode cL_build 131 = .ok (.iload 8, 2) := by decide +kernel
theorem dL_build_133 : decode cL_build 133 = .ok (.iload 5, 2) := by decide +kernel
theorem dL_build_135 : decode cL_build 135 = .ok (.iconst 1, 1) := by decide +kernel
theorem dL_build_136 : decode cL_build 136 = .ok (.isub, 1) := by decide +kernel
theorem dL_build_137 : decode cL_build 137 = .ok (.if_icmp .ge 17, 3) := by decide +kernel
theorem dL_build_140 : decode cL_build 140 = .ok (.iload 9, 2) := by decide +kernel
theorem dL_build_142 : decode cL_build 142 = .ok (.iconst 3, 1) := by decide +kernel
theorem dL_build_143 : decode cL_build 143 = .ok (.invokestatic 15, 3) := by decide +kernel
theorem dL_build_146 : decode cL_build 146 = .ok (.ifCond .le 8, 3) := by decide +kernel
theorem dL_build_149 : decode cL_build 149 = .ok (.iload 8, 2) := by decide +kernel
theorem dL_build_151 : decode cL_build 151 = .ok (.goto 12, 3) := by decide +kernel
theorem dL_build_154 : decode cL_build 154 = .ok (.iload 9, 2) := by decide +kernel
theorem dL_build_156 : decode cL_build 156 = .ok (.iconst 2, 1) := by decide +kernel
theorem dL_build_157 : decode cL_build 157 = .ok (.ishr, 1) := by decide +kernel
theorem dL_build_158 : decode cL_build 158 = .ok (.iload 5, 2) := by decide +kernel
theorem dL_build_160 : decode cL_build 160 = .ok (.invokestatic 15, 3) := by decide +kernel
theorem dL_build_163 : decode cL_build 163 = .ok (.istore 10, 2) := by decide +kernel
theorem dL_build_165 : decode cL_build 165 = .ok (.iload 8, 2) := by decide +kernel
theorem dL_build_167 : decode cL_build 167 = .ok (.iload 5, 2) := by decide +kernel
theorem dL_build_169 : decode cL_build 169 = .ok (.iconst 1, 1) := by decide +kernel
theorem dL_build_170 : decode cL_build 170 = .ok (.isub, 1) := by decide +kernel
theorem dL_build_171 : decode cL_build 171 = .ok (.if_icmp .ge 19, 3) := by decide +kernel
theorem dL_build_174 : decode cL_build 174 = .ok (.iload 9, 2) := by decide +kernel
theorem dL_build_176 : decode cL_build 176 = .ok (.iconst 3, 1) := by decide +kernel
theorem dL_build_177 : decode cL_build 177 = .ok (.invokestatic 15, 3) := by decide +kernel
theorem dL_build_180 : decode cL_build 180 = .ok (.ifCond .le 10, 3) := by decide +kernel
theorem dL_build_183 : decode cL_build 183 = .ok (.iload 8, 2) := by decide +kernel
theorem dL_build_185 : decode cL_build 185 = .ok (.iconst 1, 1) := by decide +kernel
theorem dL_build_186 : decode cL_build 186 = .ok (.iadd, 1) := by decide +kernel
theorem dL_build_187 : decode cL_build 187 = .ok (.goto 13, 3) := by decide +kernel
theorem dL_build_190 : decode cL_build 190 = .ok (.iload 9, 2) := by decide +kernel
theorem dL_build_192 : decode cL_build 192 = .ok (.bipush 6, 2) := by decide +kernel
theorem dL_build_194 : decode cL_build 194 = .ok (.ishr, 1) := by decide +kernel
theorem dL_build_195 : decode cL_build 195 = .ok (.iload 5, 2) := by decide +kernel
theorem dL_build_197 : decode cL_build 197 = .ok (.invokestatic 15, 3) := by decide +kernel
theorem dL_build_200 : decode cL_build 200 = .ok (.istore 11, 2) := by decide +kernel
theorem dL_build_202 : decode cL_build 202 = .ok (.iload 9, 2) := by decide +kernel
theorem dL_build_204 : decode cL_build 204 = .ok (.bipush 10, 2) := by decide +kernel
theorem dL_build_206 : decode cL_build 206 = .ok (.ishr, 1) := by decide +kernel
theorem dL_build_207 : decode cL_build 207 = .ok (.iload 6, 2) := by decide +kernel
theorem dL_build_209 : decode cL_build 209 = .ok (.invokestatic 15, 3) := by decide +kernel
theorem dL_build_212 : decode cL_build 212 = .ok (.istore 12, 2) := by decide +kernel
theorem dL_build_214 : decode cL_build 214 = .ok (.aload_n 0, 1) := by decide +kernel
theorem dL_build_215 : decode cL_build 215 = .ok (.iload 10, 2) := by decide +kernel
theorem dL_build_217 : decode cL_build 217 = .ok (.iload 12, 2) := by decide +kernel
theorem dL_build_219 : decode cL_build 219 = .ok (.iload 11, 2) := by decide +kernel
theorem dL_build_221 : decode cL_build 221 = .ok (.invokevirtual 25, 3) := by decide +kernel
theorem dL_build_224 : decode cL_build 224 = .ok (.aload 4, 2) := by decide +kernel
theorem dL_build_226 : decode cL_build 226 = .ok (.bipush 6, 2) := by decide +kernel
theorem dL_build_228 : decode cL_build 228 = .ok (.iload 10, 2) := by decide +kernel
theorem dL_build_230 : decode cL_build 230 = .ok (.imul, 1) := by decide +kernel
theorem dL_build_231 : decode cL_build 231 = .ok (.iload 12, 2) := by decide +kernel
theorem dL_build_233 : decode cL_build 233 = .ok (.iadd, 1) := by decide +kernel
theorem dL_build_234 : decode cL_build 234 = .ok (.iaload, 1) := by decide +kernel
theorem dL_build_235 : decode cL_build 235 = .ok (.if_icmp .eq 5, 3) := by decide +kernel
theorem dL_build_238 : decode cL_build 238 = .ok (.iconst (-1), 1) := by decide +kernel
theorem dL_build_239 : decode cL_build 239 = .ok (.ireturn, 1) := by decide +kernel
theorem dL_build_240 : decode cL_build 240 = .ok (.aload 4, 2) := by decide +kernel
theorem dL_build_242 : decode cL_build 242 = .ok (.bipush 6, 2) := by decide +kernel
theorem dL_build_244 : decode cL_build 244 = .ok (.iload 10, 2) := by decide +kernel
theorem dL_build_246 : decode cL_build 246 = .ok (.imul, 1) := by decide +kernel
theorem dL_build_247 : decode cL_build 247 = .ok (.iload 12, 2) := by decide +kernel
theorem dL_build_249 : decode cL_build 249 = .ok (.iadd, 1) := by decide +kernel
theorem dL_build_250 : decode cL_build 250 = .ok (.iload 11, 2) := by decide +kernel
theorem dL_build_252 : decode cL_build 252 = .ok (.iastore, 1) := by decide +kernel
theorem dL_build_253 : decode cL_build 253 = .ok (.iinc 8 1, 3) := by decide +kernel
theorem dL_build_256 : decode cL_build 256 = .ok (.goto (-155), 3) := by decide +kernel
theorem dL_build_259 : decode cL_build 259 = .ok (.aload_n 0, 1) := by decide +kernel
theorem dL_build_260 : decode cL_build 260 = .ok (.invokevirtual 29, 3) := by decide +kernel
theorem dL_build_263 : decode cL_build 263 = .ok (.iload 5, 2) := by decide +kernel
theorem dL_build_265 : decode cL_build 265 = .ok (.if_icmp .ne 8, 3) := by decide +kernel
theorem dL_build_268 : decode cL_build 268 = .ok (.iload 5, 2) := by decide +kernel
theorem dL_build_270 : decode cL_build 270 = .ok (.goto 4, 3) := by decide +kernel
theorem dL_build_273 : decode cL_build 273 = .ok (.iconst (-1), 1) := by decide +kernel
theorem dL_build_274 : decode cL_build 274 = .ok (.ireturn, 1) := by decide +kernel
set_option maxRecDepth 20000 in
theorem ggL_law_X3_init : GoodIn wsL_law wsX3_init := goodIn_r _ [10, 11, 12, 13, 14, 15, 16, 17, 18, 19, 20, 21, 22, 23, 24, 25, 26, 27, 28, 29, 30, 31, 3, 32, 33, 34, 35, 36, 37, 38, 39, 40, 41, 42, 43, 44, 45, 46, 47, 48, 49, 50, 51, 363, 364, 365, 366, 367, 360, 361, 362, 368, 369, 370, 371, 372, 373, 374, 375, 376, 377, 378, 379, 380, 381, 382] (by decide +kernel) (by decide +kernel)
set_option maxRecDepth 20000 in
theorem gL_law_X3_init : GoodIn wsL_law (wsX3_init) := ggL_law_X3_init
set_option maxRecDepth 20000 in
theorem ggL_law_L_build : GoodIn wsL_law wsL_build := goodIn_ca (goodIn_ca (goodIn_r _ [55, 56, 57, 54, 58, 59, 60, 61, 62, 63, 64, 65, 66, 2, 67, 68, 69, 17, 70, 71, 72, 73, 21, 25, 74, 75, 76, 77, 78, 79, 80, 81, 82, 83, 84, 85, 86, 87, 88, 89, 16, 90, 32, 91, 92, 93, 94, 95, 96, 97, 98, 33, 99, 100, 101, 102, 34, 35, 103, 104, 105, 106, 107, 108, 109, 110, 30, 111, 112, 113, 114, 360, 361, 362, 363, 364, 365, 366, 367, 368, 369, 370, 371, 372, 373, 374, 375, 376, 377, 378, 379, 380, 381, 382] (by decide +kernel) (by decide +kernel)) (goodIn_sub (fun _ h => List.mem_append_left _ (List.mem_append_left _ (List.mem_append_right _ h))) (by decide +kernel))) (goodIn_sub (fun _ h => List.mem_append_left _ (List.mem_append_right _ h)) (by decide +kernel))
set_option maxRecDepth 20000 in
theorem gL_law_L_build : GoodIn wsL_law (va_wsS RL 37 yL_build wsL_build) := goodIn_app (goodIn_of _ (by decide +kernel)) ggL_law_L_build
set_option maxRecDepth 20000 in
theorem ggL_law_X3_regionCount : GoodIn wsL_law wsX3_regionCount := goodIn_r _ [118, 21, 119, 120, 121, 20, 122, 123, 124, 125, 126, 127, 128, 40, 41, 129, 130, 131, 16, 132, 30, 133, 134, 135, 136, 137, 138, 139, 140, 33, 34, 35, 360, 361, 362, 368, 369, 370, 371, 363, 364, 365, 366, 367] (by decide +kernel) (by decide +kernel)
set_option maxRecDepth 20000 in
theorem gL_law_X3_regionCount : GoodIn wsL_law (wsV RL 41 RX3 yX3_regionCount wsX3_regionCount) := goodIn_app (goodIn_of _ (by decide +kernel)) ggL_law_X3_regionCount
set_option maxRecDepth 20000 in
theorem ggL_law_X3_region : GoodIn wsL_law wsX3_region := goodIn_ca (goodIn_r _ [144, 21, 145, 146, 147, 2, 148, 82, 83, 119, 120, 121, 20, 122, 123, 124, 125, 126, 127, 128, 40, 41, 129, 130, 131, 16, 132, 30, 133, 134, 135, 136, 137, 138, 139, 140, 33, 34, 35, 149, 150, 151, 152, 360, 361, 362, 368, 369, 370, 371, 363, 364, 365, 366, 367] (by decide +kernel) (by decide +kernel)) (goodIn_sub (fun _ h => List.mem_append_left _ (List.mem_append_right _ h)) (by decide +kernel))
set_option maxRecDepth 20000 in
theorem gL_law_X3_region : GoodIn wsL_law (wsV RL 44 RX3 yX3_region wsX3_region) := goodIn_app (goodIn_of _ (by decide +kernel)) ggL_law_X3_region
set_option maxRecDepth 20000 in
theorem ggL_law_X3_isRegion : GoodIn wsL_law wsX3_isRegion := goodIn_ca (goodIn_r _ [156, 21, 157, 158, 159, 2, 160, 161, 162, 17, 163, 130, 131, 16, 132, 30, 164, 165, 166, 20, 167, 40, 129, 133, 134, 135, 136, 137, 138, 139, 140, 33, 34, 35, 360, 361, 362, 363, 364, 365, 366, 367, 368, 369, 370, 371] (by decide +kernel) (by decide +kernel)) (goodIn_sub (fun _ h => List.mem_append_right _ h) (by decide +kernel))
set_option maxRecDepth 20000 in
theorem gL_law_X3_isRegion : GoodIn wsL_law (wsV RL 48 RX3 yX3_isRegion wsX3_isRegion) := goodIn_app (goodIn_of _ (by decide +kernel)) ggL_law_X3_isRegion
set_option maxRecDepth 20000 in
theorem ggL_law_X3_grow : GoodIn wsL_law wsX3_grow := goodIn_ca (goodIn_r _ [171, 17, 157, 158, 159, 2, 160, 161, 162, 163, 130, 131, 16, 132, 30, 172, 173, 174, 175, 176, 134, 135, 136, 137, 138, 139, 140, 33, 34, 35, 177, 178, 179, 180, 181, 182, 183, 184, 32, 360, 361, 362, 363, 364, 365, 366, 367] (by decide +kernel) (by decide +kernel)) (goodIn_sub (fun _ h => List.mem_append_right _ h) (by decide +kernel))
set_option maxRecDepth 20000 in
theorem gL_law_X3_grow : GoodIn wsL_law (wsV RL 52 RX3 yX3_grow wsX3_grow) := goodIn_app (goodIn_of _ (by decide +kernel)) ggL_law_X3_grow
set_option maxRecDepth 20000 in
theorem ggL_law_X3_crossing : GoodIn wsL_law wsX3_crossing := goodIn_ca (goodIn_ca (goodIn_r _ [188, 17, 157, 158, 159, 2, 160, 161, 162, 163, 130, 131, 16, 132, 30, 84, 85, 86, 82, 83, 189, 138, 139, 140, 33, 34, 35, 360, 361, 362, 363, 364, 365, 366, 367] (by decide +kernel) (by decide +kernel)) (goodIn_sub (fun _ h => List.mem_append_right _ h) (by decide +kernel))) (goodIn_sub (fun _ h => List.mem_append_left _ (List.mem_append_right _ h)) (by decide +kernel))
set_option maxRecDepth 20000 in
theorem gL_law_X3_crossing : GoodIn wsL_law (wsV RL 55 RX3 yX3_crossing wsX3_crossing) := goodIn_app (goodIn_of _ (by decide +kernel)) ggL_law_X3_crossing
set_option maxRecDepth 20000 in
theorem ggL_law_X3_isLeast : GoodIn wsL_law wsX3_isLeast := goodIn_ca (goodIn_r _ [193, 21, 145, 146, 147, 2, 148, 82, 83, 119, 120, 121, 20, 122, 123, 124, 125, 126, 127, 128, 40, 41, 129, 130, 131, 16, 132, 30, 133, 134, 135, 136, 137, 138, 139, 140, 33, 34, 35, 194, 195, 196, 197, 360, 361, 362, 368, 369, 370, 371, 363, 364, 365, 366, 367] (by decide +kernel) (by decide +kernel)) (goodIn_sub (fun _ h => List.mem_append_left _ (List.mem_append_right _ h)) (by decide +kernel))
set_option maxRecDepth 20000 in
theorem gL_law_X3_isLeast : GoodIn wsL_law (wsV RL 57 RX3 yX3_isLeast wsX3_isLeast) := goodIn_app (goodIn_of _ (by decide +kernel)) ggL_law_X3_isLeast
set_option maxRecDepth 20000 in
theorem ggL_law_X3_makeNet : GoodIn wsL_law wsX3_makeNet := goodIn_r _ [201, 25, 202, 203, 204, 24, 205, 49, 50, 206, 207, 208, 209, 210, 211, 212, 213, 47, 48, 214, 120, 121, 20, 122, 123, 124, 125, 126, 127, 128, 40, 41, 129, 130, 131, 16, 132, 30, 133, 134, 135, 136, 137, 138, 139, 140, 33, 34, 35, 215, 150, 151, 152, 216, 217, 218, 219, 220, 221, 222, 223, 46, 224, 225, 226, 227, 228, 229, 2, 230, 360, 361, 362, 372, 373, 374, 375, 376, 377, 378, 379, 380, 381, 382, 368, 369, 370, 371, 363, 364, 365, 366, 367] (by decide +kernel) (by decide +kernel)
set_option maxRecDepth 20000 in
theorem gL_law_X3_makeNet : GoodIn wsL_law (wsV RL 60 RX3 yX3_makeNet wsX3_makeNet) := goodIn_app (goodIn_of _ (by decide +kernel)) ggL_law_X3_makeNet
set_option maxRecDepth 20000 in
theorem ggL_law_X3_lumps : GoodIn wsL_law wsX3_lumps := goodIn_r _ [234, 21, 235, 236, 237, 20, 238, 40, 239, 240, 241, 242, 41, 243, 120, 121, 122, 123, 124, 125, 126, 127, 128, 129, 130, 131, 16, 132, 30, 133, 134, 135, 136, 137, 138, 139, 140, 33, 34, 35, 229, 2, 230, 360, 361, 362, 368, 369, 370, 371, 363, 364, 365, 366, 367] (by decide +kernel) (by decide +kernel)
set_option maxRecDepth 20000 in
theorem gL_law_X3_lumps : GoodIn wsL_law (wsV RL 68 RX3 yX3_lumps wsX3_lumps) := goodIn_app (goodIn_of _ (by decide +kernel)) ggL_law_X3_lumps
set_option maxRecDepth 20000 in
theorem ggL_law_X3_leaks : GoodIn wsL_law wsX3_leaks := goodIn_r _ [247, 21, 248, 249, 250, 20, 251, 40, 252, 253, 254, 16, 255, 33, 256, 130, 131, 132, 30, 257, 258, 259, 260, 41, 243, 120, 121, 122, 123, 124, 125, 126, 127, 128, 129, 133, 134, 135, 136, 137, 138, 139, 140, 34, 35, 261, 262, 263, 264, 265, 266, 267, 268, 360, 361, 362, 368, 369, 370, 371, 363, 364, 365, 366, 367] (by decide +kernel) (by decide +kernel)
set_option maxRecDepth 20000 in
theorem gL_law_X3_leaks : GoodIn wsL_law (wsV RL 71 RX3 yX3_leaks wsX3_leaks) := goodIn_app (goodIn_of _ (by decide +kernel)) ggL_law_X3_leaks
set_option maxRecDepth 20000 in
theorem ggL_law_X3_fidelity : GoodIn wsL_law wsX3_fidelity := goodIn_r _ [272, 17, 21, 273, 274, 275, 16, 276, 30, 277, 278, 279, 280, 281, 253, 254, 255, 33, 256, 130, 131, 132, 282, 263, 264, 265, 266, 267, 268, 235, 236, 237, 20, 238, 40, 239, 240, 241, 242, 41, 243, 120, 121, 122, 123, 124, 125, 126, 127, 128, 129, 133, 134, 135, 136, 137, 138, 139, 140, 34, 35, 229, 2, 230, 248, 249, 250, 251, 252, 257, 258, 259, 260, 261, 262, 360, 361, 362, 363, 364, 365, 366, 367, 368, 369, 370, 371] (by decide +kernel) (by decide +kernel)
set_option maxRecDepth 20000 in
theorem gL_law_X3_fidelity : GoodIn wsL_law (wsV RL 74 RX3 yX3_fidelity wsX3_fidelity) := goodIn_app (goodIn_of _ (by decide +kernel)) ggL_law_X3_fidelity
set_option maxRecDepth 20000 in
theorem ggL_law_X3_isFaithful : GoodIn wsL_law wsX3_isFaithful := goodIn_ca (goodIn_r _ [286, 25, 287, 288, 289, 2, 290, 68, 69, 291, 292, 293, 24, 294, 46, 295, 296, 297, 16, 298, 30, 299, 300, 301, 302, 32, 229, 230, 303, 304, 305, 306, 225, 226, 227, 228, 213, 48, 307, 88, 89, 90, 308, 309, 310, 311, 49, 50, 312, 313, 314, 315, 33, 360, 361, 362, 372, 373, 374, 375, 376, 377, 378, 379, 380, 381, 382, 363, 364, 365, 366, 367] (by decide +kernel) (by decide +kernel)) (goodIn_sub (fun _ h => List.mem_append_left _ (List.mem_append_left _ (List.mem_append_right _ h))) (by decide +kernel))
set_option maxRecDepth 20000 in
theorem gL_law_X3_isFaithful : GoodIn wsL_law (wsV RL 78 RX3 yX3_isFaithful wsX3_isFaithful) := goodIn_app (goodIn_of _ (by decide +kernel)) ggL_law_X3_isFaithful
set_option maxRecDepth 20000 in
theorem ggL_law_X3_markingCount : GoodIn wsL_law wsX3_markingCount := goodIn_ca (goodIn_r _ [319, 25, 287, 288, 289, 2, 290, 68, 69, 320, 321, 322, 24, 323, 207, 324, 325, 326, 327, 51, 206, 308, 309, 310, 311, 46, 49, 50, 312, 313, 314, 16, 315, 33, 328, 329, 330, 331, 332, 333, 334, 335, 360, 361, 362, 372, 373, 374, 375, 376, 377, 378, 379, 380, 381, 382, 363, 364, 365, 366, 367] (by decide +kernel) (by decide +kernel)) (goodIn_sub (fun _ h => List.mem_append_left _ (List.mem_append_left _ (List.mem_append_right _ h))) (by decide +kernel))
set_option maxRecDepth 20000 in
theorem gL_law_X3_markingCount : GoodIn wsL_law (wsV RL 82 RX3 yX3_markingCount wsX3_markingCount) := goodIn_app (goodIn_of _ (by decide +kernel)) ggL_law_X3_markingCount
set_option maxRecDepth 20000 in
theorem ggL_law_X3_reached : GoodIn wsL_law wsX3_reached := goodIn_r _ [339, 17, 340, 296, 297, 16, 298, 30, 299, 300, 301, 302, 32, 229, 2, 230, 360, 361, 362, 363, 364, 365, 366, 367] (by decide +kernel) (by decide +kernel)
set_option maxRecDepth 20000 in
theorem gL_law_X3_reached : GoodIn wsL_law (wsV RL 85 RX3 yX3_reached wsX3_reached) := goodIn_app (goodIn_of _ (by decide +kernel)) ggL_law_X3_reached
set_option maxRecDepth 20000 in
theorem ggL_law_J6_bitCount_0f7a4 : GoodIn wsL_law wsJ6_bitCount_0f7a4 := goodIn_r _ [265, 266, 267, 268] (by decide +kernel) (by decide +kernel)
set_option maxRecDepth 20000 in
theorem gL_law_J6_bitCount_0f7a4 : GoodIn wsL_law (va_wsS RL 88 yJ6_bitCount_0f7a4 wsJ6_bitCount_0f7a4) := goodIn_app (goodIn_of _ (by decide +kernel)) ggL_law_J6_bitCount_0f7a4
set_option maxRecDepth 20000 in
theorem ggL_law_L_cell : GoodIn wsL_law wsL_cell := goodIn_r _ [58, 59] (by decide +kernel) (by decide +kernel)
set_option maxRecDepth 20000 in
theorem gL_law_L_cell : GoodIn wsL_law (va_wsS RL 9 yL_cell wsL_cell) := goodIn_app (goodIn_of _ (by decide +kernel)) ggL_law_L_cell
set_option maxRecDepth 20000 in
theorem ggL_law_L_below : GoodIn wsL_law wsL_below := goodIn_r _ [62, 63] (by decide +kernel) (by decide +kernel)
set_option maxRecDepth 20000 in
theorem gL_law_L_below : GoodIn wsL_law (va_wsS RL 15 yL_below wsL_below) := goodIn_app (goodIn_of _ (by decide +kernel)) ggL_law_L_below
set_option maxRecDepth 20000 in
theorem ggL_law_X3_target : GoodIn wsL_law wsX3_target := goodIn_ca (goodIn_r _ [345, 17, 78, 79, 80, 2, 81, 82, 83, 84, 85, 86, 87, 88, 89, 16, 90, 32, 360, 361, 362, 363, 364, 365, 366, 367] (by decide +kernel) (by decide +kernel)) (goodIn_sub (fun _ h => List.mem_append_left _ (List.mem_append_right _ h)) (by decide +kernel))
set_option maxRecDepth 20000 in
theorem gL_law_X3_target : GoodIn wsL_law (wsV RL 93 RX3 yX3_target wsX3_target) := goodIn_app (goodIn_of _ (by decide +kernel)) ggL_law_X3_target
set_option maxRecDepth 20000 in
theorem ggL_law_X3_fire : GoodIn wsL_law wsX3_fire := goodIn_ca (goodIn_ca (goodIn_r _ [349, 25, 287, 288, 289, 2, 290, 68, 69, 84, 85, 86, 82, 83, 350, 309, 310, 24, 311, 46, 49, 50, 312, 313, 314, 16, 315, 33, 351, 329, 330, 331, 360, 361, 362, 372, 373, 374, 375, 376, 377, 378, 379, 380, 381, 382, 363, 364, 365, 366, 367] (by decide +kernel) (by decide +kernel)) (goodIn_sub (fun _ h => List.mem_append_left _ (List.mem_append_left _ (List.mem_append_right _ h))) (by decide +kernel))) (goodIn_sub (fun _ h => List.mem_append_left _ (List.mem_append_right _ h)) (by decide +kernel))
set_option maxRecDepth 20000 in
theorem gL_law_X3_fire : GoodIn wsL_law (wsV RL 96 RX3 yX3_fire wsX3_fire) := goodIn_app (goodIn_of _ (by decide +kernel)) ggL_law_X3_fire
set_option maxRecDepth 20000 in
theorem ggL_law_X3_placeRegion : GoodIn wsL_law wsX3_placeRegion := goodIn_ca (goodIn_ca (goodIn_r _ [355, 82, 83, 25, 287, 288, 289, 2, 290, 68, 69, 356, 357, 358, 24, 359, 48, 360, 361, 362, 372, 373, 374, 375, 376, 377, 378, 379, 380, 381, 382] (by decide +kernel) (by decide +kernel)) (goodIn_sub (fun _ h => List.mem_append_left _ (List.mem_append_right _ h)) (by decide +kernel))) (goodIn_sub (fun _ h => List.mem_append_left _ (List.mem_append_left _ (List.mem_append_right _ h))) (by decide +kernel))
set_option maxRecDepth 20000 in
theorem gL_law_X3_placeRegion : GoodIn wsL_law (wsV RL 99 RX3 yX3_placeRegion wsX3_placeRegion) := goodIn_app (goodIn_of _ (by decide +kernel)) ggL_law_X3_placeRegion
theorem dL_law_0 : decode cL_law 0 = .ok (.new 20, 3) := by decide +kernel
theorem dL_law_3 : decode cL_law 3 = .ok (.dup, 1) := by decide +kernel
theorem dL_law_4 : decode cL_law 4 = .ok (.invokespecial 36, 3) := by decide +kernel
theorem dL_law_7 : decode cL_law 7 = .ok (.astore_n 1, 1) := by decide +kernel
theorem dL_law_8 : decode cL_law 8 = .ok (.bipush 72, 2) := by decide +kernel
theorem dL_law_10 : decode cL_law 10 = .ok (.newarray .int, 2) := by decide +kernel
theorem dL_law_12 : decode cL_law 12 = .ok (.astore_n 2, 1) := by decide +kernel
theorem dL_law_13 : decode cL_law 13 = .ok (.aload_n 1, 1) := by decide +kernel
theorem dL_law_14 : decode cL_law 14 = .ok (.aload_n 0, 1) := by decide +kernel
theorem dL_law_15 : decode cL_law 15 = .ok (.iconst 0, 1) := by decide +kernel
theorem dL_law_16 : decode cL_law 16 = .ok (.bipush 6, 2) := by decide +kernel
theorem dL_law_18 : decode cL_law 18 = .ok (.aload_n 2, 1) := by decide +kernel
theorem dL_law_19 : decode cL_law 19 = .ok (.invokestatic 37, 3) := by decide +kernel
theorem dL_law_22 : decode cL_law 22 = .ok (.istore_n 3, 1) := by decide +kernel
theorem dL_law_23 : decode cL_law 23 = .ok (.iload_n 3, 1) := by decide +kernel
theorem dL_law_24 : decode cL_law 24 = .ok (.ifCond .ge 5, 3) := by decide +kernel
theorem dL_law_27 : decode cL_law 27 = .ok (.iconst 0, 1) := by decide +kernel
theorem dL_law_28 : decode cL_law 28 = .ok (.ireturn, 1) := by decide +kernel
theorem dL_law_29 : decode cL_law 29 = .ok (.iconst 1, 1) := by decide +kernel
theorem dL_law_30 : decode cL_law 30 = .ok (.iload_n 3, 1) := by decide +kernel
theorem dL_law_31 : decode cL_law 31 = .ok (.ishl, 1) := by decide +kernel
theorem dL_law_32 : decode cL_law 32 = .ok (.iconst 1, 1) := by decide +kernel
theorem dL_law_33 : decode cL_law 33 = .ok (.isub, 1) := by decide +kernel
theorem dL_law_34 : decode cL_law 34 = .ok (.istore 4, 2) := by decide +kernel
theorem dL_law_36 : decode cL_law 36 = .ok (.aload_n 1, 1) := by decide +kernel
theorem dL_law_37 : decode cL_law 37 = .ok (.invokevirtual 41, 3) := by decide +kernel
theorem dL_law_40 : decode cL_law 40 = .ok (.istore 5, 2) := by decide +kernel
theorem dL_law_42 : decode cL_law 42 = .ok (.iconst 0, 1) := by decide +kernel
theorem dL_law_43 : decode cL_law 43 = .ok (.istore 6, 2) := by decide +kernel
theorem dL_law_45 : decode cL_law 45 = .ok (.iconst 0, 1) := by decide +kernel
theorem dL_law_46 : decode cL_law 46 = .ok (.istore 7, 2) := by decide +kernel
theorem dL_law_48 : decode cL_law 48 = .ok (.iload 7, 2) := by decide +kernel
theorem dL_law_50 : decode cL_law 50 = .ok (.iload 5, 2) := by decide +kernel
theorem dL_law_52 : decode cL_law 52 = .ok (.if_icmp .ge 220, 3) := by decide +kernel
theorem dL_law_55 : decode cL_law 55 = .ok (.aload_n 1, 1) := by decide +kernel
theorem dL_law_56 : decode cL_law 56 = .ok (.iload 7, 2) := by decide +kernel
theorem dL_law_58 : decode cL_law 58 = .ok (.invokevirtual 44, 3) := by decide +kernel
theorem dL_law_61 : decode cL_law 61 = .ok (.istore 8, 2) := by decide +kernel
theorem dL_law_63 : decode cL_law 63 = .ok (.aload_n 1, 1) := by decide +kernel
theorem dL_law_64 : decode cL_law 64 = .ok (.iload 8, 2) := by decide +kernel
theorem dL_law_66 : decode cL_law 66 = .ok (.invokevirtual 48, 3) := by decide +kernel
theorem dL_law_69 : decode cL_law 69 = .ok (.ifCond .eq 46, 3) := by decide +kernel
theorem dL_law_72 : decode cL_law 72 = .ok (.aload_n 1, 1) := by decide +kernel
theorem dL_law_73 : decode cL_law 73 = .ok (.iload 4, 2) := by decide +kernel
theorem dL_law_75 : decode cL_law 75 = .ok (.iload 8, 2) := by decide +kernel
theorem dL_law_77 : decode cL_law 77 = .ok (.iconst (-1), 1) := by decide +kernel
theorem dL_law_78 : decode cL_law 78 = .ok (.ixor, 1) := by decide +kernel
theorem dL_law_79 : decode cL_law 79 = .ok (.iand, 1) := by decide +kernel
theorem dL_law_80 : decode cL_law 80 = .ok (.invokevirtual 48, 3) := by decide +kernel
theorem dL_law_83 : decode cL_law 83 = .ok (.ifCond .eq 32, 3) := by decide +kernel
theorem dL_law_86 : decode cL_law 86 = .ok (.iload 7, 2) := by decide +kernel
theorem dL_law_88 : decode cL_law 88 = .ok (.ifCond .le 16, 3) := by decide +kernel
theorem dL_law_91 : decode cL_law 91 = .ok (.iload 8, 2) := by decide +kernel
theorem dL_law_93 : decode cL_law 93 = .ok (.aload_n 1, 1) := by decide +kernel
theorem dL_law_94 : decode cL_law 94 = .ok (.iload 7, 2) := by decide +kernel
theorem dL_law_96 : decode cL_law 96 = .ok (.iconst 1, 1) := by decide +kernel
theorem dL_law_97 : decode cL_law 97 = .ok (.isub, 1) := by decide +kernel
theorem dL_law_98 : decode cL_law 98 = .ok (.invokevirtual 44, 3) := by decide +kernel
theorem dL_law_101 : decode cL_law 101 = .ok (.if_icmp .le 14, 3) := by decide +kernel
theorem dL_law_104 : decode cL_law 104 = .ok (.aload_n 1, 1) := by decide +kernel
theorem dL_law_105 : decode cL_law 105 = .ok (.iload 8, 2) := by decide +kernel
theorem dL_law_107 : decode cL_law 107 = .ok (.invokevirtual 52, 3) := by decide +kernel
theorem dL_law_110 : decode cL_law 110 = .ok (.iload 8, 2) := by decide +kernel
theorem dL_law_112 : decode cL_law 112 = .ok (.if_icmp .eq 5, 3) := by decide +kernel
theorem dL_law_115 : decode cL_law 115 = .ok (.iconst 0, 1) := by decide +kernel
theorem dL_law_116 : decode cL_law 116 = .ok (.ireturn, 1) := by decide +kernel
theorem dL_law_117 : decode cL_law 117 = .ok (.iconst 0, 1) := by decide +kernel
theorem dL_law_118 : decode cL_law 118 = .ok (.istore 9, 2) := by decide +kernel
theorem dL_law_120 : decode cL_law 120 = .ok (.iload 9, 2) := by decide +kernel
theorem dL_law_122 : decode cL_law 122 = .ok (.bipush 6, 2) := by decide +kernel
theorem dL_law_124 : decode cL_law 124 = .ok (.if_icmp .ge 60, 3) := by decide +kernel
theorem dL_law_127 : decode cL_law 127 = .ok (.aload_n 1, 1) := by decide +kernel
theorem dL_law_128 : decode cL_law 128 = .ok (.iload 8, 2) := by decide +kernel
theorem dL_law_130 : decode cL_law 130 = .ok (.iload 9, 2) := by decide +kernel
theorem dL_law_132 : decode cL_law 132 = .ok (.invokevirtual 55, 3) := by decide +kernel
theorem dL_law_135 : decode cL_law 135 = .ok (.istore 10, 2) := by decide +kernel
theorem dL_law_137 : decode cL_law 137 = .ok (.aload_n 1, 1) := by decide +kernel
theorem dL_law_138 : decode cL_law 138 = .ok (.iload 4, 2) := by decide +kernel
theorem dL_law_140 : decode cL_law 140 = .ok (.iload 8, 2) := by decide +kernel
theorem dL_law_142 : decode cL_law 142 = .ok (.iconst (-1), 1) := by decide +kernel
theorem dL_law_143 : decode cL_law 143 = .ok (.ixor, 1) := by decide +kernel
theorem dL_law_144 : decode cL_law 144 = .ok (.iand, 1) := by decide +kernel
theorem dL_law_145 : decode cL_law 145 = .ok (.iload 9, 2) := by decide +kernel
theorem dL_law_147 : decode cL_law 147 = .ok (.invokevirtual 55, 3) := by decide +kernel
theorem dL_law_150 : decode cL_law 150 = .ok (.istore 11, 2) := by decide +kernel
theorem dL_law_152 : decode cL_law 152 = .ok (.iload 10, 2) := by decide +kernel
theorem dL_law_154 : decode cL_law 154 = .ok (.iconst 3, 1) := by decide +kernel
theorem dL_law_155 : decode cL_law 155 = .ok (.if_icmp .eq 21, 3) := by decide +kernel
theorem dL_law_158 : decode cL_law 158 = .ok (.iload 11, 2) := by decide +kernel
theorem dL_law_160 : decode cL_law 160 = .ok (.iload 10, 2) := by decide +kernel
theorem dL_law_162 : decode cL_law 162 = .ok (.ifCond .ne 7, 3) := by decide +kernel
theorem dL_law_165 : decode cL_law 165 = .ok (.iconst 0, 1) := by decide +kernel
theorem dL_law_166 : decode cL_law 166 = .ok (.goto 7, 3) := by decide +kernel
theorem dL_law_169 : decode cL_law 169 = .ok (.iconst 3, 1) := by decide +kernel
theorem dL_law_170 : decode cL_law 170 = .ok (.iload 10, 2) := by decide +kernel
theorem dL_law_172 : decode cL_law 172 = .ok (.isub, 1) := by decide +kernel
theorem dL_law_173 : decode cL_law 173 = .ok (.if_icmp .eq 5, 3) := by decide +kernel
theorem dL_law_176 : decode cL_law 176 = .ok (.iconst 0, 1) := by decide +kernel
theorem dL_law_177 : decode cL_law 177 = .ok (.ireturn, 1) := by decide +kernel
theorem dL_law_178 : decode cL_law 178 = .ok (.iinc 9 1, 3) := by decide +kernel
theorem dL_law_181 : decode cL_law 181 = .ok (.goto (-61), 3) := by decide +kernel
theorem dL_law_184 : decode cL_law 184 = .ok (.iload 6, 2) := by decide +kernel
theorem dL_law_186 : decode cL_law 186 = .ok (.aload_n 1, 1) := by decide +kernel
theorem dL_law_187 : decode cL_law 187 = .ok (.iload 7, 2) := by decide +kernel
theorem dL_law_189 : decode cL_law 189 = .ok (.invokevirtual 57, 3) := by decide +kernel
theorem dL_law_192 : decode cL_law 192 = .ok (.ifCond .eq 7, 3) := by decide +kernel
theorem dL_law_195 : decode cL_law 195 = .ok (.iconst 1, 1) := by decide +kernel
theorem dL_law_196 : decode cL_law 196 = .ok (.goto 4, 3) := by decide +kernel
theorem dL_law_199 : decode cL_law 199 = .ok (.iconst 0, 1) := by decide +kernel
theorem dL_law_200 : decode cL_law 200 = .ok (.iadd, 1) := by decide +kernel
theorem dL_law_201 : decode cL_law 201 = .ok (.istore 6, 2) := by decide +kernel
theorem dL_law_203 : decode cL_law 203 = .ok (.iload 8, 2) := by decide +kernel
theorem dL_law_205 : decode cL_law 205 = .ok (.istore 9, 2) := by decide +kernel
theorem dL_law_207 : decode cL_law 207 = .ok (.iconst 0, 1) := by decide +kernel
theorem dL_law_208 : decode cL_law 208 = .ok (.istore 10, 2) := by decide +kernel
theorem dL_law_210 : decode cL_law 210 = .ok (.iload 10, 2) := by decide +kernel
theorem dL_law_212 : decode cL_law 212 = .ok (.iload 5, 2) := by decide +kernel
theorem dL_law_214 : decode cL_law 214 = .ok (.if_icmp .ge 45, 3) := by decide +kernel
theorem dL_law_217 : decode cL_law 217 = .ok (.aload_n 1, 1) := by decide +kernel
theorem dL_law_218 : decode cL_law 218 = .ok (.iload 10, 2) := by decide +kernel
theorem dL_law_220 : decode cL_law 220 = .ok (.invokevirtual 57, 3) := by decide +kernel
theorem dL_law_223 : decode cL_law 223 = .ok (.ifCond .eq 30, 3) := by decide +kernel
theorem dL_law_226 : decode cL_law 226 = .ok (.aload_n 1, 1) := by decide +kernel
theorem dL_law_227 : decode cL_law 227 = .ok (.iload 10, 2) := by decide +kernel
theorem dL_law_229 : decode cL_law 229 = .ok (.invokevirtual 44, 3) := by decide +kernel
theorem dL_law_232 : decode cL_law 232 = .ok (.iload 9, 2) := by decide +kernel
theorem dL_law_234 : decode cL_law 234 = .ok (.iconst (-1), 1) := by decide +kernel
theorem dL_law_235 : decode cL_law 235 = .ok (.ixor, 1) := by decide +kernel
theorem dL_law_236 : decode cL_law 236 = .ok (.iand, 1) := by decide +kernel
theorem dL_law_237 : decode cL_law 237 = .ok (.ifCond .ne 16, 3) := by decide +kernel
theorem dL_law_240 : decode cL_law 240 = .ok (.iload 9, 2) := by decide +kernel
theorem dL_law_242 : decode cL_law 242 = .ok (.aload_n 1, 1) := by decide +kernel
theorem dL_law_243 : decode cL_law 243 = .ok (.iload 10, 2) := by decide +kernel
theorem dL_law_245 : decode cL_law 245 = .ok (.invokevirtual 44, 3) := by decide +kernel
theorem dL_law_248 : decode cL_law 248 = .ok (.iconst (-1), 1) := by decide +kernel
theorem dL_law_249 : decode cL_law 249 = .ok (.ixor, 1) := by decide +kernel
theorem dL_law_250 : decode cL_law 250 = .ok (.iand, 1) := by decide +kernel
theorem dL_law_251 : decode cL_law 251 = .ok (.istore 9, 2) := by decide +kernel
theorem dL_law_253 : decode cL_law 253 = .ok (.iinc 10 1, 3) := by decide +kernel
theorem dL_law_256 : decode cL_law 256 = .ok (.goto (-46), 3) := by decide +kernel
theorem dL_law_259 : decode cL_law 259 = .ok (.iload 9, 2) := by decide +kernel
theorem dL_law_261 : decode cL_law 261 = .ok (.ifCond .eq 5, 3) := by decide +kernel
theorem dL_law_264 : decode cL_law 264 = .ok (.iconst 0, 1) := by decide +kernel
theorem dL_law_265 : decode cL_law 265 = .ok (.ireturn, 1) := by decide +kernel
theorem dL_law_266 : decode cL_law 266 = .ok (.iinc 7 1, 3) := by decide +kernel
theorem dL_law_269 : decode cL_law 269 = .ok (.goto (-221), 3) := by decide +kernel
theorem dL_law_272 : decode cL_law 272 = .ok (.aload_n 1, 1) := by decide +kernel
theorem dL_law_273 : decode cL_law 273 = .ok (.invokevirtual 60, 3) := by decide +kernel
theorem dL_law_276 : decode cL_law 276 = .ok (.iload 6, 2) := by decide +kernel
theorem dL_law_278 : decode cL_law 278 = .ok (.bipush 30, 2) := by decide +kernel
theorem dL_law_280 : decode cL_law 280 = .ok (.invokestatic 63, 3) := by decide +kernel
theorem dL_law_283 : decode cL_law 283 = .ok (.if_icmp .eq 5, 3) := by decide +kernel
theorem dL_law_286 : decode cL_law 286 = .ok (.iconst 0, 1) := by decide +kernel
theorem dL_law_287 : decode cL_law 287 = .ok (.ireturn, 1) := by decide +kernel
theorem dL_law_288 : decode cL_law 288 = .ok (.aload_n 1, 1) := by decide +kernel
theorem dL_law_289 : decode cL_law 289 = .ok (.invokevirtual 68, 3) := by decide +kernel
theorem dL_law_292 : decode cL_law 292 = .ok (.aload_n 1, 1) := by decide +kernel
theorem dL_law_293 : decode cL_law 293 = .ok (.invokevirtual 71, 3) := by decide +kernel
theorem dL_law_296 : decode cL_law 296 = .ok (.iadd, 1) := by decide +kernel
theorem dL_law_297 : decode cL_law 297 = .ok (.ifCond .ne 7, 3) := by decide +kernel
theorem dL_law_300 : decode cL_law 300 = .ok (.iconst 1, 1) := by decide +kernel
theorem dL_law_301 : decode cL_law 301 = .ok (.goto 4, 3) := by decide +kernel
theorem dL_law_304 : decode cL_law 304 = .ok (.iconst 0, 1) := by decide +kernel
theorem dL_law_305 : decode cL_law 305 = .ok (.aload_n 1, 1) := by decide +kernel
theorem dL_law_306 : decode cL_law 306 = .ok (.invokevirtual 74, 3) := by decide +kernel
theorem dL_law_309 : decode cL_law 309 = .ok (.dconst 1, 1) := by decide +kernel
theorem dL_law_310 : decode cL_law 310 = .ok (.dcmp .l, 1) := by decide +kernel
theorem dL_law_311 : decode cL_law 311 = .ok (.ifCond .ne 7, 3) := by decide +kernel
theorem dL_law_314 : decode cL_law 314 = .ok (.iconst 1, 1) := by decide +kernel
theorem dL_law_315 : decode cL_law 315 = .ok (.goto 4, 3) := by decide +kernel
theorem dL_law_318 : decode cL_law 318 = .ok (.iconst 0, 1) := by decide +kernel
theorem dL_law_319 : decode cL_law 319 = .ok (.if_icmp .eq 5, 3) := by decide +kernel
theorem dL_law_322 : decode cL_law 322 = .ok (.iconst 0, 1) := by decide +kernel
theorem dL_law_323 : decode cL_law 323 = .ok (.ireturn, 1) := by decide +kernel
theorem dL_law_324 : decode cL_law 324 = .ok (.iload 6, 2) := by decide +kernel
theorem dL_law_326 : decode cL_law 326 = .ok (.bipush 30, 2) := by decide +kernel
theorem dL_law_328 : decode cL_law 328 = .ok (.if_icmp .gt 35, 3) := by decide +kernel
theorem dL_law_331 : decode cL_law 331 = .ok (.aload_n 1, 1) := by decide +kernel
theorem dL_law_332 : decode cL_law 332 = .ok (.invokevirtual 74, 3) := by decide +kernel
theorem dL_law_335 : decode cL_law 335 = .ok (.dconst 1, 1) := by decide +kernel
theorem dL_law_336 : decode cL_law 336 = .ok (.dcmp .l, 1) := by decide +kernel
theorem dL_law_337 : decode cL_law 337 = .ok (.ifCond .ne 26, 3) := by decide +kernel
theorem dL_law_340 : decode cL_law 340 = .ok (.aload_n 1, 1) := by decide +kernel
theorem dL_law_341 : decode cL_law 341 = .ok (.invokevirtual 78, 3) := by decide +kernel
theorem dL_law_344 : decode cL_law 344 = .ok (.ifCond .eq 17, 3) := by decide +kernel
theorem dL_law_347 : decode cL_law 347 = .ok (.aload_n 1, 1) := by decide +kernel
theorem dL_law_348 : decode cL_law 348 = .ok (.invokevirtual 82, 3) := by decide +kernel
theorem dL_law_351 : decode cL_law 351 = .ok (.aload_n 1, 1) := by decide +kernel
theorem dL_law_352 : decode cL_law 352 = .ok (.invokevirtual 85, 3) := by decide +kernel
theorem dL_law_355 : decode cL_law 355 = .ok (.invokestatic 88, 3) := by decide +kernel
theorem dL_law_358 : decode cL_law 358 = .ok (.if_icmp .eq 5, 3) := by decide +kernel
theorem dL_law_361 : decode cL_law 361 = .ok (.iconst 0, 1) := by decide +kernel
theorem dL_law_362 : decode cL_law 362 = .ok (.ireturn, 1) := by decide +kernel
theorem dL_law_363 : decode cL_law 363 = .ok (.iconst 0, 1) := by decide +kernel
theorem dL_law_364 : decode cL_law 364 = .ok (.istore 7, 2) := by decide +kernel
theorem dL_law_366 : decode cL_law 366 = .ok (.iconst 0, 1) := by decide +kernel
theorem dL_law_367 : decode cL_law 367 = .ok (.istore 8, 2) := by decide +kernel
theorem dL_law_369 : decode cL_law 369 = .ok (.iload 8, 2) := by decide +kernel
theorem dL_law_371 : decode cL_law 371 = .ok (.bipush 12, 2) := by decide +kernel
theorem dL_law_373 : decode cL_law 373 = .ok (.if_icmp .ge 115, 3) := by decide +kernel
theorem dL_law_376 : decode cL_law 376 = .ok (.aload_n 0, 1) := by decide +kernel
theorem dL_law_377 : decode cL_law 377 = .ok (.bipush 8, 2) := by decide +kernel
theorem dL_law_379 : decode cL_law 379 = .ok (.iload 8, 2) := by decide +kernel
theorem dL_law_381 : decode cL_law 381 = .ok (.bipush 8, 2) := by decide +kernel
theorem dL_law_383 : decode cL_law 383 = .ok (.irem, 1) := by decide +kernel
theorem dL_law_384 : decode cL_law 384 = .ok (.iadd, 1) := by decide +kernel
theorem dL_law_385 : decode cL_law 385 = .ok (.invokestatic 9, 3) := by decide +kernel
theorem dL_law_388 : decode cL_law 388 = .ok (.iload 8, 2) := by decide +kernel
theorem dL_law_390 : decode cL_law 390 = .ok (.bipush 8, 2) := by decide +kernel
theorem dL_law_392 : decode cL_law 392 = .ok (.idiv, 1) := by decide +kernel
theorem dL_law_393 : decode cL_law 393 = .ok (.ishr, 1) := by decide +kernel
theorem dL_law_394 : decode cL_law 394 = .ok (.bipush 6, 2) := by decide +kernel
theorem dL_law_396 : decode cL_law 396 = .ok (.invokestatic 15, 3) := by decide +kernel
theorem dL_law_399 : decode cL_law 399 = .ok (.istore 9, 2) := by decide +kernel
theorem dL_law_401 : decode cL_law 401 = .ok (.aload_n 1, 1) := by decide +kernel
theorem dL_law_402 : decode cL_law 402 = .ok (.iload 7, 2) := by decide +kernel
theorem dL_law_404 : decode cL_law 404 = .ok (.iload 9, 2) := by decide +kernel
theorem dL_law_406 : decode cL_law 406 = .ok (.invokevirtual 93, 3) := by decide +kernel
theorem dL_law_409 : decode cL_law 409 = .ok (.istore 10, 2) := by decide +kernel
theorem dL_law_411 : decode cL_law 411 = .ok (.iload 10, 2) := by decide +kernel
theorem dL_law_413 : decode cL_law 413 = .ok (.ifCond .ge 6, 3) := by decide +kernel
theorem dL_law_416 : decode cL_law 416 = .ok (.goto 66, 3) := by decide +kernel
theorem dL_law_419 : decode cL_law 419 = .ok (.aload_n 1, 1) := by decide +kernel
theorem dL_law_420 : decode cL_law 420 = .ok (.iload 9, 2) := by decide +kernel
theorem dL_law_422 : decode cL_law 422 = .ok (.invokevirtual 96, 3) := by decide +kernel
theorem dL_law_425 : decode cL_law 425 = .ok (.istore 11, 2) := by decide +kernel
theorem dL_law_427 : decode cL_law 427 = .ok (.iload 11, 2) := by decide +kernel
theorem dL_law_429 : decode cL_law 429 = .ok (.ifCond .ge 5, 3) := by decide +kernel
theorem dL_law_432 : decode cL_law 432 = .ok (.iconst 0, 1) := by decide +kernel
theorem dL_law_433 : decode cL_law 433 = .ok (.ireturn, 1) := by decide +kernel
theorem dL_law_434 : decode cL_law 434 = .ok (.iload 10, 2) := by decide +kernel
theorem dL_law_436 : decode cL_law 436 = .ok (.istore 7, 2) := by decide +kernel
theorem dL_law_438 : decode cL_law 438 = .ok (.iconst 0, 1) := by decide +kernel
theorem dL_law_439 : decode cL_law 439 = .ok (.istore 12, 2) := by decide +kernel
theorem dL_law_441 : decode cL_law 441 = .ok (.iload 12, 2) := by decide +kernel
theorem dL_law_443 : decode cL_law 443 = .ok (.iload 6, 2) := by decide +kernel
theorem dL_law_445 : decode cL_law 445 = .ok (.bipush 30, 2) := by decide +kernel
theorem dL_law_447 : decode cL_law 447 = .ok (.invokestatic 63, 3) := by decide +kernel
theorem dL_law_450 : decode cL_law 450 = .ok (.if_icmp .ge 32, 3) := by decide +kernel
theorem dL_law_453 : decode cL_law 453 = .ok (.iload 11, 2) := by decide +kernel
theorem dL_law_455 : decode cL_law 455 = .ok (.iload 12, 2) := by decide +kernel
theorem dL_law_457 : decode cL_law 457 = .ok (.ishr, 1) := by decide +kernel
theorem dL_law_458 : decode cL_law 458 = .ok (.iconst 1, 1) := by decide +kernel
theorem dL_law_459 : decode cL_law 459 = .ok (.iand, 1) := by decide +kernel
theorem dL_law_460 : decode cL_law 460 = .ok (.aload_n 1, 1) := by decide +kernel
theorem dL_law_461 : decode cL_law 461 = .ok (.iload 12, 2) := by decide +kernel
theorem dL_law_463 : decode cL_law 463 = .ok (.invokevirtual 99, 3) := by decide +kernel
theorem dL_law_466 : decode cL_law 466 = .ok (.iload 7, 2) := by decide +kernel
theorem dL_law_468 : decode cL_law 468 = .ok (.ishr, 1) := by decide +kernel
theorem dL_law_469 : decode cL_law 469 = .ok (.iconst 1, 1) := by decide +kernel
theorem dL_law_470 : decode cL_law 470 = .ok (.iand, 1) := by decide +kernel
theorem dL_law_471 : decode cL_law 471 = .ok (.if_icmp .eq 5, 3) := by decide +kernel
theorem dL_law_474 : decode cL_law 474 = .ok (.iconst 0, 1) := by decide +kernel
theorem dL_law_475 : decode cL_law 475 = .ok (.ireturn, 1) := by decide +kernel
theorem dL_law_476 : decode cL_law 476 = .ok (.iinc 12 1, 3) := by decide +kernel
theorem dL_law_479 : decode cL_law 479 = .ok (.goto (-38), 3) := by decide +kernel
theorem dL_law_482 : decode cL_law 482 = .ok (.iinc 8 1, 3) := by decide +kernel
theorem dL_law_485 : decode cL_law 485 = .ok (.goto (-116), 3) := by decide +kernel
theorem dL_law_488 : decode cL_law 488 = .ok (.iconst 1, 1) := by decide +kernel
theorem dL_law_489 : decode cL_law 489 = .ok (.ireturn, 1) := by decide +kernel
