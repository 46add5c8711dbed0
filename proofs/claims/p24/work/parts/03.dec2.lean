theorem dL_does_214 : decode cL_does 214 = .ok (.invokevirtual 34, 3) := by decide +kernel
theorem dL_does_217 : decode cL_does 217 = .ok (.goto 4, 3) := by decide +kernel
theorem dL_does_220 : decode cL_does 220 = .ok (.iconst 0, 1) := by decide +kernel
theorem dL_does_221 : decode cL_does 221 = .ok (.ireturn, 1) := by decide +kernel
theorem dL_does_222 : decode cL_does 222 = .ok (.aload_n 0, 1) := by decide +kernel
theorem dL_does_223 : decode cL_does 223 = .ok (.iload_n 2, 1) := by decide +kernel
theorem dL_does_224 : decode cL_does 224 = .ok (.iload_n 3, 1) := by decide +kernel
theorem dL_does_225 : decode cL_does 225 = .ok (.invokevirtual 37, 3) := by decide +kernel
theorem dL_does_228 : decode cL_does 228 = .ok (.ifCond .ge 7, 3) := by decide +kernel
theorem dL_does_231 : decode cL_does 231 = .ok (.iconst 0, 1) := by decide +kernel
theorem dL_does_232 : decode cL_does 232 = .ok (.goto 9, 3) := by decide +kernel
theorem dL_does_235 : decode cL_does 235 = .ok (.aload_n 0, 1) := by decide +kernel
theorem dL_does_236 : decode cL_does 236 = .ok (.iload_n 2, 1) := by decide +kernel
theorem dL_does_237 : decode cL_does 237 = .ok (.iload_n 3, 1) := by decide +kernel
theorem dL_does_238 : decode cL_does 238 = .ok (.invokevirtual 40, 3) := by decide +kernel
theorem dL_does_241 : decode cL_does 241 = .ok (.ireturn, 1) := by decide +kernel
theorem dL_does_242 : decode cL_does 242 = .ok (.aload_n 0, 1) := by decide +kernel
theorem dL_does_243 : decode cL_does 243 = .ok (.iload_n 2, 1) := by decide +kernel
theorem dL_does_244 : decode cL_does 244 = .ok (.iload_n 3, 1) := by decide +kernel
theorem dL_does_245 : decode cL_does 245 = .ok (.ineg, 1) := by decide +kernel
theorem dL_does_246 : decode cL_does 246 = .ok (.invokevirtual 37, 3) := by decide +kernel
theorem dL_does_249 : decode cL_does 249 = .ok (.ifCond .ge 7, 3) := by decide +kernel
theorem dL_does_252 : decode cL_does 252 = .ok (.iconst 0, 1) := by decide +kernel
theorem dL_does_253 : decode cL_does 253 = .ok (.goto 9, 3) := by decide +kernel
theorem dL_does_256 : decode cL_does 256 = .ok (.aload_n 0, 1) := by decide +kernel
theorem dL_does_257 : decode cL_does 257 = .ok (.iload_n 2, 1) := by decide +kernel
theorem dL_does_258 : decode cL_does 258 = .ok (.iload_n 3, 1) := by decide +kernel
theorem dL_does_259 : decode cL_does 259 = .ok (.invokevirtual 43, 3) := by decide +kernel
theorem dL_does_262 : decode cL_does 262 = .ok (.ireturn, 1) := by decide +kernel
set_option maxRecDepth 20000 in
theorem ggL_areRodsSo_X3_rod : GoodIn wsL_areRodsSo wsX3_rod := goodIn_ca (goodIn_ca (goodIn_r _ [7, 8, 9, 10, 11, 12, 13, 14, 15, 16, 6, 17, 18, 19, 20, 21, 22, 23, 24, 25, 26, 27, 28, 29, 30, 31, 32, 33, 34, 35, 36, 37, 38, 39, 40, 41, 42, 43, 44, 45, 46, 47, 48, 49, 50, 51, 52, 53, 101, 102, 103, 104, 105, 106, 107, 108, 109, 110] (by decide +kernel) (by decide +kernel)) (goodIn_sub (fun _ h => List.mem_cons_of_mem _ (List.mem_append_left _ (List.mem_append_right _ h))) (by decide +kernel))) (goodIn_sub (fun _ h => List.mem_cons_of_mem _ (List.mem_append_right _ h)) (by decide +kernel))
set_option maxRecDepth 20000 in
theorem gL_areRodsSo_X3_rod : GoodIn wsL_areRodsSo (wsV RL 14 RX3 yX3_rod wsX3_rod) := goodIn_app (goodIn_of _ (by decide +kernel)) ggL_areRodsSo_X3_rod
set_option maxRecDepth 20000 in
theorem ggL_areRodsSo_X3_moves : GoodIn wsL_areRodsSo wsX3_moves := goodIn_ca (goodIn_ca (goodIn_r _ [57, 8, 15, 16, 6, 17, 18, 19, 20, 21, 22, 23, 24, 58, 37, 38, 28, 39, 40, 41, 42, 43, 30, 44, 45, 46, 47, 31, 48, 49, 50, 51, 52, 53, 101, 102, 103, 104, 105, 106, 107, 108, 109, 110] (by decide +kernel) (by decide +kernel)) (goodIn_sub (fun _ h => List.mem_cons_of_mem _ (List.mem_append_left _ (List.mem_append_right _ h))) (by decide +kernel))) (goodIn_sub (fun _ h => List.mem_cons_of_mem _ (List.mem_append_right _ h)) (by decide +kernel))
set_option maxRecDepth 20000 in
theorem gL_areRodsSo_X3_moves : GoodIn wsL_areRodsSo (wsV RL 46 RX3 yX3_moves wsX3_moves) := goodIn_app (goodIn_of _ (by decide +kernel)) ggL_areRodsSo_X3_moves
set_option maxRecDepth 20000 in
theorem ggL_areRodsSo_X3_whole : GoodIn wsL_areRodsSo wsX3_whole := goodIn_r _ [62, 8, 11, 63, 25, 26, 27, 28, 29, 30, 31, 101, 102, 103, 104, 105, 106, 107, 108, 109, 110] (by decide +kernel) (by decide +kernel)
set_option maxRecDepth 20000 in
theorem gL_areRodsSo_X3_whole : GoodIn wsL_areRodsSo (wsV RL 53 RX3 yX3_whole wsX3_whole) := goodIn_app (goodIn_of _ (by decide +kernel)) ggL_areRodsSo_X3_whole
set_option maxRecDepth 20000 in
theorem ggL_areRodsSo_X3_count : GoodIn wsL_areRodsSo wsX3_count := goodIn_ca (goodIn_r _ [67, 8, 68, 69, 70, 20, 21, 6, 22, 23, 24, 71, 72, 73, 28, 74, 53, 75, 76, 77, 78, 79, 80, 81, 82, 83, 84, 85, 86, 87, 88, 26, 27, 29, 30, 31, 89, 90, 91, 92, 93, 94, 95, 96, 97, 98, 99, 100, 48, 101, 102, 103, 104, 105, 106, 107, 108, 109, 110, 111, 112, 113] (by decide +kernel) (by decide +kernel)) (goodIn_sub (fun _ h => List.mem_cons_of_mem _ (List.mem_append_right _ h)) (by decide +kernel))
set_option maxRecDepth 20000 in
theorem gL_areRodsSo_X3_count : GoodIn wsL_areRodsSo (wsV RL 57 RX3 yX3_count wsX3_count) := goodIn_app (goodIn_of _ (by decide +kernel)) ggL_areRodsSo_X3_count
theorem dL_areRodsSo_0 : decode cL_areRodsSo 0 = .ok (.iconst 0, 1) := by decide +kernel
theorem dL_areRodsSo_1 : decode cL_areRodsSo 1 = .ok (.istore_n 1, 1) := by decide +kernel
theorem dL_areRodsSo_2 : decode cL_areRodsSo 2 = .ok (.iconst 0, 1) := by decide +kernel
theorem dL_areRodsSo_3 : decode cL_areRodsSo 3 = .ok (.istore_n 2, 1) := by decide +kernel
theorem dL_areRodsSo_4 : decode cL_areRodsSo 4 = .ok (.iconst 0, 1) := by decide +kernel
theorem dL_areRodsSo_5 : decode cL_areRodsSo 5 = .ok (.istore_n 3, 1) := by decide +kernel
theorem dL_areRodsSo_6 : decode cL_areRodsSo 6 = .ok (.iconst 0, 1) := by decide +kernel
theorem dL_areRodsSo_7 : decode cL_areRodsSo 7 = .ok (.istore 4, 2) := by decide +kernel
theorem dL_areRodsSo_9 : decode cL_areRodsSo 9 = .ok (.iconst 0, 1) := by decide +kernel
theorem dL_areRodsSo_10 : decode cL_areRodsSo 10 = .ok (.istore 5, 2) := by decide +kernel
theorem dL_areRodsSo_12 : decode cL_areRodsSo 12 = .ok (.iconst 0, 1) := by decide +kernel
theorem dL_areRodsSo_13 : decode cL_areRodsSo 13 = .ok (.istore 6, 2) := by decide +kernel
theorem dL_areRodsSo_15 : decode cL_areRodsSo 15 = .ok (.lconst 0, 1) := by decide +kernel
theorem dL_areRodsSo_16 : decode cL_areRodsSo 16 = .ok (.lstore 7, 2) := by decide +kernel
theorem dL_areRodsSo_18 : decode cL_areRodsSo 18 = .ok (.iconst 1, 1) := by decide +kernel
theorem dL_areRodsSo_19 : decode cL_areRodsSo 19 = .ok (.istore 9, 2) := by decide +kernel
theorem dL_areRodsSo_21 : decode cL_areRodsSo 21 = .ok (.bipush 8, 2) := by decide +kernel
theorem dL_areRodsSo_23 : decode cL_areRodsSo 23 = .ok (.istore 10, 2) := by decide +kernel
theorem dL_areRodsSo_25 : decode cL_areRodsSo 25 = .ok (.iload 10, 2) := by decide +kernel
theorem dL_areRodsSo_27 : decode cL_areRodsSo 27 = .ok (.ifCond .lt 449, 3) := by decide +kernel
theorem dL_areRodsSo_30 : decode cL_areRodsSo 30 = .ok (.aload_n 0, 1) := by decide +kernel
theorem dL_areRodsSo_31 : decode cL_areRodsSo 31 = .ok (.iload 10, 2) := by decide +kernel
theorem dL_areRodsSo_33 : decode cL_areRodsSo 33 = .ok (.iconst 0, 1) := by decide +kernel
theorem dL_areRodsSo_34 : decode cL_areRodsSo 34 = .ok (.invokevirtual 14, 3) := by decide +kernel
theorem dL_areRodsSo_37 : decode cL_areRodsSo 37 = .ok (.istore 11, 2) := by decide +kernel
theorem dL_areRodsSo_39 : decode cL_areRodsSo 39 = .ok (.aload_n 0, 1) := by decide +kernel
theorem dL_areRodsSo_40 : decode cL_areRodsSo 40 = .ok (.iload 10, 2) := by decide +kernel
theorem dL_areRodsSo_42 : decode cL_areRodsSo 42 = .ok (.iconst 1, 1) := by decide +kernel
theorem dL_areRodsSo_43 : decode cL_areRodsSo 43 = .ok (.invokevirtual 14, 3) := by decide +kernel
theorem dL_areRodsSo_46 : decode cL_areRodsSo 46 = .ok (.istore 12, 2) := by decide +kernel
theorem dL_areRodsSo_48 : decode cL_areRodsSo 48 = .ok (.aload_n 0, 1) := by decide +kernel
theorem dL_areRodsSo_49 : decode cL_areRodsSo 49 = .ok (.iload 10, 2) := by decide +kernel
theorem dL_areRodsSo_51 : decode cL_areRodsSo 51 = .ok (.iconst 3, 1) := by decide +kernel
theorem dL_areRodsSo_52 : decode cL_areRodsSo 52 = .ok (.invokevirtual 14, 3) := by decide +kernel
theorem dL_areRodsSo_55 : decode cL_areRodsSo 55 = .ok (.bipush 100, 2) := by decide +kernel
theorem dL_areRodsSo_57 : decode cL_areRodsSo 57 = .ok (.isub, 1) := by decide +kernel
theorem dL_areRodsSo_58 : decode cL_areRodsSo 58 = .ok (.istore 13, 2) := by decide +kernel
theorem dL_areRodsSo_60 : decode cL_areRodsSo 60 = .ok (.iconst 0, 1) := by decide +kernel
theorem dL_areRodsSo_61 : decode cL_areRodsSo 61 = .ok (.istore 14, 2) := by decide +kernel
theorem dL_areRodsSo_63 : decode cL_areRodsSo 63 = .ok (.iconst 0, 1) := by decide +kernel
theorem dL_areRodsSo_64 : decode cL_areRodsSo 64 = .ok (.istore 15, 2) := by decide +kernel
theorem dL_areRodsSo_66 : decode cL_areRodsSo 66 = .ok (.iload 15, 2) := by decide +kernel
theorem dL_areRodsSo_68 : decode cL_areRodsSo 68 = .ok (.bipush 16, 2) := by decide +kernel
theorem dL_areRodsSo_70 : decode cL_areRodsSo 70 = .ok (.if_icmp .ge 202, 3) := by decide +kernel
theorem dL_areRodsSo_73 : decode cL_areRodsSo 73 = .ok (.iconst (-1), 1) := by decide +kernel
theorem dL_areRodsSo_74 : decode cL_areRodsSo 74 = .ok (.istore 16, 2) := by decide +kernel
theorem dL_areRodsSo_76 : decode cL_areRodsSo 76 = .ok (.iconst 0, 1) := by decide +kernel
theorem dL_areRodsSo_77 : decode cL_areRodsSo 77 = .ok (.istore 17, 2) := by decide +kernel
theorem dL_areRodsSo_79 : decode cL_areRodsSo 79 = .ok (.iload 17, 2) := by decide +kernel
theorem dL_areRodsSo_81 : decode cL_areRodsSo 81 = .ok (.iconst 3, 1) := by decide +kernel
theorem dL_areRodsSo_82 : decode cL_areRodsSo 82 = .ok (.if_icmp .ge 144, 3) := by decide +kernel
theorem dL_areRodsSo_85 : decode cL_areRodsSo 85 = .ok (.iload 15, 2) := by decide +kernel
theorem dL_areRodsSo_87 : decode cL_areRodsSo 87 = .ok (.iconst 5, 1) := by decide +kernel
theorem dL_areRodsSo_88 : decode cL_areRodsSo 88 = .ok (.iload 17, 2) := by decide +kernel
theorem dL_areRodsSo_90 : decode cL_areRodsSo 90 = .ok (.imul, 1) := by decide +kernel
theorem dL_areRodsSo_91 : decode cL_areRodsSo 91 = .ok (.isub, 1) := by decide +kernel
theorem dL_areRodsSo_92 : decode cL_areRodsSo 92 = .ok (.istore 18, 2) := by decide +kernel
theorem dL_areRodsSo_94 : decode cL_areRodsSo 94 = .ok (.iload 18, 2) := by decide +kernel
theorem dL_areRodsSo_96 : decode cL_areRodsSo 96 = .ok (.ifCond .lt 52, 3) := by decide +kernel
theorem dL_areRodsSo_99 : decode cL_areRodsSo 99 = .ok (.iload 18, 2) := by decide +kernel
theorem dL_areRodsSo_101 : decode cL_areRodsSo 101 = .ok (.bipush 6, 2) := by decide +kernel
theorem dL_areRodsSo_103 : decode cL_areRodsSo 103 = .ok (.if_icmp .ge 45, 3) := by decide +kernel
theorem dL_areRodsSo_106 : decode cL_areRodsSo 106 = .ok (.aload_n 0, 1) := by decide +kernel
theorem dL_areRodsSo_107 : decode cL_areRodsSo 107 = .ok (.iload 10, 2) := by decide +kernel
theorem dL_areRodsSo_109 : decode cL_areRodsSo 109 = .ok (.iconst 4, 1) := by decide +kernel
theorem dL_areRodsSo_110 : decode cL_areRodsSo 110 = .ok (.invokevirtual 14, 3) := by decide +kernel
theorem dL_areRodsSo_113 : decode cL_areRodsSo 113 = .ok (.iconst 1, 1) := by decide +kernel
theorem dL_areRodsSo_114 : decode cL_areRodsSo 114 = .ok (.iand, 1) := by decide +kernel
theorem dL_areRodsSo_115 : decode cL_areRodsSo 115 = .ok (.ifCond .eq 10, 3) := by decide +kernel
theorem dL_areRodsSo_118 : decode cL_areRodsSo 118 = .ok (.iload 17, 2) := by decide +kernel
theorem dL_areRodsSo_120 : decode cL_areRodsSo 120 = .ok (.iload 11, 2) := by decide +kernel
theorem dL_areRodsSo_122 : decode cL_areRodsSo 122 = .ok (.if_icmp .ne 26, 3) := by decide +kernel
theorem dL_areRodsSo_125 : decode cL_areRodsSo 125 = .ok (.aload_n 0, 1) := by decide +kernel
theorem dL_areRodsSo_126 : decode cL_areRodsSo 126 = .ok (.iload 10, 2) := by decide +kernel
theorem dL_areRodsSo_128 : decode cL_areRodsSo 128 = .ok (.iconst 4, 1) := by decide +kernel
theorem dL_areRodsSo_129 : decode cL_areRodsSo 129 = .ok (.invokevirtual 14, 3) := by decide +kernel
theorem dL_areRodsSo_132 : decode cL_areRodsSo 132 = .ok (.iconst 2, 1) := by decide +kernel
theorem dL_areRodsSo_133 : decode cL_areRodsSo 133 = .ok (.iand, 1) := by decide +kernel
theorem dL_areRodsSo_134 : decode cL_areRodsSo 134 = .ok (.ifCond .eq 10, 3) := by decide +kernel
theorem dL_areRodsSo_137 : decode cL_areRodsSo 137 = .ok (.iload 18, 2) := by decide +kernel
theorem dL_areRodsSo_139 : decode cL_areRodsSo 139 = .ok (.iload 12, 2) := by decide +kernel
theorem dL_areRodsSo_141 : decode cL_areRodsSo 141 = .ok (.if_icmp .ne 7, 3) := by decide +kernel
theorem dL_areRodsSo_144 : decode cL_areRodsSo 144 = .ok (.iconst 1, 1) := by decide +kernel
theorem dL_areRodsSo_145 : decode cL_areRodsSo 145 = .ok (.goto 4, 3) := by decide +kernel
theorem dL_areRodsSo_148 : decode cL_areRodsSo 148 = .ok (.iconst 0, 1) := by decide +kernel
theorem dL_areRodsSo_149 : decode cL_areRodsSo 149 = .ok (.istore 19, 2) := by decide +kernel
theorem dL_areRodsSo_151 : decode cL_areRodsSo 151 = .ok (.iload 17, 2) := by decide +kernel
theorem dL_areRodsSo_153 : decode cL_areRodsSo 153 = .ok (.iload 11, 2) := by decide +kernel
theorem dL_areRodsSo_155 : decode cL_areRodsSo 155 = .ok (.if_icmp .le 11, 3) := by decide +kernel
theorem dL_areRodsSo_158 : decode cL_areRodsSo 158 = .ok (.iload 17, 2) := by decide +kernel
theorem dL_areRodsSo_160 : decode cL_areRodsSo 160 = .ok (.iload 11, 2) := by decide +kernel
theorem dL_areRodsSo_162 : decode cL_areRodsSo 162 = .ok (.isub, 1) := by decide +kernel
theorem dL_areRodsSo_163 : decode cL_areRodsSo 163 = .ok (.goto 8, 3) := by decide +kernel
theorem dL_areRodsSo_166 : decode cL_areRodsSo 166 = .ok (.iload 11, 2) := by decide +kernel
theorem dL_areRodsSo_168 : decode cL_areRodsSo 168 = .ok (.iload 17, 2) := by decide +kernel
theorem dL_areRodsSo_170 : decode cL_areRodsSo 170 = .ok (.isub, 1) := by decide +kernel
theorem dL_areRodsSo_171 : decode cL_areRodsSo 171 = .ok (.iload 18, 2) := by decide +kernel
theorem dL_areRodsSo_173 : decode cL_areRodsSo 173 = .ok (.iload 12, 2) := by decide +kernel
theorem dL_areRodsSo_175 : decode cL_areRodsSo 175 = .ok (.if_icmp .le 11, 3) := by decide +kernel
theorem dL_areRodsSo_178 : decode cL_areRodsSo 178 = .ok (.iload 18, 2) := by decide +kernel
theorem dL_areRodsSo_180 : decode cL_areRodsSo 180 = .ok (.iload 12, 2) := by decide +kernel
theorem dL_areRodsSo_182 : decode cL_areRodsSo 182 = .ok (.isub, 1) := by decide +kernel
theorem dL_areRodsSo_183 : decode cL_areRodsSo 183 = .ok (.goto 8, 3) := by decide +kernel
theorem dL_areRodsSo_186 : decode cL_areRodsSo 186 = .ok (.iload 12, 2) := by decide +kernel
theorem dL_areRodsSo_188 : decode cL_areRodsSo 188 = .ok (.iload 18, 2) := by decide +kernel
theorem dL_areRodsSo_190 : decode cL_areRodsSo 190 = .ok (.isub, 1) := by decide +kernel
theorem dL_areRodsSo_191 : decode cL_areRodsSo 191 = .ok (.iadd, 1) := by decide +kernel
theorem dL_areRodsSo_192 : decode cL_areRodsSo 192 = .ok (.istore 20, 2) := by decide +kernel
theorem dL_areRodsSo_194 : decode cL_areRodsSo 194 = .ok (.iload 19, 2) := by decide +kernel
theorem dL_areRodsSo_196 : decode cL_areRodsSo 196 = .ok (.ifCond .eq 20, 3) := by decide +kernel
theorem dL_areRodsSo_199 : decode cL_areRodsSo 199 = .ok (.iload 16, 2) := by decide +kernel
theorem dL_areRodsSo_201 : decode cL_areRodsSo 201 = .ok (.ifCond .lt 10, 3) := by decide +kernel
theorem dL_areRodsSo_204 : decode cL_areRodsSo 204 = .ok (.iload 20, 2) := by decide +kernel
theorem dL_areRodsSo_206 : decode cL_areRodsSo 206 = .ok (.iload 16, 2) := by decide +kernel
theorem dL_areRodsSo_208 : decode cL_areRodsSo 208 = .ok (.if_icmp .ge 8, 3) := by decide +kernel
theorem dL_areRodsSo_211 : decode cL_areRodsSo 211 = .ok (.iload 20, 2) := by decide +kernel
theorem dL_areRodsSo_213 : decode cL_areRodsSo 213 = .ok (.goto 5, 3) := by decide +kernel
theorem dL_areRodsSo_216 : decode cL_areRodsSo 216 = .ok (.iload 16, 2) := by decide +kernel
theorem dL_areRodsSo_218 : decode cL_areRodsSo 218 = .ok (.istore 16, 2) := by decide +kernel
theorem dL_areRodsSo_220 : decode cL_areRodsSo 220 = .ok (.iinc 17 1, 3) := by decide +kernel
theorem dL_areRodsSo_223 : decode cL_areRodsSo 223 = .ok (.goto (-144), 3) := by decide +kernel
theorem dL_areRodsSo_226 : decode cL_areRodsSo 226 = .ok (.iload 14, 2) := by decide +kernel
theorem dL_areRodsSo_228 : decode cL_areRodsSo 228 = .ok (.iload 16, 2) := by decide +kernel
theorem dL_areRodsSo_230 : decode cL_areRodsSo 230 = .ok (.ifCond .lt 7, 3) := by decide +kernel
theorem dL_areRodsSo_233 : decode cL_areRodsSo 233 = .ok (.iconst 1, 1) := by decide +kernel
theorem dL_areRodsSo_234 : decode cL_areRodsSo 234 = .ok (.goto 4, 3) := by decide +kernel
theorem dL_areRodsSo_237 : decode cL_areRodsSo 237 = .ok (.iconst 0, 1) := by decide +kernel
theorem dL_areRodsSo_238 : decode cL_areRodsSo 238 = .ok (.iadd, 1) := by decide +kernel
theorem dL_areRodsSo_239 : decode cL_areRodsSo 239 = .ok (.istore 14, 2) := by decide +kernel
theorem dL_areRodsSo_241 : decode cL_areRodsSo 241 = .ok (.iload 9, 2) := by decide +kernel
theorem dL_areRodsSo_243 : decode cL_areRodsSo 243 = .ok (.ifCond .eq 20, 3) := by decide +kernel
theorem dL_areRodsSo_246 : decode cL_areRodsSo 246 = .ok (.aload_n 0, 1) := by decide +kernel
theorem dL_areRodsSo_247 : decode cL_areRodsSo 247 = .ok (.iload 10, 2) := by decide +kernel
theorem dL_areRodsSo_249 : decode cL_areRodsSo 249 = .ok (.iload 15, 2) := by decide +kernel
theorem dL_areRodsSo_251 : decode cL_areRodsSo 251 = .ok (.invokevirtual 46, 3) := by decide +kernel
theorem dL_areRodsSo_254 : decode cL_areRodsSo 254 = .ok (.iload 16, 2) := by decide +kernel
theorem dL_areRodsSo_256 : decode cL_areRodsSo 256 = .ok (.if_icmp .ne 7, 3) := by decide +kernel
theorem dL_areRodsSo_259 : decode cL_areRodsSo 259 = .ok (.iconst 1, 1) := by decide +kernel
theorem dL_areRodsSo_260 : decode cL_areRodsSo 260 = .ok (.goto 4, 3) := by decide +kernel
theorem dL_areRodsSo_263 : decode cL_areRodsSo 263 = .ok (.iconst 0, 1) := by decide +kernel
theorem dL_areRodsSo_264 : decode cL_areRodsSo 264 = .ok (.istore 9, 2) := by decide +kernel
theorem dL_areRodsSo_266 : decode cL_areRodsSo 266 = .ok (.iinc 15 1, 3) := by decide +kernel
theorem dL_areRodsSo_269 : decode cL_areRodsSo 269 = .ok (.goto (-203), 3) := by decide +kernel
theorem dL_areRodsSo_272 : decode cL_areRodsSo 272 = .ok (.iload_n 1, 1) := by decide +kernel
theorem dL_areRodsSo_273 : decode cL_areRodsSo 273 = .ok (.aload_n 0, 1) := by decide +kernel
theorem dL_areRodsSo_274 : decode cL_areRodsSo 274 = .ok (.iload 10, 2) := by decide +kernel
theorem dL_areRodsSo_276 : decode cL_areRodsSo 276 = .ok (.iconst 5, 1) := by decide +kernel
theorem dL_areRodsSo_277 : decode cL_areRodsSo 277 = .ok (.invokevirtual 14, 3) := by decide +kernel
theorem dL_areRodsSo_280 : decode cL_areRodsSo 280 = .ok (.iadd, 1) := by decide +kernel
theorem dL_areRodsSo_281 : decode cL_areRodsSo 281 = .ok (.istore_n 1, 1) := by decide +kernel
theorem dL_areRodsSo_282 : decode cL_areRodsSo 282 = .ok (.iload_n 2, 1) := by decide +kernel
theorem dL_areRodsSo_283 : decode cL_areRodsSo 283 = .ok (.iload 13, 2) := by decide +kernel
theorem dL_areRodsSo_285 : decode cL_areRodsSo 285 = .ok (.iadd, 1) := by decide +kernel
theorem dL_areRodsSo_286 : decode cL_areRodsSo 286 = .ok (.istore_n 2, 1) := by decide +kernel
theorem dL_areRodsSo_287 : decode cL_areRodsSo 287 = .ok (.iload_n 3, 1) := by decide +kernel
theorem dL_areRodsSo_288 : decode cL_areRodsSo 288 = .ok (.iload 13, 2) := by decide +kernel
theorem dL_areRodsSo_290 : decode cL_areRodsSo 290 = .ok (.ifCond .ne 7, 3) := by decide +kernel
theorem dL_areRodsSo_293 : decode cL_areRodsSo 293 = .ok (.iconst 0, 1) := by decide +kernel
theorem dL_areRodsSo_294 : decode cL_areRodsSo 294 = .ok (.goto 4, 3) := by decide +kernel
theorem dL_areRodsSo_297 : decode cL_areRodsSo 297 = .ok (.iconst 1, 1) := by decide +kernel
theorem dL_areRodsSo_298 : decode cL_areRodsSo 298 = .ok (.iadd, 1) := by decide +kernel
theorem dL_areRodsSo_299 : decode cL_areRodsSo 299 = .ok (.istore_n 3, 1) := by decide +kernel
theorem dL_areRodsSo_300 : decode cL_areRodsSo 300 = .ok (.iload 4, 2) := by decide +kernel
theorem dL_areRodsSo_302 : decode cL_areRodsSo 302 = .ok (.aload_n 0, 1) := by decide +kernel
theorem dL_areRodsSo_303 : decode cL_areRodsSo 303 = .ok (.iload 10, 2) := by decide +kernel
theorem dL_areRodsSo_305 : decode cL_areRodsSo 305 = .ok (.iconst 2, 1) := by decide +kernel
theorem dL_areRodsSo_306 : decode cL_areRodsSo 306 = .ok (.invokevirtual 14, 3) := by decide +kernel
theorem dL_areRodsSo_309 : decode cL_areRodsSo 309 = .ok (.iadd, 1) := by decide +kernel
theorem dL_areRodsSo_310 : decode cL_areRodsSo 310 = .ok (.istore 4, 2) := by decide +kernel
theorem dL_areRodsSo_312 : decode cL_areRodsSo 312 = .ok (.iload 5, 2) := by decide +kernel
theorem dL_areRodsSo_314 : decode cL_areRodsSo 314 = .ok (.aload_n 0, 1) := by decide +kernel
theorem dL_areRodsSo_315 : decode cL_areRodsSo 315 = .ok (.iload 10, 2) := by decide +kernel
theorem dL_areRodsSo_317 : decode cL_areRodsSo 317 = .ok (.iconst 2, 1) := by decide +kernel
theorem dL_areRodsSo_318 : decode cL_areRodsSo 318 = .ok (.invokevirtual 14, 3) := by decide +kernel
theorem dL_areRodsSo_321 : decode cL_areRodsSo 321 = .ok (.bipush 9, 2) := by decide +kernel
theorem dL_areRodsSo_323 : decode cL_areRodsSo 323 = .ok (.if_icmp .le 7, 3) := by decide +kernel
theorem dL_areRodsSo_326 : decode cL_areRodsSo 326 = .ok (.iconst 1, 1) := by decide +kernel
theorem dL_areRodsSo_327 : decode cL_areRodsSo 327 = .ok (.goto 4, 3) := by decide +kernel
theorem dL_areRodsSo_330 : decode cL_areRodsSo 330 = .ok (.iconst 0, 1) := by decide +kernel
theorem dL_areRodsSo_331 : decode cL_areRodsSo 331 = .ok (.iadd, 1) := by decide +kernel
theorem dL_areRodsSo_332 : decode cL_areRodsSo 332 = .ok (.istore 5, 2) := by decide +kernel
theorem dL_areRodsSo_334 : decode cL_areRodsSo 334 = .ok (.iload 6, 2) := by decide +kernel
theorem dL_areRodsSo_336 : decode cL_areRodsSo 336 = .ok (.aload_n 0, 1) := by decide +kernel
theorem dL_areRodsSo_337 : decode cL_areRodsSo 337 = .ok (.iload 10, 2) := by decide +kernel
theorem dL_areRodsSo_339 : decode cL_areRodsSo 339 = .ok (.iconst 4, 1) := by decide +kernel
theorem dL_areRodsSo_340 : decode cL_areRodsSo 340 = .ok (.invokevirtual 14, 3) := by decide +kernel
theorem dL_areRodsSo_343 : decode cL_areRodsSo 343 = .ok (.ifCond .le 7, 3) := by decide +kernel
theorem dL_areRodsSo_346 : decode cL_areRodsSo 346 = .ok (.iconst 1, 1) := by decide +kernel
theorem dL_areRodsSo_347 : decode cL_areRodsSo 347 = .ok (.goto 4, 3) := by decide +kernel
theorem dL_areRodsSo_350 : decode cL_areRodsSo 350 = .ok (.iconst 0, 1) := by decide +kernel
theorem dL_areRodsSo_351 : decode cL_areRodsSo 351 = .ok (.iadd, 1) := by decide +kernel
theorem dL_areRodsSo_352 : decode cL_areRodsSo 352 = .ok (.istore 6, 2) := by decide +kernel
theorem dL_areRodsSo_354 : decode cL_areRodsSo 354 = .ok (.ldc2_w 49, 3) := by decide +kernel
theorem dL_areRodsSo_357 : decode cL_areRodsSo 357 = .ok (.lload 7, 2) := by decide +kernel
theorem dL_areRodsSo_359 : decode cL_areRodsSo 359 = .ok (.lmul, 1) := by decide +kernel
theorem dL_areRodsSo_360 : decode cL_areRodsSo 360 = .ok (.aload_n 0, 1) := by decide +kernel
theorem dL_areRodsSo_361 : decode cL_areRodsSo 361 = .ok (.iload 10, 2) := by decide +kernel
theorem dL_areRodsSo_363 : decode cL_areRodsSo 363 = .ok (.iconst 2, 1) := by decide +kernel
theorem dL_areRodsSo_364 : decode cL_areRodsSo 364 = .ok (.invokevirtual 14, 3) := by decide +kernel
theorem dL_areRodsSo_367 : decode cL_areRodsSo 367 = .ok (.i2l, 1) := by decide +kernel
theorem dL_areRodsSo_368 : decode cL_areRodsSo 368 = .ok (.ladd, 1) := by decide +kernel
theorem dL_areRodsSo_369 : decode cL_areRodsSo 369 = .ok (.iload 13, 2) := by decide +kernel
theorem dL_areRodsSo_371 : decode cL_areRodsSo 371 = .ok (.i2l, 1) := by decide +kernel
theorem dL_areRodsSo_372 : decode cL_areRodsSo 372 = .ok (.ladd, 1) := by decide +kernel
theorem dL_areRodsSo_373 : decode cL_areRodsSo 373 = .ok (.lstore 7, 2) := by decide +kernel
theorem dL_areRodsSo_375 : decode cL_areRodsSo 375 = .ok (.iload 9, 2) := by decide +kernel
theorem dL_areRodsSo_377 : decode cL_areRodsSo 377 = .ok (.ifCond .eq 90, 3) := by decide +kernel
theorem dL_areRodsSo_380 : decode cL_areRodsSo 380 = .ok (.iload 11, 2) := by decide +kernel
theorem dL_areRodsSo_382 : decode cL_areRodsSo 382 = .ok (.ifCond .lt 85, 3) := by decide +kernel
theorem dL_areRodsSo_385 : decode cL_areRodsSo 385 = .ok (.iload 11, 2) := by decide +kernel
theorem dL_areRodsSo_387 : decode cL_areRodsSo 387 = .ok (.iconst 3, 1) := by decide +kernel
theorem dL_areRodsSo_388 : decode cL_areRodsSo 388 = .ok (.if_icmp .ge 79, 3) := by decide +kernel
theorem dL_areRodsSo_391 : decode cL_areRodsSo 391 = .ok (.iload 12, 2) := by decide +kernel
theorem dL_areRodsSo_393 : decode cL_areRodsSo 393 = .ok (.ifCond .lt 74, 3) := by decide +kernel
theorem dL_areRodsSo_396 : decode cL_areRodsSo 396 = .ok (.iload 12, 2) := by decide +kernel
theorem dL_areRodsSo_398 : decode cL_areRodsSo 398 = .ok (.bipush 6, 2) := by decide +kernel
theorem dL_areRodsSo_400 : decode cL_areRodsSo 400 = .ok (.if_icmp .ge 67, 3) := by decide +kernel
theorem dL_areRodsSo_403 : decode cL_areRodsSo 403 = .ok (.aload_n 0, 1) := by decide +kernel
theorem dL_areRodsSo_404 : decode cL_areRodsSo 404 = .ok (.iload 10, 2) := by decide +kernel
theorem dL_areRodsSo_406 : decode cL_areRodsSo 406 = .ok (.iconst 2, 1) := by decide +kernel
theorem dL_areRodsSo_407 : decode cL_areRodsSo 407 = .ok (.invokevirtual 14, 3) := by decide +kernel
theorem dL_areRodsSo_410 : decode cL_areRodsSo 410 = .ok (.iconst 5, 1) := by decide +kernel
theorem dL_areRodsSo_411 : decode cL_areRodsSo 411 = .ok (.iload 11, 2) := by decide +kernel
theorem dL_areRodsSo_413 : decode cL_areRodsSo 413 = .ok (.imul, 1) := by decide +kernel
theorem dL_areRodsSo_414 : decode cL_areRodsSo 414 = .ok (.iload 12, 2) := by decide +kernel
theorem dL_areRodsSo_416 : decode cL_areRodsSo 416 = .ok (.iadd, 1) := by decide +kernel
theorem dL_areRodsSo_417 : decode cL_areRodsSo 417 = .ok (.if_icmp .ne 50, 3) := by decide +kernel
theorem dL_areRodsSo_420 : decode cL_areRodsSo 420 = .ok (.iload 13, 2) := by decide +kernel
theorem dL_areRodsSo_422 : decode cL_areRodsSo 422 = .ok (.bipush (-10), 2) := by decide +kernel
theorem dL_areRodsSo_424 : decode cL_areRodsSo 424 = .ok (.if_icmp .le 43, 3) := by decide +kernel
theorem dL_areRodsSo_427 : decode cL_areRodsSo 427 = .ok (.iload 13, 2) := by decide +kernel
theorem dL_areRodsSo_429 : decode cL_areRodsSo 429 = .ok (.bipush 10, 2) := by decide +kernel
theorem dL_areRodsSo_431 : decode cL_areRodsSo 431 = .ok (.if_icmp .ge 36, 3) := by decide +kernel
theorem dL_areRodsSo_434 : decode cL_areRodsSo 434 = .ok (.iload 14, 2) := by decide +kernel
theorem dL_areRodsSo_436 : decode cL_areRodsSo 436 = .ok (.aload_n 0, 1) := by decide +kernel
theorem dL_areRodsSo_437 : decode cL_areRodsSo 437 = .ok (.iload 10, 2) := by decide +kernel
theorem dL_areRodsSo_439 : decode cL_areRodsSo 439 = .ok (.bipush 7, 2) := by decide +kernel
theorem dL_areRodsSo_441 : decode cL_areRodsSo 441 = .ok (.invokevirtual 14, 3) := by decide +kernel
theorem dL_areRodsSo_444 : decode cL_areRodsSo 444 = .ok (.if_icmp .ne 23, 3) := by decide +kernel
theorem dL_areRodsSo_447 : decode cL_areRodsSo 447 = .ok (.aload_n 0, 1) := by decide +kernel
theorem dL_areRodsSo_448 : decode cL_areRodsSo 448 = .ok (.iload 10, 2) := by decide +kernel
theorem dL_areRodsSo_450 : decode cL_areRodsSo 450 = .ok (.aload_n 0, 1) := by decide +kernel
theorem dL_areRodsSo_451 : decode cL_areRodsSo 451 = .ok (.iload 10, 2) := by decide +kernel
theorem dL_areRodsSo_453 : decode cL_areRodsSo 453 = .ok (.iconst 2, 1) := by decide +kernel
theorem dL_areRodsSo_454 : decode cL_areRodsSo 454 = .ok (.invokevirtual 14, 3) := by decide +kernel
theorem dL_areRodsSo_457 : decode cL_areRodsSo 457 = .ok (.invokevirtual 46, 3) := by decide +kernel
theorem dL_areRodsSo_460 : decode cL_areRodsSo 460 = .ok (.ifCond .ne 7, 3) := by decide +kernel
theorem dL_areRodsSo_463 : decode cL_areRodsSo 463 = .ok (.iconst 1, 1) := by decide +kernel
theorem dL_areRodsSo_464 : decode cL_areRodsSo 464 = .ok (.goto 4, 3) := by decide +kernel
theorem dL_areRodsSo_467 : decode cL_areRodsSo 467 = .ok (.iconst 0, 1) := by decide +kernel
theorem dL_areRodsSo_468 : decode cL_areRodsSo 468 = .ok (.istore 9, 2) := by decide +kernel
theorem dL_areRodsSo_470 : decode cL_areRodsSo 470 = .ok (.iinc 10 (-1), 3) := by decide +kernel
theorem dL_areRodsSo_473 : decode cL_areRodsSo 473 = .ok (.goto (-448), 3) := by decide +kernel
theorem dL_areRodsSo_476 : decode cL_areRodsSo 476 = .ok (.lload 7, 2) := by decide +kernel
theorem dL_areRodsSo_478 : decode cL_areRodsSo 478 = .ok (.ldc2_w 51, 3) := by decide +kernel
theorem dL_areRodsSo_481 : decode cL_areRodsSo 481 = .ok (.lrem, 1) := by decide +kernel
theorem dL_areRodsSo_482 : decode cL_areRodsSo 482 = .ok (.lstore 10, 2) := by decide +kernel
theorem dL_areRodsSo_484 : decode cL_areRodsSo 484 = .ok (.iload 9, 2) := by decide +kernel
theorem dL_areRodsSo_486 : decode cL_areRodsSo 486 = .ok (.ifCond .eq 94, 3) := by decide +kernel
theorem dL_areRodsSo_489 : decode cL_areRodsSo 489 = .ok (.lload 7, 2) := by decide +kernel
theorem dL_areRodsSo_491 : decode cL_areRodsSo 491 = .ok (.aload_n 0, 1) := by decide +kernel
theorem dL_areRodsSo_492 : decode cL_areRodsSo 492 = .ok (.invokevirtual 53, 3) := by decide +kernel
theorem dL_areRodsSo_495 : decode cL_areRodsSo 495 = .ok (.lcmp, 1) := by decide +kernel
theorem dL_areRodsSo_496 : decode cL_areRodsSo 496 = .ok (.ifCond .ne 84, 3) := by decide +kernel
theorem dL_areRodsSo_499 : decode cL_areRodsSo 499 = .ok (.iload_n 1, 1) := by decide +kernel
theorem dL_areRodsSo_500 : decode cL_areRodsSo 500 = .ok (.aload_n 0, 1) := by decide +kernel
theorem dL_areRodsSo_501 : decode cL_areRodsSo 501 = .ok (.iconst 0, 1) := by decide +kernel
theorem dL_areRodsSo_502 : decode cL_areRodsSo 502 = .ok (.invokevirtual 57, 3) := by decide +kernel
theorem dL_areRodsSo_505 : decode cL_areRodsSo 505 = .ok (.if_icmp .ne 75, 3) := by decide +kernel
theorem dL_areRodsSo_508 : decode cL_areRodsSo 508 = .ok (.iload_n 3, 1) := by decide +kernel
theorem dL_areRodsSo_509 : decode cL_areRodsSo 509 = .ok (.aload_n 0, 1) := by decide +kernel
theorem dL_areRodsSo_510 : decode cL_areRodsSo 510 = .ok (.iconst 1, 1) := by decide +kernel
theorem dL_areRodsSo_511 : decode cL_areRodsSo 511 = .ok (.invokevirtual 57, 3) := by decide +kernel
theorem dL_areRodsSo_514 : decode cL_areRodsSo 514 = .ok (.if_icmp .ne 66, 3) := by decide +kernel
theorem dL_areRodsSo_517 : decode cL_areRodsSo 517 = .ok (.iload_n 2, 1) := by decide +kernel
theorem dL_areRodsSo_518 : decode cL_areRodsSo 518 = .ok (.bipush 100, 2) := by decide +kernel
theorem dL_areRodsSo_520 : decode cL_areRodsSo 520 = .ok (.iadd, 1) := by decide +kernel
theorem dL_areRodsSo_521 : decode cL_areRodsSo 521 = .ok (.aload_n 0, 1) := by decide +kernel
theorem dL_areRodsSo_522 : decode cL_areRodsSo 522 = .ok (.iconst 2, 1) := by decide +kernel
theorem dL_areRodsSo_523 : decode cL_areRodsSo 523 = .ok (.invokevirtual 57, 3) := by decide +kernel
theorem dL_areRodsSo_526 : decode cL_areRodsSo 526 = .ok (.if_icmp .ne 54, 3) := by decide +kernel
theorem dL_areRodsSo_529 : decode cL_areRodsSo 529 = .ok (.aload_n 0, 1) := by decide +kernel
theorem dL_areRodsSo_530 : decode cL_areRodsSo 530 = .ok (.iconst 3, 1) := by decide +kernel
theorem dL_areRodsSo_531 : decode cL_areRodsSo 531 = .ok (.invokevirtual 57, 3) := by decide +kernel
theorem dL_areRodsSo_534 : decode cL_areRodsSo 534 = .ok (.lload 10, 2) := by decide +kernel
theorem dL_areRodsSo_536 : decode cL_areRodsSo 536 = .ok (.lconst 0, 1) := by decide +kernel
theorem dL_areRodsSo_537 : decode cL_areRodsSo 537 = .ok (.lcmp, 1) := by decide +kernel
theorem dL_areRodsSo_538 : decode cL_areRodsSo 538 = .ok (.ifCond .ge 12, 3) := by decide +kernel
theorem dL_areRodsSo_541 : decode cL_areRodsSo 541 = .ok (.lload 10, 2) := by decide +kernel
theorem dL_areRodsSo_543 : decode cL_areRodsSo 543 = .ok (.ldc2_w 51, 3) := by decide +kernel
theorem dL_areRodsSo_546 : decode cL_areRodsSo 546 = .ok (.ladd, 1) := by decide +kernel
theorem dL_areRodsSo_547 : decode cL_areRodsSo 547 = .ok (.goto 5, 3) := by decide +kernel
theorem dL_areRodsSo_550 : decode cL_areRodsSo 550 = .ok (.lload 10, 2) := by decide +kernel
theorem dL_areRodsSo_552 : decode cL_areRodsSo 552 = .ok (.l2i, 1) := by decide +kernel
theorem dL_areRodsSo_553 : decode cL_areRodsSo 553 = .ok (.if_icmp .ne 27, 3) := by decide +kernel
theorem dL_areRodsSo_556 : decode cL_areRodsSo 556 = .ok (.iload 5, 2) := by decide +kernel
theorem dL_areRodsSo_558 : decode cL_areRodsSo 558 = .ok (.aload_n 0, 1) := by decide +kernel
theorem dL_areRodsSo_559 : decode cL_areRodsSo 559 = .ok (.iconst 4, 1) := by decide +kernel
theorem dL_areRodsSo_560 : decode cL_areRodsSo 560 = .ok (.invokevirtual 57, 3) := by decide +kernel
theorem dL_areRodsSo_563 : decode cL_areRodsSo 563 = .ok (.if_icmp .ne 17, 3) := by decide +kernel
theorem dL_areRodsSo_566 : decode cL_areRodsSo 566 = .ok (.iload 6, 2) := by decide +kernel
theorem dL_areRodsSo_568 : decode cL_areRodsSo 568 = .ok (.aload_n 0, 1) := by decide +kernel
theorem dL_areRodsSo_569 : decode cL_areRodsSo 569 = .ok (.iconst 5, 1) := by decide +kernel
theorem dL_areRodsSo_570 : decode cL_areRodsSo 570 = .ok (.invokevirtual 57, 3) := by decide +kernel
theorem dL_areRodsSo_573 : decode cL_areRodsSo 573 = .ok (.if_icmp .ne 7, 3) := by decide +kernel
theorem dL_areRodsSo_576 : decode cL_areRodsSo 576 = .ok (.iconst 1, 1) := by decide +kernel
theorem dL_areRodsSo_577 : decode cL_areRodsSo 577 = .ok (.goto 4, 3) := by decide +kernel
theorem dL_areRodsSo_580 : decode cL_areRodsSo 580 = .ok (.iconst 0, 1) := by decide +kernel
theorem dL_areRodsSo_581 : decode cL_areRodsSo 581 = .ok (.ireturn, 1) := by decide +kernel
theorem dL_power_0 : decode cL_power 0 = .ok (.lconst 1, 1) := by decide +kernel
theorem dL_power_1 : decode cL_power 1 = .ok (.lstore_n 1, 1) := by decide +kernel
theorem dL_power_2 : decode cL_power 2 = .ok (.iconst 0, 1) := by decide +kernel
theorem dL_power_3 : decode cL_power 3 = .ok (.istore_n 3, 1) := by decide +kernel
theorem dL_power_4 : decode cL_power 4 = .ok (.iload_n 3, 1) := by decide +kernel
theorem dL_power_5 : decode cL_power 5 = .ok (.iload_n 0, 1) := by decide +kernel
theorem dL_power_6 : decode cL_power 6 = .ok (.if_icmp .ge 15, 3) := by decide +kernel
theorem dL_power_9 : decode cL_power 9 = .ok (.lload_n 1, 1) := by decide +kernel
theorem dL_power_10 : decode cL_power 10 = .ok (.ldc2_w 49, 3) := by decide +kernel
theorem dL_power_13 : decode cL_power 13 = .ok (.lmul, 1) := by decide +kernel
theorem dL_power_14 : decode cL_power 14 = .ok (.lstore_n 1, 1) := by decide +kernel
theorem dL_power_15 : decode cL_power 15 = .ok (.iinc 3 1, 3) := by decide +kernel
theorem dL_power_18 : decode cL_power 18 = .ok (.goto (-14), 3) := by decide +kernel
theorem dL_power_21 : decode cL_power 21 = .ok (.lload_n 1, 1) := by decide +kernel
theorem dL_power_22 : decode cL_power 22 = .ok (.lreturn, 1) := by decide +kernel
set_option maxRecDepth 20000 in
theorem ggL_isAddedSo_X3_ifAdded : GoodIn wsL_isAddedSo wsX3_ifAdded := goodIn_ca (goodIn_ca (goodIn_r _ [5, 6, 7, 8, 4, 9, 10, 11, 12, 13, 14, 15, 16, 17, 18, 19, 20, 21, 22, 23, 24, 25, 26, 27, 28, 29, 30, 31, 32, 33, 34, 35, 36, 37, 38, 39, 40, 41, 42, 43, 44, 45, 46, 47, 48, 49, 50, 51, 52, 53, 54, 55, 56, 138, 139, 140, 141, 142, 143, 144, 145, 146, 147] (by decide +kernel) (by decide +kernel)) (goodIn_sub (fun _ h => List.mem_cons_of_mem _ (List.mem_append_left _ (List.mem_append_left _ (List.mem_append_right _ h)))) (by decide +kernel))) (goodIn_sub (fun _ h => List.mem_cons_of_mem _ (List.mem_append_left _ (List.mem_append_right _ h))) (by decide +kernel))
set_option maxRecDepth 20000 in
theorem gL_isAddedSo_X3_ifAdded : GoodIn wsL_isAddedSo (wsV RL 37 RX3 yX3_ifAdded wsX3_ifAdded) := goodIn_app (goodIn_of _ (by decide +kernel)) ggL_isAddedSo_X3_ifAdded
set_option maxRecDepth 20000 in
theorem ggL_isAddedSo_X3_whole : GoodIn wsL_isAddedSo wsX3_whole := goodIn_r _ [60, 6, 61, 62, 63, 23, 24, 20, 25, 26, 27, 138, 139, 140, 141, 142, 143, 144, 145, 146, 147] (by decide +kernel) (by decide +kernel)
set_option maxRecDepth 20000 in
theorem gL_isAddedSo_X3_whole : GoodIn wsL_isAddedSo (wsV RL 53 RX3 yX3_whole wsX3_whole) := goodIn_app (goodIn_of _ (by decide +kernel)) ggL_isAddedSo_X3_whole
set_option maxRecDepth 20000 in
theorem ggL_isAddedSo_X3_count : GoodIn wsL_isAddedSo wsX3_count := goodIn_ca (goodIn_r _ [67, 6, 68, 69, 70, 12, 13, 4, 14, 15, 16, 71, 72, 73, 20, 74, 45, 75, 76, 77, 78, 54, 79, 80, 81, 82, 83, 84, 85, 86, 22, 23, 24, 25, 26, 27, 87, 88, 89, 90, 91, 92, 93, 94, 95, 96, 97, 98, 40, 138, 139, 140, 141, 142, 143, 144, 145, 146, 147, 148, 149, 150] (by decide +kernel) (by decide +kernel)) (goodIn_sub (fun _ h => List.mem_cons_of_mem _ (List.mem_append_left _ (List.mem_append_right _ h))) (by decide +kernel))
set_option maxRecDepth 20000 in
theorem gL_isAddedSo_X3_count : GoodIn wsL_isAddedSo (wsV RL 57 RX3 yX3_count wsX3_count) := goodIn_app (goodIn_of _ (by decide +kernel)) ggL_isAddedSo_X3_count
set_option maxRecDepth 20000 in
theorem ggL_isAddedSo_X3_add : GoodIn wsL_isAddedSo wsX3_add := goodIn_ca (goodIn_ca (goodIn_ca (goodIn_r _ [102, 7, 8, 4, 9, 10, 11, 12, 13, 14, 15, 16, 103, 104, 105, 106, 107, 108, 6, 69, 17, 18, 19, 20, 21, 22, 23, 24, 25, 26, 27, 28, 29, 30, 31, 32, 33, 34, 35, 36, 37, 38, 39, 40, 41, 42, 43, 44, 45, 46, 47, 48, 49, 50, 51, 52, 53, 54, 55, 56, 109, 110, 111, 112, 113, 114, 115, 116, 117, 118, 119, 120, 138, 139, 140, 141, 142, 143, 144, 145, 146, 147, 148, 149, 150] (by decide +kernel) (by decide +kernel)) (goodIn_sub (fun _ h => List.mem_cons_of_mem _ (List.mem_append_left _ (List.mem_append_left _ (List.mem_append_right _ h)))) (by decide +kernel))) (goodIn_sub (fun _ h => List.mem_cons_of_mem _ (List.mem_append_left _ (List.mem_append_right _ h))) (by decide +kernel))) (goodIn_sub (fun _ h => List.mem_cons_of_mem _ (List.mem_append_right _ h)) (by decide +kernel))
set_option maxRecDepth 20000 in
theorem gL_isAddedSo_X3_add : GoodIn wsL_isAddedSo (wsV RL 40 RX3 yX3_add wsX3_add) := goodIn_app (goodIn_of _ (by decide +kernel)) ggL_isAddedSo_X3_add
set_option maxRecDepth 20000 in
theorem ggL_isAddedSo_X3_less : GoodIn wsL_isAddedSo wsX3_less := goodIn_ca (goodIn_ca (goodIn_ca (goodIn_r _ [124, 7, 8, 4, 9, 10, 11, 12, 13, 14, 15, 16, 103, 104, 105, 106, 107, 108, 6, 69, 17, 18, 19, 20, 21, 22, 23, 24, 25, 26, 27, 28, 29, 30, 31, 32, 33, 34, 35, 36, 37, 38, 39, 40, 41, 42, 43, 44, 45, 46, 47, 48, 49, 50, 51, 52, 53, 54, 55, 56, 109, 110, 111, 112, 113, 114, 115, 116, 117, 118, 119, 120, 138, 139, 140, 141, 142, 143, 144, 145, 146, 147, 148, 149, 150] (by decide +kernel) (by decide +kernel)) (goodIn_sub (fun _ h => List.mem_cons_of_mem _ (List.mem_append_left _ (List.mem_append_left _ (List.mem_append_right _ h)))) (by decide +kernel))) (goodIn_sub (fun _ h => List.mem_cons_of_mem _ (List.mem_append_left _ (List.mem_append_right _ h))) (by decide +kernel))) (goodIn_sub (fun _ h => List.mem_cons_of_mem _ (List.mem_append_right _ h)) (by decide +kernel))
set_option maxRecDepth 20000 in
theorem gL_isAddedSo_X3_less : GoodIn wsL_isAddedSo (wsV RL 43 RX3 yX3_less wsX3_less) := goodIn_app (goodIn_of _ (by decide +kernel)) ggL_isAddedSo_X3_less
set_option maxRecDepth 20000 in
theorem ggL_isAddedSo_L_power : GoodIn wsL_isAddedSo wsL_power := goodIn_r _ [128, 129] (by decide +kernel) (by decide +kernel)
set_option maxRecDepth 20000 in
theorem gL_isAddedSo_L_power : GoodIn wsL_isAddedSo (va_wsS RL 60 yL_power wsL_power) := goodIn_app (goodIn_of _ (by decide +kernel)) ggL_isAddedSo_L_power
set_option maxRecDepth 20000 in
theorem ggL_isAddedSo_X3_undo : GoodIn wsL_isAddedSo wsX3_undo := goodIn_ca (goodIn_r _ [133, 107, 108, 69, 70, 6, 134, 135, 136, 112, 137, 114, 116, 115, 117, 118, 119, 20, 120, 26, 27, 40, 54, 45, 56, 55, 138, 139, 140, 148, 149, 150, 141, 142, 143, 144, 145, 146, 147] (by decide +kernel) (by decide +kernel)) (goodIn_sub (fun _ h => List.mem_cons_of_mem _ (List.mem_append_right _ h)) (by decide +kernel))
set_option maxRecDepth 20000 in
theorem gL_isAddedSo_X3_undo : GoodIn wsL_isAddedSo (wsV RL 64 RX3 yX3_undo wsX3_undo) := goodIn_app (goodIn_of _ (by decide +kernel)) ggL_isAddedSo_X3_undo
theorem dL_isAddedSo_0 : decode cL_isAddedSo 0 = .ok (.aload_n 0, 1) := by decide +kernel
theorem dL_isAddedSo_1 : decode cL_isAddedSo 1 = .ok (.iload_n 1, 1) := by decide +kernel
theorem dL_isAddedSo_2 : decode cL_isAddedSo 2 = .ok (.iload_n 2, 1) := by decide +kernel
theorem dL_isAddedSo_3 : decode cL_isAddedSo 3 = .ok (.invokevirtual 37, 3) := by decide +kernel
theorem dL_isAddedSo_6 : decode cL_isAddedSo 6 = .ok (.istore_n 3, 1) := by decide +kernel
theorem dL_isAddedSo_7 : decode cL_isAddedSo 7 = .ok (.aload_n 0, 1) := by decide +kernel
theorem dL_isAddedSo_8 : decode cL_isAddedSo 8 = .ok (.invokevirtual 53, 3) := by decide +kernel
theorem dL_isAddedSo_11 : decode cL_isAddedSo 11 = .ok (.lstore 4, 2) := by decide +kernel
theorem dL_isAddedSo_13 : decode cL_isAddedSo 13 = .ok (.aload_n 0, 1) := by decide +kernel
theorem dL_isAddedSo_14 : decode cL_isAddedSo 14 = .ok (.iconst 0, 1) := by decide +kernel
theorem dL_isAddedSo_15 : decode cL_isAddedSo 15 = .ok (.invokevirtual 57, 3) := by decide +kernel
theorem dL_isAddedSo_18 : decode cL_isAddedSo 18 = .ok (.istore 6, 2) := by decide +kernel
theorem dL_isAddedSo_20 : decode cL_isAddedSo 20 = .ok (.iload_n 3, 1) := by decide +kernel
theorem dL_isAddedSo_21 : decode cL_isAddedSo 21 = .ok (.ifCond .lt 7, 3) := by decide +kernel
theorem dL_isAddedSo_24 : decode cL_isAddedSo 24 = .ok (.iload_n 2, 1) := by decide +kernel
theorem dL_isAddedSo_25 : decode cL_isAddedSo 25 = .ok (.ifCond .ne 17, 3) := by decide +kernel
theorem dL_isAddedSo_28 : decode cL_isAddedSo 28 = .ok (.iload_n 2, 1) := by decide +kernel
theorem dL_isAddedSo_29 : decode cL_isAddedSo 29 = .ok (.ifCond .ne 7, 3) := by decide +kernel
theorem dL_isAddedSo_32 : decode cL_isAddedSo 32 = .ok (.iload_n 3, 1) := by decide +kernel
theorem dL_isAddedSo_33 : decode cL_isAddedSo 33 = .ok (.ifCond .ne 7, 3) := by decide +kernel
theorem dL_isAddedSo_36 : decode cL_isAddedSo 36 = .ok (.iconst 1, 1) := by decide +kernel
theorem dL_isAddedSo_37 : decode cL_isAddedSo 37 = .ok (.goto 4, 3) := by decide +kernel
theorem dL_isAddedSo_40 : decode cL_isAddedSo 40 = .ok (.iconst 0, 1) := by decide +kernel
theorem dL_isAddedSo_41 : decode cL_isAddedSo 41 = .ok (.ireturn, 1) := by decide +kernel
theorem dL_isAddedSo_42 : decode cL_isAddedSo 42 = .ok (.iload_n 2, 1) := by decide +kernel
theorem dL_isAddedSo_43 : decode cL_isAddedSo 43 = .ok (.ifCond .le 12, 3) := by decide +kernel
theorem dL_isAddedSo_46 : decode cL_isAddedSo 46 = .ok (.aload_n 0, 1) := by decide +kernel
theorem dL_isAddedSo_47 : decode cL_isAddedSo 47 = .ok (.iload_n 1, 1) := by decide +kernel
theorem dL_isAddedSo_48 : decode cL_isAddedSo 48 = .ok (.iload_n 2, 1) := by decide +kernel
theorem dL_isAddedSo_49 : decode cL_isAddedSo 49 = .ok (.invokevirtual 40, 3) := by decide +kernel
theorem dL_isAddedSo_52 : decode cL_isAddedSo 52 = .ok (.goto 10, 3) := by decide +kernel
theorem dL_isAddedSo_55 : decode cL_isAddedSo 55 = .ok (.aload_n 0, 1) := by decide +kernel
theorem dL_isAddedSo_56 : decode cL_isAddedSo 56 = .ok (.iload_n 1, 1) := by decide +kernel
theorem dL_isAddedSo_57 : decode cL_isAddedSo 57 = .ok (.iload_n 2, 1) := by decide +kernel
theorem dL_isAddedSo_58 : decode cL_isAddedSo 58 = .ok (.ineg, 1) := by decide +kernel
theorem dL_isAddedSo_59 : decode cL_isAddedSo 59 = .ok (.invokevirtual 43, 3) := by decide +kernel
theorem dL_isAddedSo_62 : decode cL_isAddedSo 62 = .ok (.istore 7, 2) := by decide +kernel
theorem dL_isAddedSo_64 : decode cL_isAddedSo 64 = .ok (.iload 7, 2) := by decide +kernel
theorem dL_isAddedSo_66 : decode cL_isAddedSo 66 = .ok (.iload_n 3, 1) := by decide +kernel
theorem dL_isAddedSo_67 : decode cL_isAddedSo 67 = .ok (.if_icmp .ne 37, 3) := by decide +kernel
theorem dL_isAddedSo_70 : decode cL_isAddedSo 70 = .ok (.aload_n 0, 1) := by decide +kernel
theorem dL_isAddedSo_71 : decode cL_isAddedSo 71 = .ok (.iconst 0, 1) := by decide +kernel
theorem dL_isAddedSo_72 : decode cL_isAddedSo 72 = .ok (.invokevirtual 57, 3) := by decide +kernel
theorem dL_isAddedSo_75 : decode cL_isAddedSo 75 = .ok (.iload 6, 2) := by decide +kernel
theorem dL_isAddedSo_77 : decode cL_isAddedSo 77 = .ok (.iload_n 3, 1) := by decide +kernel
theorem dL_isAddedSo_78 : decode cL_isAddedSo 78 = .ok (.iadd, 1) := by decide +kernel
theorem dL_isAddedSo_79 : decode cL_isAddedSo 79 = .ok (.if_icmp .ne 25, 3) := by decide +kernel
theorem dL_isAddedSo_82 : decode cL_isAddedSo 82 = .ok (.aload_n 0, 1) := by decide +kernel
theorem dL_isAddedSo_83 : decode cL_isAddedSo 83 = .ok (.invokevirtual 53, 3) := by decide +kernel
theorem dL_isAddedSo_86 : decode cL_isAddedSo 86 = .ok (.lload 4, 2) := by decide +kernel
theorem dL_isAddedSo_88 : decode cL_isAddedSo 88 = .ok (.iload_n 2, 1) := by decide +kernel
theorem dL_isAddedSo_89 : decode cL_isAddedSo 89 = .ok (.i2l, 1) := by decide +kernel
theorem dL_isAddedSo_90 : decode cL_isAddedSo 90 = .ok (.iload_n 1, 1) := by decide +kernel
theorem dL_isAddedSo_91 : decode cL_isAddedSo 91 = .ok (.invokestatic 60, 3) := by decide +kernel
theorem dL_isAddedSo_94 : decode cL_isAddedSo 94 = .ok (.lmul, 1) := by decide +kernel
theorem dL_isAddedSo_95 : decode cL_isAddedSo 95 = .ok (.ladd, 1) := by decide +kernel
theorem dL_isAddedSo_96 : decode cL_isAddedSo 96 = .ok (.lcmp, 1) := by decide +kernel
theorem dL_isAddedSo_97 : decode cL_isAddedSo 97 = .ok (.ifCond .ne 7, 3) := by decide +kernel
theorem dL_isAddedSo_100 : decode cL_isAddedSo 100 = .ok (.iconst 1, 1) := by decide +kernel
theorem dL_isAddedSo_101 : decode cL_isAddedSo 101 = .ok (.goto 4, 3) := by decide +kernel
theorem dL_isAddedSo_104 : decode cL_isAddedSo 104 = .ok (.iconst 0, 1) := by decide +kernel
theorem dL_isAddedSo_105 : decode cL_isAddedSo 105 = .ok (.istore 8, 2) := by decide +kernel
theorem dL_isAddedSo_107 : decode cL_isAddedSo 107 = .ok (.aload_n 0, 1) := by decide +kernel
theorem dL_isAddedSo_108 : decode cL_isAddedSo 108 = .ok (.invokevirtual 64, 3) := by decide +kernel
theorem dL_isAddedSo_111 : decode cL_isAddedSo 111 = .ok (.istore 9, 2) := by decide +kernel
theorem dL_isAddedSo_113 : decode cL_isAddedSo 113 = .ok (.iload 8, 2) := by decide +kernel
theorem dL_isAddedSo_115 : decode cL_isAddedSo 115 = .ok (.ifCond .eq 22, 3) := by decide +kernel
theorem dL_isAddedSo_118 : decode cL_isAddedSo 118 = .ok (.iload 9, 2) := by decide +kernel
theorem dL_isAddedSo_120 : decode cL_isAddedSo 120 = .ok (.ifCond .lt 17, 3) := by decide +kernel
theorem dL_isAddedSo_123 : decode cL_isAddedSo 123 = .ok (.aload_n 0, 1) := by decide +kernel
theorem dL_isAddedSo_124 : decode cL_isAddedSo 124 = .ok (.invokevirtual 53, 3) := by decide +kernel
theorem dL_isAddedSo_127 : decode cL_isAddedSo 127 = .ok (.lload 4, 2) := by decide +kernel
theorem dL_isAddedSo_129 : decode cL_isAddedSo 129 = .ok (.lcmp, 1) := by decide +kernel
theorem dL_isAddedSo_130 : decode cL_isAddedSo 130 = .ok (.ifCond .ne 7, 3) := by decide +kernel
theorem dL_isAddedSo_133 : decode cL_isAddedSo 133 = .ok (.iconst 1, 1) := by decide +kernel
theorem dL_isAddedSo_134 : decode cL_isAddedSo 134 = .ok (.goto 4, 3) := by decide +kernel
theorem dL_isAddedSo_137 : decode cL_isAddedSo 137 = .ok (.iconst 0, 1) := by decide +kernel
theorem dL_isAddedSo_138 : decode cL_isAddedSo 138 = .ok (.ireturn, 1) := by decide +kernel
set_option maxRecDepth 20000 in
theorem ggL_arePaidSo_X3_cheapestLoan : GoodIn wsL_arePaidSo wsX3_cheapestLoan := goodIn_r _ [5, 6, 7, 8, 9, 10, 11, 12, 13, 14, 15, 16, 17, 18, 19, 20, 21, 22, 23, 24, 25, 26, 27, 28, 29, 30, 31, 32, 33, 34, 35, 36, 37, 38, 39, 40, 41, 42, 43, 44, 45, 46, 47, 155, 156, 157, 158, 159, 160, 161, 162, 163, 164] (by decide +kernel) (by decide +kernel)
set_option maxRecDepth 20000 in
theorem gL_arePaidSo_X3_cheapestLoan : GoodIn wsL_arePaidSo (wsV RL 67 RX3 yX3_cheapestLoan wsX3_cheapestLoan) := goodIn_app (goodIn_of _ (by decide +kernel)) ggL_arePaidSo_X3_cheapestLoan
set_option maxRecDepth 20000 in
theorem ggL_arePaidSo_X3_whole : GoodIn wsL_arePaidSo wsX3_whole := goodIn_r _ [51, 6, 7, 52, 53, 14, 15, 11, 16, 17, 18, 155, 156, 157, 158, 159, 160, 161, 162, 163, 164] (by decide +kernel) (by decide +kernel)
set_option maxRecDepth 20000 in
theorem gL_arePaidSo_X3_whole : GoodIn wsL_arePaidSo (wsV RL 53 RX3 yX3_whole wsX3_whole) := goodIn_app (goodIn_of _ (by decide +kernel)) ggL_arePaidSo_X3_whole
set_option maxRecDepth 20000 in
theorem ggL_arePaidSo_X3_count : GoodIn wsL_arePaidSo wsX3_count := goodIn_ca (goodIn_r _ [57, 6, 58, 59, 60, 61, 62, 4, 63, 64, 65, 66, 67, 68, 11, 69, 36, 70, 71, 72, 73, 45, 74, 75, 76, 77, 78, 79, 80, 81, 13, 14, 15, 16, 17, 18, 82, 83, 84, 85, 86, 87, 88, 89, 90, 91, 92, 93, 31, 155, 156, 157, 158, 159, 160, 161, 162, 163, 164, 165, 166, 167] (by decide +kernel) (by decide +kernel)) (goodIn_sub (fun _ h => List.mem_cons_of_mem _ (List.mem_append_left _ (List.mem_append_left _ (List.mem_append_right _ h)))) (by decide +kernel))
set_option maxRecDepth 20000 in
theorem gL_arePaidSo_X3_count : GoodIn wsL_arePaidSo (wsV RL 57 RX3 yX3_count wsX3_count) := goodIn_app (goodIn_of _ (by decide +kernel)) ggL_arePaidSo_X3_count
set_option maxRecDepth 20000 in
theorem ggL_arePaidSo_X3_rod : GoodIn wsL_arePaidSo wsX3_rod := goodIn_ca (goodIn_ca (goodIn_r _ [97, 6, 98, 99, 7, 100, 101, 102, 103, 104, 4, 105, 106, 107, 61, 62, 63, 64, 65, 53, 14, 15, 11, 16, 17, 18, 108, 109, 110, 111, 19, 20, 21, 22, 23, 24, 25, 26, 27, 28, 29, 30, 31, 32, 33, 34, 35, 36, 155, 156, 157, 158, 159, 160, 161, 162, 163, 164] (by decide +kernel) (by decide +kernel)) (goodIn_sub (fun _ h => List.mem_cons_of_mem _ (List.mem_append_left _ (List.mem_append_right _ h))) (by decide +kernel))) (goodIn_sub (fun _ h => List.mem_cons_of_mem _ (List.mem_append_left _ (List.mem_append_left _ (List.mem_append_right _ h)))) (by decide +kernel))
set_option maxRecDepth 20000 in
theorem gL_arePaidSo_X3_rod : GoodIn wsL_arePaidSo (wsV RL 14 RX3 yX3_rod wsX3_rod) := goodIn_app (goodIn_of _ (by decide +kernel)) ggL_arePaidSo_X3_rod
set_option maxRecDepth 20000 in
theorem ggL_arePaidSo_X3_ifAdded : GoodIn wsL_arePaidSo wsX3_ifAdded := goodIn_ca (goodIn_ca (goodIn_r _ [115, 6, 103, 104, 4, 105, 106, 107, 61, 62, 63, 64, 65, 8, 9, 10, 11, 12, 13, 14, 15, 16, 17, 18, 19, 20, 21, 22, 23, 24, 25, 26, 27, 28, 29, 30, 31, 32, 33, 34, 35, 36, 37, 38, 39, 40, 41, 42, 43, 44, 45, 46, 47, 155, 156, 157, 158, 159, 160, 161, 162, 163, 164] (by decide +kernel) (by decide +kernel)) (goodIn_sub (fun _ h => List.mem_cons_of_mem _ (List.mem_append_left _ (List.mem_append_right _ h))) (by decide +kernel))) (goodIn_sub (fun _ h => List.mem_cons_of_mem _ (List.mem_append_left _ (List.mem_append_left _ (List.mem_append_right _ h)))) (by decide +kernel))
set_option maxRecDepth 20000 in
theorem gL_arePaidSo_X3_ifAdded : GoodIn wsL_arePaidSo (wsV RL 37 RX3 yX3_ifAdded wsX3_ifAdded) := goodIn_app (goodIn_of _ (by decide +kernel)) ggL_arePaidSo_X3_ifAdded
set_option maxRecDepth 20000 in
theorem ggL_arePaidSo_X3_pay : GoodIn wsL_arePaidSo wsX3_pay := goodIn_ca (goodIn_ca (goodIn_r _ [119, 120, 121, 6, 7, 59, 103, 104, 4, 105, 106, 107, 8, 9, 10, 11, 12, 13, 14, 15, 16, 17, 18, 19, 20, 21, 22, 23, 24, 25, 26, 27, 28, 29, 30, 31, 32, 33, 34, 35, 36, 37, 38, 39, 40, 41, 42, 43, 44, 45, 46, 47, 122, 123, 124, 125, 126, 127, 128, 129, 130, 131, 132, 133, 134, 135, 136, 137, 138, 155, 156, 157, 158, 159, 160, 161, 162, 163, 164, 165, 166, 167] (by decide +kernel) (by decide +kernel)) (goodIn_sub (fun _ h => List.mem_cons_of_mem _ (List.mem_append_right _ h)) (by decide +kernel))) (goodIn_sub (fun _ h => List.mem_cons_of_mem _ (List.mem_append_left _ (List.mem_append_right _ h))) (by decide +kernel))
set_option maxRecDepth 20000 in
theorem gL_arePaidSo_X3_pay : GoodIn wsL_arePaidSo (wsV RL 34 RX3 yX3_pay wsX3_pay) := goodIn_app (goodIn_of _ (by decide +kernel)) ggL_arePaidSo_X3_pay
set_option maxRecDepth 20000 in
theorem ggL_arePaidSo_X3_undo : GoodIn wsL_arePaidSo wsX3_undo := goodIn_ca (goodIn_r _ [142, 120, 121, 59, 60, 6, 143, 144, 145, 125, 146, 127, 129, 128, 130, 131, 132, 11, 133, 17, 18, 31, 45, 36, 47, 46, 155, 156, 157, 165, 166, 167, 158, 159, 160, 161, 162, 163, 164] (by decide +kernel) (by decide +kernel)) (goodIn_sub (fun _ h => List.mem_cons_of_mem _ (List.mem_append_right _ h)) (by decide +kernel))
set_option maxRecDepth 20000 in
theorem gL_arePaidSo_X3_undo : GoodIn wsL_arePaidSo (wsV RL 64 RX3 yX3_undo wsX3_undo) := goodIn_app (goodIn_of _ (by decide +kernel)) ggL_arePaidSo_X3_undo
set_option maxRecDepth 20000 in
theorem ggL_arePaidSo_X3_tidy : GoodIn wsL_arePaidSo wsX3_tidy := goodIn_r _ [150, 59, 6, 122, 123, 124, 125, 126, 127, 128, 129, 130, 131, 132, 11, 133, 17, 18, 31, 45, 36, 47, 46, 134, 135, 136, 137, 138, 9, 10, 12, 13, 14, 15, 16, 19, 20, 21, 22, 23, 24, 25, 26, 27, 28, 29, 30, 32, 33, 34, 35, 37, 38, 39, 40, 41, 42, 43, 44, 151, 152, 153, 154, 155, 156, 157, 165, 166, 167, 158, 159, 160, 161, 162, 163, 164] (by decide +kernel) (by decide +kernel)
set_option maxRecDepth 20000 in
theorem gL_arePaidSo_X3_tidy : GoodIn wsL_arePaidSo (wsV RL 30 RX3 yX3_tidy wsX3_tidy) := goodIn_app (goodIn_of _ (by decide +kernel)) ggL_arePaidSo_X3_tidy
theorem dL_arePaidSo_0 : decode cL_arePaidSo 0 = .ok (.aload_n 0, 1) := by decide +kernel
theorem dL_arePaidSo_1 : decode cL_arePaidSo 1 = .ok (.invokevirtual 67, 3) := by decide +kernel
theorem dL_arePaidSo_4 : decode cL_arePaidSo 4 = .ok (.istore_n 1, 1) := by decide +kernel
theorem dL_arePaidSo_5 : decode cL_arePaidSo 5 = .ok (.aload_n 0, 1) := by decide +kernel
theorem dL_arePaidSo_6 : decode cL_arePaidSo 6 = .ok (.invokevirtual 53, 3) := by decide +kernel
theorem dL_arePaidSo_9 : decode cL_arePaidSo 9 = .ok (.lstore_n 2, 1) := by decide +kernel
theorem dL_arePaidSo_10 : decode cL_arePaidSo 10 = .ok (.aload_n 0, 1) := by decide +kernel
theorem dL_arePaidSo_11 : decode cL_arePaidSo 11 = .ok (.iconst 0, 1) := by decide +kernel
theorem dL_arePaidSo_12 : decode cL_arePaidSo 12 = .ok (.invokevirtual 57, 3) := by decide +kernel
theorem dL_arePaidSo_15 : decode cL_arePaidSo 15 = .ok (.istore 4, 2) := by decide +kernel
theorem dL_arePaidSo_17 : decode cL_arePaidSo 17 = .ok (.iload_n 1, 1) := by decide +kernel
theorem dL_arePaidSo_18 : decode cL_arePaidSo 18 = .ok (.bipush 9, 2) := by decide +kernel
theorem dL_arePaidSo_20 : decode cL_arePaidSo 20 = .ok (.if_icmp .ge 7, 3) := by decide +kernel
theorem dL_arePaidSo_23 : decode cL_arePaidSo 23 = .ok (.iconst 1, 1) := by decide +kernel
theorem dL_arePaidSo_24 : decode cL_arePaidSo 24 = .ok (.goto 4, 3) := by decide +kernel
theorem dL_arePaidSo_27 : decode cL_arePaidSo 27 = .ok (.iconst 0, 1) := by decide +kernel
theorem dL_arePaidSo_28 : decode cL_arePaidSo 28 = .ok (.istore 5, 2) := by decide +kernel
theorem dL_arePaidSo_30 : decode cL_arePaidSo 30 = .ok (.iload_n 1, 1) := by decide +kernel
theorem dL_arePaidSo_31 : decode cL_arePaidSo 31 = .ok (.ifCond .lt 160, 3) := by decide +kernel
theorem dL_arePaidSo_34 : decode cL_arePaidSo 34 = .ok (.aload_n 0, 1) := by decide +kernel
theorem dL_arePaidSo_35 : decode cL_arePaidSo 35 = .ok (.iload_n 1, 1) := by decide +kernel
theorem dL_arePaidSo_36 : decode cL_arePaidSo 36 = .ok (.iconst 3, 1) := by decide +kernel
theorem dL_arePaidSo_37 : decode cL_arePaidSo 37 = .ok (.invokevirtual 14, 3) := by decide +kernel
theorem dL_arePaidSo_40 : decode cL_arePaidSo 40 = .ok (.bipush 100, 2) := by decide +kernel
theorem dL_arePaidSo_42 : decode cL_arePaidSo 42 = .ok (.isub, 1) := by decide +kernel
theorem dL_arePaidSo_43 : decode cL_arePaidSo 43 = .ok (.istore 6, 2) := by decide +kernel
theorem dL_arePaidSo_45 : decode cL_arePaidSo 45 = .ok (.aload_n 0, 1) := by decide +kernel
theorem dL_arePaidSo_46 : decode cL_arePaidSo 46 = .ok (.iload_n 1, 1) := by decide +kernel
theorem dL_arePaidSo_47 : decode cL_arePaidSo 47 = .ok (.iload 6, 2) := by decide +kernel
theorem dL_arePaidSo_49 : decode cL_arePaidSo 49 = .ok (.invokevirtual 37, 3) := by decide +kernel
theorem dL_arePaidSo_52 : decode cL_arePaidSo 52 = .ok (.istore 7, 2) := by decide +kernel
theorem dL_arePaidSo_54 : decode cL_arePaidSo 54 = .ok (.iload 6, 2) := by decide +kernel
theorem dL_arePaidSo_56 : decode cL_arePaidSo 56 = .ok (.ifCond .eq 42, 3) := by decide +kernel
theorem dL_arePaidSo_59 : decode cL_arePaidSo 59 = .ok (.iload 7, 2) := by decide +kernel
theorem dL_arePaidSo_61 : decode cL_arePaidSo 61 = .ok (.ifCond .lt 37, 3) := by decide +kernel
theorem dL_arePaidSo_64 : decode cL_arePaidSo 64 = .ok (.aload_n 0, 1) := by decide +kernel
theorem dL_arePaidSo_65 : decode cL_arePaidSo 65 = .ok (.iload_n 1, 1) := by decide +kernel
theorem dL_arePaidSo_66 : decode cL_arePaidSo 66 = .ok (.invokevirtual 34, 3) := by decide +kernel
theorem dL_arePaidSo_69 : decode cL_arePaidSo 69 = .ok (.iload 7, 2) := by decide +kernel
theorem dL_arePaidSo_71 : decode cL_arePaidSo 71 = .ok (.if_icmp .ne 27, 3) := by decide +kernel
theorem dL_arePaidSo_74 : decode cL_arePaidSo 74 = .ok (.aload_n 0, 1) := by decide +kernel
theorem dL_arePaidSo_75 : decode cL_arePaidSo 75 = .ok (.iload_n 1, 1) := by decide +kernel
theorem dL_arePaidSo_76 : decode cL_arePaidSo 76 = .ok (.iconst 3, 1) := by decide +kernel
theorem dL_arePaidSo_77 : decode cL_arePaidSo 77 = .ok (.invokevirtual 14, 3) := by decide +kernel
theorem dL_arePaidSo_80 : decode cL_arePaidSo 80 = .ok (.bipush 100, 2) := by decide +kernel
theorem dL_arePaidSo_82 : decode cL_arePaidSo 82 = .ok (.if_icmp .ne 16, 3) := by decide +kernel
theorem dL_arePaidSo_85 : decode cL_arePaidSo 85 = .ok (.aload_n 0, 1) := by decide +kernel
theorem dL_arePaidSo_86 : decode cL_arePaidSo 86 = .ok (.invokevirtual 53, 3) := by decide +kernel
theorem dL_arePaidSo_89 : decode cL_arePaidSo 89 = .ok (.lload_n 2, 1) := by decide +kernel
theorem dL_arePaidSo_90 : decode cL_arePaidSo 90 = .ok (.lcmp, 1) := by decide +kernel
theorem dL_arePaidSo_91 : decode cL_arePaidSo 91 = .ok (.ifCond .ne 7, 3) := by decide +kernel
theorem dL_arePaidSo_94 : decode cL_arePaidSo 94 = .ok (.iconst 1, 1) := by decide +kernel
theorem dL_arePaidSo_95 : decode cL_arePaidSo 95 = .ok (.goto 4, 3) := by decide +kernel
theorem dL_arePaidSo_98 : decode cL_arePaidSo 98 = .ok (.iconst 0, 1) := by decide +kernel
theorem dL_arePaidSo_99 : decode cL_arePaidSo 99 = .ok (.istore 5, 2) := by decide +kernel
theorem dL_arePaidSo_101 : decode cL_arePaidSo 101 = .ok (.aload_n 0, 1) := by decide +kernel
theorem dL_arePaidSo_102 : decode cL_arePaidSo 102 = .ok (.invokevirtual 64, 3) := by decide +kernel
theorem dL_arePaidSo_105 : decode cL_arePaidSo 105 = .ok (.istore 8, 2) := by decide +kernel
theorem dL_arePaidSo_107 : decode cL_arePaidSo 107 = .ok (.iconst 0, 1) := by decide +kernel
theorem dL_arePaidSo_108 : decode cL_arePaidSo 108 = .ok (.istore 9, 2) := by decide +kernel
theorem dL_arePaidSo_110 : decode cL_arePaidSo 110 = .ok (.iload 9, 2) := by decide +kernel
theorem dL_arePaidSo_112 : decode cL_arePaidSo 112 = .ok (.bipush 9, 2) := by decide +kernel
theorem dL_arePaidSo_114 : decode cL_arePaidSo 114 = .ok (.if_icmp .ge 77, 3) := by decide +kernel
theorem dL_arePaidSo_117 : decode cL_arePaidSo 117 = .ok (.aload_n 0, 1) := by decide +kernel
theorem dL_arePaidSo_118 : decode cL_arePaidSo 118 = .ok (.iload 9, 2) := by decide +kernel
theorem dL_arePaidSo_120 : decode cL_arePaidSo 120 = .ok (.iconst 3, 1) := by decide +kernel
theorem dL_arePaidSo_121 : decode cL_arePaidSo 121 = .ok (.invokevirtual 14, 3) := by decide +kernel
theorem dL_arePaidSo_124 : decode cL_arePaidSo 124 = .ok (.bipush 100, 2) := by decide +kernel
theorem dL_arePaidSo_126 : decode cL_arePaidSo 126 = .ok (.isub, 1) := by decide +kernel
theorem dL_arePaidSo_127 : decode cL_arePaidSo 127 = .ok (.istore 10, 2) := by decide +kernel
theorem dL_arePaidSo_129 : decode cL_arePaidSo 129 = .ok (.iload 10, 2) := by decide +kernel
theorem dL_arePaidSo_131 : decode cL_arePaidSo 131 = .ok (.ifCond .ne 7, 3) := by decide +kernel
theorem dL_arePaidSo_134 : decode cL_arePaidSo 134 = .ok (.iconst (-1), 1) := by decide +kernel
theorem dL_arePaidSo_135 : decode cL_arePaidSo 135 = .ok (.goto 11, 3) := by decide +kernel
theorem dL_arePaidSo_138 : decode cL_arePaidSo 138 = .ok (.aload_n 0, 1) := by decide +kernel
theorem dL_arePaidSo_139 : decode cL_arePaidSo 139 = .ok (.iload 9, 2) := by decide +kernel
theorem dL_arePaidSo_141 : decode cL_arePaidSo 141 = .ok (.iload 10, 2) := by decide +kernel
theorem dL_arePaidSo_143 : decode cL_arePaidSo 143 = .ok (.invokevirtual 37, 3) := by decide +kernel
theorem dL_arePaidSo_146 : decode cL_arePaidSo 146 = .ok (.istore 11, 2) := by decide +kernel
theorem dL_arePaidSo_148 : decode cL_arePaidSo 148 = .ok (.iload 5, 2) := by decide +kernel
theorem dL_arePaidSo_150 : decode cL_arePaidSo 150 = .ok (.ifCond .eq 32, 3) := by decide +kernel
theorem dL_arePaidSo_153 : decode cL_arePaidSo 153 = .ok (.iload 11, 2) := by decide +kernel
theorem dL_arePaidSo_155 : decode cL_arePaidSo 155 = .ok (.ifCond .lt 23, 3) := by decide +kernel
theorem dL_arePaidSo_158 : decode cL_arePaidSo 158 = .ok (.iload 7, 2) := by decide +kernel
theorem dL_arePaidSo_160 : decode cL_arePaidSo 160 = .ok (.iload 11, 2) := by decide +kernel
theorem dL_arePaidSo_162 : decode cL_arePaidSo 162 = .ok (.if_icmp .lt 16, 3) := by decide +kernel
theorem dL_arePaidSo_165 : decode cL_arePaidSo 165 = .ok (.iload 7, 2) := by decide +kernel
theorem dL_arePaidSo_167 : decode cL_arePaidSo 167 = .ok (.iload 11, 2) := by decide +kernel
theorem dL_arePaidSo_169 : decode cL_arePaidSo 169 = .ok (.if_icmp .ne 13, 3) := by decide +kernel
theorem dL_arePaidSo_172 : decode cL_arePaidSo 172 = .ok (.iload_n 1, 1) := by decide +kernel
theorem dL_arePaidSo_173 : decode cL_arePaidSo 173 = .ok (.iload 9, 2) := by decide +kernel
theorem dL_arePaidSo_175 : decode cL_arePaidSo 175 = .ok (.if_icmp .gt 7, 3) := by decide +kernel
theorem dL_arePaidSo_178 : decode cL_arePaidSo 178 = .ok (.iconst 1, 1) := by decide +kernel
theorem dL_arePaidSo_179 : decode cL_arePaidSo 179 = .ok (.goto 4, 3) := by decide +kernel
theorem dL_arePaidSo_182 : decode cL_arePaidSo 182 = .ok (.iconst 0, 1) := by decide +kernel
theorem dL_arePaidSo_183 : decode cL_arePaidSo 183 = .ok (.istore 5, 2) := by decide +kernel
theorem dL_arePaidSo_185 : decode cL_arePaidSo 185 = .ok (.iinc 9 1, 3) := by decide +kernel
theorem dL_arePaidSo_188 : decode cL_arePaidSo 188 = .ok (.goto (-78), 3) := by decide +kernel
theorem dL_arePaidSo_191 : decode cL_arePaidSo 191 = .ok (.iconst 0, 1) := by decide +kernel
theorem dL_arePaidSo_192 : decode cL_arePaidSo 192 = .ok (.istore 6, 2) := by decide +kernel
theorem dL_arePaidSo_194 : decode cL_arePaidSo 194 = .ok (.iload 6, 2) := by decide +kernel
theorem dL_arePaidSo_196 : decode cL_arePaidSo 196 = .ok (.bipush 9, 2) := by decide +kernel
theorem dL_arePaidSo_198 : decode cL_arePaidSo 198 = .ok (.if_icmp .ge 56, 3) := by decide +kernel
theorem dL_arePaidSo_201 : decode cL_arePaidSo 201 = .ok (.iload_n 1, 1) := by decide +kernel
theorem dL_arePaidSo_202 : decode cL_arePaidSo 202 = .ok (.ifCond .ge 52, 3) := by decide +kernel
theorem dL_arePaidSo_205 : decode cL_arePaidSo 205 = .ok (.iload 5, 2) := by decide +kernel
theorem dL_arePaidSo_207 : decode cL_arePaidSo 207 = .ok (.ifCond .eq 38, 3) := by decide +kernel
theorem dL_arePaidSo_210 : decode cL_arePaidSo 210 = .ok (.aload_n 0, 1) := by decide +kernel
theorem dL_arePaidSo_211 : decode cL_arePaidSo 211 = .ok (.iload 6, 2) := by decide +kernel
theorem dL_arePaidSo_213 : decode cL_arePaidSo 213 = .ok (.iconst 3, 1) := by decide +kernel
theorem dL_arePaidSo_214 : decode cL_arePaidSo 214 = .ok (.invokevirtual 14, 3) := by decide +kernel
theorem dL_arePaidSo_217 : decode cL_arePaidSo 217 = .ok (.bipush 100, 2) := by decide +kernel
theorem dL_arePaidSo_219 : decode cL_arePaidSo 219 = .ok (.if_icmp .eq 22, 3) := by decide +kernel
theorem dL_arePaidSo_222 : decode cL_arePaidSo 222 = .ok (.aload_n 0, 1) := by decide +kernel
theorem dL_arePaidSo_223 : decode cL_arePaidSo 223 = .ok (.iload 6, 2) := by decide +kernel
theorem dL_arePaidSo_225 : decode cL_arePaidSo 225 = .ok (.aload_n 0, 1) := by decide +kernel
theorem dL_arePaidSo_226 : decode cL_arePaidSo 226 = .ok (.iload 6, 2) := by decide +kernel
theorem dL_arePaidSo_228 : decode cL_arePaidSo 228 = .ok (.iconst 3, 1) := by decide +kernel
theorem dL_arePaidSo_229 : decode cL_arePaidSo 229 = .ok (.invokevirtual 14, 3) := by decide +kernel
theorem dL_arePaidSo_232 : decode cL_arePaidSo 232 = .ok (.bipush 100, 2) := by decide +kernel
theorem dL_arePaidSo_234 : decode cL_arePaidSo 234 = .ok (.isub, 1) := by decide +kernel
theorem dL_arePaidSo_235 : decode cL_arePaidSo 235 = .ok (.invokevirtual 37, 3) := by decide +kernel
theorem dL_arePaidSo_238 : decode cL_arePaidSo 238 = .ok (.ifCond .ge 7, 3) := by decide +kernel
theorem dL_arePaidSo_241 : decode cL_arePaidSo 241 = .ok (.iconst 1, 1) := by decide +kernel
theorem dL_arePaidSo_242 : decode cL_arePaidSo 242 = .ok (.goto 4, 3) := by decide +kernel
theorem dL_arePaidSo_245 : decode cL_arePaidSo 245 = .ok (.iconst 0, 1) := by decide +kernel
theorem dL_arePaidSo_246 : decode cL_arePaidSo 246 = .ok (.istore 5, 2) := by decide +kernel
theorem dL_arePaidSo_248 : decode cL_arePaidSo 248 = .ok (.iinc 6 1, 3) := by decide +kernel
theorem dL_arePaidSo_251 : decode cL_arePaidSo 251 = .ok (.goto (-57), 3) := by decide +kernel
theorem dL_arePaidSo_254 : decode cL_arePaidSo 254 = .ok (.aload_n 0, 1) := by decide +kernel
theorem dL_arePaidSo_255 : decode cL_arePaidSo 255 = .ok (.invokevirtual 30, 3) := by decide +kernel
theorem dL_arePaidSo_258 : decode cL_arePaidSo 258 = .ok (.istore 6, 2) := by decide +kernel
theorem dL_arePaidSo_260 : decode cL_arePaidSo 260 = .ok (.iload 5, 2) := by decide +kernel
theorem dL_arePaidSo_262 : decode cL_arePaidSo 262 = .ok (.ifCond .eq 29, 3) := by decide +kernel
theorem dL_arePaidSo_265 : decode cL_arePaidSo 265 = .ok (.aload_n 0, 1) := by decide +kernel
theorem dL_arePaidSo_266 : decode cL_arePaidSo 266 = .ok (.invokevirtual 53, 3) := by decide +kernel
theorem dL_arePaidSo_269 : decode cL_arePaidSo 269 = .ok (.lload_n 2, 1) := by decide +kernel
theorem dL_arePaidSo_270 : decode cL_arePaidSo 270 = .ok (.lcmp, 1) := by decide +kernel
theorem dL_arePaidSo_271 : decode cL_arePaidSo 271 = .ok (.ifCond .ne 20, 3) := by decide +kernel
theorem dL_arePaidSo_274 : decode cL_arePaidSo 274 = .ok (.aload_n 0, 1) := by decide +kernel
theorem dL_arePaidSo_275 : decode cL_arePaidSo 275 = .ok (.iconst 0, 1) := by decide +kernel
theorem dL_arePaidSo_276 : decode cL_arePaidSo 276 = .ok (.invokevirtual 57, 3) := by decide +kernel
theorem dL_arePaidSo_279 : decode cL_arePaidSo 279 = .ok (.iload 4, 2) := by decide +kernel
theorem dL_arePaidSo_281 : decode cL_arePaidSo 281 = .ok (.iload 6, 2) := by decide +kernel
theorem dL_arePaidSo_283 : decode cL_arePaidSo 283 = .ok (.iadd, 1) := by decide +kernel
theorem dL_arePaidSo_284 : decode cL_arePaidSo 284 = .ok (.if_icmp .ne 7, 3) := by decide +kernel
theorem dL_arePaidSo_287 : decode cL_arePaidSo 287 = .ok (.iconst 1, 1) := by decide +kernel
theorem dL_arePaidSo_288 : decode cL_arePaidSo 288 = .ok (.goto 4, 3) := by decide +kernel
theorem dL_arePaidSo_291 : decode cL_arePaidSo 291 = .ok (.iconst 0, 1) := by decide +kernel
theorem dL_arePaidSo_292 : decode cL_arePaidSo 292 = .ok (.istore 5, 2) := by decide +kernel
theorem dL_arePaidSo_294 : decode cL_arePaidSo 294 = .ok (.aload_n 0, 1) := by decide +kernel
theorem dL_arePaidSo_295 : decode cL_arePaidSo 295 = .ok (.invokevirtual 64, 3) := by decide +kernel
theorem dL_arePaidSo_298 : decode cL_arePaidSo 298 = .ok (.istore 7, 2) := by decide +kernel
theorem dL_arePaidSo_300 : decode cL_arePaidSo 300 = .ok (.iload 5, 2) := by decide +kernel
theorem dL_arePaidSo_302 : decode cL_arePaidSo 302 = .ok (.ifCond .eq 12, 3) := by decide +kernel
theorem dL_arePaidSo_305 : decode cL_arePaidSo 305 = .ok (.iload 7, 2) := by decide +kernel
theorem dL_arePaidSo_307 : decode cL_arePaidSo 307 = .ok (.ifCond .lt 7, 3) := by decide +kernel
theorem dL_arePaidSo_310 : decode cL_arePaidSo 310 = .ok (.iconst 1, 1) := by decide +kernel
theorem dL_arePaidSo_311 : decode cL_arePaidSo 311 = .ok (.goto 4, 3) := by decide +kernel
theorem dL_arePaidSo_314 : decode cL_arePaidSo 314 = .ok (.iconst 0, 1) := by decide +kernel
theorem dL_arePaidSo_315 : decode cL_arePaidSo 315 = .ok (.ireturn, 1) := by decide +kernel
set_option maxRecDepth 20000 in
theorem ggL_isShownSo_X3_moves : GoodIn wsL_isShownSo wsX3_moves := goodIn_ca (goodIn_ca (goodIn_r _ [5, 6, 7, 8, 4, 9, 10, 11, 12, 13, 14, 15, 16, 17, 18, 19, 20, 21, 22, 23, 24, 25, 26, 27, 28, 29, 30, 31, 32, 33, 34, 35, 36, 37, 53, 54, 55, 56, 57, 58, 59, 60, 61, 62] (by decide +kernel) (by decide +kernel)) (goodIn_sub (fun _ h => List.mem_cons_of_mem _ (List.mem_append_left _ (List.mem_append_right _ h))) (by decide +kernel))) (goodIn_sub (fun _ h => List.mem_cons_of_mem _ (List.mem_append_right _ h)) (by decide +kernel))
set_option maxRecDepth 20000 in
theorem gL_isShownSo_X3_moves : GoodIn wsL_isShownSo (wsV RL 46 RX3 yX3_moves wsX3_moves) := goodIn_app (goodIn_of _ (by decide +kernel)) ggL_isShownSo_X3_moves
set_option maxRecDepth 20000 in
theorem ggL_isShownSo_X3_toShow : GoodIn wsL_isShownSo wsX3_toShow := goodIn_ca (goodIn_r _ [41, 42, 6, 12, 13, 4, 14, 15, 16, 17, 18, 19, 20, 21, 22, 23, 24, 25, 26, 27, 28, 29, 30, 31, 32, 33, 34, 35, 36, 37, 53, 54, 55, 56, 57, 58, 59, 60, 61, 62] (by decide +kernel) (by decide +kernel)) (goodIn_sub (fun _ h => List.mem_cons_of_mem _ (List.mem_append_right _ h)) (by decide +kernel))
set_option maxRecDepth 20000 in
theorem gL_isShownSo_X3_toShow : GoodIn wsL_isShownSo (wsV RL 70 RX3 yX3_toShow wsX3_toShow) := goodIn_app (goodIn_of _ (by decide +kernel)) ggL_isShownSo_X3_toShow
set_option maxRecDepth 20000 in
theorem ggL_isShownSo_X3_looseness : GoodIn wsL_isShownSo wsX3_looseness := goodIn_r _ [46, 6, 47, 48, 49, 50, 20, 51, 52, 18, 19, 21, 22, 23, 24, 25, 26, 27, 28, 29, 30, 31, 32, 33, 34, 35, 36, 37, 53, 54, 55, 56, 57, 58, 59, 60, 61, 62] (by decide +kernel) (by decide +kernel)
set_option maxRecDepth 20000 in
theorem gL_isShownSo_X3_looseness : GoodIn wsL_isShownSo (wsV RL 73 RX3 yX3_looseness wsX3_looseness) := goodIn_app (goodIn_of _ (by decide +kernel)) ggL_isShownSo_X3_looseness
theorem dL_isShownSo_0 : decode cL_isShownSo 0 = .ok (.iconst 0, 1) := by decide +kernel
theorem dL_isShownSo_1 : decode cL_isShownSo 1 = .ok (.istore_n 2, 1) := by decide +kernel
theorem dL_isShownSo_2 : decode cL_isShownSo 2 = .ok (.iload_n 1, 1) := by decide +kernel
theorem dL_isShownSo_3 : decode cL_isShownSo 3 = .ok (.istore_n 3, 1) := by decide +kernel
theorem dL_isShownSo_4 : decode cL_isShownSo 4 = .ok (.iconst 1, 1) := by decide +kernel
theorem dL_isShownSo_5 : decode cL_isShownSo 5 = .ok (.istore 4, 2) := by decide +kernel
theorem dL_isShownSo_7 : decode cL_isShownSo 7 = .ok (.iconst 0, 1) := by decide +kernel
theorem dL_isShownSo_8 : decode cL_isShownSo 8 = .ok (.istore 5, 2) := by decide +kernel
theorem dL_isShownSo_10 : decode cL_isShownSo 10 = .ok (.iload 5, 2) := by decide +kernel
theorem dL_isShownSo_12 : decode cL_isShownSo 12 = .ok (.bipush 9, 2) := by decide +kernel
theorem dL_isShownSo_14 : decode cL_isShownSo 14 = .ok (.if_icmp .ge 48, 3) := by decide +kernel
theorem dL_isShownSo_17 : decode cL_isShownSo 17 = .ok (.aload_n 0, 1) := by decide +kernel
theorem dL_isShownSo_18 : decode cL_isShownSo 18 = .ok (.iload 5, 2) := by decide +kernel
theorem dL_isShownSo_20 : decode cL_isShownSo 20 = .ok (.iload_n 3, 1) := by decide +kernel
theorem dL_isShownSo_21 : decode cL_isShownSo 21 = .ok (.bipush 10, 2) := by decide +kernel
theorem dL_isShownSo_23 : decode cL_isShownSo 23 = .ok (.irem, 1) := by decide +kernel
theorem dL_isShownSo_24 : decode cL_isShownSo 24 = .ok (.invokevirtual 46, 3) := by decide +kernel
theorem dL_isShownSo_27 : decode cL_isShownSo 27 = .ok (.istore 6, 2) := by decide +kernel
theorem dL_isShownSo_29 : decode cL_isShownSo 29 = .ok (.iload 4, 2) := by decide +kernel
theorem dL_isShownSo_31 : decode cL_isShownSo 31 = .ok (.ifCond .eq 12, 3) := by decide +kernel
theorem dL_isShownSo_34 : decode cL_isShownSo 34 = .ok (.iload 6, 2) := by decide +kernel
theorem dL_isShownSo_36 : decode cL_isShownSo 36 = .ok (.ifCond .lt 7, 3) := by decide +kernel
theorem dL_isShownSo_39 : decode cL_isShownSo 39 = .ok (.iconst 1, 1) := by decide +kernel
theorem dL_isShownSo_40 : decode cL_isShownSo 40 = .ok (.goto 4, 3) := by decide +kernel
theorem dL_isShownSo_43 : decode cL_isShownSo 43 = .ok (.iconst 0, 1) := by decide +kernel
theorem dL_isShownSo_44 : decode cL_isShownSo 44 = .ok (.istore 4, 2) := by decide +kernel
theorem dL_isShownSo_46 : decode cL_isShownSo 46 = .ok (.iload_n 2, 1) := by decide +kernel
theorem dL_isShownSo_47 : decode cL_isShownSo 47 = .ok (.iload 6, 2) := by decide +kernel
theorem dL_isShownSo_49 : decode cL_isShownSo 49 = .ok (.iadd, 1) := by decide +kernel
theorem dL_isShownSo_50 : decode cL_isShownSo 50 = .ok (.istore_n 2, 1) := by decide +kernel
theorem dL_isShownSo_51 : decode cL_isShownSo 51 = .ok (.iload_n 3, 1) := by decide +kernel
theorem dL_isShownSo_52 : decode cL_isShownSo 52 = .ok (.bipush 10, 2) := by decide +kernel
theorem dL_isShownSo_54 : decode cL_isShownSo 54 = .ok (.idiv, 1) := by decide +kernel
theorem dL_isShownSo_55 : decode cL_isShownSo 55 = .ok (.istore_n 3, 1) := by decide +kernel
theorem dL_isShownSo_56 : decode cL_isShownSo 56 = .ok (.iinc 5 1, 3) := by decide +kernel
theorem dL_isShownSo_59 : decode cL_isShownSo 59 = .ok (.goto (-49), 3) := by decide +kernel
theorem dL_isShownSo_62 : decode cL_isShownSo 62 = .ok (.aload_n 0, 1) := by decide +kernel
theorem dL_isShownSo_63 : decode cL_isShownSo 63 = .ok (.iload_n 1, 1) := by decide +kernel
theorem dL_isShownSo_64 : decode cL_isShownSo 64 = .ok (.invokevirtual 70, 3) := by decide +kernel
theorem dL_isShownSo_67 : decode cL_isShownSo 67 = .ok (.iload 4, 2) := by decide +kernel
theorem dL_isShownSo_69 : decode cL_isShownSo 69 = .ok (.ifCond .eq 7, 3) := by decide +kernel
theorem dL_isShownSo_72 : decode cL_isShownSo 72 = .ok (.iload_n 2, 1) := by decide +kernel
theorem dL_isShownSo_73 : decode cL_isShownSo 73 = .ok (.goto 4, 3) := by decide +kernel
theorem dL_isShownSo_76 : decode cL_isShownSo 76 = .ok (.iconst (-1), 1) := by decide +kernel
theorem dL_isShownSo_77 : decode cL_isShownSo 77 = .ok (.if_icmp .ne 25, 3) := by decide +kernel
theorem dL_isShownSo_80 : decode cL_isShownSo 80 = .ok (.aload_n 0, 1) := by decide +kernel
theorem dL_isShownSo_81 : decode cL_isShownSo 81 = .ok (.invokevirtual 73, 3) := by decide +kernel
theorem dL_isShownSo_84 : decode cL_isShownSo 84 = .ok (.dconst 0, 1) := by decide +kernel
theorem dL_isShownSo_85 : decode cL_isShownSo 85 = .ok (.dcmp .l, 1) := by decide +kernel
theorem dL_isShownSo_86 : decode cL_isShownSo 86 = .ok (.ifCond .le 16, 3) := by decide +kernel
theorem dL_isShownSo_89 : decode cL_isShownSo 89 = .ok (.aload_n 0, 1) := by decide +kernel
theorem dL_isShownSo_90 : decode cL_isShownSo 90 = .ok (.invokevirtual 73, 3) := by decide +kernel
theorem dL_isShownSo_93 : decode cL_isShownSo 93 = .ok (.dconst 1, 1) := by decide +kernel
theorem dL_isShownSo_94 : decode cL_isShownSo 94 = .ok (.dcmp .g, 1) := by decide +kernel
theorem dL_isShownSo_95 : decode cL_isShownSo 95 = .ok (.ifCond .gt 7, 3) := by decide +kernel
theorem dL_isShownSo_98 : decode cL_isShownSo 98 = .ok (.iconst 1, 1) := by decide +kernel
theorem dL_isShownSo_99 : decode cL_isShownSo 99 = .ok (.goto 4, 3) := by decide +kernel
theorem dL_isShownSo_102 : decode cL_isShownSo 102 = .ok (.iconst 0, 1) := by decide +kernel
theorem dL_isShownSo_103 : decode cL_isShownSo 103 = .ok (.ireturn, 1) := by decide +kernel
set_option maxRecDepth 20000 in
theorem ggL_law_X3_init : GoodIn wsL_law wsX3_init := goodIn_r _ [6, 7, 8, 9, 10, 11, 12, 13, 14, 15, 16, 17, 18, 19, 20, 21, 22, 23, 24, 25, 26, 27, 28, 29, 30, 31, 32, 33, 34, 35, 36, 37, 38, 39, 40, 41, 42, 43, 44, 45, 46, 47, 48, 260, 261, 262, 263, 264, 265, 266, 257, 258, 259, 267, 268, 269, 270, 271] (by decide +kernel) (by decide +kernel)
set_option maxRecDepth 20000 in
theorem gL_law_X3_init : GoodIn wsL_law (wsX3_init) := ggL_law_X3_init
set_option maxRecDepth 20000 in
theorem ggL_law_L_cell : GoodIn wsL_law wsL_cell := goodIn_r _ [52] (by decide +kernel) (by decide +kernel)
set_option maxRecDepth 20000 in
theorem gL_law_L_cell : GoodIn wsL_law (va_wsS RL 78 yL_cell wsL_cell) := goodIn_app (goodIn_of _ (by decide +kernel)) ggL_law_L_cell
set_option maxRecDepth 20000 in
theorem ggL_law_X3_whole : GoodIn wsL_law wsX3_whole := goodIn_r _ [56, 13, 57, 58, 59, 60, 61, 12, 62, 27, 28, 257, 258, 259, 260, 261, 262, 263, 264, 265, 266] (by decide +kernel) (by decide +kernel)
set_option maxRecDepth 20000 in
theorem gL_law_X3_whole : GoodIn wsL_law (wsV RL 53 RX3 yX3_whole wsX3_whole) := goodIn_app (goodIn_of _ (by decide +kernel)) ggL_law_X3_whole
set_option maxRecDepth 20000 in
theorem ggL_law_L_does : GoodIn wsL_law wsL_does := goodIn_ca (goodIn_ca (goodIn_ca (goodIn_r _ [65, 66, 67, 51, 68, 69, 70, 71, 72, 2, 73, 13, 74, 75, 57, 76, 77, 78, 79, 80, 81, 82, 83, 84, 85, 86, 87, 88, 59, 60, 61, 12, 62, 27, 28, 89, 90, 91, 92, 93, 94, 95, 96, 97, 98, 99, 100, 101, 102, 103, 104, 29, 105, 106, 107, 108, 31, 109, 110, 111, 112, 113, 114, 17, 115, 116, 117, 118, 16, 119, 41, 40, 39, 120, 121, 122, 123, 30, 32, 33, 124, 125, 126, 127, 128, 129, 130, 131, 132, 133, 134, 135, 136, 137, 138, 139, 140, 141, 142, 143, 144, 145, 146, 147, 148, 149, 150, 151, 152, 153, 154, 155, 156, 157, 158, 159, 160, 161, 162, 163, 164, 165, 166, 167, 168, 169, 170, 171, 172, 173, 174, 175, 176, 177, 178, 179, 257, 258, 259, 260, 261, 262, 263, 264, 265, 266, 267, 268, 269] (by decide +kernel) (by decide +kernel)) (goodIn_sub (fun _ h => List.mem_append_left _ (List.mem_append_left _ (List.mem_append_right _ h))) (by decide +kernel))) (goodIn_sub (fun _ h => List.mem_append_left _ (List.mem_append_right _ h)) (by decide +kernel))) (goodIn_sub (fun _ h => List.mem_append_right _ h) (by decide +kernel))
set_option maxRecDepth 20000 in
theorem gL_law_L_does : GoodIn wsL_law (va_wsS RL 82 yL_does wsL_does) := goodIn_app (goodIn_of _ (by decide +kernel)) ggL_law_L_does
set_option maxRecDepth 20000 in
theorem ggL_law_L_low : GoodIn wsL_law wsL_low := goodIn_r _ [68, 69] (by decide +kernel) (by decide +kernel)
set_option maxRecDepth 20000 in
theorem gL_law_L_low : GoodIn wsL_law (va_wsS RL 8 yL_low wsL_low) := goodIn_app (goodIn_of _ (by decide +kernel)) ggL_law_L_low
set_option maxRecDepth 20000 in
theorem ggL_law_L_isAddedSo : GoodIn wsL_law wsL_isAddedSo := goodIn_ca (goodIn_ca (goodIn_ca (goodIn_r _ [182, 164, 165, 166, 2, 167, 13, 79, 80, 81, 82, 83, 84, 85, 86, 87, 88, 163, 143, 144, 12, 145, 146, 60, 61, 62, 27, 28, 93, 94, 95, 96, 97, 98, 99, 100, 101, 102, 103, 104, 29, 105, 106, 107, 108, 31, 147, 148, 149, 150, 151, 152, 153, 154, 30, 33, 32, 53, 54, 55, 56, 57, 58, 59, 183, 184, 185, 186, 133, 17, 187, 188, 189, 190, 191, 192, 193, 194, 195, 196, 197, 198, 199, 200, 201, 202, 203, 204, 205, 206, 207, 208, 209, 210, 211, 212, 213, 214, 215, 168, 169, 170, 171, 172, 173, 174, 175, 113, 114, 116, 117, 118, 16, 119, 41, 40, 39, 120, 121, 122, 123, 176, 177, 178, 179, 216, 217, 51, 218, 219, 220, 221, 222, 223, 224, 225, 226, 227, 257, 258, 259, 260, 261, 262, 263, 264, 265, 266, 267, 268, 269] (by decide +kernel) (by decide +kernel)) (goodIn_sub (fun _ h => List.mem_append_left _ (List.mem_append_left _ (List.mem_append_right _ h))) (by decide +kernel))) (goodIn_sub (fun _ h => List.mem_append_left _ (List.mem_append_right _ h)) (by decide +kernel))) (goodIn_sub (fun _ h => List.mem_append_right _ h) (by decide +kernel))
set_option maxRecDepth 20000 in
theorem gL_law_L_isAddedSo : GoodIn wsL_law (va_wsS RL 86 yL_isAddedSo wsL_isAddedSo) := goodIn_app (goodIn_of _ (by decide +kernel)) ggL_law_L_isAddedSo
set_option maxRecDepth 20000 in
theorem goodIn_hd {big a : List Cond} {c : Cond} (hm : c ∈ big) (hc : goodWord c = true) (ha : GoodIn big a) : GoodIn big (c :: a) := fun w h => (List.mem_cons.mp h).elim (fun e => ⟨e ▸ hm, good_of_word (e ▸ hc)⟩) (ha w)
theorem ggL_law_L_areRodsSo : GoodIn wsL_law wsL_areRodsSo := goodIn_ca (goodIn_ca (goodIn_hd (List.mem_of_getElem? (i := 230) (by rfl)) (by decide +kernel) (goodIn_r _ [219, 231, 70, 71, 72, 2, 73, 13, 74, 75, 57, 76, 77, 78, 79, 80, 81, 82, 83, 84, 85, 86, 87, 88, 59, 60, 61, 12, 62, 27, 28, 89, 90, 91, 92, 93, 94, 95, 96, 97, 98, 99, 100, 101, 102, 103, 104, 29, 105, 106, 107, 108, 31, 232, 233, 234, 235, 236, 53, 54, 55, 56, 58, 183, 184, 185, 186, 133, 17, 187, 188, 189, 190, 191, 192, 193, 194, 195, 30, 196, 197, 198, 199, 200, 201, 202, 203, 146, 204, 205, 206, 207, 208, 209, 210, 211, 212, 213, 214, 215, 257, 258, 259, 260, 261, 262, 263, 264, 265, 266, 267, 268, 269] (by decide +kernel) (by decide +kernel))) (goodIn_sub (fun _ h => List.mem_append_left _ (List.mem_append_left _ (List.mem_append_right _ h))) (by decide +kernel))) (goodIn_sub (fun _ h => List.mem_append_left _ (List.mem_append_right _ h)) (by decide +kernel))
set_option maxRecDepth 20000 in
theorem gL_law_L_areRodsSo : GoodIn wsL_law (va_wsS RL 90 yL_areRodsSo wsL_areRodsSo) := goodIn_app (goodIn_of _ (by decide +kernel)) ggL_law_L_areRodsSo
set_option maxRecDepth 20000 in
theorem ggL_law_L_arePaidSo : GoodIn wsL_law wsL_arePaidSo := goodIn_ca (goodIn_ca (goodIn_ca (goodIn_r _ [239, 240, 241, 242, 2, 243, 13, 57, 163, 143, 144, 12, 145, 146, 60, 61, 62, 27, 28, 93, 94, 95, 96, 97, 98, 99, 100, 101, 102, 103, 104, 29, 105, 106, 107, 108, 31, 147, 148, 149, 150, 151, 152, 153, 154, 30, 33, 32, 53, 54, 55, 56, 58, 59, 183, 184, 185, 186, 133, 17, 187, 84, 85, 86, 87, 88, 188, 189, 190, 191, 192, 193, 194, 195, 196, 197, 198, 199, 200, 201, 202, 203, 204, 205, 206, 207, 208, 209, 210, 211, 212, 213, 214, 215, 70, 71, 72, 73, 74, 75, 76, 77, 78, 79, 80, 81, 82, 83, 89, 90, 91, 92, 164, 165, 166, 167, 159, 160, 161, 162, 113, 114, 116, 117, 118, 16, 119, 41, 40, 39, 120, 121, 122, 123, 138, 139, 140, 141, 142, 220, 221, 222, 223, 224, 225, 226, 227, 134, 135, 136, 137, 155, 156, 157, 158, 257, 258, 259, 260, 261, 262, 263, 264, 265, 266, 267, 268, 269] (by decide +kernel) (by decide +kernel)) (goodIn_sub (fun _ h => List.mem_append_left _ (List.mem_append_right _ h)) (by decide +kernel))) (goodIn_sub (fun _ h => List.mem_append_left _ (List.mem_append_left _ (List.mem_append_right _ h))) (by decide +kernel))) (goodIn_sub (fun _ h => List.mem_append_right _ h) (by decide +kernel))
set_option maxRecDepth 20000 in
theorem gL_law_L_arePaidSo : GoodIn wsL_law (va_wsS RL 94 yL_arePaidSo wsL_arePaidSo) := goodIn_app (goodIn_of _ (by decide +kernel)) ggL_law_L_arePaidSo
set_option maxRecDepth 20000 in
theorem ggL_law_L_isShownSo : GoodIn wsL_law wsL_isShownSo := goodIn_ca (goodIn_ca (goodIn_r _ [246, 232, 233, 234, 2, 235, 13, 79, 80, 81, 82, 83, 84, 85, 86, 87, 88, 236, 94, 95, 12, 96, 97, 98, 99, 100, 27, 101, 102, 103, 104, 28, 29, 105, 106, 107, 108, 31, 247, 248, 249, 250, 251, 252, 253, 254, 255, 256, 89, 90, 91, 92, 93, 257, 258, 259, 260, 261, 262, 263, 264, 265, 266] (by decide +kernel) (by decide +kernel)) (goodIn_sub (fun _ h => List.mem_append_left _ (List.mem_append_left _ (List.mem_append_right _ h))) (by decide +kernel))) (goodIn_sub (fun _ h => List.mem_append_left _ (List.mem_append_right _ h)) (by decide +kernel))
set_option maxRecDepth 20000 in
theorem gL_law_L_isShownSo : GoodIn wsL_law (va_wsS RL 98 yL_isShownSo wsL_isShownSo) := goodIn_app (goodIn_of _ (by decide +kernel)) ggL_law_L_isShownSo
theorem dL_law_0 : decode cL_law 0 = .ok (.new 15, 3) := by decide +kernel
theorem dL_law_3 : decode cL_law 3 = .ok (.dup, 1) := by decide +kernel
theorem dL_law_4 : decode cL_law 4 = .ok (.invokespecial 77, 3) := by decide +kernel
theorem dL_law_7 : decode cL_law 7 = .ok (.astore_n 1, 1) := by decide +kernel
theorem dL_law_8 : decode cL_law 8 = .ok (.iconst 0, 1) := by decide +kernel
theorem dL_law_9 : decode cL_law 9 = .ok (.istore_n 2, 1) := by decide +kernel
theorem dL_law_10 : decode cL_law 10 = .ok (.iload_n 2, 1) := by decide +kernel
theorem dL_law_11 : decode cL_law 11 = .ok (.bipush 60, 2) := by decide +kernel
theorem dL_law_13 : decode cL_law 13 = .ok (.if_icmp .ge 151, 3) := by decide +kernel
theorem dL_law_16 : decode cL_law 16 = .ok (.aload_n 0, 1) := by decide +kernel
theorem dL_law_17 : decode cL_law 17 = .ok (.iload_n 2, 1) := by decide +kernel
theorem dL_law_18 : decode cL_law 18 = .ok (.invokestatic 78, 3) := by decide +kernel
theorem dL_law_21 : decode cL_law 21 = .ok (.istore_n 3, 1) := by decide +kernel
theorem dL_law_22 : decode cL_law 22 = .ok (.iload_n 3, 1) := by decide +kernel
theorem dL_law_23 : decode cL_law 23 = .ok (.bipush 15, 2) := by decide +kernel
theorem dL_law_25 : decode cL_law 25 = .ok (.iand, 1) := by decide +kernel
theorem dL_law_26 : decode cL_law 26 = .ok (.istore 4, 2) := by decide +kernel
theorem dL_law_28 : decode cL_law 28 = .ok (.aload_n 1, 1) := by decide +kernel
theorem dL_law_29 : decode cL_law 29 = .ok (.invokevirtual 53, 3) := by decide +kernel
theorem dL_law_32 : decode cL_law 32 = .ok (.lstore 5, 2) := by decide +kernel
theorem dL_law_34 : decode cL_law 34 = .ok (.aload_n 1, 1) := by decide +kernel
theorem dL_law_35 : decode cL_law 35 = .ok (.iload_n 3, 1) := by decide +kernel
theorem dL_law_36 : decode cL_law 36 = .ok (.invokestatic 82, 3) := by decide +kernel
theorem dL_law_39 : decode cL_law 39 = .ok (.istore 7, 2) := by decide +kernel
theorem dL_law_41 : decode cL_law 41 = .ok (.iload 7, 2) := by decide +kernel
