theorem dL_below_0 : decode cL_below 0 = .ok (.iload_n 0, 1) := by decide +kernel
theorem dL_below_1 : decode cL_below 1 = .ok (.ldc 7, 2) := by decide +kernel
theorem dL_below_3 : decode cL_below 3 = .ok (.iand, 1) := by decide +kernel
theorem dL_below_4 : decode cL_below 4 = .ok (.iload_n 1, 1) := by decide +kernel
theorem dL_below_5 : decode cL_below 5 = .ok (.irem, 1) := by decide +kernel
theorem dL_below_6 : decode cL_below 6 = .ok (.ireturn, 1) := by decide +kernel
theorem dL_cell_0 : decode cL_cell 0 = .ok (.iload_n 1, 1) := by decide +kernel
theorem dL_cell_1 : decode cL_cell 1 = .ok (.aload_n 0, 1) := by decide +kernel
theorem dL_cell_2 : decode cL_cell 2 = .ok (.arraylength, 1) := by decide +kernel
theorem dL_cell_3 : decode cL_cell 3 = .ok (.if_icmp .ge 9, 3) := by decide +kernel
theorem dL_cell_6 : decode cL_cell 6 = .ok (.aload_n 0, 1) := by decide +kernel
theorem dL_cell_7 : decode cL_cell 7 = .ok (.iload_n 1, 1) := by decide +kernel
theorem dL_cell_8 : decode cL_cell 8 = .ok (.iaload, 1) := by decide +kernel
theorem dL_cell_9 : decode cL_cell 9 = .ok (.goto 9, 3) := by decide +kernel
theorem dL_cell_12 : decode cL_cell 12 = .ok (.ldc 8, 2) := by decide +kernel
theorem dL_cell_14 : decode cL_cell 14 = .ok (.iload_n 1, 1) := by decide +kernel
theorem dL_cell_15 : decode cL_cell 15 = .ok (.iconst 3, 1) := by decide +kernel
theorem dL_cell_16 : decode cL_cell 16 = .ok (.iadd, 1) := by decide +kernel
theorem dL_cell_17 : decode cL_cell 17 = .ok (.imul, 1) := by decide +kernel
theorem dL_cell_18 : decode cL_cell 18 = .ok (.ireturn, 1) := by decide +kernel
set_option maxRecDepth 20000 in
theorem ggL_jobs_X6_addJob : GoodIn wsL_jobs wsX6_addJob := goodIn_ca (goodIn_r _ [7, 8, 9, 10, 11, 12, 13, 14, 15, 16, 76, 77, 78, 79, 80, 81] (by decide +kernel) (by decide +kernel)) (goodIn_sub (fun _ h => List.mem_cons_of_mem _ (List.mem_append_left _ (List.mem_append_left _ (List.mem_append_right _ h)))) (by decide +kernel))
set_option maxRecDepth 20000 in
theorem gL_jobs_X6_addJob : GoodIn wsL_jobs (wsV RL 11 RX6 yX6_addJob wsX6_addJob) := goodIn_app (goodIn_of _ (by decide +kernel)) ggL_jobs_X6_addJob
set_option maxRecDepth 20000 in
theorem ggL_jobs_L_cell : GoodIn wsL_jobs wsL_cell := goodIn_r _ [20, 21] (by decide +kernel) (by decide +kernel)
set_option maxRecDepth 20000 in
theorem gL_jobs_L_cell : GoodIn wsL_jobs (va_wsS RL 17 yL_cell wsL_cell) := goodIn_app (goodIn_of _ (by decide +kernel)) ggL_jobs_L_cell
set_option maxRecDepth 20000 in
theorem ggL_jobs_L_below : GoodIn wsL_jobs wsL_below := goodIn_r _ [24, 25] (by decide +kernel) (by decide +kernel)
set_option maxRecDepth 20000 in
theorem gL_jobs_L_below : GoodIn wsL_jobs (va_wsS RL 23 yL_below wsL_below) := goodIn_app (goodIn_of _ (by decide +kernel)) ggL_jobs_L_below
set_option maxRecDepth 20000 in
theorem ggL_jobs_X6_addStep : GoodIn wsL_jobs wsX6_addStep := goodIn_ca (goodIn_ca (goodIn_ca (goodIn_r _ [29, 30, 31, 8, 9, 10, 32, 33, 34, 35, 6, 36, 37, 38, 39, 40, 41, 42, 43, 44, 45, 46, 47, 48, 49, 50, 51, 52, 14, 53, 54, 55, 56, 57, 58, 59, 60, 61, 62, 63, 64, 65, 66, 67, 68, 69, 70, 71, 72, 73, 74, 75, 76, 77, 78, 82, 83, 84, 79, 80, 81, 85, 86, 87, 88, 89, 90, 91, 92, 93, 94, 95, 96, 97, 98, 99, 100, 101, 102, 103, 104, 105, 106, 107] (by decide +kernel) (by decide +kernel)) (goodIn_sub (fun _ h => List.mem_cons_of_mem _ (List.mem_append_left _ (List.mem_append_right _ h))) (by decide +kernel))) (goodIn_sub (fun _ h => List.mem_cons_of_mem _ (List.mem_append_left _ (List.mem_append_left _ (List.mem_append_right _ h)))) (by decide +kernel))) (goodIn_sub (fun _ h => List.mem_cons_of_mem _ (List.mem_append_right _ h)) (by decide +kernel))
set_option maxRecDepth 20000 in
theorem gL_jobs_X6_addStep : GoodIn wsL_jobs (wsV RL 29 RX6 yX6_addStep wsX6_addStep) := goodIn_app (goodIn_of _ (by decide +kernel)) ggL_jobs_X6_addStep
theorem dL_jobs_0 : decode cL_jobs 0 = .ok (.iload_n 2, 1) := by decide +kernel
theorem dL_jobs_1 : decode cL_jobs 1 = .ok (.anewarray 9, 3) := by decide +kernel
theorem dL_jobs_4 : decode cL_jobs 4 = .ok (.astore_n 3, 1) := by decide +kernel
theorem dL_jobs_5 : decode cL_jobs 5 = .ok (.iconst 0, 1) := by decide +kernel
theorem dL_jobs_6 : decode cL_jobs 6 = .ok (.istore 4, 2) := by decide +kernel
theorem dL_jobs_8 : decode cL_jobs 8 = .ok (.iload 4, 2) := by decide +kernel
theorem dL_jobs_10 : decode cL_jobs 10 = .ok (.iload_n 2, 1) := by decide +kernel
theorem dL_jobs_11 : decode cL_jobs 11 = .ok (.if_icmp .ge 14, 3) := by decide +kernel
theorem dL_jobs_14 : decode cL_jobs 14 = .ok (.aload_n 0, 1) := by decide +kernel
theorem dL_jobs_15 : decode cL_jobs 15 = .ok (.invokevirtual 11, 3) := by decide +kernel
theorem dL_jobs_18 : decode cL_jobs 18 = .ok (.pop, 1) := by decide +kernel
theorem dL_jobs_19 : decode cL_jobs 19 = .ok (.iinc 4 1, 3) := by decide +kernel
theorem dL_jobs_22 : decode cL_jobs 22 = .ok (.goto (-14), 3) := by decide +kernel
theorem dL_jobs_25 : decode cL_jobs 25 = .ok (.bipush 12, 2) := by decide +kernel
theorem dL_jobs_27 : decode cL_jobs 27 = .ok (.newarray .int, 2) := by decide +kernel
theorem dL_jobs_29 : decode cL_jobs 29 = .ok (.dup, 1) := by decide +kernel
theorem dL_jobs_30 : decode cL_jobs 30 = .ok (.iconst 0, 1) := by decide +kernel
theorem dL_jobs_31 : decode cL_jobs 31 = .ok (.iconst 0, 1) := by decide +kernel
theorem dL_jobs_32 : decode cL_jobs 32 = .ok (.iastore, 1) := by decide +kernel
theorem dL_jobs_33 : decode cL_jobs 33 = .ok (.dup, 1) := by decide +kernel
theorem dL_jobs_34 : decode cL_jobs 34 = .ok (.iconst 1, 1) := by decide +kernel
theorem dL_jobs_35 : decode cL_jobs 35 = .ok (.iconst 0, 1) := by decide +kernel
theorem dL_jobs_36 : decode cL_jobs 36 = .ok (.iastore, 1) := by decide +kernel
theorem dL_jobs_37 : decode cL_jobs 37 = .ok (.dup, 1) := by decide +kernel
theorem dL_jobs_38 : decode cL_jobs 38 = .ok (.iconst 2, 1) := by decide +kernel
theorem dL_jobs_39 : decode cL_jobs 39 = .ok (.iconst 1, 1) := by decide +kernel
theorem dL_jobs_40 : decode cL_jobs 40 = .ok (.iastore, 1) := by decide +kernel
theorem dL_jobs_41 : decode cL_jobs 41 = .ok (.dup, 1) := by decide +kernel
theorem dL_jobs_42 : decode cL_jobs 42 = .ok (.iconst 3, 1) := by decide +kernel
theorem dL_jobs_43 : decode cL_jobs 43 = .ok (.iconst 1, 1) := by decide +kernel
theorem dL_jobs_44 : decode cL_jobs 44 = .ok (.iastore, 1) := by decide +kernel
theorem dL_jobs_45 : decode cL_jobs 45 = .ok (.dup, 1) := by decide +kernel
theorem dL_jobs_46 : decode cL_jobs 46 = .ok (.iconst 4, 1) := by decide +kernel
theorem dL_jobs_47 : decode cL_jobs 47 = .ok (.iconst 2, 1) := by decide +kernel
theorem dL_jobs_48 : decode cL_jobs 48 = .ok (.iastore, 1) := by decide +kernel
theorem dL_jobs_49 : decode cL_jobs 49 = .ok (.dup, 1) := by decide +kernel
theorem dL_jobs_50 : decode cL_jobs 50 = .ok (.iconst 5, 1) := by decide +kernel
theorem dL_jobs_51 : decode cL_jobs 51 = .ok (.iconst 3, 1) := by decide +kernel
theorem dL_jobs_52 : decode cL_jobs 52 = .ok (.iastore, 1) := by decide +kernel
theorem dL_jobs_53 : decode cL_jobs 53 = .ok (.dup, 1) := by decide +kernel
theorem dL_jobs_54 : decode cL_jobs 54 = .ok (.bipush 6, 2) := by decide +kernel
theorem dL_jobs_56 : decode cL_jobs 56 = .ok (.iconst 4, 1) := by decide +kernel
theorem dL_jobs_57 : decode cL_jobs 57 = .ok (.iastore, 1) := by decide +kernel
theorem dL_jobs_58 : decode cL_jobs 58 = .ok (.dup, 1) := by decide +kernel
theorem dL_jobs_59 : decode cL_jobs 59 = .ok (.bipush 7, 2) := by decide +kernel
theorem dL_jobs_61 : decode cL_jobs 61 = .ok (.iconst 5, 1) := by decide +kernel
theorem dL_jobs_62 : decode cL_jobs 62 = .ok (.iastore, 1) := by decide +kernel
theorem dL_jobs_63 : decode cL_jobs 63 = .ok (.dup, 1) := by decide +kernel
theorem dL_jobs_64 : decode cL_jobs 64 = .ok (.bipush 8, 2) := by decide +kernel
theorem dL_jobs_66 : decode cL_jobs 66 = .ok (.bipush 6, 2) := by decide +kernel
theorem dL_jobs_68 : decode cL_jobs 68 = .ok (.iastore, 1) := by decide +kernel
theorem dL_jobs_69 : decode cL_jobs 69 = .ok (.dup, 1) := by decide +kernel
theorem dL_jobs_70 : decode cL_jobs 70 = .ok (.bipush 9, 2) := by decide +kernel
theorem dL_jobs_72 : decode cL_jobs 72 = .ok (.bipush 7, 2) := by decide +kernel
theorem dL_jobs_74 : decode cL_jobs 74 = .ok (.iastore, 1) := by decide +kernel
theorem dL_jobs_75 : decode cL_jobs 75 = .ok (.dup, 1) := by decide +kernel
theorem dL_jobs_76 : decode cL_jobs 76 = .ok (.bipush 10, 2) := by decide +kernel
theorem dL_jobs_78 : decode cL_jobs 78 = .ok (.bipush 8, 2) := by decide +kernel
theorem dL_jobs_80 : decode cL_jobs 80 = .ok (.iastore, 1) := by decide +kernel
theorem dL_jobs_81 : decode cL_jobs 81 = .ok (.dup, 1) := by decide +kernel
theorem dL_jobs_82 : decode cL_jobs 82 = .ok (.bipush 11, 2) := by decide +kernel
theorem dL_jobs_84 : decode cL_jobs 84 = .ok (.bipush 9, 2) := by decide +kernel
theorem dL_jobs_86 : decode cL_jobs 86 = .ok (.iastore, 1) := by decide +kernel
theorem dL_jobs_87 : decode cL_jobs 87 = .ok (.astore 4, 2) := by decide +kernel
theorem dL_jobs_89 : decode cL_jobs 89 = .ok (.iconst 0, 1) := by decide +kernel
theorem dL_jobs_90 : decode cL_jobs 90 = .ok (.istore 5, 2) := by decide +kernel
theorem dL_jobs_92 : decode cL_jobs 92 = .ok (.iload 5, 2) := by decide +kernel
theorem dL_jobs_94 : decode cL_jobs 94 = .ok (.iload_n 2, 1) := by decide +kernel
theorem dL_jobs_95 : decode cL_jobs 95 = .ok (.if_icmp .ge 183, 3) := by decide +kernel
theorem dL_jobs_98 : decode cL_jobs 98 = .ok (.aload_n 1, 1) := by decide +kernel
theorem dL_jobs_99 : decode cL_jobs 99 = .ok (.iload 5, 2) := by decide +kernel
theorem dL_jobs_101 : decode cL_jobs 101 = .ok (.invokestatic 17, 3) := by decide +kernel
theorem dL_jobs_104 : decode cL_jobs 104 = .ok (.bipush 8, 2) := by decide +kernel
theorem dL_jobs_106 : decode cL_jobs 106 = .ok (.invokestatic 23, 3) := by decide +kernel
theorem dL_jobs_109 : decode cL_jobs 109 = .ok (.istore 6, 2) := by decide +kernel
theorem dL_jobs_111 : decode cL_jobs 111 = .ok (.aload_n 3, 1) := by decide +kernel
theorem dL_jobs_112 : decode cL_jobs 112 = .ok (.iload 5, 2) := by decide +kernel
theorem dL_jobs_114 : decode cL_jobs 114 = .ok (.iload 6, 2) := by decide +kernel
theorem dL_jobs_116 : decode cL_jobs 116 = .ok (.anewarray 27, 3) := by decide +kernel
theorem dL_jobs_119 : decode cL_jobs 119 = .ok (.aastore, 1) := by decide +kernel
theorem dL_jobs_120 : decode cL_jobs 120 = .ok (.iconst 0, 1) := by decide +kernel
theorem dL_jobs_121 : decode cL_jobs 121 = .ok (.istore 7, 2) := by decide +kernel
theorem dL_jobs_123 : decode cL_jobs 123 = .ok (.iload 7, 2) := by decide +kernel
theorem dL_jobs_125 : decode cL_jobs 125 = .ok (.iload 6, 2) := by decide +kernel
theorem dL_jobs_127 : decode cL_jobs 127 = .ok (.if_icmp .ge 145, 3) := by decide +kernel
theorem dL_jobs_130 : decode cL_jobs 130 = .ok (.aload_n 1, 1) := by decide +kernel
theorem dL_jobs_131 : decode cL_jobs 131 = .ok (.iconst 1, 1) := by decide +kernel
theorem dL_jobs_132 : decode cL_jobs 132 = .ok (.iload 5, 2) := by decide +kernel
theorem dL_jobs_134 : decode cL_jobs 134 = .ok (.iadd, 1) := by decide +kernel
theorem dL_jobs_135 : decode cL_jobs 135 = .ok (.iconst 3, 1) := by decide +kernel
theorem dL_jobs_136 : decode cL_jobs 136 = .ok (.iload 7, 2) := by decide +kernel
theorem dL_jobs_138 : decode cL_jobs 138 = .ok (.imul, 1) := by decide +kernel
theorem dL_jobs_139 : decode cL_jobs 139 = .ok (.iadd, 1) := by decide +kernel
theorem dL_jobs_140 : decode cL_jobs 140 = .ok (.bipush 16, 2) := by decide +kernel
theorem dL_jobs_142 : decode cL_jobs 142 = .ok (.irem, 1) := by decide +kernel
theorem dL_jobs_143 : decode cL_jobs 143 = .ok (.invokestatic 17, 3) := by decide +kernel
theorem dL_jobs_146 : decode cL_jobs 146 = .ok (.iload 5, 2) := by decide +kernel
theorem dL_jobs_148 : decode cL_jobs 148 = .ok (.iload 7, 2) := by decide +kernel
theorem dL_jobs_150 : decode cL_jobs 150 = .ok (.iadd, 1) := by decide +kernel
theorem dL_jobs_151 : decode cL_jobs 151 = .ok (.iconst 5, 1) := by decide +kernel
theorem dL_jobs_152 : decode cL_jobs 152 = .ok (.irem, 1) := by decide +kernel
theorem dL_jobs_153 : decode cL_jobs 153 = .ok (.ishr, 1) := by decide +kernel
theorem dL_jobs_154 : decode cL_jobs 154 = .ok (.istore 8, 2) := by decide +kernel
theorem dL_jobs_156 : decode cL_jobs 156 = .ok (.aload 4, 2) := by decide +kernel
theorem dL_jobs_158 : decode cL_jobs 158 = .ok (.iload 8, 2) := by decide +kernel
theorem dL_jobs_160 : decode cL_jobs 160 = .ok (.bipush 12, 2) := by decide +kernel
theorem dL_jobs_162 : decode cL_jobs 162 = .ok (.invokestatic 23, 3) := by decide +kernel
theorem dL_jobs_165 : decode cL_jobs 165 = .ok (.iaload, 1) := by decide +kernel
theorem dL_jobs_166 : decode cL_jobs 166 = .ok (.istore 9, 2) := by decide +kernel
theorem dL_jobs_168 : decode cL_jobs 168 = .ok (.iload 9, 2) := by decide +kernel
theorem dL_jobs_170 : decode cL_jobs 170 = .ok (.ifCond .ne 16, 3) := by decide +kernel
theorem dL_jobs_173 : decode cL_jobs 173 = .ok (.iconst 1, 1) := by decide +kernel
theorem dL_jobs_174 : decode cL_jobs 174 = .ok (.iload 8, 2) := by decide +kernel
theorem dL_jobs_176 : decode cL_jobs 176 = .ok (.iconst 3, 1) := by decide +kernel
theorem dL_jobs_177 : decode cL_jobs 177 = .ok (.ishr, 1) := by decide +kernel
theorem dL_jobs_178 : decode cL_jobs 178 = .ok (.iconst 3, 1) := by decide +kernel
theorem dL_jobs_179 : decode cL_jobs 179 = .ok (.invokestatic 23, 3) := by decide +kernel
theorem dL_jobs_182 : decode cL_jobs 182 = .ok (.iadd, 1) := by decide +kernel
theorem dL_jobs_183 : decode cL_jobs 183 = .ok (.goto 50, 3) := by decide +kernel
theorem dL_jobs_186 : decode cL_jobs 186 = .ok (.iload 9, 2) := by decide +kernel
theorem dL_jobs_188 : decode cL_jobs 188 = .ok (.iconst 1, 1) := by decide +kernel
theorem dL_jobs_189 : decode cL_jobs 189 = .ok (.if_icmp .ne 14, 3) := by decide +kernel
theorem dL_jobs_192 : decode cL_jobs 192 = .ok (.iload 8, 2) := by decide +kernel
theorem dL_jobs_194 : decode cL_jobs 194 = .ok (.iconst 4, 1) := by decide +kernel
theorem dL_jobs_195 : decode cL_jobs 195 = .ok (.ishr, 1) := by decide +kernel
theorem dL_jobs_196 : decode cL_jobs 196 = .ok (.iload_n 2, 1) := by decide +kernel
theorem dL_jobs_197 : decode cL_jobs 197 = .ok (.invokestatic 23, 3) := by decide +kernel
theorem dL_jobs_200 : decode cL_jobs 200 = .ok (.goto 33, 3) := by decide +kernel
theorem dL_jobs_203 : decode cL_jobs 203 = .ok (.iload 9, 2) := by decide +kernel
theorem dL_jobs_205 : decode cL_jobs 205 = .ok (.iconst 5, 1) := by decide +kernel
theorem dL_jobs_206 : decode cL_jobs 206 = .ok (.if_icmp .ne 19, 3) := by decide +kernel
theorem dL_jobs_209 : decode cL_jobs 209 = .ok (.iload 8, 2) := by decide +kernel
theorem dL_jobs_211 : decode cL_jobs 211 = .ok (.iconst 3, 1) := by decide +kernel
theorem dL_jobs_212 : decode cL_jobs 212 = .ok (.ishr, 1) := by decide +kernel
theorem dL_jobs_213 : decode cL_jobs 213 = .ok (.sipush 201, 3) := by decide +kernel
theorem dL_jobs_216 : decode cL_jobs 216 = .ok (.invokestatic 23, 3) := by decide +kernel
theorem dL_jobs_219 : decode cL_jobs 219 = .ok (.bipush 100, 2) := by decide +kernel
theorem dL_jobs_221 : decode cL_jobs 221 = .ok (.isub, 1) := by decide +kernel
theorem dL_jobs_222 : decode cL_jobs 222 = .ok (.goto 11, 3) := by decide +kernel
theorem dL_jobs_225 : decode cL_jobs 225 = .ok (.iload 8, 2) := by decide +kernel
theorem dL_jobs_227 : decode cL_jobs 227 = .ok (.iconst 4, 1) := by decide +kernel
theorem dL_jobs_228 : decode cL_jobs 228 = .ok (.ishr, 1) := by decide +kernel
theorem dL_jobs_229 : decode cL_jobs 229 = .ok (.iconst 3, 1) := by decide +kernel
theorem dL_jobs_230 : decode cL_jobs 230 = .ok (.invokestatic 23, 3) := by decide +kernel
theorem dL_jobs_233 : decode cL_jobs 233 = .ok (.istore 10, 2) := by decide +kernel
theorem dL_jobs_235 : decode cL_jobs 235 = .ok (.aload_n 0, 1) := by decide +kernel
theorem dL_jobs_236 : decode cL_jobs 236 = .ok (.iload 5, 2) := by decide +kernel
theorem dL_jobs_238 : decode cL_jobs 238 = .ok (.iload 9, 2) := by decide +kernel
theorem dL_jobs_240 : decode cL_jobs 240 = .ok (.iload 10, 2) := by decide +kernel
theorem dL_jobs_242 : decode cL_jobs 242 = .ok (.invokevirtual 29, 3) := by decide +kernel
theorem dL_jobs_245 : decode cL_jobs 245 = .ok (.pop, 1) := by decide +kernel
theorem dL_jobs_246 : decode cL_jobs 246 = .ok (.aload_n 3, 1) := by decide +kernel
theorem dL_jobs_247 : decode cL_jobs 247 = .ok (.iload 5, 2) := by decide +kernel
theorem dL_jobs_249 : decode cL_jobs 249 = .ok (.aaload, 1) := by decide +kernel
theorem dL_jobs_250 : decode cL_jobs 250 = .ok (.iload 7, 2) := by decide +kernel
theorem dL_jobs_252 : decode cL_jobs 252 = .ok (.iconst 2, 1) := by decide +kernel
theorem dL_jobs_253 : decode cL_jobs 253 = .ok (.newarray .int, 2) := by decide +kernel
theorem dL_jobs_255 : decode cL_jobs 255 = .ok (.dup, 1) := by decide +kernel
theorem dL_jobs_256 : decode cL_jobs 256 = .ok (.iconst 0, 1) := by decide +kernel
theorem dL_jobs_257 : decode cL_jobs 257 = .ok (.iload 9, 2) := by decide +kernel
theorem dL_jobs_259 : decode cL_jobs 259 = .ok (.iastore, 1) := by decide +kernel
theorem dL_jobs_260 : decode cL_jobs 260 = .ok (.dup, 1) := by decide +kernel
theorem dL_jobs_261 : decode cL_jobs 261 = .ok (.iconst 1, 1) := by decide +kernel
theorem dL_jobs_262 : decode cL_jobs 262 = .ok (.iload 10, 2) := by decide +kernel
theorem dL_jobs_264 : decode cL_jobs 264 = .ok (.iastore, 1) := by decide +kernel
theorem dL_jobs_265 : decode cL_jobs 265 = .ok (.aastore, 1) := by decide +kernel
theorem dL_jobs_266 : decode cL_jobs 266 = .ok (.iinc 7 1, 3) := by decide +kernel
theorem dL_jobs_269 : decode cL_jobs 269 = .ok (.goto (-146), 3) := by decide +kernel
theorem dL_jobs_272 : decode cL_jobs 272 = .ok (.iinc 5 1, 3) := by decide +kernel
theorem dL_jobs_275 : decode cL_jobs 275 = .ok (.goto (-183), 3) := by decide +kernel
theorem dL_jobs_278 : decode cL_jobs 278 = .ok (.aload_n 3, 1) := by decide +kernel
theorem dL_jobs_279 : decode cL_jobs 279 = .ok (.areturn, 1) := by decide +kernel
set_option maxRecDepth 20000 in
theorem ggL_isSound_X6_workers : GoodIn wsL_isSound wsX6_workers := goodIn_r _ [8, 9, 105, 106, 107, 108, 109, 110, 111, 112, 113, 114, 115, 116, 117, 118, 119] (by decide +kernel) (by decide +kernel)
set_option maxRecDepth 20000 in
theorem gL_isSound_X6_workers : GoodIn wsL_isSound (wsV RL 33 RX6 yX6_workers wsX6_workers) := goodIn_app (goodIn_of _ (by decide +kernel)) ggL_isSound_X6_workers
set_option maxRecDepth 20000 in
theorem ggL_isSound_X6_row : GoodIn wsL_isSound wsX6_row := goodIn_ca (goodIn_r _ [13, 9, 14, 15, 16, 7, 17, 18, 19, 20, 21, 22, 23, 24, 25, 26, 27, 28, 29, 30, 31, 32, 33, 34, 35, 105, 106, 107, 120, 121, 108, 109, 110, 111, 112, 113, 114, 115, 116, 117, 118, 119, 122, 123, 124, 125, 126, 127] (by decide +kernel) (by decide +kernel)) (goodIn_sub (fun _ h => List.mem_cons_of_mem _ (List.mem_append_left _ (List.mem_append_right _ h))) (by decide +kernel))
set_option maxRecDepth 20000 in
theorem gL_isSound_X6_row : GoodIn wsL_isSound (wsV RL 36 RX6 yX6_row wsX6_row) := goodIn_app (goodIn_of _ (by decide +kernel)) ggL_isSound_X6_row
set_option maxRecDepth 20000 in
theorem ggL_isSound_X6_inRow : GoodIn wsL_isSound wsX6_inRow := goodIn_ca (goodIn_r _ [39, 22, 23, 9, 14, 15, 16, 7, 17, 18, 19, 20, 21, 24, 25, 26, 27, 28, 29, 30, 31, 32, 33, 34, 35, 40, 41, 42, 43, 44, 45, 46, 105, 106, 107, 120, 121, 108, 109, 110, 111, 112, 113, 114, 115, 116, 117, 118, 119, 122, 123, 124, 125, 126, 127] (by decide +kernel) (by decide +kernel)) (goodIn_sub (fun _ h => List.mem_cons_of_mem _ (List.mem_append_left _ (List.mem_append_right _ h))) (by decide +kernel))
set_option maxRecDepth 20000 in
theorem gL_isSound_X6_inRow : GoodIn wsL_isSound (wsV RL 40 RX6 yX6_inRow wsX6_inRow) := goodIn_app (goodIn_of _ (by decide +kernel)) ggL_isSound_X6_inRow
set_option maxRecDepth 20000 in
theorem ggL_isSound_X6_tasks : GoodIn wsL_isSound wsX6_tasks := goodIn_r _ [50, 9, 105, 106, 107, 108, 109, 110, 111, 112, 113, 114, 115, 116, 117, 118, 119] (by decide +kernel) (by decide +kernel)
set_option maxRecDepth 20000 in
theorem gL_isSound_X6_tasks : GoodIn wsL_isSound (wsV RL 43 RX6 yX6_tasks wsX6_tasks) := goodIn_app (goodIn_of _ (by decide +kernel)) ggL_isSound_X6_tasks
set_option maxRecDepth 20000 in
theorem ggL_isSound_X6_stateOf : GoodIn wsL_isSound wsX6_stateOf := goodIn_ca (goodIn_r _ [54, 9, 55, 56, 57, 7, 58, 22, 23, 59, 60, 61, 27, 62, 63, 64, 105, 106, 107, 128, 129, 130, 131, 132, 133, 134, 135, 136, 137, 138, 108, 109, 110, 111, 112, 113, 114, 115, 116, 117, 118, 119] (by decide +kernel) (by decide +kernel)) (goodIn_sub (fun _ h => List.mem_cons_of_mem _ (List.mem_append_left _ (List.mem_append_right _ h))) (by decide +kernel))
set_option maxRecDepth 20000 in
theorem gL_isSound_X6_stateOf : GoodIn wsL_isSound (wsV RL 46 RX6 yX6_stateOf wsX6_stateOf) := goodIn_app (goodIn_of _ (by decide +kernel)) ggL_isSound_X6_stateOf
set_option maxRecDepth 20000 in
theorem ggL_isSound_X6_stack : GoodIn wsL_isSound wsX6_stack := goodIn_ca (goodIn_r _ [68, 9, 18, 19, 20, 7, 21, 22, 23, 69, 31, 32, 27, 33, 34, 35, 105, 106, 107, 122, 123, 124, 125, 126, 127, 120, 121, 108, 109, 110, 111, 112, 113, 114, 115, 116, 117, 118, 119] (by decide +kernel) (by decide +kernel)) (goodIn_sub (fun _ h => List.mem_cons_of_mem _ (List.mem_append_left _ (List.mem_append_right _ h))) (by decide +kernel))
set_option maxRecDepth 20000 in
theorem gL_isSound_X6_stack : GoodIn wsL_isSound (wsV RL 49 RX6 yX6_stack wsX6_stack) := goodIn_app (goodIn_of _ (by decide +kernel)) ggL_isSound_X6_stack
set_option maxRecDepth 20000 in
theorem ggL_isSound_X6_top : GoodIn wsL_isSound wsX6_top := goodIn_ca (goodIn_r _ [73, 9, 18, 19, 20, 7, 21, 22, 23, 69, 31, 32, 27, 33, 34, 35, 74, 75, 76, 43, 77, 45, 78, 41, 42, 44, 46, 105, 106, 107, 122, 123, 124, 125, 126, 127, 108, 109, 110, 111, 112, 113, 114, 115, 116, 117, 118, 119, 120, 121] (by decide +kernel) (by decide +kernel)) (goodIn_sub (fun _ h => List.mem_cons_of_mem _ (List.mem_append_left _ (List.mem_append_right _ h))) (by decide +kernel))
set_option maxRecDepth 20000 in
theorem gL_isSound_X6_top : GoodIn wsL_isSound (wsV RL 52 RX6 yX6_top wsX6_top) := goodIn_app (goodIn_of _ (by decide +kernel)) ggL_isSound_X6_top
set_option maxRecDepth 20000 in
theorem ggL_isSound_X6_told : GoodIn wsL_isSound wsX6_told := goodIn_ca (goodIn_ca (goodIn_r _ [82, 83, 84, 9, 18, 19, 20, 7, 21, 22, 23, 69, 31, 32, 27, 33, 34, 35, 105, 106, 107, 122, 123, 124, 125, 126, 127, 108, 109, 110, 111, 112, 113, 114, 115, 116, 117, 118, 119] (by decide +kernel) (by decide +kernel)) (goodIn_sub (fun _ h => List.mem_cons_of_mem _ (List.mem_append_right _ h)) (by decide +kernel))) (goodIn_sub (fun _ h => List.mem_cons_of_mem _ (List.mem_append_left _ (List.mem_append_right _ h))) (by decide +kernel))
set_option maxRecDepth 20000 in
theorem gL_isSound_X6_told : GoodIn wsL_isSound (wsV RL 55 RX6 yX6_told wsX6_told) := goodIn_app (goodIn_of _ (by decide +kernel)) ggL_isSound_X6_told
set_option maxRecDepth 20000 in
theorem ggL_isSound_X6_clock : GoodIn wsL_isSound wsX6_clock := goodIn_r _ [88, 9, 105, 106, 107, 108, 109, 110, 111, 112, 113, 114, 115, 116, 117, 118, 119] (by decide +kernel) (by decide +kernel)
set_option maxRecDepth 20000 in
theorem gL_isSound_X6_clock : GoodIn wsL_isSound (wsV RL 58 RX6 yX6_clock wsX6_clock) := goodIn_app (goodIn_of _ (by decide +kernel)) ggL_isSound_X6_clock
set_option maxRecDepth 20000 in
theorem ggL_isSound_X6_parentOf : GoodIn wsL_isSound wsX6_parentOf := goodIn_ca (goodIn_r _ [92, 9, 55, 56, 57, 7, 58, 22, 23, 59, 60, 61, 27, 62, 63, 64, 105, 106, 107, 128, 129, 130, 131, 132, 133, 134, 135, 136, 137, 138, 108, 109, 110, 111, 112, 113, 114, 115, 116, 117, 118, 119] (by decide +kernel) (by decide +kernel)) (goodIn_sub (fun _ h => List.mem_cons_of_mem _ (List.mem_append_left _ (List.mem_append_right _ h))) (by decide +kernel))
set_option maxRecDepth 20000 in
theorem gL_isSound_X6_parentOf : GoodIn wsL_isSound (wsV RL 61 RX6 yX6_parentOf wsX6_parentOf) := goodIn_app (goodIn_of _ (by decide +kernel)) ggL_isSound_X6_parentOf
set_option maxRecDepth 20000 in
theorem ggL_isSound_X6_overAt : GoodIn wsL_isSound wsX6_overAt := goodIn_ca (goodIn_r _ [96, 9, 55, 56, 57, 7, 58, 22, 23, 59, 60, 61, 27, 62, 63, 64, 105, 106, 107, 128, 129, 130, 131, 132, 133, 134, 135, 136, 137, 138, 108, 109, 110, 111, 112, 113, 114, 115, 116, 117, 118, 119] (by decide +kernel) (by decide +kernel)) (goodIn_sub (fun _ h => List.mem_cons_of_mem _ (List.mem_append_left _ (List.mem_append_right _ h))) (by decide +kernel))
set_option maxRecDepth 20000 in
theorem gL_isSound_X6_overAt : GoodIn wsL_isSound (wsV RL 64 RX6 yX6_overAt wsX6_overAt) := goodIn_app (goodIn_of _ (by decide +kernel)) ggL_isSound_X6_overAt
set_option maxRecDepth 20000 in
theorem ggL_isSound_X6_valueOf : GoodIn wsL_isSound wsX6_valueOf := goodIn_ca (goodIn_r _ [100, 9, 55, 56, 57, 7, 58, 22, 23, 59, 60, 61, 27, 62, 63, 64, 105, 106, 107, 128, 129, 130, 131, 132, 133, 134, 135, 136, 137, 138, 108, 109, 110, 111, 112, 113, 114, 115, 116, 117, 118, 119] (by decide +kernel) (by decide +kernel)) (goodIn_sub (fun _ h => List.mem_cons_of_mem _ (List.mem_append_left _ (List.mem_append_right _ h))) (by decide +kernel))
set_option maxRecDepth 20000 in
theorem gL_isSound_X6_valueOf : GoodIn wsL_isSound (wsV RL 67 RX6 yX6_valueOf wsX6_valueOf) := goodIn_app (goodIn_of _ (by decide +kernel)) ggL_isSound_X6_valueOf
set_option maxRecDepth 20000 in
theorem ggL_isSound_X6_childrenOf : GoodIn wsL_isSound wsX6_childrenOf := goodIn_ca (goodIn_r _ [104, 9, 55, 56, 57, 7, 58, 22, 23, 59, 60, 61, 27, 62, 63, 64, 105, 106, 107, 128, 129, 130, 131, 132, 133, 134, 135, 136, 137, 138, 108, 109, 110, 111, 112, 113, 114, 115, 116, 117, 118, 119] (by decide +kernel) (by decide +kernel)) (goodIn_sub (fun _ h => List.mem_cons_of_mem _ (List.mem_append_left _ (List.mem_append_right _ h))) (by decide +kernel))
set_option maxRecDepth 20000 in
theorem gL_isSound_X6_childrenOf : GoodIn wsL_isSound (wsV RL 72 RX6 yX6_childrenOf wsX6_childrenOf) := goodIn_app (goodIn_of _ (by decide +kernel)) ggL_isSound_X6_childrenOf
theorem dL_isSound_0 : decode cL_isSound 0 = .ok (.bipush 24, 2) := by decide +kernel
theorem dL_isSound_2 : decode cL_isSound 2 = .ok (.newarray .int, 2) := by decide +kernel
theorem dL_isSound_4 : decode cL_isSound 4 = .ok (.astore_n 1, 1) := by decide +kernel
theorem dL_isSound_5 : decode cL_isSound 5 = .ok (.iconst (-1), 1) := by decide +kernel
theorem dL_isSound_6 : decode cL_isSound 6 = .ok (.istore_n 2, 1) := by decide +kernel
theorem dL_isSound_7 : decode cL_isSound 7 = .ok (.iload_n 2, 1) := by decide +kernel
theorem dL_isSound_8 : decode cL_isSound 8 = .ok (.aload_n 0, 1) := by decide +kernel
theorem dL_isSound_9 : decode cL_isSound 9 = .ok (.invokevirtual 33, 3) := by decide +kernel
theorem dL_isSound_12 : decode cL_isSound 12 = .ok (.if_icmp .ge 67, 3) := by decide +kernel
theorem dL_isSound_15 : decode cL_isSound 15 = .ok (.iconst 0, 1) := by decide +kernel
theorem dL_isSound_16 : decode cL_isSound 16 = .ok (.istore_n 3, 1) := by decide +kernel
theorem dL_isSound_17 : decode cL_isSound 17 = .ok (.iload_n 3, 1) := by decide +kernel
theorem dL_isSound_18 : decode cL_isSound 18 = .ok (.aload_n 0, 1) := by decide +kernel
theorem dL_isSound_19 : decode cL_isSound 19 = .ok (.iload_n 2, 1) := by decide +kernel
theorem dL_isSound_20 : decode cL_isSound 20 = .ok (.invokevirtual 36, 3) := by decide +kernel
theorem dL_isSound_23 : decode cL_isSound 23 = .ok (.if_icmp .ge 50, 3) := by decide +kernel
theorem dL_isSound_26 : decode cL_isSound 26 = .ok (.aload_n 0, 1) := by decide +kernel
theorem dL_isSound_27 : decode cL_isSound 27 = .ok (.iload_n 2, 1) := by decide +kernel
theorem dL_isSound_28 : decode cL_isSound 28 = .ok (.iload_n 3, 1) := by decide +kernel
theorem dL_isSound_29 : decode cL_isSound 29 = .ok (.invokevirtual 40, 3) := by decide +kernel
theorem dL_isSound_32 : decode cL_isSound 32 = .ok (.istore 4, 2) := by decide +kernel
theorem dL_isSound_34 : decode cL_isSound 34 = .ok (.iload 4, 2) := by decide +kernel
theorem dL_isSound_36 : decode cL_isSound 36 = .ok (.ifCond .lt 21, 3) := by decide +kernel
theorem dL_isSound_39 : decode cL_isSound 39 = .ok (.iload 4, 2) := by decide +kernel
theorem dL_isSound_41 : decode cL_isSound 41 = .ok (.aload_n 0, 1) := by decide +kernel
theorem dL_isSound_42 : decode cL_isSound 42 = .ok (.invokevirtual 43, 3) := by decide +kernel
theorem dL_isSound_45 : decode cL_isSound 45 = .ok (.if_icmp .ge 12, 3) := by decide +kernel
theorem dL_isSound_48 : decode cL_isSound 48 = .ok (.aload_n 0, 1) := by decide +kernel
theorem dL_isSound_49 : decode cL_isSound 49 = .ok (.iload 4, 2) := by decide +kernel
theorem dL_isSound_51 : decode cL_isSound 51 = .ok (.invokevirtual 46, 3) := by decide +kernel
theorem dL_isSound_54 : decode cL_isSound 54 = .ok (.ifCond .eq 5, 3) := by decide +kernel
theorem dL_isSound_57 : decode cL_isSound 57 = .ok (.iconst 0, 1) := by decide +kernel
theorem dL_isSound_58 : decode cL_isSound 58 = .ok (.ireturn, 1) := by decide +kernel
theorem dL_isSound_59 : decode cL_isSound 59 = .ok (.aload_n 1, 1) := by decide +kernel
theorem dL_isSound_60 : decode cL_isSound 60 = .ok (.iload 4, 2) := by decide +kernel
theorem dL_isSound_62 : decode cL_isSound 62 = .ok (.dup2, 1) := by decide +kernel
theorem dL_isSound_63 : decode cL_isSound 63 = .ok (.iaload, 1) := by decide +kernel
theorem dL_isSound_64 : decode cL_isSound 64 = .ok (.iconst 1, 1) := by decide +kernel
theorem dL_isSound_65 : decode cL_isSound 65 = .ok (.iadd, 1) := by decide +kernel
theorem dL_isSound_66 : decode cL_isSound 66 = .ok (.iastore, 1) := by decide +kernel
theorem dL_isSound_67 : decode cL_isSound 67 = .ok (.iinc 3 1, 3) := by decide +kernel
theorem dL_isSound_70 : decode cL_isSound 70 = .ok (.goto (-53), 3) := by decide +kernel
theorem dL_isSound_73 : decode cL_isSound 73 = .ok (.iinc 2 1, 3) := by decide +kernel
theorem dL_isSound_76 : decode cL_isSound 76 = .ok (.goto (-69), 3) := by decide +kernel
theorem dL_isSound_79 : decode cL_isSound 79 = .ok (.iconst 0, 1) := by decide +kernel
theorem dL_isSound_80 : decode cL_isSound 80 = .ok (.istore_n 2, 1) := by decide +kernel
theorem dL_isSound_81 : decode cL_isSound 81 = .ok (.iconst 0, 1) := by decide +kernel
theorem dL_isSound_82 : decode cL_isSound 82 = .ok (.istore_n 3, 1) := by decide +kernel
theorem dL_isSound_83 : decode cL_isSound 83 = .ok (.iload_n 3, 1) := by decide +kernel
theorem dL_isSound_84 : decode cL_isSound 84 = .ok (.aload_n 0, 1) := by decide +kernel
theorem dL_isSound_85 : decode cL_isSound 85 = .ok (.invokevirtual 33, 3) := by decide +kernel
theorem dL_isSound_88 : decode cL_isSound 88 = .ok (.if_icmp .ge 104, 3) := by decide +kernel
theorem dL_isSound_91 : decode cL_isSound 91 = .ok (.iload_n 2, 1) := by decide +kernel
theorem dL_isSound_92 : decode cL_isSound 92 = .ok (.aload_n 0, 1) := by decide +kernel
theorem dL_isSound_93 : decode cL_isSound 93 = .ok (.iload_n 3, 1) := by decide +kernel
theorem dL_isSound_94 : decode cL_isSound 94 = .ok (.invokevirtual 49, 3) := by decide +kernel
theorem dL_isSound_97 : decode cL_isSound 97 = .ok (.iadd, 1) := by decide +kernel
theorem dL_isSound_98 : decode cL_isSound 98 = .ok (.istore_n 2, 1) := by decide +kernel
theorem dL_isSound_99 : decode cL_isSound 99 = .ok (.aload_n 0, 1) := by decide +kernel
theorem dL_isSound_100 : decode cL_isSound 100 = .ok (.iload_n 3, 1) := by decide +kernel
theorem dL_isSound_101 : decode cL_isSound 101 = .ok (.invokevirtual 52, 3) := by decide +kernel
theorem dL_isSound_104 : decode cL_isSound 104 = .ok (.istore 4, 2) := by decide +kernel
theorem dL_isSound_106 : decode cL_isSound 106 = .ok (.iload 4, 2) := by decide +kernel
theorem dL_isSound_108 : decode cL_isSound 108 = .ok (.ifCond .ge 7, 3) := by decide +kernel
theorem dL_isSound_111 : decode cL_isSound 111 = .ok (.iconst 1, 1) := by decide +kernel
theorem dL_isSound_112 : decode cL_isSound 112 = .ok (.goto 4, 3) := by decide +kernel
theorem dL_isSound_115 : decode cL_isSound 115 = .ok (.iconst 0, 1) := by decide +kernel
theorem dL_isSound_116 : decode cL_isSound 116 = .ok (.aload_n 0, 1) := by decide +kernel
theorem dL_isSound_117 : decode cL_isSound 117 = .ok (.iload_n 3, 1) := by decide +kernel
theorem dL_isSound_118 : decode cL_isSound 118 = .ok (.invokevirtual 49, 3) := by decide +kernel
theorem dL_isSound_121 : decode cL_isSound 121 = .ok (.ifCond .ne 7, 3) := by decide +kernel
theorem dL_isSound_124 : decode cL_isSound 124 = .ok (.iconst 1, 1) := by decide +kernel
theorem dL_isSound_125 : decode cL_isSound 125 = .ok (.goto 4, 3) := by decide +kernel
theorem dL_isSound_128 : decode cL_isSound 128 = .ok (.iconst 0, 1) := by decide +kernel
theorem dL_isSound_129 : decode cL_isSound 129 = .ok (.if_icmp .ne 55, 3) := by decide +kernel
theorem dL_isSound_132 : decode cL_isSound 132 = .ok (.iload 4, 2) := by decide +kernel
theorem dL_isSound_134 : decode cL_isSound 134 = .ok (.ifCond .lt 23, 3) := by decide +kernel
theorem dL_isSound_137 : decode cL_isSound 137 = .ok (.aload_n 0, 1) := by decide +kernel
theorem dL_isSound_138 : decode cL_isSound 138 = .ok (.iload 4, 2) := by decide +kernel
theorem dL_isSound_140 : decode cL_isSound 140 = .ok (.invokevirtual 46, 3) := by decide +kernel
theorem dL_isSound_143 : decode cL_isSound 143 = .ok (.iconst 1, 1) := by decide +kernel
theorem dL_isSound_144 : decode cL_isSound 144 = .ok (.if_icmp .lt 40, 3) := by decide +kernel
theorem dL_isSound_147 : decode cL_isSound 147 = .ok (.aload_n 0, 1) := by decide +kernel
theorem dL_isSound_148 : decode cL_isSound 148 = .ok (.iload 4, 2) := by decide +kernel
theorem dL_isSound_150 : decode cL_isSound 150 = .ok (.invokevirtual 46, 3) := by decide +kernel
theorem dL_isSound_153 : decode cL_isSound 153 = .ok (.iconst 3, 1) := by decide +kernel
theorem dL_isSound_154 : decode cL_isSound 154 = .ok (.if_icmp .gt 30, 3) := by decide +kernel
theorem dL_isSound_157 : decode cL_isSound 157 = .ok (.aload_n 0, 1) := by decide +kernel
theorem dL_isSound_158 : decode cL_isSound 158 = .ok (.iload_n 3, 1) := by decide +kernel
theorem dL_isSound_159 : decode cL_isSound 159 = .ok (.iconst 0, 1) := by decide +kernel
theorem dL_isSound_160 : decode cL_isSound 160 = .ok (.invokevirtual 55, 3) := by decide +kernel
theorem dL_isSound_163 : decode cL_isSound 163 = .ok (.aload_n 0, 1) := by decide +kernel
theorem dL_isSound_164 : decode cL_isSound 164 = .ok (.iload_n 3, 1) := by decide +kernel
theorem dL_isSound_165 : decode cL_isSound 165 = .ok (.iconst 1, 1) := by decide +kernel
theorem dL_isSound_166 : decode cL_isSound 166 = .ok (.invokevirtual 55, 3) := by decide +kernel
theorem dL_isSound_169 : decode cL_isSound 169 = .ok (.iadd, 1) := by decide +kernel
theorem dL_isSound_170 : decode cL_isSound 170 = .ok (.aload_n 0, 1) := by decide +kernel
theorem dL_isSound_171 : decode cL_isSound 171 = .ok (.iload_n 3, 1) := by decide +kernel
theorem dL_isSound_172 : decode cL_isSound 172 = .ok (.iconst 2, 1) := by decide +kernel
theorem dL_isSound_173 : decode cL_isSound 173 = .ok (.invokevirtual 55, 3) := by decide +kernel
theorem dL_isSound_176 : decode cL_isSound 176 = .ok (.iadd, 1) := by decide +kernel
theorem dL_isSound_177 : decode cL_isSound 177 = .ok (.aload_n 0, 1) := by decide +kernel
theorem dL_isSound_178 : decode cL_isSound 178 = .ok (.invokevirtual 58, 3) := by decide +kernel
theorem dL_isSound_181 : decode cL_isSound 181 = .ok (.if_icmp .le 5, 3) := by decide +kernel
theorem dL_isSound_184 : decode cL_isSound 184 = .ok (.iconst 0, 1) := by decide +kernel
theorem dL_isSound_185 : decode cL_isSound 185 = .ok (.ireturn, 1) := by decide +kernel
theorem dL_isSound_186 : decode cL_isSound 186 = .ok (.iinc 3 1, 3) := by decide +kernel
theorem dL_isSound_189 : decode cL_isSound 189 = .ok (.goto (-106), 3) := by decide +kernel
theorem dL_isSound_192 : decode cL_isSound 192 = .ok (.iconst 0, 1) := by decide +kernel
theorem dL_isSound_193 : decode cL_isSound 193 = .ok (.istore_n 3, 1) := by decide +kernel
theorem dL_isSound_194 : decode cL_isSound 194 = .ok (.iconst 0, 1) := by decide +kernel
theorem dL_isSound_195 : decode cL_isSound 195 = .ok (.istore 4, 2) := by decide +kernel
theorem dL_isSound_197 : decode cL_isSound 197 = .ok (.iconst 0, 1) := by decide +kernel
theorem dL_isSound_198 : decode cL_isSound 198 = .ok (.istore 5, 2) := by decide +kernel
theorem dL_isSound_200 : decode cL_isSound 200 = .ok (.iload 5, 2) := by decide +kernel
theorem dL_isSound_202 : decode cL_isSound 202 = .ok (.aload_n 0, 1) := by decide +kernel
theorem dL_isSound_203 : decode cL_isSound 203 = .ok (.invokevirtual 43, 3) := by decide +kernel
theorem dL_isSound_206 : decode cL_isSound 206 = .ok (.if_icmp .ge 246, 3) := by decide +kernel
theorem dL_isSound_209 : decode cL_isSound 209 = .ok (.aload_n 0, 1) := by decide +kernel
theorem dL_isSound_210 : decode cL_isSound 210 = .ok (.iload 5, 2) := by decide +kernel
theorem dL_isSound_212 : decode cL_isSound 212 = .ok (.invokevirtual 46, 3) := by decide +kernel
theorem dL_isSound_215 : decode cL_isSound 215 = .ok (.istore 6, 2) := by decide +kernel
theorem dL_isSound_217 : decode cL_isSound 217 = .ok (.iload_n 3, 1) := by decide +kernel
theorem dL_isSound_218 : decode cL_isSound 218 = .ok (.iload 6, 2) := by decide +kernel
theorem dL_isSound_220 : decode cL_isSound 220 = .ok (.iconst 1, 1) := by decide +kernel
theorem dL_isSound_221 : decode cL_isSound 221 = .ok (.if_icmp .ne 7, 3) := by decide +kernel
theorem dL_isSound_224 : decode cL_isSound 224 = .ok (.iconst 1, 1) := by decide +kernel
theorem dL_isSound_225 : decode cL_isSound 225 = .ok (.goto 4, 3) := by decide +kernel
theorem dL_isSound_228 : decode cL_isSound 228 = .ok (.iconst 0, 1) := by decide +kernel
theorem dL_isSound_229 : decode cL_isSound 229 = .ok (.iadd, 1) := by decide +kernel
theorem dL_isSound_230 : decode cL_isSound 230 = .ok (.istore_n 3, 1) := by decide +kernel
theorem dL_isSound_231 : decode cL_isSound 231 = .ok (.iload 4, 2) := by decide +kernel
theorem dL_isSound_233 : decode cL_isSound 233 = .ok (.iload 6, 2) := by decide +kernel
theorem dL_isSound_235 : decode cL_isSound 235 = .ok (.iconst 2, 1) := by decide +kernel
theorem dL_isSound_236 : decode cL_isSound 236 = .ok (.if_icmp .eq 9, 3) := by decide +kernel
theorem dL_isSound_239 : decode cL_isSound 239 = .ok (.iload 6, 2) := by decide +kernel
theorem dL_isSound_241 : decode cL_isSound 241 = .ok (.iconst 3, 1) := by decide +kernel
theorem dL_isSound_242 : decode cL_isSound 242 = .ok (.if_icmp .ne 7, 3) := by decide +kernel
theorem dL_isSound_245 : decode cL_isSound 245 = .ok (.iconst 1, 1) := by decide +kernel
theorem dL_isSound_246 : decode cL_isSound 246 = .ok (.goto 4, 3) := by decide +kernel
theorem dL_isSound_249 : decode cL_isSound 249 = .ok (.iconst 0, 1) := by decide +kernel
theorem dL_isSound_250 : decode cL_isSound 250 = .ok (.iadd, 1) := by decide +kernel
theorem dL_isSound_251 : decode cL_isSound 251 = .ok (.istore 4, 2) := by decide +kernel
theorem dL_isSound_253 : decode cL_isSound 253 = .ok (.aload_n 0, 1) := by decide +kernel
theorem dL_isSound_254 : decode cL_isSound 254 = .ok (.iload 5, 2) := by decide +kernel
theorem dL_isSound_256 : decode cL_isSound 256 = .ok (.invokevirtual 61, 3) := by decide +kernel
theorem dL_isSound_259 : decode cL_isSound 259 = .ok (.istore 7, 2) := by decide +kernel
theorem dL_isSound_261 : decode cL_isSound 261 = .ok (.aload_n 1, 1) := by decide +kernel
theorem dL_isSound_262 : decode cL_isSound 262 = .ok (.iload 5, 2) := by decide +kernel
theorem dL_isSound_264 : decode cL_isSound 264 = .ok (.iaload, 1) := by decide +kernel
theorem dL_isSound_265 : decode cL_isSound 265 = .ok (.iload 6, 2) := by decide +kernel
theorem dL_isSound_267 : decode cL_isSound 267 = .ok (.ifCond .ne 7, 3) := by decide +kernel
theorem dL_isSound_270 : decode cL_isSound 270 = .ok (.iconst 1, 1) := by decide +kernel
theorem dL_isSound_271 : decode cL_isSound 271 = .ok (.goto 4, 3) := by decide +kernel
theorem dL_isSound_274 : decode cL_isSound 274 = .ok (.iconst 0, 1) := by decide +kernel
theorem dL_isSound_275 : decode cL_isSound 275 = .ok (.if_icmp .ne 85, 3) := by decide +kernel
theorem dL_isSound_278 : decode cL_isSound 278 = .ok (.aload_n 0, 1) := by decide +kernel
theorem dL_isSound_279 : decode cL_isSound 279 = .ok (.iload 5, 2) := by decide +kernel
theorem dL_isSound_281 : decode cL_isSound 281 = .ok (.invokevirtual 64, 3) := by decide +kernel
theorem dL_isSound_284 : decode cL_isSound 284 = .ok (.ifCond .ge 7, 3) := by decide +kernel
theorem dL_isSound_287 : decode cL_isSound 287 = .ok (.iconst 1, 1) := by decide +kernel
theorem dL_isSound_288 : decode cL_isSound 288 = .ok (.goto 4, 3) := by decide +kernel
theorem dL_isSound_291 : decode cL_isSound 291 = .ok (.iconst 0, 1) := by decide +kernel
theorem dL_isSound_292 : decode cL_isSound 292 = .ok (.iload 6, 2) := by decide +kernel
theorem dL_isSound_294 : decode cL_isSound 294 = .ok (.iconst 4, 1) := by decide +kernel
theorem dL_isSound_295 : decode cL_isSound 295 = .ok (.if_icmp .ge 7, 3) := by decide +kernel
theorem dL_isSound_298 : decode cL_isSound 298 = .ok (.iconst 1, 1) := by decide +kernel
theorem dL_isSound_299 : decode cL_isSound 299 = .ok (.goto 4, 3) := by decide +kernel
theorem dL_isSound_302 : decode cL_isSound 302 = .ok (.iconst 0, 1) := by decide +kernel
theorem dL_isSound_303 : decode cL_isSound 303 = .ok (.if_icmp .ne 57, 3) := by decide +kernel
theorem dL_isSound_306 : decode cL_isSound 306 = .ok (.iload 6, 2) := by decide +kernel
theorem dL_isSound_308 : decode cL_isSound 308 = .ok (.iconst 4, 1) := by decide +kernel
theorem dL_isSound_309 : decode cL_isSound 309 = .ok (.if_icmp .eq 9, 3) := by decide +kernel
theorem dL_isSound_312 : decode cL_isSound 312 = .ok (.iload 6, 2) := by decide +kernel
theorem dL_isSound_314 : decode cL_isSound 314 = .ok (.iconst 5, 1) := by decide +kernel
theorem dL_isSound_315 : decode cL_isSound 315 = .ok (.if_icmp .ne 16, 3) := by decide +kernel
theorem dL_isSound_318 : decode cL_isSound 318 = .ok (.aload_n 0, 1) := by decide +kernel
theorem dL_isSound_319 : decode cL_isSound 319 = .ok (.iload 5, 2) := by decide +kernel
theorem dL_isSound_321 : decode cL_isSound 321 = .ok (.invokevirtual 64, 3) := by decide +kernel
theorem dL_isSound_324 : decode cL_isSound 324 = .ok (.aload_n 0, 1) := by decide +kernel
theorem dL_isSound_325 : decode cL_isSound 325 = .ok (.invokevirtual 58, 3) := by decide +kernel
theorem dL_isSound_328 : decode cL_isSound 328 = .ok (.if_icmp .ge 32, 3) := by decide +kernel
theorem dL_isSound_331 : decode cL_isSound 331 = .ok (.iload 7, 2) := by decide +kernel
theorem dL_isSound_333 : decode cL_isSound 333 = .ok (.iload 5, 2) := by decide +kernel
theorem dL_isSound_335 : decode cL_isSound 335 = .ok (.if_icmp .ge 25, 3) := by decide +kernel
theorem dL_isSound_338 : decode cL_isSound 338 = .ok (.aload_n 0, 1) := by decide +kernel
theorem dL_isSound_339 : decode cL_isSound 339 = .ok (.iload 5, 2) := by decide +kernel
theorem dL_isSound_341 : decode cL_isSound 341 = .ok (.invokevirtual 67, 3) := by decide +kernel
theorem dL_isSound_344 : decode cL_isSound 344 = .ok (.ldc 70, 2) := by decide +kernel
theorem dL_isSound_346 : decode cL_isSound 346 = .ok (.if_icmp .gt 14, 3) := by decide +kernel
theorem dL_isSound_349 : decode cL_isSound 349 = .ok (.aload_n 0, 1) := by decide +kernel
theorem dL_isSound_350 : decode cL_isSound 350 = .ok (.iload 5, 2) := by decide +kernel
theorem dL_isSound_352 : decode cL_isSound 352 = .ok (.invokevirtual 67, 3) := by decide +kernel
theorem dL_isSound_355 : decode cL_isSound 355 = .ok (.ldc 71, 2) := by decide +kernel
theorem dL_isSound_357 : decode cL_isSound 357 = .ok (.if_icmp .ge 5, 3) := by decide +kernel
theorem dL_isSound_360 : decode cL_isSound 360 = .ok (.iconst 0, 1) := by decide +kernel
theorem dL_isSound_361 : decode cL_isSound 361 = .ok (.ireturn, 1) := by decide +kernel
theorem dL_isSound_362 : decode cL_isSound 362 = .ok (.aload_n 0, 1) := by decide +kernel
theorem dL_isSound_363 : decode cL_isSound 363 = .ok (.iload 5, 2) := by decide +kernel
theorem dL_isSound_365 : decode cL_isSound 365 = .ok (.invokevirtual 72, 3) := by decide +kernel
theorem dL_isSound_368 : decode cL_isSound 368 = .ok (.istore 8, 2) := by decide +kernel
theorem dL_isSound_370 : decode cL_isSound 370 = .ok (.iconst 0, 1) := by decide +kernel
theorem dL_isSound_371 : decode cL_isSound 371 = .ok (.istore 9, 2) := by decide +kernel
theorem dL_isSound_373 : decode cL_isSound 373 = .ok (.iload 9, 2) := by decide +kernel
theorem dL_isSound_375 : decode cL_isSound 375 = .ok (.bipush 24, 2) := by decide +kernel
theorem dL_isSound_377 : decode cL_isSound 377 = .ok (.if_icmp .ge 42, 3) := by decide +kernel
theorem dL_isSound_380 : decode cL_isSound 380 = .ok (.iload 8, 2) := by decide +kernel
theorem dL_isSound_382 : decode cL_isSound 382 = .ok (.iload 9, 2) := by decide +kernel
theorem dL_isSound_384 : decode cL_isSound 384 = .ok (.ishr, 1) := by decide +kernel
theorem dL_isSound_385 : decode cL_isSound 385 = .ok (.iconst 1, 1) := by decide +kernel
theorem dL_isSound_386 : decode cL_isSound 386 = .ok (.iand, 1) := by decide +kernel
theorem dL_isSound_387 : decode cL_isSound 387 = .ok (.iconst 1, 1) := by decide +kernel
theorem dL_isSound_388 : decode cL_isSound 388 = .ok (.if_icmp .ne 25, 3) := by decide +kernel
theorem dL_isSound_391 : decode cL_isSound 391 = .ok (.iload 9, 2) := by decide +kernel
theorem dL_isSound_393 : decode cL_isSound 393 = .ok (.aload_n 0, 1) := by decide +kernel
theorem dL_isSound_394 : decode cL_isSound 394 = .ok (.invokevirtual 43, 3) := by decide +kernel
theorem dL_isSound_397 : decode cL_isSound 397 = .ok (.if_icmp .ge 14, 3) := by decide +kernel
theorem dL_isSound_400 : decode cL_isSound 400 = .ok (.aload_n 0, 1) := by decide +kernel
theorem dL_isSound_401 : decode cL_isSound 401 = .ok (.iload 9, 2) := by decide +kernel
theorem dL_isSound_403 : decode cL_isSound 403 = .ok (.invokevirtual 61, 3) := by decide +kernel
theorem dL_isSound_406 : decode cL_isSound 406 = .ok (.iload 5, 2) := by decide +kernel
theorem dL_isSound_408 : decode cL_isSound 408 = .ok (.if_icmp .eq 5, 3) := by decide +kernel
theorem dL_isSound_411 : decode cL_isSound 411 = .ok (.iconst 0, 1) := by decide +kernel
theorem dL_isSound_412 : decode cL_isSound 412 = .ok (.ireturn, 1) := by decide +kernel
theorem dL_isSound_413 : decode cL_isSound 413 = .ok (.iinc 9 1, 3) := by decide +kernel
theorem dL_isSound_416 : decode cL_isSound 416 = .ok (.goto (-43), 3) := by decide +kernel
theorem dL_isSound_419 : decode cL_isSound 419 = .ok (.iload 7, 2) := by decide +kernel
theorem dL_isSound_421 : decode cL_isSound 421 = .ok (.ifCond .lt 25, 3) := by decide +kernel
theorem dL_isSound_424 : decode cL_isSound 424 = .ok (.iload 6, 2) := by decide +kernel
theorem dL_isSound_426 : decode cL_isSound 426 = .ok (.iconst 4, 1) := by decide +kernel
theorem dL_isSound_427 : decode cL_isSound 427 = .ok (.if_icmp .ge 19, 3) := by decide +kernel
theorem dL_isSound_430 : decode cL_isSound 430 = .ok (.aload_n 0, 1) := by decide +kernel
theorem dL_isSound_431 : decode cL_isSound 431 = .ok (.iload 7, 2) := by decide +kernel
theorem dL_isSound_433 : decode cL_isSound 433 = .ok (.invokevirtual 72, 3) := by decide +kernel
theorem dL_isSound_436 : decode cL_isSound 436 = .ok (.iload 5, 2) := by decide +kernel
theorem dL_isSound_438 : decode cL_isSound 438 = .ok (.ishr, 1) := by decide +kernel
theorem dL_isSound_439 : decode cL_isSound 439 = .ok (.iconst 1, 1) := by decide +kernel
theorem dL_isSound_440 : decode cL_isSound 440 = .ok (.iand, 1) := by decide +kernel
theorem dL_isSound_441 : decode cL_isSound 441 = .ok (.ifCond .ne 5, 3) := by decide +kernel
theorem dL_isSound_444 : decode cL_isSound 444 = .ok (.iconst 0, 1) := by decide +kernel
theorem dL_isSound_445 : decode cL_isSound 445 = .ok (.ireturn, 1) := by decide +kernel
theorem dL_isSound_446 : decode cL_isSound 446 = .ok (.iinc 5 1, 3) := by decide +kernel
theorem dL_isSound_449 : decode cL_isSound 449 = .ok (.goto (-249), 3) := by decide +kernel
theorem dL_isSound_452 : decode cL_isSound 452 = .ok (.iload_n 2, 1) := by decide +kernel
theorem dL_isSound_453 : decode cL_isSound 453 = .ok (.iload_n 3, 1) := by decide +kernel
theorem dL_isSound_454 : decode cL_isSound 454 = .ok (.if_icmp .lt 15, 3) := by decide +kernel
theorem dL_isSound_457 : decode cL_isSound 457 = .ok (.iload_n 2, 1) := by decide +kernel
theorem dL_isSound_458 : decode cL_isSound 458 = .ok (.iload_n 3, 1) := by decide +kernel
theorem dL_isSound_459 : decode cL_isSound 459 = .ok (.iload 4, 2) := by decide +kernel
theorem dL_isSound_461 : decode cL_isSound 461 = .ok (.iadd, 1) := by decide +kernel
theorem dL_isSound_462 : decode cL_isSound 462 = .ok (.if_icmp .gt 7, 3) := by decide +kernel
theorem dL_isSound_465 : decode cL_isSound 465 = .ok (.iconst 1, 1) := by decide +kernel
theorem dL_isSound_466 : decode cL_isSound 466 = .ok (.goto 4, 3) := by decide +kernel
theorem dL_isSound_469 : decode cL_isSound 469 = .ok (.iconst 0, 1) := by decide +kernel
theorem dL_isSound_470 : decode cL_isSound 470 = .ok (.ireturn, 1) := by decide +kernel
