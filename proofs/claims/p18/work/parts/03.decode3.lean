theorem dL_act_36 : decode cL_act 36 = .ok (.bipush 7, 2) := by decide +kernel
theorem dL_act_38 : decode cL_act 38 = .ok (.ishr, 1) := by decide +kernel
theorem dL_act_39 : decode cL_act 39 = .ok (.iload_n 2, 1) := by decide +kernel
theorem dL_act_40 : decode cL_act 40 = .ok (.ifCond .eq 8, 3) := by decide +kernel
theorem dL_act_43 : decode cL_act 43 = .ok (.bipush 6, 2) := by decide +kernel
theorem dL_act_45 : decode cL_act 45 = .ok (.goto 4, 3) := by decide +kernel
theorem dL_act_48 : decode cL_act 48 = .ok (.iconst 4, 1) := by decide +kernel
theorem dL_act_49 : decode cL_act 49 = .ok (.invokestatic 46, 3) := by decide +kernel
theorem dL_act_52 : decode cL_act 52 = .ok (.iload_n 2, 1) := by decide +kernel
theorem dL_act_53 : decode cL_act 53 = .ok (.ifCond .eq 7, 3) := by decide +kernel
theorem dL_act_56 : decode cL_act 56 = .ok (.iconst 1, 1) := by decide +kernel
theorem dL_act_57 : decode cL_act 57 = .ok (.goto 4, 3) := by decide +kernel
theorem dL_act_60 : decode cL_act 60 = .ok (.iconst 0, 1) := by decide +kernel
theorem dL_act_61 : decode cL_act 61 = .ok (.isub, 1) := by decide +kernel
theorem dL_act_62 : decode cL_act 62 = .ok (.istore 4, 2) := by decide +kernel
theorem dL_act_64 : decode cL_act 64 = .ok (.iload_n 1, 1) := by decide +kernel
theorem dL_act_65 : decode cL_act 65 = .ok (.bipush 9, 2) := by decide +kernel
theorem dL_act_67 : decode cL_act 67 = .ok (.ishr, 1) := by decide +kernel
theorem dL_act_68 : decode cL_act 68 = .ok (.bipush 8, 2) := by decide +kernel
theorem dL_act_70 : decode cL_act 70 = .ok (.invokestatic 46, 3) := by decide +kernel
theorem dL_act_73 : decode cL_act 73 = .ok (.istore 5, 2) := by decide +kernel
theorem dL_act_75 : decode cL_act 75 = .ok (.iload_n 1, 1) := by decide +kernel
theorem dL_act_76 : decode cL_act 76 = .ok (.bipush 12, 2) := by decide +kernel
theorem dL_act_78 : decode cL_act 78 = .ok (.ishr, 1) := by decide +kernel
theorem dL_act_79 : decode cL_act 79 = .ok (.bipush 8, 2) := by decide +kernel
theorem dL_act_81 : decode cL_act 81 = .ok (.invokestatic 46, 3) := by decide +kernel
theorem dL_act_84 : decode cL_act 84 = .ok (.istore 6, 2) := by decide +kernel
theorem dL_act_86 : decode cL_act 86 = .ok (.iload_n 2, 1) := by decide +kernel
theorem dL_act_87 : decode cL_act 87 = .ok (.ifCond .eq 15, 3) := by decide +kernel
theorem dL_act_90 : decode cL_act 90 = .ok (.iload_n 1, 1) := by decide +kernel
theorem dL_act_91 : decode cL_act 91 = .ok (.bipush 15, 2) := by decide +kernel
theorem dL_act_93 : decode cL_act 93 = .ok (.ishr, 1) := by decide +kernel
theorem dL_act_94 : decode cL_act 94 = .ok (.bipush 10, 2) := by decide +kernel
theorem dL_act_96 : decode cL_act 96 = .ok (.invokestatic 46, 3) := by decide +kernel
theorem dL_act_99 : decode cL_act 99 = .ok (.goto 17, 3) := by decide +kernel
theorem dL_act_102 : decode cL_act 102 = .ok (.iconst 1, 1) := by decide +kernel
theorem dL_act_103 : decode cL_act 103 = .ok (.iload_n 1, 1) := by decide +kernel
theorem dL_act_104 : decode cL_act 104 = .ok (.bipush 15, 2) := by decide +kernel
theorem dL_act_106 : decode cL_act 106 = .ok (.ishr, 1) := by decide +kernel
theorem dL_act_107 : decode cL_act 107 = .ok (.bipush 8, 2) := by decide +kernel
theorem dL_act_109 : decode cL_act 109 = .ok (.iload 5, 2) := by decide +kernel
theorem dL_act_111 : decode cL_act 111 = .ok (.isub, 1) := by decide +kernel
theorem dL_act_112 : decode cL_act 112 = .ok (.invokestatic 46, 3) := by decide +kernel
theorem dL_act_115 : decode cL_act 115 = .ok (.iadd, 1) := by decide +kernel
theorem dL_act_116 : decode cL_act 116 = .ok (.istore 7, 2) := by decide +kernel
theorem dL_act_118 : decode cL_act 118 = .ok (.iload_n 2, 1) := by decide +kernel
theorem dL_act_119 : decode cL_act 119 = .ok (.ifCond .eq 15, 3) := by decide +kernel
theorem dL_act_122 : decode cL_act 122 = .ok (.iload_n 1, 1) := by decide +kernel
theorem dL_act_123 : decode cL_act 123 = .ok (.bipush 18, 2) := by decide +kernel
theorem dL_act_125 : decode cL_act 125 = .ok (.ishr, 1) := by decide +kernel
theorem dL_act_126 : decode cL_act 126 = .ok (.bipush 10, 2) := by decide +kernel
theorem dL_act_128 : decode cL_act 128 = .ok (.invokestatic 46, 3) := by decide +kernel
theorem dL_act_131 : decode cL_act 131 = .ok (.goto 17, 3) := by decide +kernel
theorem dL_act_134 : decode cL_act 134 = .ok (.iconst 1, 1) := by decide +kernel
theorem dL_act_135 : decode cL_act 135 = .ok (.iload_n 1, 1) := by decide +kernel
theorem dL_act_136 : decode cL_act 136 = .ok (.bipush 18, 2) := by decide +kernel
theorem dL_act_138 : decode cL_act 138 = .ok (.ishr, 1) := by decide +kernel
theorem dL_act_139 : decode cL_act 139 = .ok (.bipush 8, 2) := by decide +kernel
theorem dL_act_141 : decode cL_act 141 = .ok (.iload 6, 2) := by decide +kernel
theorem dL_act_143 : decode cL_act 143 = .ok (.isub, 1) := by decide +kernel
theorem dL_act_144 : decode cL_act 144 = .ok (.invokestatic 46, 3) := by decide +kernel
theorem dL_act_147 : decode cL_act 147 = .ok (.iadd, 1) := by decide +kernel
theorem dL_act_148 : decode cL_act 148 = .ok (.istore 8, 2) := by decide +kernel
theorem dL_act_150 : decode cL_act 150 = .ok (.iload_n 1, 1) := by decide +kernel
theorem dL_act_151 : decode cL_act 151 = .ok (.bipush 14, 2) := by decide +kernel
theorem dL_act_153 : decode cL_act 153 = .ok (.invokestatic 46, 3) := by decide +kernel
theorem dL_act_156 : decode cL_act 156 = .ok (.tableswitch 119 0 7 #[48, 48, 56, 63, 70, 84, 102, 102], 48) := by decide +kernel
theorem dL_act_204 : decode cL_act 204 = .ok (.aload_n 0, 1) := by decide +kernel
theorem dL_act_205 : decode cL_act 205 = .ok (.iload 4, 2) := by decide +kernel
theorem dL_act_207 : decode cL_act 207 = .ok (.iload_n 3, 1) := by decide +kernel
theorem dL_act_208 : decode cL_act 208 = .ok (.invokestatic 52, 3) := by decide +kernel
theorem dL_act_211 : decode cL_act 211 = .ok (.ireturn, 1) := by decide +kernel
theorem dL_act_212 : decode cL_act 212 = .ok (.aload_n 0, 1) := by decide +kernel
theorem dL_act_213 : decode cL_act 213 = .ok (.iload 4, 2) := by decide +kernel
theorem dL_act_215 : decode cL_act 215 = .ok (.invokestatic 55, 3) := by decide +kernel
theorem dL_act_218 : decode cL_act 218 = .ok (.ireturn, 1) := by decide +kernel
theorem dL_act_219 : decode cL_act 219 = .ok (.aload_n 0, 1) := by decide +kernel
theorem dL_act_220 : decode cL_act 220 = .ok (.iload 4, 2) := by decide +kernel
theorem dL_act_222 : decode cL_act 222 = .ok (.invokestatic 58, 3) := by decide +kernel
theorem dL_act_225 : decode cL_act 225 = .ok (.ireturn, 1) := by decide +kernel
theorem dL_act_226 : decode cL_act 226 = .ok (.aload_n 0, 1) := by decide +kernel
theorem dL_act_227 : decode cL_act 227 = .ok (.iload_n 3, 1) := by decide +kernel
theorem dL_act_228 : decode cL_act 228 = .ok (.iload 5, 2) := by decide +kernel
theorem dL_act_230 : decode cL_act 230 = .ok (.iload 6, 2) := by decide +kernel
theorem dL_act_232 : decode cL_act 232 = .ok (.iload 7, 2) := by decide +kernel
theorem dL_act_234 : decode cL_act 234 = .ok (.iload 8, 2) := by decide +kernel
theorem dL_act_236 : decode cL_act 236 = .ok (.invokestatic 60, 3) := by decide +kernel
theorem dL_act_239 : decode cL_act 239 = .ok (.ireturn, 1) := by decide +kernel
theorem dL_act_240 : decode cL_act 240 = .ok (.aload_n 0, 1) := by decide +kernel
theorem dL_act_241 : decode cL_act 241 = .ok (.iload_n 3, 1) := by decide +kernel
theorem dL_act_242 : decode cL_act 242 = .ok (.iload 5, 2) := by decide +kernel
theorem dL_act_244 : decode cL_act 244 = .ok (.iconst 4, 1) := by decide +kernel
theorem dL_act_245 : decode cL_act 245 = .ok (.isub, 1) := by decide +kernel
theorem dL_act_246 : decode cL_act 246 = .ok (.iload 6, 2) := by decide +kernel
theorem dL_act_248 : decode cL_act 248 = .ok (.iconst 4, 1) := by decide +kernel
theorem dL_act_249 : decode cL_act 249 = .ok (.isub, 1) := by decide +kernel
theorem dL_act_250 : decode cL_act 250 = .ok (.iload 7, 2) := by decide +kernel
theorem dL_act_252 : decode cL_act 252 = .ok (.iload 8, 2) := by decide +kernel
theorem dL_act_254 : decode cL_act 254 = .ok (.invokestatic 63, 3) := by decide +kernel
theorem dL_act_257 : decode cL_act 257 = .ok (.ireturn, 1) := by decide +kernel
theorem dL_act_258 : decode cL_act 258 = .ok (.aload_n 0, 1) := by decide +kernel
theorem dL_act_259 : decode cL_act 259 = .ok (.iload 4, 2) := by decide +kernel
theorem dL_act_261 : decode cL_act 261 = .ok (.iload_n 3, 1) := by decide +kernel
theorem dL_act_262 : decode cL_act 262 = .ok (.iload_n 1, 1) := by decide +kernel
theorem dL_act_263 : decode cL_act 263 = .ok (.bipush 15, 2) := by decide +kernel
theorem dL_act_265 : decode cL_act 265 = .ok (.ishr, 1) := by decide +kernel
theorem dL_act_266 : decode cL_act 266 = .ok (.bipush 40, 2) := by decide +kernel
theorem dL_act_268 : decode cL_act 268 = .ok (.invokestatic 46, 3) := by decide +kernel
theorem dL_act_271 : decode cL_act 271 = .ok (.invokestatic 65, 3) := by decide +kernel
theorem dL_act_274 : decode cL_act 274 = .ok (.ireturn, 1) := by decide +kernel
theorem dL_act_275 : decode cL_act 275 = .ok (.aload_n 0, 1) := by decide +kernel
theorem dL_act_276 : decode cL_act 276 = .ok (.iload_n 3, 1) := by decide +kernel
theorem dL_act_277 : decode cL_act 277 = .ok (.iload 5, 2) := by decide +kernel
theorem dL_act_279 : decode cL_act 279 = .ok (.iload 6, 2) := by decide +kernel
theorem dL_act_281 : decode cL_act 281 = .ok (.iload 7, 2) := by decide +kernel
theorem dL_act_283 : decode cL_act 283 = .ok (.iload 8, 2) := by decide +kernel
theorem dL_act_285 : decode cL_act 285 = .ok (.iload_n 2, 1) := by decide +kernel
theorem dL_act_286 : decode cL_act 286 = .ok (.ifCond .eq 17, 3) := by decide +kernel
theorem dL_act_289 : decode cL_act 289 = .ok (.iload_n 1, 1) := by decide +kernel
theorem dL_act_290 : decode cL_act 290 = .ok (.iconst 4, 1) := by decide +kernel
theorem dL_act_291 : decode cL_act 291 = .ok (.ishr, 1) := by decide +kernel
theorem dL_act_292 : decode cL_act 292 = .ok (.sipush 260, 3) := by decide +kernel
theorem dL_act_295 : decode cL_act 295 = .ok (.invokestatic 46, 3) := by decide +kernel
theorem dL_act_298 : decode cL_act 298 = .ok (.iconst 2, 1) := by decide +kernel
theorem dL_act_299 : decode cL_act 299 = .ok (.isub, 1) := by decide +kernel
theorem dL_act_300 : decode cL_act 300 = .ok (.goto 15, 3) := by decide +kernel
theorem dL_act_303 : decode cL_act 303 = .ok (.iload_n 1, 1) := by decide +kernel
theorem dL_act_304 : decode cL_act 304 = .ok (.bipush 20, 2) := by decide +kernel
theorem dL_act_306 : decode cL_act 306 = .ok (.ishr, 1) := by decide +kernel
theorem dL_act_307 : decode cL_act 307 = .ok (.bipush 6, 2) := by decide +kernel
theorem dL_act_309 : decode cL_act 309 = .ok (.invokestatic 46, 3) := by decide +kernel
theorem dL_act_312 : decode cL_act 312 = .ok (.bipush 17, 2) := by decide +kernel
theorem dL_act_314 : decode cL_act 314 = .ok (.imul, 1) := by decide +kernel
theorem dL_act_315 : decode cL_act 315 = .ok (.invokestatic 68, 3) := by decide +kernel
theorem dL_act_318 : decode cL_act 318 = .ok (.ireturn, 1) := by decide +kernel
set_option maxRecDepth 20000 in
theorem ggL_areAlike_X3_runs : GoodIn wsL_areAlike wsX3_runs := goodIn_ca (goodIn_r _ [5, 6, 7, 8, 4, 9, 10, 11, 12, 13, 14, 15, 16, 17, 18, 19, 20, 21, 22, 23, 177, 178, 179, 180, 181, 182] (by decide +kernel) (by decide +kernel)) (goodIn_sub (fun _ h => List.mem_cons_of_mem _ (List.mem_append_left _ (List.mem_append_right _ h))) (by decide +kernel))
set_option maxRecDepth 20000 in
theorem gL_areAlike_X3_runs : GoodIn wsL_areAlike (wsV RL 71 RX3 yX3_runs wsX3_runs) := goodIn_app (goodIn_of _ (by decide +kernel)) ggL_areAlike_X3_runs
set_option maxRecDepth 20000 in
theorem ggL_areAlike_X3_doubt : GoodIn wsL_areAlike wsX3_doubt := goodIn_ca (goodIn_r _ [27, 6, 7, 8, 4, 9, 10, 11, 12, 13, 14, 15, 16, 17, 18, 19, 20, 21, 22, 23, 28, 29, 30, 31, 32, 33, 34, 35, 36, 37, 38, 39, 177, 178, 179, 180, 181, 182] (by decide +kernel) (by decide +kernel)) (goodIn_sub (fun _ h => List.mem_cons_of_mem _ (List.mem_append_left _ (List.mem_append_right _ h))) (by decide +kernel))
set_option maxRecDepth 20000 in
theorem gL_areAlike_X3_doubt : GoodIn wsL_areAlike (wsV RL 74 RX3 yX3_doubt wsX3_doubt) := goodIn_app (goodIn_of _ (by decide +kernel)) ggL_areAlike_X3_doubt
set_option maxRecDepth 20000 in
theorem ggL_areAlike_X3_isApproved : GoodIn wsL_areAlike wsX3_isApproved := goodIn_ca (goodIn_r _ [43, 44, 45, 46, 4, 47, 10, 11, 12, 7, 8, 9, 13, 14, 15, 16, 17, 48, 49, 50, 51, 52, 53, 54, 55, 56, 57, 58, 59, 177, 178, 179, 180, 183, 184] (by decide +kernel) (by decide +kernel)) (goodIn_sub (fun _ h => List.mem_cons_of_mem _ (List.mem_append_left _ (List.mem_append_right _ h))) (by decide +kernel))
set_option maxRecDepth 20000 in
theorem gL_areAlike_X3_isApproved : GoodIn wsL_areAlike (wsV RL 77 RX3 yX3_isApproved wsX3_isApproved) := goodIn_app (goodIn_of _ (by decide +kernel)) ggL_areAlike_X3_isApproved
set_option maxRecDepth 20000 in
theorem ggL_areAlike_L_differences : GoodIn wsL_areAlike wsL_differences := goodIn_ca (goodIn_ca (goodIn_r _ [63, 64, 65, 66, 67, 68, 69, 4, 70, 71, 72, 73, 74, 75, 76, 44, 45, 46, 47, 10, 11, 12, 7, 8, 9, 77, 78, 79, 13, 14, 15, 16, 17, 48, 49, 50, 51, 52, 53, 54, 55, 56, 57, 58, 59, 80, 81, 82, 83, 84, 85, 86, 87, 88, 89, 90, 91, 92, 93, 94, 95, 96, 97, 98, 99, 100, 101, 102, 103, 104, 105, 106, 107, 108, 109, 110, 111, 112, 113, 114, 115, 116, 117, 118, 119, 120, 121, 122, 123, 124, 125, 126, 127, 128, 129, 130, 131, 132, 133, 134, 135, 136, 137, 138, 139, 140, 141, 142, 143, 144, 145, 146, 147, 148, 149, 150, 151, 152, 153, 154, 155, 156, 157, 158, 159, 160, 161, 162, 163, 164, 165, 166, 167, 168, 169, 170, 171, 172, 173, 174, 175, 176, 177, 178, 179, 180, 183, 184, 185, 186, 187, 188] (by decide +kernel) (by decide +kernel)) (goodIn_sub (fun _ h => List.mem_cons_of_mem _ (List.mem_append_right _ h)) (by decide +kernel))) (goodIn_sub (fun _ h => List.mem_cons_of_mem _ (List.mem_append_left _ (List.mem_append_right _ h))) (by decide +kernel))
set_option maxRecDepth 20000 in
theorem gL_areAlike_L_differences : GoodIn wsL_areAlike (va_wsS RL 80 yL_differences wsL_differences) := goodIn_app (goodIn_of _ (by decide +kernel)) ggL_areAlike_L_differences
theorem dL_areAlike_0 : decode cL_areAlike 0 = .ok (.iconst 0, 1) := by decide +kernel
theorem dL_areAlike_1 : decode cL_areAlike 1 = .ok (.istore_n 2, 1) := by decide +kernel
theorem dL_areAlike_2 : decode cL_areAlike 2 = .ok (.iload_n 2, 1) := by decide +kernel
theorem dL_areAlike_3 : decode cL_areAlike 3 = .ok (.iconst 5, 1) := by decide +kernel
theorem dL_areAlike_4 : decode cL_areAlike 4 = .ok (.if_icmp .ge 115, 3) := by decide +kernel
theorem dL_areAlike_7 : decode cL_areAlike 7 = .ok (.aload_n 0, 1) := by decide +kernel
theorem dL_areAlike_8 : decode cL_areAlike 8 = .ok (.iload_n 2, 1) := by decide +kernel
theorem dL_areAlike_9 : decode cL_areAlike 9 = .ok (.invokevirtual 71, 3) := by decide +kernel
theorem dL_areAlike_12 : decode cL_areAlike 12 = .ok (.aload_n 1, 1) := by decide +kernel
theorem dL_areAlike_13 : decode cL_areAlike 13 = .ok (.iload_n 2, 1) := by decide +kernel
theorem dL_areAlike_14 : decode cL_areAlike 14 = .ok (.invokevirtual 71, 3) := by decide +kernel
theorem dL_areAlike_17 : decode cL_areAlike 17 = .ok (.if_icmp .ne 20, 3) := by decide +kernel
theorem dL_areAlike_20 : decode cL_areAlike 20 = .ok (.aload_n 0, 1) := by decide +kernel
theorem dL_areAlike_21 : decode cL_areAlike 21 = .ok (.iload_n 2, 1) := by decide +kernel
theorem dL_areAlike_22 : decode cL_areAlike 22 = .ok (.invokevirtual 74, 3) := by decide +kernel
theorem dL_areAlike_25 : decode cL_areAlike 25 = .ok (.aload_n 1, 1) := by decide +kernel
theorem dL_areAlike_26 : decode cL_areAlike 26 = .ok (.iload_n 2, 1) := by decide +kernel
theorem dL_areAlike_27 : decode cL_areAlike 27 = .ok (.invokevirtual 74, 3) := by decide +kernel
theorem dL_areAlike_30 : decode cL_areAlike 30 = .ok (.if_icmp .ne 7, 3) := by decide +kernel
theorem dL_areAlike_33 : decode cL_areAlike 33 = .ok (.iconst 1, 1) := by decide +kernel
theorem dL_areAlike_34 : decode cL_areAlike 34 = .ok (.goto 4, 3) := by decide +kernel
theorem dL_areAlike_37 : decode cL_areAlike 37 = .ok (.iconst 0, 1) := by decide +kernel
theorem dL_areAlike_38 : decode cL_areAlike 38 = .ok (.istore_n 3, 1) := by decide +kernel
theorem dL_areAlike_39 : decode cL_areAlike 39 = .ok (.iconst 0, 1) := by decide +kernel
theorem dL_areAlike_40 : decode cL_areAlike 40 = .ok (.istore 4, 2) := by decide +kernel
theorem dL_areAlike_42 : decode cL_areAlike 42 = .ok (.iload 4, 2) := by decide +kernel
theorem dL_areAlike_44 : decode cL_areAlike 44 = .ok (.iconst 4, 1) := by decide +kernel
theorem dL_areAlike_45 : decode cL_areAlike 45 = .ok (.if_icmp .ge 62, 3) := by decide +kernel
theorem dL_areAlike_48 : decode cL_areAlike 48 = .ok (.iload_n 3, 1) := by decide +kernel
theorem dL_areAlike_49 : decode cL_areAlike 49 = .ok (.ifCond .eq 58, 3) := by decide +kernel
theorem dL_areAlike_52 : decode cL_areAlike 52 = .ok (.aload_n 0, 1) := by decide +kernel
theorem dL_areAlike_53 : decode cL_areAlike 53 = .ok (.iload 4, 2) := by decide +kernel
theorem dL_areAlike_55 : decode cL_areAlike 55 = .ok (.iload_n 2, 1) := by decide +kernel
theorem dL_areAlike_56 : decode cL_areAlike 56 = .ok (.invokevirtual 77, 3) := by decide +kernel
theorem dL_areAlike_59 : decode cL_areAlike 59 = .ok (.aload_n 1, 1) := by decide +kernel
theorem dL_areAlike_60 : decode cL_areAlike 60 = .ok (.iload 4, 2) := by decide +kernel
theorem dL_areAlike_62 : decode cL_areAlike 62 = .ok (.iload_n 2, 1) := by decide +kernel
theorem dL_areAlike_63 : decode cL_areAlike 63 = .ok (.invokevirtual 77, 3) := by decide +kernel
theorem dL_areAlike_66 : decode cL_areAlike 66 = .ok (.if_icmp .ne 33, 3) := by decide +kernel
theorem dL_areAlike_69 : decode cL_areAlike 69 = .ok (.iload_n 2, 1) := by decide +kernel
theorem dL_areAlike_70 : decode cL_areAlike 70 = .ok (.iconst 1, 1) := by decide +kernel
theorem dL_areAlike_71 : decode cL_areAlike 71 = .ok (.if_icmp .gt 24, 3) := by decide +kernel
theorem dL_areAlike_74 : decode cL_areAlike 74 = .ok (.aload_n 0, 1) := by decide +kernel
theorem dL_areAlike_75 : decode cL_areAlike 75 = .ok (.iload 4, 2) := by decide +kernel
theorem dL_areAlike_77 : decode cL_areAlike 77 = .ok (.iload_n 2, 1) := by decide +kernel
theorem dL_areAlike_78 : decode cL_areAlike 78 = .ok (.bipush 9, 2) := by decide +kernel
theorem dL_areAlike_80 : decode cL_areAlike 80 = .ok (.invokestatic 80, 3) := by decide +kernel
theorem dL_areAlike_83 : decode cL_areAlike 83 = .ok (.aload_n 1, 1) := by decide +kernel
theorem dL_areAlike_84 : decode cL_areAlike 84 = .ok (.iload 4, 2) := by decide +kernel
theorem dL_areAlike_86 : decode cL_areAlike 86 = .ok (.iload_n 2, 1) := by decide +kernel
theorem dL_areAlike_87 : decode cL_areAlike 87 = .ok (.bipush 9, 2) := by decide +kernel
theorem dL_areAlike_89 : decode cL_areAlike 89 = .ok (.invokestatic 80, 3) := by decide +kernel
theorem dL_areAlike_92 : decode cL_areAlike 92 = .ok (.if_icmp .ne 7, 3) := by decide +kernel
theorem dL_areAlike_95 : decode cL_areAlike 95 = .ok (.iconst 1, 1) := by decide +kernel
theorem dL_areAlike_96 : decode cL_areAlike 96 = .ok (.goto 4, 3) := by decide +kernel
theorem dL_areAlike_99 : decode cL_areAlike 99 = .ok (.iconst 0, 1) := by decide +kernel
theorem dL_areAlike_100 : decode cL_areAlike 100 = .ok (.istore_n 3, 1) := by decide +kernel
theorem dL_areAlike_101 : decode cL_areAlike 101 = .ok (.iinc 4 1, 3) := by decide +kernel
theorem dL_areAlike_104 : decode cL_areAlike 104 = .ok (.goto (-62), 3) := by decide +kernel
theorem dL_areAlike_107 : decode cL_areAlike 107 = .ok (.iload_n 3, 1) := by decide +kernel
theorem dL_areAlike_108 : decode cL_areAlike 108 = .ok (.ifCond .ne 5, 3) := by decide +kernel
theorem dL_areAlike_111 : decode cL_areAlike 111 = .ok (.iconst 0, 1) := by decide +kernel
theorem dL_areAlike_112 : decode cL_areAlike 112 = .ok (.ireturn, 1) := by decide +kernel
theorem dL_areAlike_113 : decode cL_areAlike 113 = .ok (.iinc 2 1, 3) := by decide +kernel
theorem dL_areAlike_116 : decode cL_areAlike 116 = .ok (.goto (-114), 3) := by decide +kernel
theorem dL_areAlike_119 : decode cL_areAlike 119 = .ok (.iconst 1, 1) := by decide +kernel
theorem dL_areAlike_120 : decode cL_areAlike 120 = .ok (.ireturn, 1) := by decide +kernel
set_option maxRecDepth 20000 in
theorem ggL_isCompared_L_differences : GoodIn wsL_isCompared wsL_differences := goodIn_ca (goodIn_ca (goodIn_r _ [5, 6, 7, 8, 9, 10, 11, 12, 13, 14, 15, 16, 17, 18, 19, 20, 21, 22, 23, 24, 25, 26, 27, 28, 29, 30, 31, 32, 33, 34, 35, 36, 37, 38, 39, 40, 41, 42, 43, 44, 45, 46, 47, 48, 49, 50, 51, 52, 53, 54, 55, 56, 57, 58, 59, 60, 61, 62, 63, 64, 65, 66, 67, 68, 69, 70, 71, 72, 73, 74, 75, 76, 77, 78, 79, 80, 81, 82, 83, 84, 85, 86, 87, 88, 89, 90, 91, 92, 93, 94, 95, 96, 97, 98, 99, 100, 101, 102, 103, 104, 105, 106, 107, 108, 109, 110, 111, 112, 113, 114, 115, 116, 117, 118, 119, 120, 121, 122, 123, 124, 125, 126, 127, 128, 129, 130, 131, 132, 133, 134, 135, 136, 137, 138, 139, 140, 141, 142, 143, 144, 145, 146, 206, 207, 208, 209, 210, 211, 212, 213, 214, 215] (by decide +kernel) (by decide +kernel)) (goodIn_sub (fun _ h => List.mem_cons_of_mem _ (List.mem_append_left _ (List.mem_append_right _ h))) (by decide +kernel))) (goodIn_sub (fun _ h => List.mem_cons_of_mem _ (List.mem_append_right _ h)) (by decide +kernel))
set_option maxRecDepth 20000 in
theorem gL_isCompared_L_differences : GoodIn wsL_isCompared (va_wsS RL 80 yL_differences wsL_differences) := goodIn_app (goodIn_of _ (by decide +kernel)) ggL_isCompared_L_differences
set_option maxRecDepth 20000 in
theorem ggL_isCompared_X3_isApproved : GoodIn wsL_isCompared wsX3_isApproved := goodIn_ca (goodIn_r _ [150, 20, 21, 22, 12, 23, 24, 25, 26, 27, 28, 29, 33, 34, 35, 36, 37, 38, 39, 40, 41, 42, 43, 44, 45, 46, 47, 48, 49, 206, 207, 208, 209, 210, 211] (by decide +kernel) (by decide +kernel)) (goodIn_sub (fun _ h => List.mem_cons_of_mem _ (List.mem_append_right _ h)) (by decide +kernel))
set_option maxRecDepth 20000 in
theorem gL_isCompared_X3_isApproved : GoodIn wsL_isCompared (wsV RL 77 RX3 yX3_isApproved wsX3_isApproved) := goodIn_app (goodIn_of _ (by decide +kernel)) ggL_isCompared_X3_isApproved
set_option maxRecDepth 20000 in
theorem ggL_isCompared_L_run : GoodIn wsL_isCompared wsL_run := goodIn_ca (goodIn_ca (goodIn_r _ [153, 6, 7, 8, 1, 154, 155, 156, 12, 157, 158, 14, 15, 16, 17, 18, 19, 20, 21, 22, 23, 24, 25, 26, 27, 28, 29, 30, 31, 32, 33, 34, 35, 36, 37, 38, 39, 40, 41, 42, 43, 44, 45, 46, 47, 48, 49, 159, 160, 161, 162, 50, 51, 52, 53, 54, 55, 56, 57, 58, 59, 60, 61, 62, 63, 64, 65, 66, 67, 68, 69, 70, 71, 72, 73, 74, 75, 76, 77, 78, 79, 80, 81, 82, 83, 84, 85, 86, 87, 88, 89, 90, 91, 92, 93, 94, 95, 96, 97, 98, 99, 100, 101, 102, 103, 104, 105, 106, 107, 108, 109, 110, 111, 112, 113, 114, 115, 116, 117, 118, 119, 120, 121, 122, 123, 124, 125, 126, 127, 128, 129, 130, 131, 132, 133, 134, 135, 136, 137, 138, 139, 140, 141, 142, 143, 144, 145, 146, 163, 164, 165, 166, 167, 168, 169, 170, 206, 207, 208, 209, 210, 211, 212, 213, 214, 215, 216, 217] (by decide +kernel) (by decide +kernel)) (goodIn_sub (fun _ h => List.mem_cons_of_mem _ (List.mem_append_left _ (List.mem_append_right _ h))) (by decide +kernel))) (goodIn_sub (fun _ h => List.mem_cons_of_mem _ (List.mem_append_right _ h)) (by decide +kernel))
set_option maxRecDepth 20000 in
theorem gL_isCompared_L_run : GoodIn wsL_isCompared (va_wsS RL 65 yL_run wsL_run) := goodIn_app (goodIn_of _ (by decide +kernel)) ggL_isCompared_L_run
set_option maxRecDepth 20000 in
theorem ggL_isCompared_X3_firstDifference : GoodIn wsL_isCompared wsX3_firstDifference := goodIn_ca (goodIn_ca (goodIn_r _ [174, 14, 15, 16, 12, 17, 18, 19, 20, 21, 22, 23, 24, 25, 26, 27, 28, 29, 30, 31, 32, 33, 34, 35, 36, 37, 38, 39, 40, 41, 42, 43, 44, 45, 46, 47, 48, 49, 159, 160, 161, 162, 50, 51, 52, 53, 54, 55, 56, 57, 58, 59, 60, 61, 62, 63, 64, 65, 66, 67, 68, 69, 70, 71, 72, 73, 74, 75, 76, 77, 78, 79, 80, 81, 82, 83, 84, 85, 86, 87, 88, 89, 90, 91, 92, 93, 94, 95, 96, 97, 98, 99, 100, 101, 102, 103, 104, 105, 106, 107, 108, 109, 110, 111, 112, 113, 114, 115, 116, 117, 118, 119, 120, 121, 122, 123, 124, 125, 126, 127, 128, 129, 130, 131, 132, 133, 134, 135, 136, 137, 138, 139, 140, 141, 142, 143, 144, 145, 146, 206, 207, 208, 209, 210, 211, 212, 213, 214, 215] (by decide +kernel) (by decide +kernel)) (goodIn_sub (fun _ h => List.mem_cons_of_mem _ (List.mem_append_left _ (List.mem_append_right _ h))) (by decide +kernel))) (goodIn_sub (fun _ h => List.mem_cons_of_mem _ (List.mem_append_right _ h)) (by decide +kernel))
set_option maxRecDepth 20000 in
theorem gL_isCompared_X3_firstDifference : GoodIn wsL_isCompared (wsV RL 82 RX3 yX3_firstDifference wsX3_firstDifference) := goodIn_app (goodIn_of _ (by decide +kernel)) ggL_isCompared_X3_firstDifference
set_option maxRecDepth 20000 in
theorem ggL_isCompared_X3_move : GoodIn wsL_isCompared wsX3_move := goodIn_ca (goodIn_ca (goodIn_r _ [178, 14, 15, 16, 12, 17, 18, 19, 20, 21, 22, 23, 24, 25, 26, 27, 28, 29, 30, 31, 32, 33, 34, 35, 36, 37, 38, 39, 40, 41, 42, 43, 44, 45, 46, 47, 48, 49, 50, 51, 52, 53, 54, 55, 56, 57, 58, 59, 60, 61, 62, 63, 64, 65, 66, 67, 68, 69, 70, 71, 72, 73, 74, 75, 76, 77, 78, 79, 80, 81, 82, 83, 84, 85, 86, 87, 88, 89, 90, 91, 92, 93, 94, 95, 96, 97, 98, 99, 100, 101, 102, 103, 104, 105, 106, 107, 206, 207, 208, 209, 210, 211, 212, 213, 214, 215] (by decide +kernel) (by decide +kernel)) (goodIn_sub (fun _ h => List.mem_cons_of_mem _ (List.mem_append_left _ (List.mem_append_right _ h))) (by decide +kernel))) (goodIn_sub (fun _ h => List.mem_cons_of_mem _ (List.mem_append_right _ h)) (by decide +kernel))
set_option maxRecDepth 20000 in
theorem gL_isCompared_X3_move : GoodIn wsL_isCompared (wsV RL 85 RX3 yX3_move wsX3_move) := goodIn_app (goodIn_of _ (by decide +kernel)) ggL_isCompared_X3_move
set_option maxRecDepth 20000 in
theorem ggL_isCompared_X3_soft : GoodIn wsL_isCompared wsX3_soft := goodIn_ca (goodIn_ca (goodIn_r _ [182, 14, 15, 16, 12, 17, 18, 19, 20, 21, 22, 23, 24, 25, 26, 27, 28, 29, 30, 31, 32, 33, 34, 35, 36, 37, 38, 39, 40, 41, 42, 43, 44, 45, 46, 47, 48, 49, 112, 113, 114, 115, 116, 117, 137, 138, 139, 140, 141, 142, 57, 143, 144, 145, 146, 91, 92, 93, 94, 95, 96, 97, 98, 89, 90, 99, 100, 101, 102, 103, 104, 55, 56, 58, 206, 207, 208, 209, 210, 211] (by decide +kernel) (by decide +kernel)) (goodIn_sub (fun _ h => List.mem_cons_of_mem _ (List.mem_append_left _ (List.mem_append_right _ h))) (by decide +kernel))) (goodIn_sub (fun _ h => List.mem_cons_of_mem _ (List.mem_append_right _ h)) (by decide +kernel))
set_option maxRecDepth 20000 in
theorem gL_isCompared_X3_soft : GoodIn wsL_isCompared (wsV RL 88 RX3 yX3_soft wsX3_soft) := goodIn_app (goodIn_of _ (by decide +kernel)) ggL_isCompared_X3_soft
set_option maxRecDepth 20000 in
theorem ggL_isCompared_X3_runs : GoodIn wsL_isCompared wsX3_runs := goodIn_ca (goodIn_r _ [186, 158, 27, 28, 12, 29, 24, 25, 26, 33, 34, 35, 36, 37, 187, 188, 189, 166, 190, 169, 206, 207, 208, 209, 216, 217] (by decide +kernel) (by decide +kernel)) (goodIn_sub (fun _ h => List.mem_cons_of_mem _ (List.mem_append_right _ h)) (by decide +kernel))
set_option maxRecDepth 20000 in
theorem gL_isCompared_X3_runs : GoodIn wsL_isCompared (wsV RL 71 RX3 yX3_runs wsX3_runs) := goodIn_app (goodIn_of _ (by decide +kernel)) ggL_isCompared_X3_runs
set_option maxRecDepth 20000 in
theorem ggL_isCompared_X3_doubt : GoodIn wsL_isCompared wsX3_doubt := goodIn_ca (goodIn_r _ [194, 158, 27, 28, 12, 29, 24, 25, 26, 33, 34, 35, 36, 37, 187, 188, 189, 166, 190, 169, 195, 196, 197, 198, 168, 199, 200, 201, 202, 203, 204, 205, 206, 207, 208, 209, 216, 217] (by decide +kernel) (by decide +kernel)) (goodIn_sub (fun _ h => List.mem_cons_of_mem _ (List.mem_append_right _ h)) (by decide +kernel))
set_option maxRecDepth 20000 in
theorem gL_isCompared_X3_doubt : GoodIn wsL_isCompared (wsV RL 74 RX3 yX3_doubt wsX3_doubt) := goodIn_app (goodIn_of _ (by decide +kernel)) ggL_isCompared_X3_doubt
set_option maxRecDepth 20000 in
theorem ggL_isCompared_X3_differences : GoodIn wsL_isCompared wsX3_differences := goodIn_ca (goodIn_ca (goodIn_r _ [13, 14, 15, 16, 12, 17, 18, 19, 20, 21, 22, 23, 24, 25, 26, 27, 28, 29, 30, 31, 32, 33, 34, 35, 36, 37, 38, 39, 40, 41, 42, 43, 44, 45, 46, 47, 48, 49, 50, 51, 52, 53, 54, 55, 56, 57, 58, 59, 60, 61, 62, 63, 64, 65, 66, 67, 68, 69, 70, 71, 72, 73, 74, 75, 76, 77, 78, 79, 80, 81, 82, 83, 84, 85, 86, 87, 88, 89, 90, 91, 92, 93, 94, 95, 96, 97, 98, 99, 100, 101, 102, 103, 104, 105, 106, 107, 108, 109, 110, 111, 112, 113, 114, 115, 116, 117, 118, 119, 120, 121, 122, 123, 124, 125, 126, 127, 128, 129, 130, 131, 132, 133, 134, 135, 136, 137, 138, 139, 140, 141, 142, 143, 144, 145, 146, 206, 207, 208, 209, 210, 211, 212, 213, 214, 215] (by decide +kernel) (by decide +kernel)) (goodIn_sub (fun _ h => List.mem_cons_of_mem _ (List.mem_append_left _ (List.mem_append_right _ h))) (by decide +kernel))) (goodIn_sub (fun _ h => List.mem_cons_of_mem _ (List.mem_append_right _ h)) (by decide +kernel))
set_option maxRecDepth 20000 in
theorem gL_isCompared_X3_differences : GoodIn wsL_isCompared (wsV RL 42 RX3 yX3_differences wsX3_differences) := goodIn_app (goodIn_of _ (by decide +kernel)) ggL_isCompared_X3_differences
theorem dL_isCompared_0 : decode cL_isCompared 0 = .ok (.aload_n 0, 1) := by decide +kernel
theorem dL_isCompared_1 : decode cL_isCompared 1 = .ok (.iload_n 2, 1) := by decide +kernel
theorem dL_isCompared_2 : decode cL_isCompared 2 = .ok (.iload_n 3, 1) := by decide +kernel
theorem dL_isCompared_3 : decode cL_isCompared 3 = .ok (.iload 4, 2) := by decide +kernel
theorem dL_isCompared_5 : decode cL_isCompared 5 = .ok (.invokestatic 80, 3) := by decide +kernel
theorem dL_isCompared_8 : decode cL_isCompared 8 = .ok (.istore 5, 2) := by decide +kernel
theorem dL_isCompared_10 : decode cL_isCompared 10 = .ok (.aload_n 0, 1) := by decide +kernel
theorem dL_isCompared_11 : decode cL_isCompared 11 = .ok (.iload_n 2, 1) := by decide +kernel
theorem dL_isCompared_12 : decode cL_isCompared 12 = .ok (.iload_n 3, 1) := by decide +kernel
theorem dL_isCompared_13 : decode cL_isCompared 13 = .ok (.invokevirtual 77, 3) := by decide +kernel
theorem dL_isCompared_16 : decode cL_isCompared 16 = .ok (.ifCond .ne 28, 3) := by decide +kernel
theorem dL_isCompared_19 : decode cL_isCompared 19 = .ok (.iload 5, 2) := by decide +kernel
theorem dL_isCompared_21 : decode cL_isCompared 21 = .ok (.iconst (-1), 1) := by decide +kernel
theorem dL_isCompared_22 : decode cL_isCompared 22 = .ok (.if_icmp .ne 20, 3) := by decide +kernel
theorem dL_isCompared_25 : decode cL_isCompared 25 = .ok (.aload_n 0, 1) := by decide +kernel
theorem dL_isCompared_26 : decode cL_isCompared 26 = .ok (.iload_n 2, 1) := by decide +kernel
theorem dL_isCompared_27 : decode cL_isCompared 27 = .ok (.iload_n 3, 1) := by decide +kernel
theorem dL_isCompared_28 : decode cL_isCompared 28 = .ok (.iload 4, 2) := by decide +kernel
theorem dL_isCompared_30 : decode cL_isCompared 30 = .ok (.invokestatic 65, 3) := by decide +kernel
theorem dL_isCompared_33 : decode cL_isCompared 33 = .ok (.ldc 41, 2) := by decide +kernel
theorem dL_isCompared_35 : decode cL_isCompared 35 = .ok (.if_icmp .ne 7, 3) := by decide +kernel
theorem dL_isCompared_38 : decode cL_isCompared 38 = .ok (.iconst 1, 1) := by decide +kernel
theorem dL_isCompared_39 : decode cL_isCompared 39 = .ok (.goto 4, 3) := by decide +kernel
theorem dL_isCompared_42 : decode cL_isCompared 42 = .ok (.iconst 0, 1) := by decide +kernel
theorem dL_isCompared_43 : decode cL_isCompared 43 = .ok (.ireturn, 1) := by decide +kernel
theorem dL_isCompared_44 : decode cL_isCompared 44 = .ok (.aload_n 0, 1) := by decide +kernel
theorem dL_isCompared_45 : decode cL_isCompared 45 = .ok (.iload_n 2, 1) := by decide +kernel
theorem dL_isCompared_46 : decode cL_isCompared 46 = .ok (.iload_n 3, 1) := by decide +kernel
theorem dL_isCompared_47 : decode cL_isCompared 47 = .ok (.iload 4, 2) := by decide +kernel
theorem dL_isCompared_49 : decode cL_isCompared 49 = .ok (.invokevirtual 82, 3) := by decide +kernel
theorem dL_isCompared_52 : decode cL_isCompared 52 = .ok (.istore 6, 2) := by decide +kernel
theorem dL_isCompared_54 : decode cL_isCompared 54 = .ok (.aload_n 0, 1) := by decide +kernel
theorem dL_isCompared_55 : decode cL_isCompared 55 = .ok (.iload_n 2, 1) := by decide +kernel
theorem dL_isCompared_56 : decode cL_isCompared 56 = .ok (.iload_n 3, 1) := by decide +kernel
theorem dL_isCompared_57 : decode cL_isCompared 57 = .ok (.iload 4, 2) := by decide +kernel
theorem dL_isCompared_59 : decode cL_isCompared 59 = .ok (.invokevirtual 85, 3) := by decide +kernel
theorem dL_isCompared_62 : decode cL_isCompared 62 = .ok (.istore 7, 2) := by decide +kernel
theorem dL_isCompared_64 : decode cL_isCompared 64 = .ok (.aload_n 0, 1) := by decide +kernel
theorem dL_isCompared_65 : decode cL_isCompared 65 = .ok (.iload_n 2, 1) := by decide +kernel
theorem dL_isCompared_66 : decode cL_isCompared 66 = .ok (.iload_n 3, 1) := by decide +kernel
theorem dL_isCompared_67 : decode cL_isCompared 67 = .ok (.iload 4, 2) := by decide +kernel
theorem dL_isCompared_69 : decode cL_isCompared 69 = .ok (.invokevirtual 88, 3) := by decide +kernel
theorem dL_isCompared_72 : decode cL_isCompared 72 = .ok (.istore 8, 2) := by decide +kernel
theorem dL_isCompared_74 : decode cL_isCompared 74 = .ok (.iload 7, 2) := by decide +kernel
theorem dL_isCompared_76 : decode cL_isCompared 76 = .ok (.bipush 100, 2) := by decide +kernel
theorem dL_isCompared_78 : decode cL_isCompared 78 = .ok (.idiv, 1) := by decide +kernel
theorem dL_isCompared_79 : decode cL_isCompared 79 = .ok (.bipush 50, 2) := by decide +kernel
theorem dL_isCompared_81 : decode cL_isCompared 81 = .ok (.isub, 1) := by decide +kernel
theorem dL_isCompared_82 : decode cL_isCompared 82 = .ok (.istore 9, 2) := by decide +kernel
theorem dL_isCompared_84 : decode cL_isCompared 84 = .ok (.iload 7, 2) := by decide +kernel
theorem dL_isCompared_86 : decode cL_isCompared 86 = .ok (.bipush 100, 2) := by decide +kernel
theorem dL_isCompared_88 : decode cL_isCompared 88 = .ok (.irem, 1) := by decide +kernel
theorem dL_isCompared_89 : decode cL_isCompared 89 = .ok (.bipush 50, 2) := by decide +kernel
theorem dL_isCompared_91 : decode cL_isCompared 91 = .ok (.isub, 1) := by decide +kernel
theorem dL_isCompared_92 : decode cL_isCompared 92 = .ok (.istore 10, 2) := by decide +kernel
theorem dL_isCompared_94 : decode cL_isCompared 94 = .ok (.iload 5, 2) := by decide +kernel
theorem dL_isCompared_96 : decode cL_isCompared 96 = .ok (.ifCond .lt 93, 3) := by decide +kernel
theorem dL_isCompared_99 : decode cL_isCompared 99 = .ok (.iload 5, 2) := by decide +kernel
theorem dL_isCompared_101 : decode cL_isCompared 101 = .ok (.bipush 64, 2) := by decide +kernel
theorem dL_isCompared_103 : decode cL_isCompared 103 = .ok (.if_icmp .gt 86, 3) := by decide +kernel
theorem dL_isCompared_106 : decode cL_isCompared 106 = .ok (.iload 6, 2) := by decide +kernel
theorem dL_isCompared_108 : decode cL_isCompared 108 = .ok (.iconst (-1), 1) := by decide +kernel
theorem dL_isCompared_109 : decode cL_isCompared 109 = .ok (.if_icmp .ne 7, 3) := by decide +kernel
theorem dL_isCompared_112 : decode cL_isCompared 112 = .ok (.iconst 1, 1) := by decide +kernel
theorem dL_isCompared_113 : decode cL_isCompared 113 = .ok (.goto 4, 3) := by decide +kernel
theorem dL_isCompared_116 : decode cL_isCompared 116 = .ok (.iconst 0, 1) := by decide +kernel
theorem dL_isCompared_117 : decode cL_isCompared 117 = .ok (.iload 5, 2) := by decide +kernel
theorem dL_isCompared_119 : decode cL_isCompared 119 = .ok (.ifCond .ne 7, 3) := by decide +kernel
theorem dL_isCompared_122 : decode cL_isCompared 122 = .ok (.iconst 1, 1) := by decide +kernel
theorem dL_isCompared_123 : decode cL_isCompared 123 = .ok (.goto 4, 3) := by decide +kernel
theorem dL_isCompared_126 : decode cL_isCompared 126 = .ok (.iconst 0, 1) := by decide +kernel
theorem dL_isCompared_127 : decode cL_isCompared 127 = .ok (.if_icmp .ne 62, 3) := by decide +kernel
theorem dL_isCompared_130 : decode cL_isCompared 130 = .ok (.iload 6, 2) := by decide +kernel
theorem dL_isCompared_132 : decode cL_isCompared 132 = .ok (.bipush 64, 2) := by decide +kernel
theorem dL_isCompared_134 : decode cL_isCompared 134 = .ok (.if_icmp .ge 55, 3) := by decide +kernel
theorem dL_isCompared_137 : decode cL_isCompared 137 = .ok (.iload 6, 2) := by decide +kernel
theorem dL_isCompared_139 : decode cL_isCompared 139 = .ok (.iload 5, 2) := by decide +kernel
theorem dL_isCompared_141 : decode cL_isCompared 141 = .ok (.iadd, 1) := by decide +kernel
theorem dL_isCompared_142 : decode cL_isCompared 142 = .ok (.bipush 64, 2) := by decide +kernel
theorem dL_isCompared_144 : decode cL_isCompared 144 = .ok (.if_icmp .gt 45, 3) := by decide +kernel
theorem dL_isCompared_147 : decode cL_isCompared 147 = .ok (.iload 8, 2) := by decide +kernel
theorem dL_isCompared_149 : decode cL_isCompared 149 = .ok (.ifCond .lt 40, 3) := by decide +kernel
theorem dL_isCompared_152 : decode cL_isCompared 152 = .ok (.iload 8, 2) := by decide +kernel
theorem dL_isCompared_154 : decode cL_isCompared 154 = .ok (.bipush 64, 2) := by decide +kernel
theorem dL_isCompared_156 : decode cL_isCompared 156 = .ok (.if_icmp .gt 33, 3) := by decide +kernel
theorem dL_isCompared_159 : decode cL_isCompared 159 = .ok (.iload 9, 2) := by decide +kernel
theorem dL_isCompared_161 : decode cL_isCompared 161 = .ok (.bipush (-2), 2) := by decide +kernel
theorem dL_isCompared_163 : decode cL_isCompared 163 = .ok (.if_icmp .lt 26, 3) := by decide +kernel
theorem dL_isCompared_166 : decode cL_isCompared 166 = .ok (.iload 9, 2) := by decide +kernel
theorem dL_isCompared_168 : decode cL_isCompared 168 = .ok (.iconst 2, 1) := by decide +kernel
theorem dL_isCompared_169 : decode cL_isCompared 169 = .ok (.if_icmp .gt 20, 3) := by decide +kernel
theorem dL_isCompared_172 : decode cL_isCompared 172 = .ok (.iload 10, 2) := by decide +kernel
theorem dL_isCompared_174 : decode cL_isCompared 174 = .ok (.bipush (-2), 2) := by decide +kernel
theorem dL_isCompared_176 : decode cL_isCompared 176 = .ok (.if_icmp .lt 13, 3) := by decide +kernel
theorem dL_isCompared_179 : decode cL_isCompared 179 = .ok (.iload 10, 2) := by decide +kernel
theorem dL_isCompared_181 : decode cL_isCompared 181 = .ok (.iconst 2, 1) := by decide +kernel
theorem dL_isCompared_182 : decode cL_isCompared 182 = .ok (.if_icmp .gt 7, 3) := by decide +kernel
theorem dL_isCompared_185 : decode cL_isCompared 185 = .ok (.iconst 1, 1) := by decide +kernel
theorem dL_isCompared_186 : decode cL_isCompared 186 = .ok (.goto 4, 3) := by decide +kernel
theorem dL_isCompared_189 : decode cL_isCompared 189 = .ok (.iconst 0, 1) := by decide +kernel
theorem dL_isCompared_190 : decode cL_isCompared 190 = .ok (.istore 11, 2) := by decide +kernel
theorem dL_isCompared_192 : decode cL_isCompared 192 = .ok (.aload_n 0, 1) := by decide +kernel
theorem dL_isCompared_193 : decode cL_isCompared 193 = .ok (.iload_n 3, 1) := by decide +kernel
theorem dL_isCompared_194 : decode cL_isCompared 194 = .ok (.invokevirtual 71, 3) := by decide +kernel
theorem dL_isCompared_197 : decode cL_isCompared 197 = .ok (.istore 12, 2) := by decide +kernel
theorem dL_isCompared_199 : decode cL_isCompared 199 = .ok (.aload_n 0, 1) := by decide +kernel
theorem dL_isCompared_200 : decode cL_isCompared 200 = .ok (.iload_n 2, 1) := by decide +kernel
theorem dL_isCompared_201 : decode cL_isCompared 201 = .ok (.iload_n 3, 1) := by decide +kernel
theorem dL_isCompared_202 : decode cL_isCompared 202 = .ok (.iload 4, 2) := by decide +kernel
theorem dL_isCompared_204 : decode cL_isCompared 204 = .ok (.invokestatic 65, 3) := by decide +kernel
theorem dL_isCompared_207 : decode cL_isCompared 207 = .ok (.istore 13, 2) := by decide +kernel
theorem dL_isCompared_209 : decode cL_isCompared 209 = .ok (.iload 11, 2) := by decide +kernel
theorem dL_isCompared_211 : decode cL_isCompared 211 = .ok (.ifCond .eq 89, 3) := by decide +kernel
theorem dL_isCompared_214 : decode cL_isCompared 214 = .ok (.iload 13, 2) := by decide +kernel
theorem dL_isCompared_216 : decode cL_isCompared 216 = .ok (.iload 5, 2) := by decide +kernel
theorem dL_isCompared_218 : decode cL_isCompared 218 = .ok (.ifCond .ne 7, 3) := by decide +kernel
theorem dL_isCompared_221 : decode cL_isCompared 221 = .ok (.iconst 1, 1) := by decide +kernel
theorem dL_isCompared_222 : decode cL_isCompared 222 = .ok (.goto 4, 3) := by decide +kernel
theorem dL_isCompared_225 : decode cL_isCompared 225 = .ok (.iconst 0, 1) := by decide +kernel
theorem dL_isCompared_226 : decode cL_isCompared 226 = .ok (.if_icmp .ne 74, 3) := by decide +kernel
theorem dL_isCompared_229 : decode cL_isCompared 229 = .ok (.aload_n 1, 1) := by decide +kernel
theorem dL_isCompared_230 : decode cL_isCompared 230 = .ok (.iload_n 2, 1) := by decide +kernel
theorem dL_isCompared_231 : decode cL_isCompared 231 = .ok (.iload_n 3, 1) := by decide +kernel
theorem dL_isCompared_232 : decode cL_isCompared 232 = .ok (.iload 4, 2) := by decide +kernel
theorem dL_isCompared_234 : decode cL_isCompared 234 = .ok (.invokestatic 65, 3) := by decide +kernel
theorem dL_isCompared_237 : decode cL_isCompared 237 = .ok (.iload 13, 2) := by decide +kernel
theorem dL_isCompared_239 : decode cL_isCompared 239 = .ok (.if_icmp .ne 61, 3) := by decide +kernel
theorem dL_isCompared_242 : decode cL_isCompared 242 = .ok (.aload_n 0, 1) := by decide +kernel
theorem dL_isCompared_243 : decode cL_isCompared 243 = .ok (.iload_n 3, 1) := by decide +kernel
theorem dL_isCompared_244 : decode cL_isCompared 244 = .ok (.invokevirtual 71, 3) := by decide +kernel
theorem dL_isCompared_247 : decode cL_isCompared 247 = .ok (.iload 12, 2) := by decide +kernel
theorem dL_isCompared_249 : decode cL_isCompared 249 = .ok (.bipush 10, 2) := by decide +kernel
theorem dL_isCompared_251 : decode cL_isCompared 251 = .ok (.if_icmp .ge 10, 3) := by decide +kernel
theorem dL_isCompared_254 : decode cL_isCompared 254 = .ok (.iload 12, 2) := by decide +kernel
theorem dL_isCompared_256 : decode cL_isCompared 256 = .ok (.iconst 1, 1) := by decide +kernel
theorem dL_isCompared_257 : decode cL_isCompared 257 = .ok (.iadd, 1) := by decide +kernel
theorem dL_isCompared_258 : decode cL_isCompared 258 = .ok (.goto 5, 3) := by decide +kernel
theorem dL_isCompared_261 : decode cL_isCompared 261 = .ok (.bipush 10, 2) := by decide +kernel
theorem dL_isCompared_263 : decode cL_isCompared 263 = .ok (.if_icmp .ne 37, 3) := by decide +kernel
theorem dL_isCompared_266 : decode cL_isCompared 266 = .ok (.aload_n 0, 1) := by decide +kernel
theorem dL_isCompared_267 : decode cL_isCompared 267 = .ok (.iload_n 3, 1) := by decide +kernel
theorem dL_isCompared_268 : decode cL_isCompared 268 = .ok (.invokevirtual 74, 3) := by decide +kernel
theorem dL_isCompared_271 : decode cL_isCompared 271 = .ok (.ifCond .lt 29, 3) := by decide +kernel
theorem dL_isCompared_274 : decode cL_isCompared 274 = .ok (.aload_n 0, 1) := by decide +kernel
theorem dL_isCompared_275 : decode cL_isCompared 275 = .ok (.iload_n 3, 1) := by decide +kernel
theorem dL_isCompared_276 : decode cL_isCompared 276 = .ok (.invokevirtual 74, 3) := by decide +kernel
theorem dL_isCompared_279 : decode cL_isCompared 279 = .ok (.bipush 100, 2) := by decide +kernel
theorem dL_isCompared_281 : decode cL_isCompared 281 = .ok (.if_icmp .gt 19, 3) := by decide +kernel
theorem dL_isCompared_284 : decode cL_isCompared 284 = .ok (.aload_n 0, 1) := by decide +kernel
theorem dL_isCompared_285 : decode cL_isCompared 285 = .ok (.iload_n 2, 1) := by decide +kernel
theorem dL_isCompared_286 : decode cL_isCompared 286 = .ok (.iload_n 3, 1) := by decide +kernel
theorem dL_isCompared_287 : decode cL_isCompared 287 = .ok (.sipush 255, 3) := by decide +kernel
theorem dL_isCompared_290 : decode cL_isCompared 290 = .ok (.invokevirtual 42, 3) := by decide +kernel
theorem dL_isCompared_293 : decode cL_isCompared 293 = .ok (.ifCond .ne 7, 3) := by decide +kernel
theorem dL_isCompared_296 : decode cL_isCompared 296 = .ok (.iconst 1, 1) := by decide +kernel
theorem dL_isCompared_297 : decode cL_isCompared 297 = .ok (.goto 4, 3) := by decide +kernel
theorem dL_isCompared_300 : decode cL_isCompared 300 = .ok (.iconst 0, 1) := by decide +kernel
theorem dL_isCompared_301 : decode cL_isCompared 301 = .ok (.ireturn, 1) := by decide +kernel
set_option maxRecDepth 20000 in
theorem ggL_isBranchSo_X3_begin : GoodIn wsL_isBranchSo wsX3_begin := goodIn_ca (goodIn_r _ [5, 6, 7, 8, 4, 9, 10, 11, 12, 13, 14, 15, 16, 17, 18, 19, 20, 21, 22, 23, 24, 25, 26, 27, 28, 29, 30, 31, 32, 33, 34, 35, 36, 37, 38, 39, 40, 41, 42, 43, 44, 45, 196, 197, 198, 199, 200, 201] (by decide +kernel) (by decide +kernel)) (goodIn_sub (fun _ h => List.mem_cons_of_mem _ (List.mem_append_left _ (List.mem_append_right _ h))) (by decide +kernel))
set_option maxRecDepth 20000 in
theorem gL_isBranchSo_X3_begin : GoodIn wsL_isBranchSo (wsV RL 30 RX3 yX3_begin wsX3_begin) := goodIn_app (goodIn_of _ (by decide +kernel)) ggL_isBranchSo_X3_begin
set_option maxRecDepth 20000 in
theorem ggL_isBranchSo_X3_isApproved : GoodIn wsL_isBranchSo wsX3_isApproved := goodIn_ca (goodIn_r _ [49, 6, 50, 51, 4, 52, 10, 11, 12, 53, 54, 55, 13, 14, 15, 16, 17, 22, 23, 24, 42, 43, 44, 31, 45, 38, 39, 40, 41, 196, 197, 198, 199, 200, 201] (by decide +kernel) (by decide +kernel)) (goodIn_sub (fun _ h => List.mem_cons_of_mem _ (List.mem_append_left _ (List.mem_append_right _ h))) (by decide +kernel))
set_option maxRecDepth 20000 in
theorem gL_isBranchSo_X3_isApproved : GoodIn wsL_isBranchSo (wsV RL 77 RX3 yX3_isApproved wsX3_isApproved) := goodIn_app (goodIn_of _ (by decide +kernel)) ggL_isBranchSo_X3_isApproved
set_option maxRecDepth 20000 in
theorem ggL_isBranchSo_L_join : GoodIn wsL_isBranchSo wsL_join := goodIn_ca (goodIn_r _ [59, 60, 61, 62, 63, 64, 4, 65, 7, 8, 9, 10, 11, 12, 13, 14, 15, 16, 17, 66, 67, 68, 69, 6, 22, 23, 24, 25, 26, 27, 70, 71, 72, 31, 73, 33, 74, 43, 44, 45, 38, 39, 40, 41, 75, 76, 77, 78, 28, 29, 30, 32, 34, 35, 36, 37, 18, 19, 20, 21, 196, 197, 198, 199, 200, 201] (by decide +kernel) (by decide +kernel)) (goodIn_sub (fun _ h => List.mem_cons_of_mem _ (List.mem_append_left _ (List.mem_append_right _ h))) (by decide +kernel))
set_option maxRecDepth 20000 in
theorem gL_isBranchSo_L_join : GoodIn wsL_isBranchSo (va_wsS RL 58 yL_join wsL_join) := goodIn_app (goodIn_of _ (by decide +kernel)) ggL_isBranchSo_L_join
set_option maxRecDepth 20000 in
theorem ggL_isBranchSo_X3_approve : GoodIn wsL_isBranchSo wsX3_approve := goodIn_ca (goodIn_r _ [82, 6, 50, 51, 4, 52, 10, 11, 12, 53, 54, 55, 13, 14, 15, 16, 17, 22, 23, 24, 42, 43, 44, 31, 45, 38, 39, 40, 41, 83, 84, 85, 28, 29, 30, 32, 33, 34, 35, 36, 37, 196, 197, 198, 199, 200, 201] (by decide +kernel) (by decide +kernel)) (goodIn_sub (fun _ h => List.mem_cons_of_mem _ (List.mem_append_left _ (List.mem_append_right _ h))) (by decide +kernel))
set_option maxRecDepth 20000 in
theorem gL_isBranchSo_X3_approve : GoodIn wsL_isBranchSo (wsV RL 26 RX3 yX3_approve wsX3_approve) := goodIn_app (goodIn_of _ (by decide +kernel)) ggL_isBranchSo_X3_approve
set_option maxRecDepth 20000 in
theorem ggL_isBranchSo_X3_differences : GoodIn wsL_isBranchSo wsX3_differences := goodIn_ca (goodIn_ca (goodIn_r _ [89, 90, 91, 92, 4, 93, 94, 95, 6, 50, 51, 52, 10, 11, 12, 53, 54, 55, 96, 97, 98, 13, 14, 15, 16, 17, 22, 23, 24, 42, 43, 44, 31, 45, 38, 39, 40, 41, 99, 100, 101, 102, 103, 104, 105, 106, 107, 108, 109, 110, 111, 112, 113, 114, 115, 116, 117, 118, 119, 120, 121, 122, 123, 124, 125, 126, 127, 128, 129, 130, 131, 132, 133, 134, 135, 136, 137, 138, 139, 83, 84, 85, 140, 141, 142, 143, 33, 144, 145, 146, 147, 148, 149, 150, 151, 152, 153, 154, 155, 156, 157, 158, 159, 160, 161, 162, 163, 164, 165, 166, 167, 168, 169, 170, 171, 172, 173, 174, 175, 176, 177, 178, 179, 180, 181, 182, 183, 184, 185, 186, 187, 188, 189, 190, 191, 196, 197, 198, 199, 200, 201, 202, 203, 204, 205] (by decide +kernel) (by decide +kernel)) (goodIn_sub (fun _ h => List.mem_cons_of_mem _ (List.mem_append_right _ h)) (by decide +kernel))) (goodIn_sub (fun _ h => List.mem_cons_of_mem _ (List.mem_append_left _ (List.mem_append_right _ h))) (by decide +kernel))
set_option maxRecDepth 20000 in
theorem gL_isBranchSo_X3_differences : GoodIn wsL_isBranchSo (wsV RL 42 RX3 yX3_differences wsX3_differences) := goodIn_app (goodIn_of _ (by decide +kernel)) ggL_isBranchSo_X3_differences
set_option maxRecDepth 20000 in
theorem ggL_isBranchSo_X3_move : GoodIn wsL_isBranchSo wsX3_move := goodIn_ca (goodIn_ca (goodIn_r _ [195, 90, 91, 92, 4, 93, 94, 95, 6, 50, 51, 52, 10, 11, 12, 53, 54, 55, 96, 97, 98, 13, 14, 15, 16, 17, 22, 23, 24, 42, 43, 44, 31, 45, 38, 39, 40, 41, 99, 100, 101, 102, 103, 104, 105, 106, 107, 108, 109, 110, 111, 112, 113, 114, 115, 116, 117, 118, 119, 120, 121, 122, 123, 124, 125, 126, 127, 128, 129, 130, 131, 132, 133, 134, 135, 136, 137, 138, 139, 83, 84, 85, 140, 141, 142, 143, 33, 144, 145, 146, 147, 148, 149, 150, 151, 152, 196, 197, 198, 199, 200, 201, 202, 203, 204, 205] (by decide +kernel) (by decide +kernel)) (goodIn_sub (fun _ h => List.mem_cons_of_mem _ (List.mem_append_right _ h)) (by decide +kernel))) (goodIn_sub (fun _ h => List.mem_cons_of_mem _ (List.mem_append_left _ (List.mem_append_right _ h))) (by decide +kernel))
set_option maxRecDepth 20000 in
theorem gL_isBranchSo_X3_move : GoodIn wsL_isBranchSo (wsV RL 85 RX3 yX3_move wsX3_move) := goodIn_app (goodIn_of _ (by decide +kernel)) ggL_isBranchSo_X3_move
theorem dL_isBranchSo_0 : decode cL_isBranchSo 0 = .ok (.aload_n 0, 1) := by decide +kernel
theorem dL_isBranchSo_1 : decode cL_isBranchSo 1 = .ok (.iload_n 2, 1) := by decide +kernel
theorem dL_isBranchSo_2 : decode cL_isBranchSo 2 = .ok (.invokevirtual 30, 3) := by decide +kernel
theorem dL_isBranchSo_5 : decode cL_isBranchSo 5 = .ok (.istore 4, 2) := by decide +kernel
theorem dL_isBranchSo_7 : decode cL_isBranchSo 7 = .ok (.aload_n 0, 1) := by decide +kernel
theorem dL_isBranchSo_8 : decode cL_isBranchSo 8 = .ok (.iconst 0, 1) := by decide +kernel
theorem dL_isBranchSo_9 : decode cL_isBranchSo 9 = .ok (.iload_n 3, 1) := by decide +kernel
theorem dL_isBranchSo_10 : decode cL_isBranchSo 10 = .ok (.invokevirtual 77, 3) := by decide +kernel
theorem dL_isBranchSo_13 : decode cL_isBranchSo 13 = .ok (.istore 5, 2) := by decide +kernel
theorem dL_isBranchSo_15 : decode cL_isBranchSo 15 = .ok (.iload 4, 2) := by decide +kernel
theorem dL_isBranchSo_17 : decode cL_isBranchSo 17 = .ok (.aload_n 1, 1) := by decide +kernel
theorem dL_isBranchSo_18 : decode cL_isBranchSo 18 = .ok (.iload_n 2, 1) := by decide +kernel
theorem dL_isBranchSo_19 : decode cL_isBranchSo 19 = .ok (.invokevirtual 30, 3) := by decide +kernel
theorem dL_isBranchSo_22 : decode cL_isBranchSo 22 = .ok (.if_icmp .ne 30, 3) := by decide +kernel
theorem dL_isBranchSo_25 : decode cL_isBranchSo 25 = .ok (.aload_n 0, 1) := by decide +kernel
theorem dL_isBranchSo_26 : decode cL_isBranchSo 26 = .ok (.iload_n 2, 1) := by decide +kernel
theorem dL_isBranchSo_27 : decode cL_isBranchSo 27 = .ok (.iload_n 3, 1) := by decide +kernel
theorem dL_isBranchSo_28 : decode cL_isBranchSo 28 = .ok (.invokevirtual 77, 3) := by decide +kernel
theorem dL_isBranchSo_31 : decode cL_isBranchSo 31 = .ok (.iload 5, 2) := by decide +kernel
theorem dL_isBranchSo_33 : decode cL_isBranchSo 33 = .ok (.if_icmp .ne 19, 3) := by decide +kernel
theorem dL_isBranchSo_36 : decode cL_isBranchSo 36 = .ok (.aload_n 0, 1) := by decide +kernel
theorem dL_isBranchSo_37 : decode cL_isBranchSo 37 = .ok (.iload_n 2, 1) := by decide +kernel
theorem dL_isBranchSo_38 : decode cL_isBranchSo 38 = .ok (.invokestatic 58, 3) := by decide +kernel
theorem dL_isBranchSo_41 : decode cL_isBranchSo 41 = .ok (.ifCond .ne 11, 3) := by decide +kernel
theorem dL_isBranchSo_44 : decode cL_isBranchSo 44 = .ok (.aload_n 1, 1) := by decide +kernel
theorem dL_isBranchSo_45 : decode cL_isBranchSo 45 = .ok (.iload_n 2, 1) := by decide +kernel
theorem dL_isBranchSo_46 : decode cL_isBranchSo 46 = .ok (.invokestatic 58, 3) := by decide +kernel
theorem dL_isBranchSo_49 : decode cL_isBranchSo 49 = .ok (.ifCond .eq 5, 3) := by decide +kernel
theorem dL_isBranchSo_52 : decode cL_isBranchSo 52 = .ok (.iconst 0, 1) := by decide +kernel
theorem dL_isBranchSo_53 : decode cL_isBranchSo 53 = .ok (.ireturn, 1) := by decide +kernel
theorem dL_isBranchSo_54 : decode cL_isBranchSo 54 = .ok (.aload_n 0, 1) := by decide +kernel
theorem dL_isBranchSo_55 : decode cL_isBranchSo 55 = .ok (.iload_n 2, 1) := by decide +kernel
theorem dL_isBranchSo_56 : decode cL_isBranchSo 56 = .ok (.iload_n 3, 1) := by decide +kernel
theorem dL_isBranchSo_57 : decode cL_isBranchSo 57 = .ok (.invokevirtual 26, 3) := by decide +kernel
theorem dL_isBranchSo_60 : decode cL_isBranchSo 60 = .ok (.istore 6, 2) := by decide +kernel
theorem dL_isBranchSo_62 : decode cL_isBranchSo 62 = .ok (.iload 6, 2) := by decide +kernel
theorem dL_isBranchSo_64 : decode cL_isBranchSo 64 = .ok (.iload 5, 2) := by decide +kernel
theorem dL_isBranchSo_66 : decode cL_isBranchSo 66 = .ok (.if_icmp .ne 41, 3) := by decide +kernel
theorem dL_isBranchSo_69 : decode cL_isBranchSo 69 = .ok (.aload_n 1, 1) := by decide +kernel
theorem dL_isBranchSo_70 : decode cL_isBranchSo 70 = .ok (.iload_n 2, 1) := by decide +kernel
theorem dL_isBranchSo_71 : decode cL_isBranchSo 71 = .ok (.iload_n 3, 1) := by decide +kernel
theorem dL_isBranchSo_72 : decode cL_isBranchSo 72 = .ok (.invokevirtual 26, 3) := by decide +kernel
theorem dL_isBranchSo_75 : decode cL_isBranchSo 75 = .ok (.iload 6, 2) := by decide +kernel
theorem dL_isBranchSo_77 : decode cL_isBranchSo 77 = .ok (.if_icmp .ne 30, 3) := by decide +kernel
theorem dL_isBranchSo_80 : decode cL_isBranchSo 80 = .ok (.aload_n 0, 1) := by decide +kernel
theorem dL_isBranchSo_81 : decode cL_isBranchSo 81 = .ok (.iload_n 2, 1) := by decide +kernel
theorem dL_isBranchSo_82 : decode cL_isBranchSo 82 = .ok (.iload_n 3, 1) := by decide +kernel
theorem dL_isBranchSo_83 : decode cL_isBranchSo 83 = .ok (.iconst 0, 1) := by decide +kernel
theorem dL_isBranchSo_84 : decode cL_isBranchSo 84 = .ok (.invokevirtual 42, 3) := by decide +kernel
theorem dL_isBranchSo_87 : decode cL_isBranchSo 87 = .ok (.ifCond .ne 20, 3) := by decide +kernel
theorem dL_isBranchSo_90 : decode cL_isBranchSo 90 = .ok (.aload_n 0, 1) := by decide +kernel
theorem dL_isBranchSo_91 : decode cL_isBranchSo 91 = .ok (.iload_n 2, 1) := by decide +kernel
theorem dL_isBranchSo_92 : decode cL_isBranchSo 92 = .ok (.iload_n 3, 1) := by decide +kernel
theorem dL_isBranchSo_93 : decode cL_isBranchSo 93 = .ok (.iconst 0, 1) := by decide +kernel
theorem dL_isBranchSo_94 : decode cL_isBranchSo 94 = .ok (.invokevirtual 85, 3) := by decide +kernel
theorem dL_isBranchSo_97 : decode cL_isBranchSo 97 = .ok (.sipush 5050, 3) := by decide +kernel
theorem dL_isBranchSo_100 : decode cL_isBranchSo 100 = .ok (.if_icmp .ne 7, 3) := by decide +kernel
theorem dL_isBranchSo_103 : decode cL_isBranchSo 103 = .ok (.iconst 1, 1) := by decide +kernel
theorem dL_isBranchSo_104 : decode cL_isBranchSo 104 = .ok (.goto 4, 3) := by decide +kernel
theorem dL_isBranchSo_107 : decode cL_isBranchSo 107 = .ok (.iconst 0, 1) := by decide +kernel
theorem dL_isBranchSo_108 : decode cL_isBranchSo 108 = .ok (.istore 7, 2) := by decide +kernel
theorem dL_isBranchSo_110 : decode cL_isBranchSo 110 = .ok (.iload 7, 2) := by decide +kernel
theorem dL_isBranchSo_112 : decode cL_isBranchSo 112 = .ok (.ifCond .eq 42, 3) := by decide +kernel
theorem dL_isBranchSo_115 : decode cL_isBranchSo 115 = .ok (.aload_n 0, 1) := by decide +kernel
theorem dL_isBranchSo_116 : decode cL_isBranchSo 116 = .ok (.iload_n 2, 1) := by decide +kernel
theorem dL_isBranchSo_117 : decode cL_isBranchSo 117 = .ok (.invokestatic 58, 3) := by decide +kernel
theorem dL_isBranchSo_120 : decode cL_isBranchSo 120 = .ok (.ifCond .ne 34, 3) := by decide +kernel
theorem dL_isBranchSo_123 : decode cL_isBranchSo 123 = .ok (.aload_n 1, 1) := by decide +kernel
theorem dL_isBranchSo_124 : decode cL_isBranchSo 124 = .ok (.iload_n 2, 1) := by decide +kernel
theorem dL_isBranchSo_125 : decode cL_isBranchSo 125 = .ok (.invokestatic 58, 3) := by decide +kernel
theorem dL_isBranchSo_128 : decode cL_isBranchSo 128 = .ok (.ifCond .ne 26, 3) := by decide +kernel
theorem dL_isBranchSo_131 : decode cL_isBranchSo 131 = .ok (.aload_n 0, 1) := by decide +kernel
theorem dL_isBranchSo_132 : decode cL_isBranchSo 132 = .ok (.iconst 0, 1) := by decide +kernel
theorem dL_isBranchSo_133 : decode cL_isBranchSo 133 = .ok (.iload_n 3, 1) := by decide +kernel
theorem dL_isBranchSo_134 : decode cL_isBranchSo 134 = .ok (.invokevirtual 77, 3) := by decide +kernel
theorem dL_isBranchSo_137 : decode cL_isBranchSo 137 = .ok (.ifCond .eq 17, 3) := by decide +kernel
theorem dL_isBranchSo_140 : decode cL_isBranchSo 140 = .ok (.aload_n 0, 1) := by decide +kernel
theorem dL_isBranchSo_141 : decode cL_isBranchSo 141 = .ok (.iconst 0, 1) := by decide +kernel
theorem dL_isBranchSo_142 : decode cL_isBranchSo 142 = .ok (.iload_n 3, 1) := by decide +kernel
theorem dL_isBranchSo_143 : decode cL_isBranchSo 143 = .ok (.iconst 0, 1) := by decide +kernel
theorem dL_isBranchSo_144 : decode cL_isBranchSo 144 = .ok (.invokevirtual 42, 3) := by decide +kernel
theorem dL_isBranchSo_147 : decode cL_isBranchSo 147 = .ok (.ifCond .ne 7, 3) := by decide +kernel
theorem dL_isBranchSo_150 : decode cL_isBranchSo 150 = .ok (.iconst 1, 1) := by decide +kernel
theorem dL_isBranchSo_151 : decode cL_isBranchSo 151 = .ok (.goto 4, 3) := by decide +kernel
theorem dL_isBranchSo_154 : decode cL_isBranchSo 154 = .ok (.iconst 0, 1) := by decide +kernel
theorem dL_isBranchSo_155 : decode cL_isBranchSo 155 = .ok (.ireturn, 1) := by decide +kernel
set_option maxRecDepth 20000 in
theorem ggL_law_X3_init : GoodIn wsL_law wsX3_init := goodIn_r _ [6, 7, 8, 9, 10, 11, 12, 13, 14, 15, 16, 17, 18, 19, 20, 21, 22, 23, 24, 25, 26, 27, 28, 29, 30, 31, 32, 33, 34, 35, 36, 37, 38, 39, 40, 41, 42, 343, 344, 339, 340, 341, 342, 345, 346, 347, 348, 349, 350] (by decide +kernel) (by decide +kernel)
set_option maxRecDepth 20000 in
theorem gL_law_X3_init : GoodIn wsL_law (wsX3_init) := ggL_law_X3_init
set_option maxRecDepth 20000 in
theorem ggL_law_L_cell : GoodIn wsL_law wsL_cell := goodIn_r _ [46] (by decide +kernel) (by decide +kernel)
set_option maxRecDepth 20000 in
theorem gL_law_L_cell : GoodIn wsL_law (va_wsS RL 92 yL_cell wsL_cell) := goodIn_app (goodIn_of _ (by decide +kernel)) ggL_law_L_cell
set_option maxRecDepth 20000 in
theorem ggL_law_L_act : GoodIn wsL_law wsL_act := goodIn_ca (goodIn_ca (goodIn_r _ [49, 50, 51, 45, 52, 53, 54, 55, 56, 57, 58, 59, 60, 61, 2, 62, 13, 63, 64, 65, 66, 67, 68, 69, 70, 71, 72, 73, 74, 75, 76, 77, 78, 79, 80, 81, 82, 12, 83, 30, 84, 85, 86, 87, 88, 89, 90, 91, 92, 93, 28, 94, 95, 96, 97, 98, 99, 100, 101, 102, 103, 104, 105, 106, 107, 108, 109, 110, 111, 112, 113, 114, 115, 116, 117, 118, 119, 120, 121, 122, 123, 124, 125, 126, 127, 128, 129, 130, 131, 132, 133, 134, 135, 136, 137, 138, 139, 140, 141, 17, 18, 142, 143, 144, 145, 146, 147, 148, 149, 150, 16, 151, 34, 35, 36, 37, 152, 153, 154, 155, 156, 157, 158, 159, 160, 161, 162, 163, 164, 165, 166, 167, 168, 169, 170, 171, 172, 173, 3, 174, 175, 176, 177, 22, 178, 179, 180, 181, 182, 183, 184, 185, 186, 187, 188, 189, 190, 191, 192, 193, 194, 195, 196, 197, 198, 199, 200, 201, 202, 203, 204, 205, 206, 207, 208, 209, 210, 211, 212, 213, 214, 215, 216, 217, 218, 219, 220, 221, 222, 223, 224, 225, 226, 227, 228, 229, 230, 231, 232, 233, 234, 235, 236, 237, 238, 239, 240, 241, 242, 243, 244, 245, 246, 247, 248, 249, 250, 251, 252, 253, 254, 255, 256, 257, 258, 259, 260, 261, 262, 263, 264, 265, 266, 267, 268, 269, 270, 21, 271, 41, 42, 272, 273, 274, 275, 276, 277, 278, 279, 280, 281, 282, 283, 339, 340, 341, 342, 343, 344, 345, 346, 347, 348, 349, 350] (by decide +kernel) (by decide +kernel)) (goodIn_sub (fun _ h => List.mem_append_left _ (List.mem_append_right _ h)) (by decide +kernel))) (goodIn_sub (fun _ h => List.mem_append_right _ h) (by decide +kernel))
set_option maxRecDepth 20000 in
theorem gL_law_L_act : GoodIn wsL_law (va_wsS RL 96 yL_act wsL_act) := goodIn_app (goodIn_of _ (by decide +kernel)) ggL_law_L_act
set_option maxRecDepth 20000 in
theorem ggL_law_L_areAlike : GoodIn wsL_law wsL_areAlike := goodIn_ca (goodIn_ca (goodIn_r _ [286, 287, 288, 289, 2, 290, 22, 69, 70, 71, 66, 67, 68, 72, 73, 74, 75, 76, 291, 292, 293, 21, 294, 42, 295, 296, 297, 298, 299, 300, 301, 302, 41, 303, 304, 305, 306, 307, 308, 309, 310, 311, 312, 313, 13, 63, 64, 65, 77, 78, 79, 80, 81, 82, 12, 83, 30, 84, 85, 86, 314, 315, 45, 316, 57, 160, 58, 317, 318, 319, 320, 178, 179, 180, 181, 165, 166, 182, 183, 184, 189, 190, 191, 192, 17, 193, 194, 195, 196, 167, 168, 169, 16, 170, 34, 36, 197, 198, 199, 200, 201, 202, 203, 204, 37, 205, 206, 207, 208, 209, 210, 211, 212, 35, 213, 214, 215, 216, 145, 146, 147, 87, 88, 89, 217, 218, 219, 220, 28, 221, 222, 223, 224, 225, 226, 227, 228, 229, 230, 231, 232, 233, 234, 235, 236, 237, 238, 239, 240, 241, 242, 243, 244, 245, 246, 247, 248, 249, 250, 251, 252, 253, 254, 255, 256, 257, 18, 258, 259, 260, 261, 262, 263, 264, 265, 266, 267, 339, 340, 341, 342, 349, 350, 343, 344, 345, 346, 347, 348] (by decide +kernel) (by decide +kernel)) (goodIn_sub (fun _ h => List.mem_append_left _ (List.mem_append_right _ h)) (by decide +kernel))) (goodIn_sub (fun _ h => List.mem_append_right _ h) (by decide +kernel))
set_option maxRecDepth 20000 in
theorem gL_law_L_areAlike : GoodIn wsL_law (va_wsS RL 99 yL_areAlike wsL_areAlike) := goodIn_app (goodIn_of _ (by decide +kernel)) ggL_law_L_areAlike
set_option maxRecDepth 20000 in
theorem ggL_law_L_low : GoodIn wsL_law wsL_low := goodIn_r _ [52, 53] (by decide +kernel) (by decide +kernel)
set_option maxRecDepth 20000 in
theorem gL_law_L_low : GoodIn wsL_law (va_wsS RL 46 yL_low wsL_low) := goodIn_app (goodIn_of _ (by decide +kernel)) ggL_law_L_low
set_option maxRecDepth 20000 in
theorem ggL_law_L_isCompared : GoodIn wsL_law wsL_isCompared := goodIn_ca (goodIn_ca (goodIn_r _ [323, 3, 314, 315, 45, 316, 57, 160, 58, 317, 318, 319, 2, 320, 178, 179, 180, 181, 165, 166, 13, 63, 64, 65, 66, 67, 68, 69, 70, 71, 182, 183, 184, 72, 73, 74, 75, 76, 77, 78, 79, 80, 81, 82, 12, 83, 30, 84, 85, 86, 189, 190, 191, 192, 17, 193, 194, 195, 196, 167, 168, 169, 16, 170, 34, 36, 197, 198, 199, 200, 201, 202, 203, 204, 37, 205, 206, 207, 208, 209, 210, 211, 212, 35, 213, 214, 215, 216, 145, 146, 147, 87, 88, 89, 217, 218, 219, 220, 28, 221, 222, 223, 224, 225, 226, 227, 228, 229, 230, 231, 232, 233, 234, 235, 236, 237, 238, 239, 240, 241, 242, 243, 244, 245, 246, 247, 248, 249, 250, 251, 252, 253, 254, 255, 256, 257, 18, 258, 259, 260, 261, 262, 263, 264, 265, 266, 267, 310, 311, 312, 313, 171, 172, 173, 174, 175, 176, 177, 22, 185, 186, 187, 188, 268, 269, 270, 21, 271, 41, 42, 272, 324, 325, 326, 327, 328, 329, 330, 331, 332, 333, 334, 335, 287, 288, 289, 290, 291, 292, 293, 294, 295, 296, 297, 298, 299, 300, 301, 302, 303, 304, 305, 306, 307, 308, 309, 339, 340, 341, 342, 343, 344, 345, 346, 347, 348, 349, 350] (by decide +kernel) (by decide +kernel)) (goodIn_sub (fun _ h => List.mem_append_right _ h) (by decide +kernel))) (goodIn_sub (fun _ h => List.mem_append_left _ (List.mem_append_right _ h)) (by decide +kernel))
set_option maxRecDepth 20000 in
theorem gL_law_L_isCompared : GoodIn wsL_law (va_wsS RL 103 yL_isCompared wsL_isCompared) := goodIn_app (goodIn_of _ (by decide +kernel)) ggL_law_L_isCompared
set_option maxRecDepth 20000 in
theorem ggL_law_L_isBranchSo : GoodIn wsL_law wsL_isBranchSo := goodIn_ca (goodIn_ca (goodIn_r _ [338, 101, 102, 103, 2, 104, 13, 105, 106, 107, 66, 67, 68, 72, 73, 74, 75, 76, 108, 109, 110, 111, 77, 78, 79, 112, 113, 114, 90, 91, 92, 12, 93, 28, 94, 95, 96, 97, 30, 84, 85, 86, 80, 81, 82, 83, 310, 311, 312, 313, 63, 64, 65, 69, 70, 71, 115, 116, 45, 117, 57, 58, 118, 119, 120, 121, 122, 123, 124, 125, 126, 127, 128, 129, 130, 131, 132, 133, 134, 59, 60, 61, 62, 87, 88, 89, 317, 318, 319, 320, 178, 179, 180, 181, 165, 166, 182, 183, 184, 189, 190, 191, 192, 17, 193, 194, 195, 196, 167, 168, 169, 16, 170, 34, 36, 197, 198, 199, 200, 201, 202, 203, 204, 37, 205, 206, 207, 208, 209, 210, 211, 212, 35, 213, 214, 215, 216, 145, 146, 147, 217, 218, 219, 220, 221, 222, 223, 224, 225, 226, 227, 228, 229, 230, 231, 232, 233, 234, 235, 236, 237, 238, 239, 240, 241, 242, 243, 244, 245, 246, 247, 248, 249, 250, 251, 252, 253, 254, 255, 256, 257, 18, 258, 259, 260, 261, 262, 263, 264, 265, 266, 267, 328, 329, 330, 331, 339, 340, 341, 342, 343, 344, 345, 346, 347, 348] (by decide +kernel) (by decide +kernel)) (goodIn_sub (fun _ h => List.mem_append_left _ (List.mem_append_right _ h)) (by decide +kernel))) (goodIn_sub (fun _ h => List.mem_append_right _ h) (by decide +kernel))
set_option maxRecDepth 20000 in
theorem gL_law_L_isBranchSo : GoodIn wsL_law (va_wsS RL 107 yL_isBranchSo wsL_isBranchSo) := goodIn_app (goodIn_of _ (by decide +kernel)) ggL_law_L_isBranchSo
