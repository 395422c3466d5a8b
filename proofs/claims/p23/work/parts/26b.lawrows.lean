theorem dL_below_0 : decode cL_below 0 = .ok (.iload_n 0, 1) := by decide +kernel
theorem dL_below_1 : decode cL_below 1 = .ok (.ldc 7, 2) := by decide +kernel
theorem dL_below_3 : decode cL_below 3 = .ok (.iand, 1) := by decide +kernel
theorem dL_below_4 : decode cL_below 4 = .ok (.iload_n 1, 1) := by decide +kernel
theorem dL_below_5 : decode cL_below 5 = .ok (.irem, 1) := by decide +kernel
theorem dL_below_6 : decode cL_below 6 = .ok (.ireturn, 1) := by decide +kernel
theorem dL_cell_0 : decode cL_cell 0 = .ok (.iload_n 1, 1) := by decide +kernel
theorem dL_cell_1 : decode cL_cell 1 = .ok (.aload_n 0, 1) := by decide +kernel
theorem dL_cell_2 : decode cL_cell 2 = .ok (.arraylength, 1) := by decide +kernel
theorem dL_cell_3 : decode cL_cell 3 = .ok (.if_icmp .ge 9, 3) := by decide +kernel
theorem dL_cell_6 : decode cL_cell 6 = .ok (.aload_n 0, 1) := by decide +kernel
theorem dL_cell_7 : decode cL_cell 7 = .ok (.iload_n 1, 1) := by decide +kernel
theorem dL_cell_8 : decode cL_cell 8 = .ok (.iaload, 1) := by decide +kernel
theorem dL_cell_9 : decode cL_cell 9 = .ok (.goto 9, 3) := by decide +kernel
theorem dL_cell_12 : decode cL_cell 12 = .ok (.ldc 8, 2) := by decide +kernel
theorem dL_cell_14 : decode cL_cell 14 = .ok (.iload_n 1, 1) := by decide +kernel
theorem dL_cell_15 : decode cL_cell 15 = .ok (.iconst 3, 1) := by decide +kernel
theorem dL_cell_16 : decode cL_cell 16 = .ok (.iadd, 1) := by decide +kernel
theorem dL_cell_17 : decode cL_cell 17 = .ok (.imul, 1) := by decide +kernel
theorem dL_cell_18 : decode cL_cell 18 = .ok (.ireturn, 1) := by decide +kernel
set_option maxRecDepth 20000 in
theorem ggL_build_X4_init : GoodIn wsL_build wsX4_init := goodIn_r _ [9, 10, 11, 12, 13, 14, 15, 6, 16, 63, 64, 65, 66] (by decide +kernel) (by decide +kernel)
set_option maxRecDepth 20000 in
theorem gL_build_X4_init_n11 : GoodIn wsL_build (wsX4_init) := ggL_build_X4_init
set_option maxRecDepth 20000 in
theorem ggL_build_L_cell : GoodIn wsL_build wsL_cell := goodIn_r _ [20, 21] (by decide +kernel) (by decide +kernel)
set_option maxRecDepth 20000 in
theorem gL_build_L_cell : GoodIn wsL_build (va_wsS RL 12 yL_cell wsL_cell) := goodIn_app (goodIn_of _ (by decide +kernel)) ggL_build_L_cell
set_option maxRecDepth 20000 in
theorem ggL_build_L_below : GoodIn wsL_build wsL_below := goodIn_r _ [24, 25] (by decide +kernel) (by decide +kernel)
set_option maxRecDepth 20000 in
theorem gL_build_L_below : GoodIn wsL_build (va_wsS RL 18 yL_below wsL_below) := goodIn_app (goodIn_of _ (by decide +kernel)) ggL_build_L_below
set_option maxRecDepth 20000 in
theorem ggL_build_X3_addKind : GoodIn wsL_build wsX3_addKind := goodIn_ca (goodIn_ca (goodIn_r _ [30, 31, 32, 33, 34, 35, 36, 37, 38, 39, 40, 41, 29, 42, 43, 44, 45, 46, 11, 12, 47, 48, 49, 50, 51, 52, 53, 54, 67, 68, 69, 70, 71, 72, 73, 74, 75, 76, 77, 78, 79, 80, 81, 82, 83, 84, 85, 86, 87, 88] (by decide +kernel) (by decide +kernel)) (goodIn_sub (fun _ h => List.mem_cons_of_mem _ (List.mem_append_left _ (List.mem_append_right _ h))) (by decide +kernel))) (goodIn_sub (fun _ h => List.mem_cons_of_mem _ (List.mem_append_right _ h)) (by decide +kernel))
set_option maxRecDepth 20000 in
theorem gL_build_X3_addKind : GoodIn wsL_build (wsV RL 28 RX3 yX3_addKind wsX3_addKind) := goodIn_app (goodIn_of _ (by decide +kernel)) ggL_build_X3_addKind
set_option maxRecDepth 20000 in
theorem ggL_build_X3_setRules : GoodIn wsL_build wsX3_setRules := goodIn_ca (goodIn_r _ [58, 31, 32, 59, 60, 61, 62, 40, 41, 29, 42, 67, 68, 69, 70, 71, 72, 73, 74, 75, 76, 77, 78, 79, 80] (by decide +kernel) (by decide +kernel)) (goodIn_sub (fun _ h => List.mem_cons_of_mem _ (List.mem_append_left _ (List.mem_append_right _ h))) (by decide +kernel))
set_option maxRecDepth 20000 in
theorem gL_build_X3_setRules : GoodIn wsL_build (wsV RL 37 RX3 yX3_setRules wsX3_setRules) := goodIn_app (goodIn_of _ (by decide +kernel)) ggL_build_X3_setRules
theorem dL_build_0 : decode cL_build 0 = .ok (.new 9, 3) := by decide +kernel
theorem dL_build_3 : decode cL_build 3 = .ok (.dup, 1) := by decide +kernel
theorem dL_build_4 : decode cL_build 4 = .ok (.invokespecial 11, 3) := by decide +kernel
theorem dL_build_7 : decode cL_build 7 = .ok (.astore_n 3, 1) := by decide +kernel
theorem dL_build_8 : decode cL_build 8 = .ok (.iconst 2, 1) := by decide +kernel
theorem dL_build_9 : decode cL_build 9 = .ok (.aload_n 1, 1) := by decide +kernel
theorem dL_build_10 : decode cL_build 10 = .ok (.iload_n 2, 1) := by decide +kernel
theorem dL_build_11 : decode cL_build 11 = .ok (.invokestatic 12, 3) := by decide +kernel
theorem dL_build_14 : decode cL_build 14 = .ok (.iconst 4, 1) := by decide +kernel
theorem dL_build_15 : decode cL_build 15 = .ok (.invokestatic 18, 3) := by decide +kernel
theorem dL_build_18 : decode cL_build 18 = .ok (.iadd, 1) := by decide +kernel
theorem dL_build_19 : decode cL_build 19 = .ok (.istore 4, 2) := by decide +kernel
theorem dL_build_21 : decode cL_build 21 = .ok (.aload_n 3, 1) := by decide +kernel
theorem dL_build_22 : decode cL_build 22 = .ok (.iload 4, 2) := by decide +kernel
theorem dL_build_24 : decode cL_build 24 = .ok (.anewarray 22, 3) := by decide +kernel
theorem dL_build_27 : decode cL_build 27 = .ok (.putfield 24, 3) := by decide +kernel
theorem dL_build_30 : decode cL_build 30 = .ok (.iconst 0, 1) := by decide +kernel
theorem dL_build_31 : decode cL_build 31 = .ok (.istore 5, 2) := by decide +kernel
theorem dL_build_33 : decode cL_build 33 = .ok (.iload 5, 2) := by decide +kernel
theorem dL_build_35 : decode cL_build 35 = .ok (.iload 4, 2) := by decide +kernel
theorem dL_build_37 : decode cL_build 37 = .ok (.if_icmp .ge 225, 3) := by decide +kernel
theorem dL_build_40 : decode cL_build 40 = .ok (.aload_n 1, 1) := by decide +kernel
theorem dL_build_41 : decode cL_build 41 = .ok (.iload_n 2, 1) := by decide +kernel
theorem dL_build_42 : decode cL_build 42 = .ok (.iconst 1, 1) := by decide +kernel
theorem dL_build_43 : decode cL_build 43 = .ok (.iadd, 1) := by decide +kernel
theorem dL_build_44 : decode cL_build 44 = .ok (.iload 5, 2) := by decide +kernel
theorem dL_build_46 : decode cL_build 46 = .ok (.iadd, 1) := by decide +kernel
theorem dL_build_47 : decode cL_build 47 = .ok (.invokestatic 12, 3) := by decide +kernel
theorem dL_build_50 : decode cL_build 50 = .ok (.istore 6, 2) := by decide +kernel
theorem dL_build_52 : decode cL_build 52 = .ok (.aload_n 3, 1) := by decide +kernel
theorem dL_build_53 : decode cL_build 53 = .ok (.getfield 24, 3) := by decide +kernel
theorem dL_build_56 : decode cL_build 56 = .ok (.iload 5, 2) := by decide +kernel
theorem dL_build_58 : decode cL_build 58 = .ok (.bipush 6, 2) := by decide +kernel
theorem dL_build_60 : decode cL_build 60 = .ok (.newarray .int, 2) := by decide +kernel
theorem dL_build_62 : decode cL_build 62 = .ok (.dup, 1) := by decide +kernel
theorem dL_build_63 : decode cL_build 63 = .ok (.iconst 0, 1) := by decide +kernel
theorem dL_build_64 : decode cL_build 64 = .ok (.iconst 1, 1) := by decide +kernel
theorem dL_build_65 : decode cL_build 65 = .ok (.iload 6, 2) := by decide +kernel
theorem dL_build_67 : decode cL_build 67 = .ok (.bipush 6, 2) := by decide +kernel
theorem dL_build_69 : decode cL_build 69 = .ok (.invokestatic 18, 3) := by decide +kernel
theorem dL_build_72 : decode cL_build 72 = .ok (.iadd, 1) := by decide +kernel
theorem dL_build_73 : decode cL_build 73 = .ok (.iastore, 1) := by decide +kernel
theorem dL_build_74 : decode cL_build 74 = .ok (.dup, 1) := by decide +kernel
theorem dL_build_75 : decode cL_build 75 = .ok (.iconst 1, 1) := by decide +kernel
theorem dL_build_76 : decode cL_build 76 = .ok (.iconst 1, 1) := by decide +kernel
theorem dL_build_77 : decode cL_build 77 = .ok (.iload 6, 2) := by decide +kernel
theorem dL_build_79 : decode cL_build 79 = .ok (.iconst 3, 1) := by decide +kernel
theorem dL_build_80 : decode cL_build 80 = .ok (.ishr, 1) := by decide +kernel
theorem dL_build_81 : decode cL_build 81 = .ok (.bipush 6, 2) := by decide +kernel
theorem dL_build_83 : decode cL_build 83 = .ok (.invokestatic 18, 3) := by decide +kernel
theorem dL_build_86 : decode cL_build 86 = .ok (.iadd, 1) := by decide +kernel
theorem dL_build_87 : decode cL_build 87 = .ok (.iastore, 1) := by decide +kernel
theorem dL_build_88 : decode cL_build 88 = .ok (.dup, 1) := by decide +kernel
theorem dL_build_89 : decode cL_build 89 = .ok (.iconst 2, 1) := by decide +kernel
theorem dL_build_90 : decode cL_build 90 = .ok (.iconst 1, 1) := by decide +kernel
theorem dL_build_91 : decode cL_build 91 = .ok (.iload 6, 2) := by decide +kernel
theorem dL_build_93 : decode cL_build 93 = .ok (.iconst 5, 1) := by decide +kernel
theorem dL_build_94 : decode cL_build 94 = .ok (.ishr, 1) := by decide +kernel
theorem dL_build_95 : decode cL_build 95 = .ok (.iconst 4, 1) := by decide +kernel
theorem dL_build_96 : decode cL_build 96 = .ok (.invokestatic 18, 3) := by decide +kernel
theorem dL_build_99 : decode cL_build 99 = .ok (.iadd, 1) := by decide +kernel
theorem dL_build_100 : decode cL_build 100 = .ok (.iastore, 1) := by decide +kernel
theorem dL_build_101 : decode cL_build 101 = .ok (.dup, 1) := by decide +kernel
theorem dL_build_102 : decode cL_build 102 = .ok (.iconst 3, 1) := by decide +kernel
theorem dL_build_103 : decode cL_build 103 = .ok (.iconst 1, 1) := by decide +kernel
theorem dL_build_104 : decode cL_build 104 = .ok (.iload 6, 2) := by decide +kernel
theorem dL_build_106 : decode cL_build 106 = .ok (.bipush 6, 2) := by decide +kernel
theorem dL_build_108 : decode cL_build 108 = .ok (.ishr, 1) := by decide +kernel
theorem dL_build_109 : decode cL_build 109 = .ok (.bipush 90, 2) := by decide +kernel
theorem dL_build_111 : decode cL_build 111 = .ok (.invokestatic 18, 3) := by decide +kernel
theorem dL_build_114 : decode cL_build 114 = .ok (.iadd, 1) := by decide +kernel
theorem dL_build_115 : decode cL_build 115 = .ok (.iastore, 1) := by decide +kernel
theorem dL_build_116 : decode cL_build 116 = .ok (.dup, 1) := by decide +kernel
theorem dL_build_117 : decode cL_build 117 = .ok (.iconst 4, 1) := by decide +kernel
theorem dL_build_118 : decode cL_build 118 = .ok (.iload 6, 2) := by decide +kernel
theorem dL_build_120 : decode cL_build 120 = .ok (.bipush 8, 2) := by decide +kernel
theorem dL_build_122 : decode cL_build 122 = .ok (.ishr, 1) := by decide +kernel
theorem dL_build_123 : decode cL_build 123 = .ok (.iconst 3, 1) := by decide +kernel
theorem dL_build_124 : decode cL_build 124 = .ok (.invokestatic 18, 3) := by decide +kernel
theorem dL_build_127 : decode cL_build 127 = .ok (.ifCond .ne 16, 3) := by decide +kernel
theorem dL_build_130 : decode cL_build 130 = .ok (.iload 6, 2) := by decide +kernel
theorem dL_build_132 : decode cL_build 132 = .ok (.bipush 7, 2) := by decide +kernel
theorem dL_build_134 : decode cL_build 134 = .ok (.ishr, 1) := by decide +kernel
theorem dL_build_135 : decode cL_build 135 = .ok (.bipush 60, 2) := by decide +kernel
theorem dL_build_137 : decode cL_build 137 = .ok (.invokestatic 18, 3) := by decide +kernel
theorem dL_build_140 : decode cL_build 140 = .ok (.goto 13, 3) := by decide +kernel
theorem dL_build_143 : decode cL_build 143 = .ok (.iload 6, 2) := by decide +kernel
theorem dL_build_145 : decode cL_build 145 = .ok (.iconst 4, 1) := by decide +kernel
theorem dL_build_146 : decode cL_build 146 = .ok (.ishr, 1) := by decide +kernel
theorem dL_build_147 : decode cL_build 147 = .ok (.sipush 800, 3) := by decide +kernel
theorem dL_build_150 : decode cL_build 150 = .ok (.invokestatic 18, 3) := by decide +kernel
theorem dL_build_153 : decode cL_build 153 = .ok (.iastore, 1) := by decide +kernel
theorem dL_build_154 : decode cL_build 154 = .ok (.dup, 1) := by decide +kernel
theorem dL_build_155 : decode cL_build 155 = .ok (.iconst 5, 1) := by decide +kernel
theorem dL_build_156 : decode cL_build 156 = .ok (.iload 6, 2) := by decide +kernel
theorem dL_build_158 : decode cL_build 158 = .ok (.bipush 9, 2) := by decide +kernel
theorem dL_build_160 : decode cL_build 160 = .ok (.ishr, 1) := by decide +kernel
theorem dL_build_161 : decode cL_build 161 = .ok (.iconst 5, 1) := by decide +kernel
theorem dL_build_162 : decode cL_build 162 = .ok (.invokestatic 18, 3) := by decide +kernel
theorem dL_build_165 : decode cL_build 165 = .ok (.ifCond .ne 16, 3) := by decide +kernel
theorem dL_build_168 : decode cL_build 168 = .ok (.iconst 2, 1) := by decide +kernel
theorem dL_build_169 : decode cL_build 169 = .ok (.iload 6, 2) := by decide +kernel
theorem dL_build_171 : decode cL_build 171 = .ok (.iconst 2, 1) := by decide +kernel
theorem dL_build_172 : decode cL_build 172 = .ok (.ishr, 1) := by decide +kernel
theorem dL_build_173 : decode cL_build 173 = .ok (.iconst 2, 1) := by decide +kernel
theorem dL_build_174 : decode cL_build 174 = .ok (.invokestatic 18, 3) := by decide +kernel
theorem dL_build_177 : decode cL_build 177 = .ok (.iadd, 1) := by decide +kernel
theorem dL_build_178 : decode cL_build 178 = .ok (.goto 11, 3) := by decide +kernel
theorem dL_build_181 : decode cL_build 181 = .ok (.iload 6, 2) := by decide +kernel
theorem dL_build_183 : decode cL_build 183 = .ok (.iconst 2, 1) := by decide +kernel
theorem dL_build_184 : decode cL_build 184 = .ok (.ishr, 1) := by decide +kernel
theorem dL_build_185 : decode cL_build 185 = .ok (.iconst 2, 1) := by decide +kernel
theorem dL_build_186 : decode cL_build 186 = .ok (.invokestatic 18, 3) := by decide +kernel
theorem dL_build_189 : decode cL_build 189 = .ok (.iastore, 1) := by decide +kernel
theorem dL_build_190 : decode cL_build 190 = .ok (.aastore, 1) := by decide +kernel
theorem dL_build_191 : decode cL_build 191 = .ok (.aload_n 0, 1) := by decide +kernel
theorem dL_build_192 : decode cL_build 192 = .ok (.aload_n 3, 1) := by decide +kernel
theorem dL_build_193 : decode cL_build 193 = .ok (.getfield 24, 3) := by decide +kernel
theorem dL_build_196 : decode cL_build 196 = .ok (.iload 5, 2) := by decide +kernel
theorem dL_build_198 : decode cL_build 198 = .ok (.aaload, 1) := by decide +kernel
theorem dL_build_199 : decode cL_build 199 = .ok (.iconst 0, 1) := by decide +kernel
theorem dL_build_200 : decode cL_build 200 = .ok (.iaload, 1) := by decide +kernel
theorem dL_build_201 : decode cL_build 201 = .ok (.aload_n 3, 1) := by decide +kernel
theorem dL_build_202 : decode cL_build 202 = .ok (.getfield 24, 3) := by decide +kernel
theorem dL_build_205 : decode cL_build 205 = .ok (.iload 5, 2) := by decide +kernel
theorem dL_build_207 : decode cL_build 207 = .ok (.aaload, 1) := by decide +kernel
theorem dL_build_208 : decode cL_build 208 = .ok (.iconst 1, 1) := by decide +kernel
theorem dL_build_209 : decode cL_build 209 = .ok (.iaload, 1) := by decide +kernel
theorem dL_build_210 : decode cL_build 210 = .ok (.aload_n 3, 1) := by decide +kernel
theorem dL_build_211 : decode cL_build 211 = .ok (.getfield 24, 3) := by decide +kernel
theorem dL_build_214 : decode cL_build 214 = .ok (.iload 5, 2) := by decide +kernel
theorem dL_build_216 : decode cL_build 216 = .ok (.aaload, 1) := by decide +kernel
theorem dL_build_217 : decode cL_build 217 = .ok (.iconst 2, 1) := by decide +kernel
theorem dL_build_218 : decode cL_build 218 = .ok (.iaload, 1) := by decide +kernel
theorem dL_build_219 : decode cL_build 219 = .ok (.aload_n 3, 1) := by decide +kernel
theorem dL_build_220 : decode cL_build 220 = .ok (.getfield 24, 3) := by decide +kernel
theorem dL_build_223 : decode cL_build 223 = .ok (.iload 5, 2) := by decide +kernel
theorem dL_build_225 : decode cL_build 225 = .ok (.aaload, 1) := by decide +kernel
theorem dL_build_226 : decode cL_build 226 = .ok (.iconst 3, 1) := by decide +kernel
theorem dL_build_227 : decode cL_build 227 = .ok (.iaload, 1) := by decide +kernel
theorem dL_build_228 : decode cL_build 228 = .ok (.aload_n 3, 1) := by decide +kernel
theorem dL_build_229 : decode cL_build 229 = .ok (.getfield 24, 3) := by decide +kernel
theorem dL_build_232 : decode cL_build 232 = .ok (.iload 5, 2) := by decide +kernel
theorem dL_build_234 : decode cL_build 234 = .ok (.aaload, 1) := by decide +kernel
theorem dL_build_235 : decode cL_build 235 = .ok (.iconst 4, 1) := by decide +kernel
theorem dL_build_236 : decode cL_build 236 = .ok (.iaload, 1) := by decide +kernel
theorem dL_build_237 : decode cL_build 237 = .ok (.aload_n 3, 1) := by decide +kernel
theorem dL_build_238 : decode cL_build 238 = .ok (.getfield 24, 3) := by decide +kernel
theorem dL_build_241 : decode cL_build 241 = .ok (.iload 5, 2) := by decide +kernel
theorem dL_build_243 : decode cL_build 243 = .ok (.aaload, 1) := by decide +kernel
theorem dL_build_244 : decode cL_build 244 = .ok (.iconst 5, 1) := by decide +kernel
theorem dL_build_245 : decode cL_build 245 = .ok (.iaload, 1) := by decide +kernel
theorem dL_build_246 : decode cL_build 246 = .ok (.invokevirtual 28, 3) := by decide +kernel
theorem dL_build_249 : decode cL_build 249 = .ok (.iload 5, 2) := by decide +kernel
theorem dL_build_251 : decode cL_build 251 = .ok (.if_icmp .eq 5, 3) := by decide +kernel
theorem dL_build_254 : decode cL_build 254 = .ok (.aconst_null, 1) := by decide +kernel
theorem dL_build_255 : decode cL_build 255 = .ok (.areturn, 1) := by decide +kernel
theorem dL_build_256 : decode cL_build 256 = .ok (.iinc 5 1, 3) := by decide +kernel
theorem dL_build_259 : decode cL_build 259 = .ok (.goto (-226), 3) := by decide +kernel
theorem dL_build_262 : decode cL_build 262 = .ok (.aload_n 1, 1) := by decide +kernel
theorem dL_build_263 : decode cL_build 263 = .ok (.iload_n 2, 1) := by decide +kernel
theorem dL_build_264 : decode cL_build 264 = .ok (.invokestatic 12, 3) := by decide +kernel
theorem dL_build_267 : decode cL_build 267 = .ok (.istore 5, 2) := by decide +kernel
theorem dL_build_269 : decode cL_build 269 = .ok (.iload 5, 2) := by decide +kernel
theorem dL_build_271 : decode cL_build 271 = .ok (.iconst 4, 1) := by decide +kernel
theorem dL_build_272 : decode cL_build 272 = .ok (.ishr, 1) := by decide +kernel
theorem dL_build_273 : decode cL_build 273 = .ok (.iconst 2, 1) := by decide +kernel
theorem dL_build_274 : decode cL_build 274 = .ok (.invokestatic 18, 3) := by decide +kernel
theorem dL_build_277 : decode cL_build 277 = .ok (.ifCond .ne 109, 3) := by decide +kernel
theorem dL_build_280 : decode cL_build 280 = .ok (.aload_n 3, 1) := by decide +kernel
theorem dL_build_281 : decode cL_build 281 = .ok (.iconst 4, 1) := by decide +kernel
theorem dL_build_282 : decode cL_build 282 = .ok (.newarray .int, 2) := by decide +kernel
theorem dL_build_284 : decode cL_build 284 = .ok (.dup, 1) := by decide +kernel
theorem dL_build_285 : decode cL_build 285 = .ok (.iconst 0, 1) := by decide +kernel
theorem dL_build_286 : decode cL_build 286 = .ok (.iconst 4, 1) := by decide +kernel
theorem dL_build_287 : decode cL_build 287 = .ok (.iload 5, 2) := by decide +kernel
theorem dL_build_289 : decode cL_build 289 = .ok (.bipush 6, 2) := by decide +kernel
theorem dL_build_291 : decode cL_build 291 = .ok (.ishr, 1) := by decide +kernel
theorem dL_build_292 : decode cL_build 292 = .ok (.bipush 20, 2) := by decide +kernel
theorem dL_build_294 : decode cL_build 294 = .ok (.invokestatic 18, 3) := by decide +kernel
theorem dL_build_297 : decode cL_build 297 = .ok (.iadd, 1) := by decide +kernel
theorem dL_build_298 : decode cL_build 298 = .ok (.iastore, 1) := by decide +kernel
theorem dL_build_299 : decode cL_build 299 = .ok (.dup, 1) := by decide +kernel
theorem dL_build_300 : decode cL_build 300 = .ok (.iconst 1, 1) := by decide +kernel
theorem dL_build_301 : decode cL_build 301 = .ok (.iload 5, 2) := by decide +kernel
theorem dL_build_303 : decode cL_build 303 = .ok (.bipush 8, 2) := by decide +kernel
theorem dL_build_305 : decode cL_build 305 = .ok (.ishr, 1) := by decide +kernel
theorem dL_build_306 : decode cL_build 306 = .ok (.bipush 101, 2) := by decide +kernel
theorem dL_build_308 : decode cL_build 308 = .ok (.invokestatic 18, 3) := by decide +kernel
theorem dL_build_311 : decode cL_build 311 = .ok (.iastore, 1) := by decide +kernel
theorem dL_build_312 : decode cL_build 312 = .ok (.dup, 1) := by decide +kernel
theorem dL_build_313 : decode cL_build 313 = .ok (.iconst 2, 1) := by decide +kernel
theorem dL_build_314 : decode cL_build 314 = .ok (.bipush 100, 2) := by decide +kernel
theorem dL_build_316 : decode cL_build 316 = .ok (.iload 5, 2) := by decide +kernel
theorem dL_build_318 : decode cL_build 318 = .ok (.iconst 3, 1) := by decide +kernel
theorem dL_build_319 : decode cL_build 319 = .ok (.ishr, 1) := by decide +kernel
theorem dL_build_320 : decode cL_build 320 = .ok (.sipush 1500, 3) := by decide +kernel
theorem dL_build_323 : decode cL_build 323 = .ok (.invokestatic 18, 3) := by decide +kernel
theorem dL_build_326 : decode cL_build 326 = .ok (.iadd, 1) := by decide +kernel
theorem dL_build_327 : decode cL_build 327 = .ok (.iastore, 1) := by decide +kernel
theorem dL_build_328 : decode cL_build 328 = .ok (.dup, 1) := by decide +kernel
theorem dL_build_329 : decode cL_build 329 = .ok (.iconst 3, 1) := by decide +kernel
theorem dL_build_330 : decode cL_build 330 = .ok (.iload 5, 2) := by decide +kernel
theorem dL_build_332 : decode cL_build 332 = .ok (.iconst 5, 1) := by decide +kernel
theorem dL_build_333 : decode cL_build 333 = .ok (.ishr, 1) := by decide +kernel
theorem dL_build_334 : decode cL_build 334 = .ok (.iconst 2, 1) := by decide +kernel
theorem dL_build_335 : decode cL_build 335 = .ok (.invokestatic 18, 3) := by decide +kernel
theorem dL_build_338 : decode cL_build 338 = .ok (.iastore, 1) := by decide +kernel
theorem dL_build_339 : decode cL_build 339 = .ok (.putfield 34, 3) := by decide +kernel
theorem dL_build_342 : decode cL_build 342 = .ok (.aload_n 0, 1) := by decide +kernel
theorem dL_build_343 : decode cL_build 343 = .ok (.aload_n 3, 1) := by decide +kernel
theorem dL_build_344 : decode cL_build 344 = .ok (.getfield 34, 3) := by decide +kernel
theorem dL_build_347 : decode cL_build 347 = .ok (.iconst 0, 1) := by decide +kernel
theorem dL_build_348 : decode cL_build 348 = .ok (.iaload, 1) := by decide +kernel
theorem dL_build_349 : decode cL_build 349 = .ok (.aload_n 3, 1) := by decide +kernel
theorem dL_build_350 : decode cL_build 350 = .ok (.getfield 34, 3) := by decide +kernel
theorem dL_build_353 : decode cL_build 353 = .ok (.iconst 1, 1) := by decide +kernel
theorem dL_build_354 : decode cL_build 354 = .ok (.iaload, 1) := by decide +kernel
theorem dL_build_355 : decode cL_build 355 = .ok (.aload_n 3, 1) := by decide +kernel
theorem dL_build_356 : decode cL_build 356 = .ok (.getfield 34, 3) := by decide +kernel
theorem dL_build_359 : decode cL_build 359 = .ok (.iconst 2, 1) := by decide +kernel
theorem dL_build_360 : decode cL_build 360 = .ok (.iaload, 1) := by decide +kernel
theorem dL_build_361 : decode cL_build 361 = .ok (.aload_n 3, 1) := by decide +kernel
theorem dL_build_362 : decode cL_build 362 = .ok (.getfield 34, 3) := by decide +kernel
theorem dL_build_365 : decode cL_build 365 = .ok (.iconst 3, 1) := by decide +kernel
theorem dL_build_366 : decode cL_build 366 = .ok (.iaload, 1) := by decide +kernel
theorem dL_build_367 : decode cL_build 367 = .ok (.iconst 1, 1) := by decide +kernel
theorem dL_build_368 : decode cL_build 368 = .ok (.if_icmp .ne 7, 3) := by decide +kernel
theorem dL_build_371 : decode cL_build 371 = .ok (.iconst 1, 1) := by decide +kernel
theorem dL_build_372 : decode cL_build 372 = .ok (.goto 4, 3) := by decide +kernel
theorem dL_build_375 : decode cL_build 375 = .ok (.iconst 0, 1) := by decide +kernel
theorem dL_build_376 : decode cL_build 376 = .ok (.invokevirtual 37, 3) := by decide +kernel
theorem dL_build_379 : decode cL_build 379 = .ok (.bipush 20, 2) := by decide +kernel
theorem dL_build_381 : decode cL_build 381 = .ok (.if_icmp .eq 5, 3) := by decide +kernel
theorem dL_build_384 : decode cL_build 384 = .ok (.aconst_null, 1) := by decide +kernel
theorem dL_build_385 : decode cL_build 385 = .ok (.areturn, 1) := by decide +kernel
theorem dL_build_386 : decode cL_build 386 = .ok (.aload_n 3, 1) := by decide +kernel
theorem dL_build_387 : decode cL_build 387 = .ok (.areturn, 1) := by decide +kernel
set_option maxRecDepth 20000 in
theorem ggL_law_X3_init : GoodIn wsL_law wsX3_init := goodIn_r _ [9, 10, 11, 12, 13, 14, 15, 16, 17, 18, 19, 20, 21, 22, 23, 24, 6, 25, 26, 27, 28, 29, 30, 31, 32, 33, 34, 35, 36, 37, 38, 39, 40, 41, 42, 43, 44, 45, 46, 47, 48, 49, 50, 51, 52, 53, 341, 342, 343, 344, 345, 346, 347, 348, 349, 350, 351, 352, 353, 354, 359, 360, 361, 362, 363, 364, 365, 366, 367, 368, 369, 370, 371, 372, 373, 374, 375, 376] (by decide +kernel) (by decide +kernel)
set_option maxRecDepth 20000 in
theorem gL_law_X3_init : GoodIn wsL_law (wsX3_init) := ggL_law_X3_init
set_option maxRecDepth 20000 in
theorem ggL_law_L_build : GoodIn wsL_law wsL_build := goodIn_ca (goodIn_ca (goodIn_r _ [57, 58, 59, 60, 5, 3, 6, 4, 61, 62, 63, 11, 12, 64, 65, 66, 67, 68, 69, 56, 70, 71, 72, 73, 74, 75, 76, 77, 78, 2, 79, 80, 81, 82, 83, 15, 14, 13, 84, 85, 86, 87, 88, 89, 90, 91, 92, 93, 94, 95, 96, 97, 98, 99, 100, 101, 102, 103, 104, 16, 17, 18, 19, 355, 356, 357, 358, 341, 342, 343, 344, 345, 346, 347, 348, 349, 350, 351, 352, 353, 354, 377, 378, 379, 380, 381, 382, 383, 384] (by decide +kernel) (by decide +kernel)) (goodIn_sub (fun _ h => List.mem_append_left _ (List.mem_append_left _ (List.mem_append_right _ h))) (by decide +kernel))) (goodIn_sub (fun _ h => List.mem_append_left _ (List.mem_append_right _ h)) (by decide +kernel))
set_option maxRecDepth 20000 in
theorem gL_law_L_build : GoodIn wsL_law (va_wsS RL 42 yL_build wsL_build) := goodIn_app (goodIn_of _ (by decide +kernel)) ggL_law_L_build
set_option maxRecDepth 20000 in
theorem ggL_law_L_cell : GoodIn wsL_law wsL_cell := goodIn_r _ [70, 71] (by decide +kernel) (by decide +kernel)
set_option maxRecDepth 20000 in
theorem gL_law_L_cell : GoodIn wsL_law (va_wsS RL 12 yL_cell wsL_cell) := goodIn_app (goodIn_of _ (by decide +kernel)) ggL_law_L_cell
set_option maxRecDepth 20000 in
theorem ggL_law_L_below : GoodIn wsL_law wsL_below := goodIn_r _ [74, 75] (by decide +kernel) (by decide +kernel)
set_option maxRecDepth 20000 in
theorem gL_law_L_below : GoodIn wsL_law (va_wsS RL 18 yL_below wsL_below) := goodIn_app (goodIn_of _ (by decide +kernel)) ggL_law_L_below
set_option maxRecDepth 20000 in
theorem ggL_law_X3_addLine : GoodIn wsL_law wsX3_addLine := goodIn_ca (goodIn_ca (goodIn_ca (goodIn_r _ [108, 109, 110, 80, 81, 82, 83, 31, 30, 29, 111, 112, 113, 114, 115, 2, 116, 15, 14, 86, 87, 88, 117, 118, 119, 120, 11, 12, 121, 122, 123, 341, 342, 343, 344, 345, 346, 347, 348, 349, 350, 351, 352, 353, 354, 385, 386, 387] (by decide +kernel) (by decide +kernel)) (goodIn_sub (fun _ h => List.mem_append_right _ h) (by decide +kernel))) (goodIn_sub (fun _ h => List.mem_append_left _ (List.mem_append_left _ (List.mem_append_right _ h))) (by decide +kernel))) (goodIn_sub (fun _ h => List.mem_append_left _ (List.mem_append_right _ h)) (by decide +kernel))
set_option maxRecDepth 20000 in
theorem gL_law_X3_addLine : GoodIn wsL_law (wsV RL 46 RX3 yX3_addLine wsX3_addLine) := goodIn_app (goodIn_of _ (by decide +kernel)) ggL_law_X3_addLine
set_option maxRecDepth 20000 in
theorem ggL_law_X3_stack : GoodIn wsL_law wsX3_stack := goodIn_r _ [127, 31, 128, 129, 130, 131, 132, 133, 2, 134, 30, 86, 87, 88, 135, 136, 137, 138, 139, 140, 141, 85, 142, 100, 98, 97, 143, 144, 145, 146, 22, 147, 148, 149, 150, 28, 151, 152, 153, 154, 155, 156, 157, 158, 159, 160, 161, 162, 163, 164, 165, 166, 167, 168, 169, 170, 171, 172, 173, 174, 175, 176, 177, 178, 179, 180, 27, 181, 182, 35, 183, 36, 184, 37, 38, 185, 186, 39, 40, 187, 188, 189, 190, 25, 191, 192, 193, 194, 16, 195, 17, 19, 24, 196, 18, 197, 198, 199, 200, 201, 202, 203, 204, 205, 206, 207, 208, 209, 210, 211, 212, 213, 214, 215, 216, 217, 21, 218, 219, 220, 221, 222, 41, 223, 224, 225, 226, 227, 228, 229, 42, 230, 231, 232, 233, 50, 52, 53, 234, 235, 236, 237, 238, 239, 240, 241, 242, 243, 244, 245, 246, 247, 45, 47, 248, 249, 250, 251, 23, 252, 253, 254, 255, 256, 257, 258, 259, 260, 261, 262, 263, 341, 342, 343, 344, 345, 346, 347, 348, 349, 350, 351, 352, 353, 354, 385, 386, 387, 377, 378, 379, 380, 381, 382, 383, 384, 359, 360, 361, 362, 363, 364, 365, 366, 367, 368, 369, 370, 371, 372, 373, 374, 375, 376] (by decide +kernel) (by decide +kernel)
set_option maxRecDepth 20000 in
theorem gL_law_X3_stack : GoodIn wsL_law (wsV RL 49 RX3 yX3_stack wsX3_stack) := goodIn_app (goodIn_of _ (by decide +kernel)) ggL_law_X3_stack
set_option maxRecDepth 20000 in
theorem ggL_law_X3_line : GoodIn wsL_law wsX3_line := goodIn_ca (goodIn_r _ [267, 109, 110, 130, 129, 268, 131, 132, 133, 2, 134, 31, 30, 86, 87, 88, 385, 386, 387, 377, 378, 379, 380, 381, 382, 383, 384, 341, 342, 343, 344, 345, 346, 347, 348, 349, 350, 351, 352, 353, 354] (by decide +kernel) (by decide +kernel)) (goodIn_sub (fun _ h => List.mem_append_right _ h) (by decide +kernel))
set_option maxRecDepth 20000 in
theorem gL_law_X3_line : GoodIn wsL_law (wsV RL 53 RX3 yX3_line wsX3_line) := goodIn_app (goodIn_of _ (by decide +kernel)) ggL_law_X3_line
set_option maxRecDepth 20000 in
theorem ggL_law_X3_count : GoodIn wsL_law wsX3_count := goodIn_ca (goodIn_r _ [272, 109, 110, 86, 87, 2, 88, 273, 274, 275, 276, 15, 23, 22, 31, 341, 342, 343, 344, 345, 346, 347, 348, 349, 350, 351, 352, 353, 354] (by decide +kernel) (by decide +kernel)) (goodIn_sub (fun _ h => List.mem_append_right _ h) (by decide +kernel))
set_option maxRecDepth 20000 in
theorem gL_law_X3_count : GoodIn wsL_law (wsV RL 57 RX3 yX3_count wsX3_count) := goodIn_app (goodIn_of _ (by decide +kernel)) ggL_law_X3_count
set_option maxRecDepth 20000 in
theorem ggL_law_X3_sum : GoodIn wsL_law wsX3_sum := goodIn_ca (goodIn_r _ [280, 109, 110, 86, 87, 2, 88, 281, 282, 283, 284, 24, 285, 286, 287, 288, 22, 177, 214, 215, 216, 217, 21, 218, 289, 290, 291, 292, 263, 293, 294, 295, 296, 151, 197, 198, 199, 27, 200, 39, 40, 341, 342, 343, 344, 345, 346, 347, 348, 349, 350, 351, 352, 353, 354, 359, 360, 361, 362, 363, 364, 365, 366, 367, 368, 369, 370, 371, 372, 373, 374, 375, 376] (by decide +kernel) (by decide +kernel)) (goodIn_sub (fun _ h => List.mem_append_right _ h) (by decide +kernel))
set_option maxRecDepth 20000 in
theorem gL_law_X3_sum : GoodIn wsL_law (wsV RL 61 RX3 yX3_sum wsX3_sum) := goodIn_app (goodIn_of _ (by decide +kernel)) ggL_law_X3_sum
set_option maxRecDepth 20000 in
theorem ggL_law_X3_item : GoodIn wsL_law wsX3_item := goodIn_ca (goodIn_r _ [300, 109, 110, 214, 215, 216, 2, 217, 22, 21, 218, 86, 87, 88, 301, 302, 303, 304, 305, 172, 173, 151, 177, 306, 263, 213, 152, 307, 308, 309, 310, 311, 312, 313, 27, 314, 43, 44, 315, 220, 221, 222, 41, 39, 223, 224, 225, 226, 227, 228, 229, 42, 40, 341, 342, 343, 344, 345, 346, 347, 348, 349, 350, 351, 352, 353, 354, 359, 360, 361, 362, 363, 364, 365, 366, 367, 368, 369, 370, 371, 372, 373, 374, 375, 376] (by decide +kernel) (by decide +kernel)) (goodIn_sub (fun _ h => List.mem_append_right _ h) (by decide +kernel))
set_option maxRecDepth 20000 in
theorem gL_law_X3_item : GoodIn wsL_law (wsV RL 64 RX3 yX3_item wsX3_item) := goodIn_app (goodIn_of _ (by decide +kernel)) ggL_law_X3_item
set_option maxRecDepth 20000 in
theorem ggL_law_X3_at : GoodIn wsL_law wsX3_at := goodIn_ca (goodIn_r _ [319, 109, 110, 22, 151, 177, 256, 257, 2, 258, 86, 87, 88, 214, 215, 216, 217, 21, 218, 320, 321, 322, 27, 323, 41, 39, 42, 40, 341, 342, 343, 344, 345, 346, 347, 348, 349, 350, 351, 352, 353, 354, 359, 360, 361, 362, 363, 364, 365, 366, 367, 368, 369, 370, 371, 372, 373, 374, 375, 376] (by decide +kernel) (by decide +kernel)) (goodIn_sub (fun _ h => List.mem_append_right _ h) (by decide +kernel))
set_option maxRecDepth 20000 in
theorem gL_law_X3_at : GoodIn wsL_law (wsV RL 67 RX3 yX3_at wsX3_at) := goodIn_app (goodIn_of _ (by decide +kernel)) ggL_law_X3_at
set_option maxRecDepth 20000 in
theorem ggL_law_X3_restsOn : GoodIn wsL_law wsX3_restsOn := goodIn_ca (goodIn_r _ [327, 109, 110, 214, 215, 216, 2, 217, 22, 21, 218, 328, 329, 330, 331, 332, 333, 334, 335, 27, 336, 50, 52, 49, 341, 342, 343, 344, 345, 346, 347, 348, 349, 350, 351, 352, 353, 354, 359, 360, 361, 362, 363, 364, 365, 366, 367, 368, 369, 370, 371, 372, 373, 374, 375, 376] (by decide +kernel) (by decide +kernel)) (goodIn_sub (fun _ h => List.mem_append_right _ h) (by decide +kernel))
set_option maxRecDepth 20000 in
theorem gL_law_X3_restsOn : GoodIn wsL_law (wsV RL 71 RX3 yX3_restsOn wsX3_restsOn) := goodIn_app (goodIn_of _ (by decide +kernel)) ggL_law_X3_restsOn
set_option maxRecDepth 20000 in
theorem ggL_law_X3_filled : GoodIn wsL_law wsX3_filled := goodIn_r _ [340, 22, 177, 151, 214, 215, 216, 2, 217, 21, 218, 197, 198, 199, 27, 200, 39, 40, 285, 286, 287, 288, 341, 342, 343, 344, 345, 346, 347, 348, 349, 350, 351, 352, 353, 354, 359, 360, 361, 362, 363, 364, 365, 366, 367, 368, 369, 370, 371, 372, 373, 374, 375, 376] (by decide +kernel) (by decide +kernel)
set_option maxRecDepth 20000 in
theorem gL_law_X3_filled : GoodIn wsL_law (wsV RL 75 RX3 yX3_filled wsX3_filled) := goodIn_app (goodIn_of _ (by decide +kernel)) ggL_law_X3_filled
theorem dL_law_0 : decode cL_law 0 = .ok (.new 29, 3) := by decide +kernel
theorem dL_law_3 : decode cL_law 3 = .ok (.dup, 1) := by decide +kernel
theorem dL_law_4 : decode cL_law 4 = .ok (.invokespecial 41, 3) := by decide +kernel
theorem dL_law_7 : decode cL_law 7 = .ok (.astore_n 1, 1) := by decide +kernel
theorem dL_law_8 : decode cL_law 8 = .ok (.aload_n 1, 1) := by decide +kernel
theorem dL_law_9 : decode cL_law 9 = .ok (.aload_n 0, 1) := by decide +kernel
theorem dL_law_10 : decode cL_law 10 = .ok (.iconst 0, 1) := by decide +kernel
theorem dL_law_11 : decode cL_law 11 = .ok (.invokestatic 42, 3) := by decide +kernel
theorem dL_law_14 : decode cL_law 14 = .ok (.astore_n 2, 1) := by decide +kernel
theorem dL_law_15 : decode cL_law 15 = .ok (.aload_n 2, 1) := by decide +kernel
theorem dL_law_16 : decode cL_law 16 = .ok (.ifnonnull 5, 3) := by decide +kernel
theorem dL_law_19 : decode cL_law 19 = .ok (.iconst 0, 1) := by decide +kernel
theorem dL_law_20 : decode cL_law 20 = .ok (.ireturn, 1) := by decide +kernel
theorem dL_law_21 : decode cL_law 21 = .ok (.iconst 2, 1) := by decide +kernel
theorem dL_law_22 : decode cL_law 22 = .ok (.aload_n 0, 1) := by decide +kernel
theorem dL_law_23 : decode cL_law 23 = .ok (.bipush 8, 2) := by decide +kernel
theorem dL_law_25 : decode cL_law 25 = .ok (.invokestatic 12, 3) := by decide +kernel
theorem dL_law_28 : decode cL_law 28 = .ok (.iconst 3, 1) := by decide +kernel
theorem dL_law_29 : decode cL_law 29 = .ok (.invokestatic 18, 3) := by decide +kernel
theorem dL_law_32 : decode cL_law 32 = .ok (.iadd, 1) := by decide +kernel
theorem dL_law_33 : decode cL_law 33 = .ok (.istore_n 3, 1) := by decide +kernel
theorem dL_law_34 : decode cL_law 34 = .ok (.iconst 0, 1) := by decide +kernel
theorem dL_law_35 : decode cL_law 35 = .ok (.istore 4, 2) := by decide +kernel
theorem dL_law_37 : decode cL_law 37 = .ok (.iconst 0, 1) := by decide +kernel
theorem dL_law_38 : decode cL_law 38 = .ok (.istore 5, 2) := by decide +kernel
theorem dL_law_40 : decode cL_law 40 = .ok (.iload 5, 2) := by decide +kernel
theorem dL_law_42 : decode cL_law 42 = .ok (.iload_n 3, 1) := by decide +kernel
theorem dL_law_43 : decode cL_law 43 = .ok (.if_icmp .ge 60, 3) := by decide +kernel
theorem dL_law_46 : decode cL_law 46 = .ok (.iconst 1, 1) := by decide +kernel
theorem dL_law_47 : decode cL_law 47 = .ok (.aload_n 0, 1) := by decide +kernel
theorem dL_law_48 : decode cL_law 48 = .ok (.bipush 9, 2) := by decide +kernel
theorem dL_law_50 : decode cL_law 50 = .ok (.iload 5, 2) := by decide +kernel
theorem dL_law_52 : decode cL_law 52 = .ok (.iadd, 1) := by decide +kernel
theorem dL_law_53 : decode cL_law 53 = .ok (.invokestatic 12, 3) := by decide +kernel
theorem dL_law_56 : decode cL_law 56 = .ok (.iconst 4, 1) := by decide +kernel
theorem dL_law_57 : decode cL_law 57 = .ok (.ishr, 1) := by decide +kernel
theorem dL_law_58 : decode cL_law 58 = .ok (.bipush 7, 2) := by decide +kernel
theorem dL_law_60 : decode cL_law 60 = .ok (.invokestatic 18, 3) := by decide +kernel
theorem dL_law_63 : decode cL_law 63 = .ok (.iadd, 1) := by decide +kernel
theorem dL_law_64 : decode cL_law 64 = .ok (.istore 6, 2) := by decide +kernel
theorem dL_law_66 : decode cL_law 66 = .ok (.aload_n 1, 1) := by decide +kernel
theorem dL_law_67 : decode cL_law 67 = .ok (.aload_n 0, 1) := by decide +kernel
theorem dL_law_68 : decode cL_law 68 = .ok (.bipush 9, 2) := by decide +kernel
theorem dL_law_70 : decode cL_law 70 = .ok (.iload 5, 2) := by decide +kernel
theorem dL_law_72 : decode cL_law 72 = .ok (.iadd, 1) := by decide +kernel
theorem dL_law_73 : decode cL_law 73 = .ok (.invokestatic 12, 3) := by decide +kernel
theorem dL_law_76 : decode cL_law 76 = .ok (.aload_n 2, 1) := by decide +kernel
theorem dL_law_77 : decode cL_law 77 = .ok (.getfield 24, 3) := by decide +kernel
theorem dL_law_80 : decode cL_law 80 = .ok (.arraylength, 1) := by decide +kernel
theorem dL_law_81 : decode cL_law 81 = .ok (.invokestatic 18, 3) := by decide +kernel
theorem dL_law_84 : decode cL_law 84 = .ok (.iload 6, 2) := by decide +kernel
theorem dL_law_86 : decode cL_law 86 = .ok (.invokevirtual 46, 3) := by decide +kernel
theorem dL_law_89 : decode cL_law 89 = .ok (.pop, 1) := by decide +kernel
theorem dL_law_90 : decode cL_law 90 = .ok (.iload 4, 2) := by decide +kernel
theorem dL_law_92 : decode cL_law 92 = .ok (.iload 6, 2) := by decide +kernel
theorem dL_law_94 : decode cL_law 94 = .ok (.iadd, 1) := by decide +kernel
theorem dL_law_95 : decode cL_law 95 = .ok (.istore 4, 2) := by decide +kernel
theorem dL_law_97 : decode cL_law 97 = .ok (.iinc 5 1, 3) := by decide +kernel
theorem dL_law_100 : decode cL_law 100 = .ok (.goto (-60), 3) := by decide +kernel
theorem dL_law_103 : decode cL_law 103 = .ok (.aload_n 1, 1) := by decide +kernel
theorem dL_law_104 : decode cL_law 104 = .ok (.invokevirtual 49, 3) := by decide +kernel
theorem dL_law_107 : decode cL_law 107 = .ok (.istore 5, 2) := by decide +kernel
theorem dL_law_109 : decode cL_law 109 = .ok (.iconst 0, 1) := by decide +kernel
theorem dL_law_110 : decode cL_law 110 = .ok (.istore 6, 2) := by decide +kernel
theorem dL_law_112 : decode cL_law 112 = .ok (.iconst 0, 1) := by decide +kernel
theorem dL_law_113 : decode cL_law 113 = .ok (.istore 7, 2) := by decide +kernel
theorem dL_law_115 : decode cL_law 115 = .ok (.iload 7, 2) := by decide +kernel
theorem dL_law_117 : decode cL_law 117 = .ok (.iload_n 3, 1) := by decide +kernel
theorem dL_law_118 : decode cL_law 118 = .ok (.if_icmp .ge 21, 3) := by decide +kernel
theorem dL_law_121 : decode cL_law 121 = .ok (.iload 6, 2) := by decide +kernel
theorem dL_law_123 : decode cL_law 123 = .ok (.aload_n 1, 1) := by decide +kernel
theorem dL_law_124 : decode cL_law 124 = .ok (.iload 7, 2) := by decide +kernel
theorem dL_law_126 : decode cL_law 126 = .ok (.iconst 1, 1) := by decide +kernel
theorem dL_law_127 : decode cL_law 127 = .ok (.invokevirtual 53, 3) := by decide +kernel
theorem dL_law_130 : decode cL_law 130 = .ok (.iadd, 1) := by decide +kernel
theorem dL_law_131 : decode cL_law 131 = .ok (.istore 6, 2) := by decide +kernel
theorem dL_law_133 : decode cL_law 133 = .ok (.iinc 7 1, 3) := by decide +kernel
theorem dL_law_136 : decode cL_law 136 = .ok (.goto (-21), 3) := by decide +kernel
theorem dL_law_139 : decode cL_law 139 = .ok (.iload 5, 2) := by decide +kernel
theorem dL_law_141 : decode cL_law 141 = .ok (.iload 6, 2) := by decide +kernel
theorem dL_law_143 : decode cL_law 143 = .ok (.iadd, 1) := by decide +kernel
theorem dL_law_144 : decode cL_law 144 = .ok (.iload 4, 2) := by decide +kernel
theorem dL_law_146 : decode cL_law 146 = .ok (.if_icmp .ne 41, 3) := by decide +kernel
theorem dL_law_149 : decode cL_law 149 = .ok (.iload 5, 2) := by decide +kernel
theorem dL_law_151 : decode cL_law 151 = .ok (.aload_n 1, 1) := by decide +kernel
theorem dL_law_152 : decode cL_law 152 = .ok (.iconst 1, 1) := by decide +kernel
theorem dL_law_153 : decode cL_law 153 = .ok (.invokevirtual 57, 3) := by decide +kernel
theorem dL_law_156 : decode cL_law 156 = .ok (.if_icmp .ne 31, 3) := by decide +kernel
theorem dL_law_159 : decode cL_law 159 = .ok (.aload_n 1, 1) := by decide +kernel
theorem dL_law_160 : decode cL_law 160 = .ok (.iconst 0, 1) := by decide +kernel
theorem dL_law_161 : decode cL_law 161 = .ok (.invokevirtual 61, 3) := by decide +kernel
theorem dL_law_164 : decode cL_law 164 = .ok (.aload_n 2, 1) := by decide +kernel
theorem dL_law_165 : decode cL_law 165 = .ok (.getfield 34, 3) := by decide +kernel
theorem dL_law_168 : decode cL_law 168 = .ok (.iconst 2, 1) := by decide +kernel
theorem dL_law_169 : decode cL_law 169 = .ok (.iaload, 1) := by decide +kernel
theorem dL_law_170 : decode cL_law 170 = .ok (.if_icmp .gt 17, 3) := by decide +kernel
theorem dL_law_173 : decode cL_law 173 = .ok (.aload_n 1, 1) := by decide +kernel
theorem dL_law_174 : decode cL_law 174 = .ok (.iconst 1, 1) := by decide +kernel
theorem dL_law_175 : decode cL_law 175 = .ok (.invokevirtual 61, 3) := by decide +kernel
theorem dL_law_178 : decode cL_law 178 = .ok (.aload_n 2, 1) := by decide +kernel
theorem dL_law_179 : decode cL_law 179 = .ok (.getfield 34, 3) := by decide +kernel
theorem dL_law_182 : decode cL_law 182 = .ok (.iconst 0, 1) := by decide +kernel
theorem dL_law_183 : decode cL_law 183 = .ok (.iaload, 1) := by decide +kernel
theorem dL_law_184 : decode cL_law 184 = .ok (.if_icmp .le 5, 3) := by decide +kernel
theorem dL_law_187 : decode cL_law 187 = .ok (.iconst 0, 1) := by decide +kernel
theorem dL_law_188 : decode cL_law 188 = .ok (.ireturn, 1) := by decide +kernel
theorem dL_law_189 : decode cL_law 189 = .ok (.bipush 120, 2) := by decide +kernel
theorem dL_law_191 : decode cL_law 191 = .ok (.anewarray 22, 3) := by decide +kernel
theorem dL_law_194 : decode cL_law 194 = .ok (.astore 7, 2) := by decide +kernel
theorem dL_law_196 : decode cL_law 196 = .ok (.iconst 0, 1) := by decide +kernel
theorem dL_law_197 : decode cL_law 197 = .ok (.istore 8, 2) := by decide +kernel
theorem dL_law_199 : decode cL_law 199 = .ok (.iconst 0, 1) := by decide +kernel
theorem dL_law_200 : decode cL_law 200 = .ok (.istore 9, 2) := by decide +kernel
theorem dL_law_202 : decode cL_law 202 = .ok (.iconst 0, 1) := by decide +kernel
theorem dL_law_203 : decode cL_law 203 = .ok (.istore 10, 2) := by decide +kernel
theorem dL_law_205 : decode cL_law 205 = .ok (.iload 10, 2) := by decide +kernel
theorem dL_law_207 : decode cL_law 207 = .ok (.iload 5, 2) := by decide +kernel
theorem dL_law_209 : decode cL_law 209 = .ok (.if_icmp .ge 461, 3) := by decide +kernel
theorem dL_law_212 : decode cL_law 212 = .ok (.aload_n 2, 1) := by decide +kernel
theorem dL_law_213 : decode cL_law 213 = .ok (.getfield 24, 3) := by decide +kernel
theorem dL_law_216 : decode cL_law 216 = .ok (.aload_n 1, 1) := by decide +kernel
theorem dL_law_217 : decode cL_law 217 = .ok (.iload 10, 2) := by decide +kernel
theorem dL_law_219 : decode cL_law 219 = .ok (.iconst 0, 1) := by decide +kernel
theorem dL_law_220 : decode cL_law 220 = .ok (.invokevirtual 64, 3) := by decide +kernel
theorem dL_law_223 : decode cL_law 223 = .ok (.aaload, 1) := by decide +kernel
theorem dL_law_224 : decode cL_law 224 = .ok (.astore 11, 2) := by decide +kernel
theorem dL_law_226 : decode cL_law 226 = .ok (.aload_n 1, 1) := by decide +kernel
theorem dL_law_227 : decode cL_law 227 = .ok (.iload 10, 2) := by decide +kernel
theorem dL_law_229 : decode cL_law 229 = .ok (.iconst 5, 1) := by decide +kernel
theorem dL_law_230 : decode cL_law 230 = .ok (.invokevirtual 64, 3) := by decide +kernel
theorem dL_law_233 : decode cL_law 233 = .ok (.iconst 1, 1) := by decide +kernel
theorem dL_law_234 : decode cL_law 234 = .ok (.if_icmp .ne 7, 3) := by decide +kernel
theorem dL_law_237 : decode cL_law 237 = .ok (.iconst 1, 1) := by decide +kernel
theorem dL_law_238 : decode cL_law 238 = .ok (.goto 4, 3) := by decide +kernel
theorem dL_law_241 : decode cL_law 241 = .ok (.iconst 0, 1) := by decide +kernel
theorem dL_law_242 : decode cL_law 242 = .ok (.istore 12, 2) := by decide +kernel
theorem dL_law_244 : decode cL_law 244 = .ok (.aload 11, 2) := by decide +kernel
theorem dL_law_246 : decode cL_law 246 = .ok (.iload 12, 2) := by decide +kernel
theorem dL_law_248 : decode cL_law 248 = .ok (.ifCond .eq 7, 3) := by decide +kernel
theorem dL_law_251 : decode cL_law 251 = .ok (.iconst 1, 1) := by decide +kernel
theorem dL_law_252 : decode cL_law 252 = .ok (.goto 4, 3) := by decide +kernel
theorem dL_law_255 : decode cL_law 255 = .ok (.iconst 0, 1) := by decide +kernel
theorem dL_law_256 : decode cL_law 256 = .ok (.iaload, 1) := by decide +kernel
theorem dL_law_257 : decode cL_law 257 = .ok (.istore 13, 2) := by decide +kernel
theorem dL_law_259 : decode cL_law 259 = .ok (.aload 11, 2) := by decide +kernel
theorem dL_law_261 : decode cL_law 261 = .ok (.iload 12, 2) := by decide +kernel
theorem dL_law_263 : decode cL_law 263 = .ok (.ifCond .eq 7, 3) := by decide +kernel
theorem dL_law_266 : decode cL_law 266 = .ok (.iconst 0, 1) := by decide +kernel
theorem dL_law_267 : decode cL_law 267 = .ok (.goto 4, 3) := by decide +kernel
theorem dL_law_270 : decode cL_law 270 = .ok (.iconst 1, 1) := by decide +kernel
theorem dL_law_271 : decode cL_law 271 = .ok (.iaload, 1) := by decide +kernel
theorem dL_law_272 : decode cL_law 272 = .ok (.istore 14, 2) := by decide +kernel
theorem dL_law_274 : decode cL_law 274 = .ok (.aload_n 1, 1) := by decide +kernel
theorem dL_law_275 : decode cL_law 275 = .ok (.iload 10, 2) := by decide +kernel
theorem dL_law_277 : decode cL_law 277 = .ok (.iconst 3, 1) := by decide +kernel
theorem dL_law_278 : decode cL_law 278 = .ok (.invokevirtual 64, 3) := by decide +kernel
theorem dL_law_281 : decode cL_law 281 = .ok (.istore 15, 2) := by decide +kernel
theorem dL_law_283 : decode cL_law 283 = .ok (.aload_n 1, 1) := by decide +kernel
theorem dL_law_284 : decode cL_law 284 = .ok (.iload 10, 2) := by decide +kernel
theorem dL_law_286 : decode cL_law 286 = .ok (.iconst 4, 1) := by decide +kernel
theorem dL_law_287 : decode cL_law 287 = .ok (.invokevirtual 64, 3) := by decide +kernel
theorem dL_law_290 : decode cL_law 290 = .ok (.iload 15, 2) := by decide +kernel
theorem dL_law_292 : decode cL_law 292 = .ok (.aload 11, 2) := by decide +kernel
theorem dL_law_294 : decode cL_law 294 = .ok (.iconst 2, 1) := by decide +kernel
theorem dL_law_295 : decode cL_law 295 = .ok (.iaload, 1) := by decide +kernel
theorem dL_law_296 : decode cL_law 296 = .ok (.iadd, 1) := by decide +kernel
theorem dL_law_297 : decode cL_law 297 = .ok (.if_icmp .ne 112, 3) := by decide +kernel
theorem dL_law_300 : decode cL_law 300 = .ok (.iload 12, 2) := by decide +kernel
theorem dL_law_302 : decode cL_law 302 = .ok (.ifCond .eq 12, 3) := by decide +kernel
theorem dL_law_305 : decode cL_law 305 = .ok (.aload 11, 2) := by decide +kernel
theorem dL_law_307 : decode cL_law 307 = .ok (.iconst 5, 1) := by decide +kernel
theorem dL_law_308 : decode cL_law 308 = .ok (.iaload, 1) := by decide +kernel
theorem dL_law_309 : decode cL_law 309 = .ok (.iconst 2, 1) := by decide +kernel
theorem dL_law_310 : decode cL_law 310 = .ok (.irem, 1) := by decide +kernel
theorem dL_law_311 : decode cL_law 311 = .ok (.ifCond .eq 98, 3) := by decide +kernel
theorem dL_law_314 : decode cL_law 314 = .ok (.aload 11, 2) := by decide +kernel
theorem dL_law_316 : decode cL_law 316 = .ok (.iconst 5, 1) := by decide +kernel
theorem dL_law_317 : decode cL_law 317 = .ok (.iaload, 1) := by decide +kernel
theorem dL_law_318 : decode cL_law 318 = .ok (.iconst 1, 1) := by decide +kernel
theorem dL_law_319 : decode cL_law 319 = .ok (.if_icmp .le 8, 3) := by decide +kernel
theorem dL_law_322 : decode cL_law 322 = .ok (.iload 15, 2) := by decide +kernel
theorem dL_law_324 : decode cL_law 324 = .ok (.ifCond .gt 85, 3) := by decide +kernel
theorem dL_law_327 : decode cL_law 327 = .ok (.aload_n 1, 1) := by decide +kernel
theorem dL_law_328 : decode cL_law 328 = .ok (.iload 10, 2) := by decide +kernel
theorem dL_law_330 : decode cL_law 330 = .ok (.bipush 6, 2) := by decide +kernel
theorem dL_law_332 : decode cL_law 332 = .ok (.invokevirtual 64, 3) := by decide +kernel
theorem dL_law_335 : decode cL_law 335 = .ok (.aload 11, 2) := by decide +kernel
theorem dL_law_337 : decode cL_law 337 = .ok (.iconst 4, 1) := by decide +kernel
theorem dL_law_338 : decode cL_law 338 = .ok (.iaload, 1) := by decide +kernel
theorem dL_law_339 : decode cL_law 339 = .ok (.if_icmp .gt 70, 3) := by decide +kernel
theorem dL_law_342 : decode cL_law 342 = .ok (.aload_n 1, 1) := by decide +kernel
theorem dL_law_343 : decode cL_law 343 = .ok (.iload 10, 2) := by decide +kernel
theorem dL_law_345 : decode cL_law 345 = .ok (.bipush 9, 2) := by decide +kernel
theorem dL_law_347 : decode cL_law 347 = .ok (.invokevirtual 64, 3) := by decide +kernel
theorem dL_law_350 : decode cL_law 350 = .ok (.bipush 100, 2) := by decide +kernel
theorem dL_law_352 : decode cL_law 352 = .ok (.imul, 1) := by decide +kernel
theorem dL_law_353 : decode cL_law 353 = .ok (.aload_n 2, 1) := by decide +kernel
theorem dL_law_354 : decode cL_law 354 = .ok (.getfield 34, 3) := by decide +kernel
theorem dL_law_357 : decode cL_law 357 = .ok (.iconst 1, 1) := by decide +kernel
theorem dL_law_358 : decode cL_law 358 = .ok (.iaload, 1) := by decide +kernel
theorem dL_law_359 : decode cL_law 359 = .ok (.iload 13, 2) := by decide +kernel
theorem dL_law_361 : decode cL_law 361 = .ok (.imul, 1) := by decide +kernel
theorem dL_law_362 : decode cL_law 362 = .ok (.iload 14, 2) := by decide +kernel
theorem dL_law_364 : decode cL_law 364 = .ok (.imul, 1) := by decide +kernel
theorem dL_law_365 : decode cL_law 365 = .ok (.if_icmp .lt 44, 3) := by decide +kernel
theorem dL_law_368 : decode cL_law 368 = .ok (.iload 15, 2) := by decide +kernel
theorem dL_law_370 : decode cL_law 370 = .ok (.ifCond .ne 14, 3) := by decide +kernel
theorem dL_law_373 : decode cL_law 373 = .ok (.aload_n 1, 1) := by decide +kernel
theorem dL_law_374 : decode cL_law 374 = .ok (.iload 10, 2) := by decide +kernel
theorem dL_law_376 : decode cL_law 376 = .ok (.bipush 8, 2) := by decide +kernel
theorem dL_law_378 : decode cL_law 378 = .ok (.invokevirtual 64, 3) := by decide +kernel
theorem dL_law_381 : decode cL_law 381 = .ok (.ifCond .ne 28, 3) := by decide +kernel
theorem dL_law_384 : decode cL_law 384 = .ok (.iload 15, 2) := by decide +kernel
theorem dL_law_386 : decode cL_law 386 = .ok (.ifCond .le 25, 3) := by decide +kernel
theorem dL_law_389 : decode cL_law 389 = .ok (.aload_n 2, 1) := by decide +kernel
theorem dL_law_390 : decode cL_law 390 = .ok (.getfield 34, 3) := by decide +kernel
theorem dL_law_393 : decode cL_law 393 = .ok (.iconst 1, 1) := by decide +kernel
theorem dL_law_394 : decode cL_law 394 = .ok (.iaload, 1) := by decide +kernel
theorem dL_law_395 : decode cL_law 395 = .ok (.ifCond .le 16, 3) := by decide +kernel
theorem dL_law_398 : decode cL_law 398 = .ok (.aload_n 1, 1) := by decide +kernel
theorem dL_law_399 : decode cL_law 399 = .ok (.iload 10, 2) := by decide +kernel
theorem dL_law_401 : decode cL_law 401 = .ok (.bipush 8, 2) := by decide +kernel
theorem dL_law_403 : decode cL_law 403 = .ok (.invokevirtual 64, 3) := by decide +kernel
theorem dL_law_406 : decode cL_law 406 = .ok (.ifCond .ne 5, 3) := by decide +kernel
theorem dL_law_409 : decode cL_law 409 = .ok (.iconst 0, 1) := by decide +kernel
theorem dL_law_410 : decode cL_law 410 = .ok (.ireturn, 1) := by decide +kernel
theorem dL_law_411 : decode cL_law 411 = .ok (.aload_n 1, 1) := by decide +kernel
theorem dL_law_412 : decode cL_law 412 = .ok (.iload 10, 2) := by decide +kernel
theorem dL_law_414 : decode cL_law 414 = .ok (.iconst 1, 1) := by decide +kernel
theorem dL_law_415 : decode cL_law 415 = .ok (.invokevirtual 64, 3) := by decide +kernel
theorem dL_law_418 : decode cL_law 418 = .ok (.istore 16, 2) := by decide +kernel
theorem dL_law_420 : decode cL_law 420 = .ok (.iload 16, 2) := by decide +kernel
theorem dL_law_422 : decode cL_law 422 = .ok (.aload_n 1, 1) := by decide +kernel
theorem dL_law_423 : decode cL_law 423 = .ok (.iload 10, 2) := by decide +kernel
theorem dL_law_425 : decode cL_law 425 = .ok (.iconst 1, 1) := by decide +kernel
theorem dL_law_426 : decode cL_law 426 = .ok (.invokevirtual 64, 3) := by decide +kernel
theorem dL_law_429 : decode cL_law 429 = .ok (.iload 13, 2) := by decide +kernel
theorem dL_law_431 : decode cL_law 431 = .ok (.iadd, 1) := by decide +kernel
theorem dL_law_432 : decode cL_law 432 = .ok (.if_icmp .ge 171, 3) := by decide +kernel
theorem dL_law_435 : decode cL_law 435 = .ok (.aload_n 1, 1) := by decide +kernel
theorem dL_law_436 : decode cL_law 436 = .ok (.iload 10, 2) := by decide +kernel
theorem dL_law_438 : decode cL_law 438 = .ok (.iconst 2, 1) := by decide +kernel
theorem dL_law_439 : decode cL_law 439 = .ok (.invokevirtual 64, 3) := by decide +kernel
theorem dL_law_442 : decode cL_law 442 = .ok (.istore 17, 2) := by decide +kernel
theorem dL_law_444 : decode cL_law 444 = .ok (.iload 17, 2) := by decide +kernel
theorem dL_law_446 : decode cL_law 446 = .ok (.aload_n 1, 1) := by decide +kernel
theorem dL_law_447 : decode cL_law 447 = .ok (.iload 10, 2) := by decide +kernel
theorem dL_law_449 : decode cL_law 449 = .ok (.iconst 2, 1) := by decide +kernel
theorem dL_law_450 : decode cL_law 450 = .ok (.invokevirtual 64, 3) := by decide +kernel
theorem dL_law_453 : decode cL_law 453 = .ok (.iload 14, 2) := by decide +kernel
theorem dL_law_455 : decode cL_law 455 = .ok (.iadd, 1) := by decide +kernel
theorem dL_law_456 : decode cL_law 456 = .ok (.if_icmp .ge 141, 3) := by decide +kernel
theorem dL_law_459 : decode cL_law 459 = .ok (.iload 16, 2) := by decide +kernel
theorem dL_law_461 : decode cL_law 461 = .ok (.ifCond .lt 22, 3) := by decide +kernel
theorem dL_law_464 : decode cL_law 464 = .ok (.iload 16, 2) := by decide +kernel
theorem dL_law_466 : decode cL_law 466 = .ok (.bipush 11, 2) := by decide +kernel
theorem dL_law_468 : decode cL_law 468 = .ok (.if_icmp .gt 15, 3) := by decide +kernel
theorem dL_law_471 : decode cL_law 471 = .ok (.iload 17, 2) := by decide +kernel
theorem dL_law_473 : decode cL_law 473 = .ok (.ifCond .lt 10, 3) := by decide +kernel
theorem dL_law_476 : decode cL_law 476 = .ok (.iload 17, 2) := by decide +kernel
theorem dL_law_478 : decode cL_law 478 = .ok (.bipush 9, 2) := by decide +kernel
theorem dL_law_480 : decode cL_law 480 = .ok (.if_icmp .le 5, 3) := by decide +kernel
theorem dL_law_483 : decode cL_law 483 = .ok (.iconst 0, 1) := by decide +kernel
theorem dL_law_484 : decode cL_law 484 = .ok (.ireturn, 1) := by decide +kernel
theorem dL_law_485 : decode cL_law 485 = .ok (.iload 15, 2) := by decide +kernel
theorem dL_law_487 : decode cL_law 487 = .ok (.istore 18, 2) := by decide +kernel
theorem dL_law_489 : decode cL_law 489 = .ok (.iload 18, 2) := by decide +kernel
theorem dL_law_491 : decode cL_law 491 = .ok (.iload 15, 2) := by decide +kernel
theorem dL_law_493 : decode cL_law 493 = .ok (.aload 11, 2) := by decide +kernel
theorem dL_law_495 : decode cL_law 495 = .ok (.iconst 2, 1) := by decide +kernel
theorem dL_law_496 : decode cL_law 496 = .ok (.iaload, 1) := by decide +kernel
theorem dL_law_497 : decode cL_law 497 = .ok (.iadd, 1) := by decide +kernel
theorem dL_law_498 : decode cL_law 498 = .ok (.if_icmp .ge 26, 3) := by decide +kernel
theorem dL_law_501 : decode cL_law 501 = .ok (.aload_n 1, 1) := by decide +kernel
theorem dL_law_502 : decode cL_law 502 = .ok (.iload 16, 2) := by decide +kernel
theorem dL_law_504 : decode cL_law 504 = .ok (.iload 17, 2) := by decide +kernel
theorem dL_law_506 : decode cL_law 506 = .ok (.iload 18, 2) := by decide +kernel
theorem dL_law_508 : decode cL_law 508 = .ok (.invokevirtual 67, 3) := by decide +kernel
theorem dL_law_511 : decode cL_law 511 = .ok (.iload 10, 2) := by decide +kernel
theorem dL_law_513 : decode cL_law 513 = .ok (.if_icmp .eq 5, 3) := by decide +kernel
theorem dL_law_516 : decode cL_law 516 = .ok (.iconst 0, 1) := by decide +kernel
theorem dL_law_517 : decode cL_law 517 = .ok (.ireturn, 1) := by decide +kernel
theorem dL_law_518 : decode cL_law 518 = .ok (.iinc 18 1, 3) := by decide +kernel
theorem dL_law_521 : decode cL_law 521 = .ok (.goto (-32), 3) := by decide +kernel
theorem dL_law_524 : decode cL_law 524 = .ok (.aload 7, 2) := by decide +kernel
theorem dL_law_526 : decode cL_law 526 = .ok (.bipush 12, 2) := by decide +kernel
theorem dL_law_528 : decode cL_law 528 = .ok (.iload 17, 2) := by decide +kernel
theorem dL_law_530 : decode cL_law 530 = .ok (.imul, 1) := by decide +kernel
theorem dL_law_531 : decode cL_law 531 = .ok (.iload 16, 2) := by decide +kernel
theorem dL_law_533 : decode cL_law 533 = .ok (.iadd, 1) := by decide +kernel
theorem dL_law_534 : decode cL_law 534 = .ok (.aaload, 1) := by decide +kernel
theorem dL_law_535 : decode cL_law 535 = .ok (.ifnull 23, 3) := by decide +kernel
theorem dL_law_538 : decode cL_law 538 = .ok (.aload 7, 2) := by decide +kernel
theorem dL_law_540 : decode cL_law 540 = .ok (.bipush 12, 2) := by decide +kernel
theorem dL_law_542 : decode cL_law 542 = .ok (.iload 17, 2) := by decide +kernel
theorem dL_law_544 : decode cL_law 544 = .ok (.imul, 1) := by decide +kernel
theorem dL_law_545 : decode cL_law 545 = .ok (.iload 16, 2) := by decide +kernel
theorem dL_law_547 : decode cL_law 547 = .ok (.iadd, 1) := by decide +kernel
theorem dL_law_548 : decode cL_law 548 = .ok (.aaload, 1) := by decide +kernel
theorem dL_law_549 : decode cL_law 549 = .ok (.iconst 0, 1) := by decide +kernel
theorem dL_law_550 : decode cL_law 550 = .ok (.iaload, 1) := by decide +kernel
theorem dL_law_551 : decode cL_law 551 = .ok (.iload 15, 2) := by decide +kernel
theorem dL_law_553 : decode cL_law 553 = .ok (.if_icmp .le 5, 3) := by decide +kernel
theorem dL_law_556 : decode cL_law 556 = .ok (.iconst 0, 1) := by decide +kernel
theorem dL_law_557 : decode cL_law 557 = .ok (.ireturn, 1) := by decide +kernel
theorem dL_law_558 : decode cL_law 558 = .ok (.aload 7, 2) := by decide +kernel
theorem dL_law_560 : decode cL_law 560 = .ok (.bipush 12, 2) := by decide +kernel
theorem dL_law_562 : decode cL_law 562 = .ok (.iload 17, 2) := by decide +kernel
theorem dL_law_564 : decode cL_law 564 = .ok (.imul, 1) := by decide +kernel
theorem dL_law_565 : decode cL_law 565 = .ok (.iload 16, 2) := by decide +kernel
theorem dL_law_567 : decode cL_law 567 = .ok (.iadd, 1) := by decide +kernel
theorem dL_law_568 : decode cL_law 568 = .ok (.iconst 1, 1) := by decide +kernel
theorem dL_law_569 : decode cL_law 569 = .ok (.newarray .int, 2) := by decide +kernel
theorem dL_law_571 : decode cL_law 571 = .ok (.dup, 1) := by decide +kernel
theorem dL_law_572 : decode cL_law 572 = .ok (.iconst 0, 1) := by decide +kernel
theorem dL_law_573 : decode cL_law 573 = .ok (.iload 15, 2) := by decide +kernel
theorem dL_law_575 : decode cL_law 575 = .ok (.aload 11, 2) := by decide +kernel
theorem dL_law_577 : decode cL_law 577 = .ok (.iconst 2, 1) := by decide +kernel
theorem dL_law_578 : decode cL_law 578 = .ok (.iaload, 1) := by decide +kernel
theorem dL_law_579 : decode cL_law 579 = .ok (.iadd, 1) := by decide +kernel
theorem dL_law_580 : decode cL_law 580 = .ok (.iastore, 1) := by decide +kernel
theorem dL_law_581 : decode cL_law 581 = .ok (.aastore, 1) := by decide +kernel
theorem dL_law_582 : decode cL_law 582 = .ok (.iload 8, 2) := by decide +kernel
theorem dL_law_584 : decode cL_law 584 = .ok (.aload 11, 2) := by decide +kernel
theorem dL_law_586 : decode cL_law 586 = .ok (.iconst 2, 1) := by decide +kernel
theorem dL_law_587 : decode cL_law 587 = .ok (.iaload, 1) := by decide +kernel
theorem dL_law_588 : decode cL_law 588 = .ok (.iadd, 1) := by decide +kernel
theorem dL_law_589 : decode cL_law 589 = .ok (.istore 8, 2) := by decide +kernel
theorem dL_law_591 : decode cL_law 591 = .ok (.iinc 17 1, 3) := by decide +kernel
theorem dL_law_594 : decode cL_law 594 = .ok (.goto (-150), 3) := by decide +kernel
theorem dL_law_597 : decode cL_law 597 = .ok (.iinc 16 1, 3) := by decide +kernel
theorem dL_law_600 : decode cL_law 600 = .ok (.goto (-180), 3) := by decide +kernel
theorem dL_law_603 : decode cL_law 603 = .ok (.iload 9, 2) := by decide +kernel
theorem dL_law_605 : decode cL_law 605 = .ok (.aload 11, 2) := by decide +kernel
theorem dL_law_607 : decode cL_law 607 = .ok (.iconst 3, 1) := by decide +kernel
theorem dL_law_608 : decode cL_law 608 = .ok (.iaload, 1) := by decide +kernel
theorem dL_law_609 : decode cL_law 609 = .ok (.iadd, 1) := by decide +kernel
theorem dL_law_610 : decode cL_law 610 = .ok (.istore 9, 2) := by decide +kernel
theorem dL_law_612 : decode cL_law 612 = .ok (.iconst 0, 1) := by decide +kernel
theorem dL_law_613 : decode cL_law 613 = .ok (.istore 16, 2) := by decide +kernel
theorem dL_law_615 : decode cL_law 615 = .ok (.iload 16, 2) := by decide +kernel
theorem dL_law_617 : decode cL_law 617 = .ok (.iload 5, 2) := by decide +kernel
theorem dL_law_619 : decode cL_law 619 = .ok (.if_icmp .ge 45, 3) := by decide +kernel
theorem dL_law_622 : decode cL_law 622 = .ok (.aload_n 1, 1) := by decide +kernel
theorem dL_law_623 : decode cL_law 623 = .ok (.iload 10, 2) := by decide +kernel
theorem dL_law_625 : decode cL_law 625 = .ok (.iload 16, 2) := by decide +kernel
theorem dL_law_627 : decode cL_law 627 = .ok (.invokevirtual 71, 3) := by decide +kernel
theorem dL_law_630 : decode cL_law 630 = .ok (.ifCond .eq 28, 3) := by decide +kernel
theorem dL_law_633 : decode cL_law 633 = .ok (.aload_n 1, 1) := by decide +kernel
theorem dL_law_634 : decode cL_law 634 = .ok (.iload 16, 2) := by decide +kernel
theorem dL_law_636 : decode cL_law 636 = .ok (.iload 10, 2) := by decide +kernel
theorem dL_law_638 : decode cL_law 638 = .ok (.invokevirtual 71, 3) := by decide +kernel
theorem dL_law_641 : decode cL_law 641 = .ok (.ifCond .ne 15, 3) := by decide +kernel
theorem dL_law_644 : decode cL_law 644 = .ok (.aload_n 1, 1) := by decide +kernel
theorem dL_law_645 : decode cL_law 645 = .ok (.iload 16, 2) := by decide +kernel
theorem dL_law_647 : decode cL_law 647 = .ok (.iconst 4, 1) := by decide +kernel
theorem dL_law_648 : decode cL_law 648 = .ok (.invokevirtual 64, 3) := by decide +kernel
theorem dL_law_651 : decode cL_law 651 = .ok (.iload 15, 2) := by decide +kernel
theorem dL_law_653 : decode cL_law 653 = .ok (.if_icmp .le 5, 3) := by decide +kernel
theorem dL_law_656 : decode cL_law 656 = .ok (.iconst 0, 1) := by decide +kernel
theorem dL_law_657 : decode cL_law 657 = .ok (.ireturn, 1) := by decide +kernel
theorem dL_law_658 : decode cL_law 658 = .ok (.iinc 16 1, 3) := by decide +kernel
theorem dL_law_661 : decode cL_law 661 = .ok (.goto (-46), 3) := by decide +kernel
theorem dL_law_664 : decode cL_law 664 = .ok (.iinc 10 1, 3) := by decide +kernel
theorem dL_law_667 : decode cL_law 667 = .ok (.goto (-462), 3) := by decide +kernel
theorem dL_law_670 : decode cL_law 670 = .ok (.iconst 0, 1) := by decide +kernel
theorem dL_law_671 : decode cL_law 671 = .ok (.istore 10, 2) := by decide +kernel
theorem dL_law_673 : decode cL_law 673 = .ok (.iconst 0, 1) := by decide +kernel
theorem dL_law_674 : decode cL_law 674 = .ok (.istore 11, 2) := by decide +kernel
theorem dL_law_676 : decode cL_law 676 = .ok (.iconst 0, 1) := by decide +kernel
theorem dL_law_677 : decode cL_law 677 = .ok (.istore 12, 2) := by decide +kernel
theorem dL_law_679 : decode cL_law 679 = .ok (.iload 12, 2) := by decide +kernel
theorem dL_law_681 : decode cL_law 681 = .ok (.iload 5, 2) := by decide +kernel
theorem dL_law_683 : decode cL_law 683 = .ok (.if_icmp .ge 60, 3) := by decide +kernel
theorem dL_law_686 : decode cL_law 686 = .ok (.aload_n 1, 1) := by decide +kernel
theorem dL_law_687 : decode cL_law 687 = .ok (.iload 12, 2) := by decide +kernel
theorem dL_law_689 : decode cL_law 689 = .ok (.iconst 3, 1) := by decide +kernel
theorem dL_law_690 : decode cL_law 690 = .ok (.invokevirtual 64, 3) := by decide +kernel
theorem dL_law_693 : decode cL_law 693 = .ok (.ifCond .ne 31, 3) := by decide +kernel
theorem dL_law_696 : decode cL_law 696 = .ok (.iload 10, 2) := by decide +kernel
theorem dL_law_698 : decode cL_law 698 = .ok (.aload_n 1, 1) := by decide +kernel
theorem dL_law_699 : decode cL_law 699 = .ok (.iload 12, 2) := by decide +kernel
theorem dL_law_701 : decode cL_law 701 = .ok (.bipush 6, 2) := by decide +kernel
theorem dL_law_703 : decode cL_law 703 = .ok (.invokevirtual 64, 3) := by decide +kernel
theorem dL_law_706 : decode cL_law 706 = .ok (.aload_n 2, 1) := by decide +kernel
theorem dL_law_707 : decode cL_law 707 = .ok (.getfield 24, 3) := by decide +kernel
theorem dL_law_710 : decode cL_law 710 = .ok (.aload_n 1, 1) := by decide +kernel
theorem dL_law_711 : decode cL_law 711 = .ok (.iload 12, 2) := by decide +kernel
theorem dL_law_713 : decode cL_law 713 = .ok (.iconst 0, 1) := by decide +kernel
theorem dL_law_714 : decode cL_law 714 = .ok (.invokevirtual 64, 3) := by decide +kernel
theorem dL_law_717 : decode cL_law 717 = .ok (.aaload, 1) := by decide +kernel
theorem dL_law_718 : decode cL_law 718 = .ok (.iconst 3, 1) := by decide +kernel
theorem dL_law_719 : decode cL_law 719 = .ok (.iaload, 1) := by decide +kernel
theorem dL_law_720 : decode cL_law 720 = .ok (.iadd, 1) := by decide +kernel
theorem dL_law_721 : decode cL_law 721 = .ok (.iadd, 1) := by decide +kernel
theorem dL_law_722 : decode cL_law 722 = .ok (.istore 10, 2) := by decide +kernel
theorem dL_law_724 : decode cL_law 724 = .ok (.iload 11, 2) := by decide +kernel
theorem dL_law_726 : decode cL_law 726 = .ok (.aload_n 1, 1) := by decide +kernel
theorem dL_law_727 : decode cL_law 727 = .ok (.iload 12, 2) := by decide +kernel
theorem dL_law_729 : decode cL_law 729 = .ok (.bipush 8, 2) := by decide +kernel
theorem dL_law_731 : decode cL_law 731 = .ok (.invokevirtual 64, 3) := by decide +kernel
theorem dL_law_734 : decode cL_law 734 = .ok (.iadd, 1) := by decide +kernel
theorem dL_law_735 : decode cL_law 735 = .ok (.istore 11, 2) := by decide +kernel
theorem dL_law_737 : decode cL_law 737 = .ok (.iinc 12 1, 3) := by decide +kernel
theorem dL_law_740 : decode cL_law 740 = .ok (.goto (-61), 3) := by decide +kernel
theorem dL_law_743 : decode cL_law 743 = .ok (.iload 9, 2) := by decide +kernel
theorem dL_law_745 : decode cL_law 745 = .ok (.aload_n 1, 1) := by decide +kernel
theorem dL_law_746 : decode cL_law 746 = .ok (.iconst 0, 1) := by decide +kernel
theorem dL_law_747 : decode cL_law 747 = .ok (.invokevirtual 61, 3) := by decide +kernel
theorem dL_law_750 : decode cL_law 750 = .ok (.if_icmp .ne 54, 3) := by decide +kernel
theorem dL_law_753 : decode cL_law 753 = .ok (.iload 10, 2) := by decide +kernel
theorem dL_law_755 : decode cL_law 755 = .ok (.iload 9, 2) := by decide +kernel
theorem dL_law_757 : decode cL_law 757 = .ok (.if_icmp .gt 47, 3) := by decide +kernel
theorem dL_law_760 : decode cL_law 760 = .ok (.iload 10, 2) := by decide +kernel
theorem dL_law_762 : decode cL_law 762 = .ok (.iload 9, 2) := by decide +kernel
theorem dL_law_764 : decode cL_law 764 = .ok (.iload 11, 2) := by decide +kernel
theorem dL_law_766 : decode cL_law 766 = .ok (.isub, 1) := by decide +kernel
theorem dL_law_767 : decode cL_law 767 = .ok (.if_icmp .lt 37, 3) := by decide +kernel
theorem dL_law_770 : decode cL_law 770 = .ok (.aload_n 1, 1) := by decide +kernel
theorem dL_law_771 : decode cL_law 771 = .ok (.invokevirtual 75, 3) := by decide +kernel
theorem dL_law_774 : decode cL_law 774 = .ok (.iload 5, 2) := by decide +kernel
theorem dL_law_776 : decode cL_law 776 = .ok (.ifCond .ne 7, 3) := by decide +kernel
theorem dL_law_779 : decode cL_law 779 = .ok (.dconst 0, 1) := by decide +kernel
theorem dL_law_780 : decode cL_law 780 = .ok (.goto 16, 3) := by decide +kernel
theorem dL_law_783 : decode cL_law 783 = .ok (.iload 8, 2) := by decide +kernel
theorem dL_law_785 : decode cL_law 785 = .ok (.i2d, 1) := by decide +kernel
theorem dL_law_786 : decode cL_law 786 = .ok (.bipush 120, 2) := by decide +kernel
theorem dL_law_788 : decode cL_law 788 = .ok (.aload_n 1, 1) := by decide +kernel
theorem dL_law_789 : decode cL_law 789 = .ok (.iconst 1, 1) := by decide +kernel
theorem dL_law_790 : decode cL_law 790 = .ok (.invokevirtual 61, 3) := by decide +kernel
theorem dL_law_793 : decode cL_law 793 = .ok (.imul, 1) := by decide +kernel
theorem dL_law_794 : decode cL_law 794 = .ok (.i2d, 1) := by decide +kernel
theorem dL_law_795 : decode cL_law 795 = .ok (.ddiv, 1) := by decide +kernel
theorem dL_law_796 : decode cL_law 796 = .ok (.dcmp .l, 1) := by decide +kernel
theorem dL_law_797 : decode cL_law 797 = .ok (.ifCond .ne 7, 3) := by decide +kernel
theorem dL_law_800 : decode cL_law 800 = .ok (.iconst 1, 1) := by decide +kernel
theorem dL_law_801 : decode cL_law 801 = .ok (.goto 4, 3) := by decide +kernel
theorem dL_law_804 : decode cL_law 804 = .ok (.iconst 0, 1) := by decide +kernel
theorem dL_law_805 : decode cL_law 805 = .ok (.ireturn, 1) := by decide +kernel
