theorem dL_cell_0 : decode cL_cell 0 = .ok (.iload_n 1, 1) := by decide +kernel
theorem dL_cell_1 : decode cL_cell 1 = .ok (.aload_n 0, 1) := by decide +kernel
theorem dL_cell_2 : decode cL_cell 2 = .ok (.arraylength, 1) := by decide +kernel
theorem dL_cell_3 : decode cL_cell 3 = .ok (.if_icmp .ge 9, 3) := by decide +kernel
theorem dL_cell_6 : decode cL_cell 6 = .ok (.aload_n 0, 1) := by decide +kernel
theorem dL_cell_7 : decode cL_cell 7 = .ok (.iload_n 1, 1) := by decide +kernel
theorem dL_cell_8 : decode cL_cell 8 = .ok (.iaload, 1) := by decide +kernel
theorem dL_cell_9 : decode cL_cell 9 = .ok (.goto 9, 3) := by decide +kernel
theorem dL_cell_12 : decode cL_cell 12 = .ok (.ldc 7, 2) := by decide +kernel
theorem dL_cell_14 : decode cL_cell 14 = .ok (.iload_n 1, 1) := by decide +kernel
theorem dL_cell_15 : decode cL_cell 15 = .ok (.iconst 1, 1) := by decide +kernel
theorem dL_cell_16 : decode cL_cell 16 = .ok (.iadd, 1) := by decide +kernel
theorem dL_cell_17 : decode cL_cell 17 = .ok (.imul, 1) := by decide +kernel
theorem dL_cell_18 : decode cL_cell 18 = .ok (.ireturn, 1) := by decide +kernel
theorem dL_some_0 : decode cL_some 0 = .ok (.iload_n 0, 1) := by decide +kernel
theorem dL_some_1 : decode cL_some 1 = .ok (.ldc 8, 2) := by decide +kernel
theorem dL_some_3 : decode cL_some 3 = .ok (.iand, 1) := by decide +kernel
theorem dL_some_4 : decode cL_some 4 = .ok (.iload_n 1, 1) := by decide +kernel
theorem dL_some_5 : decode cL_some 5 = .ok (.irem, 1) := by decide +kernel
theorem dL_some_6 : decode cL_some 6 = .ok (.ireturn, 1) := by decide +kernel
set_option maxRecDepth 20000 in
theorem ggL_put_L_cell : GoodIn wsL_put wsL_cell := goodIn_r _ [4, 5] (by decide +kernel) (by decide +kernel)
set_option maxRecDepth 20000 in
theorem gL_put_L_cell : GoodIn wsL_put (va_wsS RL 9 yL_cell wsL_cell) := goodIn_app (goodIn_of _ (by decide +kernel)) ggL_put_L_cell
set_option maxRecDepth 20000 in
theorem ggL_put_L_some : GoodIn wsL_put wsL_some := goodIn_r _ [8, 9] (by decide +kernel) (by decide +kernel)
set_option maxRecDepth 20000 in
theorem gL_put_L_some : GoodIn wsL_put (va_wsS RL 15 yL_some wsL_some) := goodIn_app (goodIn_of _ (by decide +kernel)) ggL_put_L_some
set_option maxRecDepth 20000 in
theorem ggL_put_X4_sheet : GoodIn wsL_put wsX4_sheet := goodIn_r _ [14, 15, 16, 17, 18, 13, 19, 20, 21, 22, 23, 24, 25, 26, 27, 28, 29, 30, 31, 32, 33, 34, 35, 36, 37, 69, 70, 71, 72, 73, 74, 75, 76, 77, 78] (by decide +kernel) (by decide +kernel)
set_option maxRecDepth 20000 in
theorem gL_put_X4_sheet : GoodIn wsL_put (wsV RL 19 RX4 yX4_sheet wsX4_sheet) := goodIn_app (goodIn_of _ (by decide +kernel)) ggL_put_X4_sheet
set_option maxRecDepth 20000 in
theorem ggL_put_X4_put : GoodIn wsL_put wsX4_put := goodIn_r _ [41, 15, 16, 17, 18, 13, 19, 20, 21, 22, 42, 43, 44, 33, 45, 35, 46, 47, 48, 49, 50, 51, 52, 53, 36, 54, 55, 56, 57, 26, 27, 28, 29, 58, 59, 60, 61, 37, 62, 63, 64, 65, 69, 70, 71, 72, 73, 74, 75, 76, 77, 78] (by decide +kernel) (by decide +kernel)
set_option maxRecDepth 20000 in
theorem gL_put_X4_put : GoodIn wsL_put (wsV RL 25 RX4 yX4_put wsX4_put) := goodIn_app (goodIn_of _ (by decide +kernel)) ggL_put_X4_put
set_option maxRecDepth 20000 in
theorem ggL_put_L_place : GoodIn wsL_put wsL_place := goodIn_r _ [68] (by decide +kernel) (by decide +kernel)
set_option maxRecDepth 20000 in
theorem gL_put_L_place : GoodIn wsL_put (va_wsS RL 28 yL_place wsL_place) := goodIn_app (goodIn_of _ (by decide +kernel)) ggL_put_L_place
theorem dL_put_0 : decode cL_put 0 = .ok (.aload_n 1, 1) := by decide +kernel
theorem dL_put_1 : decode cL_put 1 = .ok (.iload_n 2, 1) := by decide +kernel
theorem dL_put_2 : decode cL_put 2 = .ok (.invokestatic 9, 3) := by decide +kernel
theorem dL_put_5 : decode cL_put 5 = .ok (.istore 4, 2) := by decide +kernel
theorem dL_put_7 : decode cL_put 7 = .ok (.iconst 0, 1) := by decide +kernel
theorem dL_put_8 : decode cL_put 8 = .ok (.istore 5, 2) := by decide +kernel
theorem dL_put_10 : decode cL_put 10 = .ok (.iload 5, 2) := by decide +kernel
theorem dL_put_12 : decode cL_put 12 = .ok (.bipush 38, 2) := by decide +kernel
theorem dL_put_14 : decode cL_put 14 = .ok (.if_icmp .ge 14, 3) := by decide +kernel
theorem dL_put_17 : decode cL_put 17 = .ok (.aload_n 3, 1) := by decide +kernel
theorem dL_put_18 : decode cL_put 18 = .ok (.iload 5, 2) := by decide +kernel
theorem dL_put_20 : decode cL_put 20 = .ok (.iconst 0, 1) := by decide +kernel
theorem dL_put_21 : decode cL_put 21 = .ok (.iastore, 1) := by decide +kernel
theorem dL_put_22 : decode cL_put 22 = .ok (.iinc 5 1, 3) := by decide +kernel
theorem dL_put_25 : decode cL_put 25 = .ok (.goto (-15), 3) := by decide +kernel
theorem dL_put_28 : decode cL_put 28 = .ok (.aload_n 3, 1) := by decide +kernel
theorem dL_put_29 : decode cL_put 29 = .ok (.iconst 0, 1) := by decide +kernel
theorem dL_put_30 : decode cL_put 30 = .ok (.iconst 1, 1) := by decide +kernel
theorem dL_put_31 : decode cL_put 31 = .ok (.iload 4, 2) := by decide +kernel
theorem dL_put_33 : decode cL_put 33 = .ok (.bipush 6, 2) := by decide +kernel
theorem dL_put_35 : decode cL_put 35 = .ok (.invokestatic 15, 3) := by decide +kernel
theorem dL_put_38 : decode cL_put 38 = .ok (.iadd, 1) := by decide +kernel
theorem dL_put_39 : decode cL_put 39 = .ok (.iastore, 1) := by decide +kernel
theorem dL_put_40 : decode cL_put 40 = .ok (.aload_n 0, 1) := by decide +kernel
theorem dL_put_41 : decode cL_put 41 = .ok (.iconst 0, 1) := by decide +kernel
theorem dL_put_42 : decode cL_put 42 = .ok (.iconst 0, 1) := by decide +kernel
theorem dL_put_43 : decode cL_put 43 = .ok (.bipush 60, 2) := by decide +kernel
theorem dL_put_45 : decode cL_put 45 = .ok (.invokevirtual 19, 3) := by decide +kernel
theorem dL_put_48 : decode cL_put 48 = .ok (.iconst 1, 1) := by decide +kernel
theorem dL_put_49 : decode cL_put 49 = .ok (.if_icmp .ne 15, 3) := by decide +kernel
theorem dL_put_52 : decode cL_put 52 = .ok (.aload_n 0, 1) := by decide +kernel
theorem dL_put_53 : decode cL_put 53 = .ok (.iconst 0, 1) := by decide +kernel
theorem dL_put_54 : decode cL_put 54 = .ok (.iconst 0, 1) := by decide +kernel
theorem dL_put_55 : decode cL_put 55 = .ok (.bipush 111, 2) := by decide +kernel
theorem dL_put_57 : decode cL_put 57 = .ok (.invokevirtual 25, 3) := by decide +kernel
theorem dL_put_60 : decode cL_put 60 = .ok (.iconst 1, 1) := by decide +kernel
theorem dL_put_61 : decode cL_put 61 = .ok (.if_icmp .eq 6, 3) := by decide +kernel
theorem dL_put_64 : decode cL_put 64 = .ok (.bipush (-99), 2) := by decide +kernel
theorem dL_put_66 : decode cL_put 66 = .ok (.ireturn, 1) := by decide +kernel
theorem dL_put_67 : decode cL_put 67 = .ok (.iconst 1, 1) := by decide +kernel
theorem dL_put_68 : decode cL_put 68 = .ok (.istore 5, 2) := by decide +kernel
theorem dL_put_70 : decode cL_put 70 = .ok (.iconst 0, 1) := by decide +kernel
theorem dL_put_71 : decode cL_put 71 = .ok (.istore 6, 2) := by decide +kernel
theorem dL_put_73 : decode cL_put 73 = .ok (.iload 6, 2) := by decide +kernel
theorem dL_put_75 : decode cL_put 75 = .ok (.aload_n 3, 1) := by decide +kernel
theorem dL_put_76 : decode cL_put 76 = .ok (.iconst 0, 1) := by decide +kernel
theorem dL_put_77 : decode cL_put 77 = .ok (.iaload, 1) := by decide +kernel
theorem dL_put_78 : decode cL_put 78 = .ok (.if_icmp .ge 191, 3) := by decide +kernel
theorem dL_put_81 : decode cL_put 81 = .ok (.aload_n 1, 1) := by decide +kernel
theorem dL_put_82 : decode cL_put 82 = .ok (.iload_n 2, 1) := by decide +kernel
theorem dL_put_83 : decode cL_put 83 = .ok (.iconst 1, 1) := by decide +kernel
theorem dL_put_84 : decode cL_put 84 = .ok (.iadd, 1) := by decide +kernel
theorem dL_put_85 : decode cL_put 85 = .ok (.invokestatic 9, 3) := by decide +kernel
theorem dL_put_88 : decode cL_put 88 = .ok (.iconst 5, 1) := by decide +kernel
theorem dL_put_89 : decode cL_put 89 = .ok (.iload 6, 2) := by decide +kernel
theorem dL_put_91 : decode cL_put 91 = .ok (.imul, 1) := by decide +kernel
theorem dL_put_92 : decode cL_put 92 = .ok (.ishr, 1) := by decide +kernel
theorem dL_put_93 : decode cL_put 93 = .ok (.istore 7, 2) := by decide +kernel
theorem dL_put_95 : decode cL_put 95 = .ok (.aload_n 3, 1) := by decide +kernel
theorem dL_put_96 : decode cL_put 96 = .ok (.iconst 2, 1) := by decide +kernel
theorem dL_put_97 : decode cL_put 97 = .ok (.iload 6, 2) := by decide +kernel
theorem dL_put_99 : decode cL_put 99 = .ok (.iadd, 1) := by decide +kernel
theorem dL_put_100 : decode cL_put 100 = .ok (.iload 7, 2) := by decide +kernel
theorem dL_put_102 : decode cL_put 102 = .ok (.iconst 4, 1) := by decide +kernel
theorem dL_put_103 : decode cL_put 103 = .ok (.invokestatic 15, 3) := by decide +kernel
theorem dL_put_106 : decode cL_put 106 = .ok (.iconst 3, 1) := by decide +kernel
theorem dL_put_107 : decode cL_put 107 = .ok (.if_icmp .ne 7, 3) := by decide +kernel
theorem dL_put_110 : decode cL_put 110 = .ok (.iconst 0, 1) := by decide +kernel
theorem dL_put_111 : decode cL_put 111 = .ok (.goto 9, 3) := by decide +kernel
theorem dL_put_114 : decode cL_put 114 = .ok (.iload 7, 2) := by decide +kernel
theorem dL_put_116 : decode cL_put 116 = .ok (.iconst 4, 1) := by decide +kernel
theorem dL_put_117 : decode cL_put 117 = .ok (.invokestatic 15, 3) := by decide +kernel
theorem dL_put_120 : decode cL_put 120 = .ok (.iastore, 1) := by decide +kernel
theorem dL_put_121 : decode cL_put 121 = .ok (.aload_n 3, 1) := by decide +kernel
theorem dL_put_122 : decode cL_put 122 = .ok (.bipush 8, 2) := by decide +kernel
theorem dL_put_124 : decode cL_put 124 = .ok (.iload 6, 2) := by decide +kernel
theorem dL_put_126 : decode cL_put 126 = .ok (.iadd, 1) := by decide +kernel
theorem dL_put_127 : decode cL_put 127 = .ok (.iload 6, 2) := by decide +kernel
theorem dL_put_129 : decode cL_put 129 = .ok (.ifCond .eq 14, 3) := by decide +kernel
theorem dL_put_132 : decode cL_put 132 = .ok (.iload 7, 2) := by decide +kernel
theorem dL_put_134 : decode cL_put 134 = .ok (.iconst 2, 1) := by decide +kernel
theorem dL_put_135 : decode cL_put 135 = .ok (.ishr, 1) := by decide +kernel
theorem dL_put_136 : decode cL_put 136 = .ok (.iconst 3, 1) := by decide +kernel
theorem dL_put_137 : decode cL_put 137 = .ok (.invokestatic 15, 3) := by decide +kernel
theorem dL_put_140 : decode cL_put 140 = .ok (.ifCond .ne 8, 3) := by decide +kernel
theorem dL_put_143 : decode cL_put 143 = .ok (.bipush 6, 2) := by decide +kernel
theorem dL_put_145 : decode cL_put 145 = .ok (.goto 12, 3) := by decide +kernel
theorem dL_put_148 : decode cL_put 148 = .ok (.iload 7, 2) := by decide +kernel
theorem dL_put_150 : decode cL_put 150 = .ok (.iconst 3, 1) := by decide +kernel
theorem dL_put_151 : decode cL_put 151 = .ok (.ishr, 1) := by decide +kernel
theorem dL_put_152 : decode cL_put 152 = .ok (.iload 6, 2) := by decide +kernel
theorem dL_put_154 : decode cL_put 154 = .ok (.invokestatic 15, 3) := by decide +kernel
theorem dL_put_157 : decode cL_put 157 = .ok (.iastore, 1) := by decide +kernel
theorem dL_put_158 : decode cL_put 158 = .ok (.aload_n 0, 1) := by decide +kernel
theorem dL_put_159 : decode cL_put 159 = .ok (.iconst 0, 1) := by decide +kernel
theorem dL_put_160 : decode cL_put 160 = .ok (.iload 5, 2) := by decide +kernel
theorem dL_put_162 : decode cL_put 162 = .ok (.iinc 5 1, 3) := by decide +kernel
theorem dL_put_165 : decode cL_put 165 = .ok (.bipush 59, 2) := by decide +kernel
theorem dL_put_167 : decode cL_put 167 = .ok (.invokevirtual 25, 3) := by decide +kernel
theorem dL_put_170 : decode cL_put 170 = .ok (.iconst 1, 1) := by decide +kernel
theorem dL_put_171 : decode cL_put 171 = .ok (.if_icmp .ne 89, 3) := by decide +kernel
theorem dL_put_174 : decode cL_put 174 = .ok (.aload_n 0, 1) := by decide +kernel
theorem dL_put_175 : decode cL_put 175 = .ok (.iconst 0, 1) := by decide +kernel
theorem dL_put_176 : decode cL_put 176 = .ok (.iload 5, 2) := by decide +kernel
theorem dL_put_178 : decode cL_put 178 = .ok (.iinc 5 1, 3) := by decide +kernel
theorem dL_put_181 : decode cL_put 181 = .ok (.aload_n 3, 1) := by decide +kernel
theorem dL_put_182 : decode cL_put 182 = .ok (.iconst 2, 1) := by decide +kernel
theorem dL_put_183 : decode cL_put 183 = .ok (.iload 6, 2) := by decide +kernel
theorem dL_put_185 : decode cL_put 185 = .ok (.iadd, 1) := by decide +kernel
theorem dL_put_186 : decode cL_put 186 = .ok (.iaload, 1) := by decide +kernel
theorem dL_put_187 : decode cL_put 187 = .ok (.ifCond .ne 8, 3) := by decide +kernel
theorem dL_put_190 : decode cL_put 190 = .ok (.bipush 112, 2) := by decide +kernel
theorem dL_put_192 : decode cL_put 192 = .ok (.goto 20, 3) := by decide +kernel
theorem dL_put_195 : decode cL_put 195 = .ok (.aload_n 3, 1) := by decide +kernel
theorem dL_put_196 : decode cL_put 196 = .ok (.iconst 2, 1) := by decide +kernel
theorem dL_put_197 : decode cL_put 197 = .ok (.iload 6, 2) := by decide +kernel
theorem dL_put_199 : decode cL_put 199 = .ok (.iadd, 1) := by decide +kernel
theorem dL_put_200 : decode cL_put 200 = .ok (.iaload, 1) := by decide +kernel
theorem dL_put_201 : decode cL_put 201 = .ok (.iconst 1, 1) := by decide +kernel
theorem dL_put_202 : decode cL_put 202 = .ok (.if_icmp .ne 8, 3) := by decide +kernel
theorem dL_put_205 : decode cL_put 205 = .ok (.bipush 103, 2) := by decide +kernel
theorem dL_put_207 : decode cL_put 207 = .ok (.goto 5, 3) := by decide +kernel
theorem dL_put_210 : decode cL_put 210 = .ok (.bipush 100, 2) := by decide +kernel
theorem dL_put_212 : decode cL_put 212 = .ok (.invokevirtual 25, 3) := by decide +kernel
theorem dL_put_215 : decode cL_put 215 = .ok (.iconst 1, 1) := by decide +kernel
theorem dL_put_216 : decode cL_put 216 = .ok (.if_icmp .ne 44, 3) := by decide +kernel
theorem dL_put_219 : decode cL_put 219 = .ok (.aload_n 0, 1) := by decide +kernel
theorem dL_put_220 : decode cL_put 220 = .ok (.iconst 0, 1) := by decide +kernel
theorem dL_put_221 : decode cL_put 221 = .ok (.iload 5, 2) := by decide +kernel
theorem dL_put_223 : decode cL_put 223 = .ok (.iinc 5 1, 3) := by decide +kernel
theorem dL_put_226 : decode cL_put 226 = .ok (.aload_n 3, 1) := by decide +kernel
theorem dL_put_227 : decode cL_put 227 = .ok (.bipush 8, 2) := by decide +kernel
theorem dL_put_229 : decode cL_put 229 = .ok (.iload 6, 2) := by decide +kernel
theorem dL_put_231 : decode cL_put 231 = .ok (.iadd, 1) := by decide +kernel
theorem dL_put_232 : decode cL_put 232 = .ok (.iaload, 1) := by decide +kernel
theorem dL_put_233 : decode cL_put 233 = .ok (.bipush 6, 2) := by decide +kernel
theorem dL_put_235 : decode cL_put 235 = .ok (.if_icmp .ne 8, 3) := by decide +kernel
theorem dL_put_238 : decode cL_put 238 = .ok (.bipush 119, 2) := by decide +kernel
theorem dL_put_240 : decode cL_put 240 = .ok (.goto 13, 3) := by decide +kernel
theorem dL_put_243 : decode cL_put 243 = .ok (.bipush 48, 2) := by decide +kernel
theorem dL_put_245 : decode cL_put 245 = .ok (.aload_n 3, 1) := by decide +kernel
theorem dL_put_246 : decode cL_put 246 = .ok (.bipush 8, 2) := by decide +kernel
theorem dL_put_248 : decode cL_put 248 = .ok (.iload 6, 2) := by decide +kernel
theorem dL_put_250 : decode cL_put 250 = .ok (.iadd, 1) := by decide +kernel
theorem dL_put_251 : decode cL_put 251 = .ok (.iaload, 1) := by decide +kernel
theorem dL_put_252 : decode cL_put 252 = .ok (.iadd, 1) := by decide +kernel
theorem dL_put_253 : decode cL_put 253 = .ok (.invokevirtual 25, 3) := by decide +kernel
theorem dL_put_256 : decode cL_put 256 = .ok (.iconst 1, 1) := by decide +kernel
theorem dL_put_257 : decode cL_put 257 = .ok (.if_icmp .eq 6, 3) := by decide +kernel
theorem dL_put_260 : decode cL_put 260 = .ok (.bipush (-99), 2) := by decide +kernel
theorem dL_put_262 : decode cL_put 262 = .ok (.ireturn, 1) := by decide +kernel
theorem dL_put_263 : decode cL_put 263 = .ok (.iinc 6 1, 3) := by decide +kernel
theorem dL_put_266 : decode cL_put 266 = .ok (.goto (-193), 3) := by decide +kernel
theorem dL_put_269 : decode cL_put 269 = .ok (.iload 4, 2) := by decide +kernel
theorem dL_put_271 : decode cL_put 271 = .ok (.iconst 3, 1) := by decide +kernel
theorem dL_put_272 : decode cL_put 272 = .ok (.ishr, 1) := by decide +kernel
theorem dL_put_273 : decode cL_put 273 = .ok (.bipush 13, 2) := by decide +kernel
theorem dL_put_275 : decode cL_put 275 = .ok (.invokestatic 15, 3) := by decide +kernel
theorem dL_put_278 : decode cL_put 278 = .ok (.istore 6, 2) := by decide +kernel
theorem dL_put_280 : decode cL_put 280 = .ok (.iconst 0, 1) := by decide +kernel
theorem dL_put_281 : decode cL_put 281 = .ok (.istore 7, 2) := by decide +kernel
theorem dL_put_283 : decode cL_put 283 = .ok (.iload 7, 2) := by decide +kernel
theorem dL_put_285 : decode cL_put 285 = .ok (.bipush 20, 2) := by decide +kernel
theorem dL_put_287 : decode cL_put 287 = .ok (.if_icmp .ge 214, 3) := by decide +kernel
theorem dL_put_290 : decode cL_put 290 = .ok (.aload_n 3, 1) := by decide +kernel
theorem dL_put_291 : decode cL_put 291 = .ok (.iconst 1, 1) := by decide +kernel
theorem dL_put_292 : decode cL_put 292 = .ok (.iaload, 1) := by decide +kernel
theorem dL_put_293 : decode cL_put 293 = .ok (.iload 6, 2) := by decide +kernel
theorem dL_put_295 : decode cL_put 295 = .ok (.if_icmp .ge 206, 3) := by decide +kernel
theorem dL_put_298 : decode cL_put 298 = .ok (.aload_n 1, 1) := by decide +kernel
theorem dL_put_299 : decode cL_put 299 = .ok (.iload_n 2, 1) := by decide +kernel
theorem dL_put_300 : decode cL_put 300 = .ok (.iconst 2, 1) := by decide +kernel
theorem dL_put_301 : decode cL_put 301 = .ok (.iadd, 1) := by decide +kernel
theorem dL_put_302 : decode cL_put 302 = .ok (.iload 7, 2) := by decide +kernel
theorem dL_put_304 : decode cL_put 304 = .ok (.iconst 5, 1) := by decide +kernel
theorem dL_put_305 : decode cL_put 305 = .ok (.idiv, 1) := by decide +kernel
theorem dL_put_306 : decode cL_put 306 = .ok (.iadd, 1) := by decide +kernel
theorem dL_put_307 : decode cL_put 307 = .ok (.invokestatic 9, 3) := by decide +kernel
theorem dL_put_310 : decode cL_put 310 = .ok (.iload 7, 2) := by decide +kernel
theorem dL_put_312 : decode cL_put 312 = .ok (.iconst 5, 1) := by decide +kernel
theorem dL_put_313 : decode cL_put 313 = .ok (.irem, 1) := by decide +kernel
theorem dL_put_314 : decode cL_put 314 = .ok (.bipush 6, 2) := by decide +kernel
theorem dL_put_316 : decode cL_put 316 = .ok (.imul, 1) := by decide +kernel
theorem dL_put_317 : decode cL_put 317 = .ok (.ishr, 1) := by decide +kernel
theorem dL_put_318 : decode cL_put 318 = .ok (.istore 8, 2) := by decide +kernel
theorem dL_put_320 : decode cL_put 320 = .ok (.iload 8, 2) := by decide +kernel
theorem dL_put_322 : decode cL_put 322 = .ok (.iconst 3, 1) := by decide +kernel
theorem dL_put_323 : decode cL_put 323 = .ok (.invokestatic 15, 3) := by decide +kernel
theorem dL_put_326 : decode cL_put 326 = .ok (.ifCond .ne 8, 3) := by decide +kernel
theorem dL_put_329 : decode cL_put 329 = .ok (.bipush 6, 2) := by decide +kernel
theorem dL_put_331 : decode cL_put 331 = .ok (.goto 13, 3) := by decide +kernel
theorem dL_put_334 : decode cL_put 334 = .ok (.iload 8, 2) := by decide +kernel
theorem dL_put_336 : decode cL_put 336 = .ok (.iconst 1, 1) := by decide +kernel
theorem dL_put_337 : decode cL_put 337 = .ok (.ishr, 1) := by decide +kernel
theorem dL_put_338 : decode cL_put 338 = .ok (.aload_n 3, 1) := by decide +kernel
theorem dL_put_339 : decode cL_put 339 = .ok (.iconst 0, 1) := by decide +kernel
theorem dL_put_340 : decode cL_put 340 = .ok (.iaload, 1) := by decide +kernel
theorem dL_put_341 : decode cL_put 341 = .ok (.invokestatic 15, 3) := by decide +kernel
theorem dL_put_344 : decode cL_put 344 = .ok (.istore 9, 2) := by decide +kernel
theorem dL_put_346 : decode cL_put 346 = .ok (.iload 8, 2) := by decide +kernel
theorem dL_put_348 : decode cL_put 348 = .ok (.iconst 3, 1) := by decide +kernel
theorem dL_put_349 : decode cL_put 349 = .ok (.ishr, 1) := by decide +kernel
theorem dL_put_350 : decode cL_put 350 = .ok (.aload_n 3, 1) := by decide +kernel
theorem dL_put_351 : decode cL_put 351 = .ok (.iconst 0, 1) := by decide +kernel
theorem dL_put_352 : decode cL_put 352 = .ok (.iaload, 1) := by decide +kernel
theorem dL_put_353 : decode cL_put 353 = .ok (.invokestatic 15, 3) := by decide +kernel
theorem dL_put_356 : decode cL_put 356 = .ok (.istore 10, 2) := by decide +kernel
theorem dL_put_358 : decode cL_put 358 = .ok (.iload 8, 2) := by decide +kernel
theorem dL_put_360 : decode cL_put 360 = .ok (.iconst 2, 1) := by decide +kernel
theorem dL_put_361 : decode cL_put 361 = .ok (.ishr, 1) := by decide +kernel
theorem dL_put_362 : decode cL_put 362 = .ok (.iconst 3, 1) := by decide +kernel
theorem dL_put_363 : decode cL_put 363 = .ok (.invokestatic 15, 3) := by decide +kernel
theorem dL_put_366 : decode cL_put 366 = .ok (.ifCond .ne 12, 3) := by decide +kernel
theorem dL_put_369 : decode cL_put 369 = .ok (.aload_n 3, 1) := by decide +kernel
theorem dL_put_370 : decode cL_put 370 = .ok (.bipush 8, 2) := by decide +kernel
theorem dL_put_372 : decode cL_put 372 = .ok (.iload 10, 2) := by decide +kernel
theorem dL_put_374 : decode cL_put 374 = .ok (.iadd, 1) := by decide +kernel
theorem dL_put_375 : decode cL_put 375 = .ok (.iaload, 1) := by decide +kernel
theorem dL_put_376 : decode cL_put 376 = .ok (.istore 9, 2) := by decide +kernel
theorem dL_put_378 : decode cL_put 378 = .ok (.iload 9, 2) := by decide +kernel
theorem dL_put_380 : decode cL_put 380 = .ok (.iload 10, 2) := by decide +kernel
theorem dL_put_382 : decode cL_put 382 = .ok (.if_icmp .eq 113, 3) := by decide +kernel
theorem dL_put_385 : decode cL_put 385 = .ok (.aload_n 3, 1) := by decide +kernel
theorem dL_put_386 : decode cL_put 386 = .ok (.iload 9, 2) := by decide +kernel
theorem dL_put_388 : decode cL_put 388 = .ok (.iload 10, 2) := by decide +kernel
theorem dL_put_390 : decode cL_put 390 = .ok (.invokestatic 28, 3) := by decide +kernel
theorem dL_put_393 : decode cL_put 393 = .ok (.ifCond .lt 6, 3) := by decide +kernel
theorem dL_put_396 : decode cL_put 396 = .ok (.goto 99, 3) := by decide +kernel
theorem dL_put_399 : decode cL_put 399 = .ok (.aload_n 3, 1) := by decide +kernel
theorem dL_put_400 : decode cL_put 400 = .ok (.bipush 14, 2) := by decide +kernel
theorem dL_put_402 : decode cL_put 402 = .ok (.aload_n 3, 1) := by decide +kernel
theorem dL_put_403 : decode cL_put 403 = .ok (.iconst 1, 1) := by decide +kernel
theorem dL_put_404 : decode cL_put 404 = .ok (.iaload, 1) := by decide +kernel
theorem dL_put_405 : decode cL_put 405 = .ok (.iadd, 1) := by decide +kernel
theorem dL_put_406 : decode cL_put 406 = .ok (.iload 9, 2) := by decide +kernel
theorem dL_put_408 : decode cL_put 408 = .ok (.iastore, 1) := by decide +kernel
theorem dL_put_409 : decode cL_put 409 = .ok (.aload_n 3, 1) := by decide +kernel
theorem dL_put_410 : decode cL_put 410 = .ok (.bipush 26, 2) := by decide +kernel
theorem dL_put_412 : decode cL_put 412 = .ok (.aload_n 3, 1) := by decide +kernel
theorem dL_put_413 : decode cL_put 413 = .ok (.iconst 1, 1) := by decide +kernel
theorem dL_put_414 : decode cL_put 414 = .ok (.iaload, 1) := by decide +kernel
theorem dL_put_415 : decode cL_put 415 = .ok (.iadd, 1) := by decide +kernel
theorem dL_put_416 : decode cL_put 416 = .ok (.iload 10, 2) := by decide +kernel
theorem dL_put_418 : decode cL_put 418 = .ok (.iastore, 1) := by decide +kernel
theorem dL_put_419 : decode cL_put 419 = .ok (.aload_n 3, 1) := by decide +kernel
theorem dL_put_420 : decode cL_put 420 = .ok (.iconst 1, 1) := by decide +kernel
theorem dL_put_421 : decode cL_put 421 = .ok (.dup2, 1) := by decide +kernel
theorem dL_put_422 : decode cL_put 422 = .ok (.iaload, 1) := by decide +kernel
theorem dL_put_423 : decode cL_put 423 = .ok (.iconst 1, 1) := by decide +kernel
theorem dL_put_424 : decode cL_put 424 = .ok (.iadd, 1) := by decide +kernel
theorem dL_put_425 : decode cL_put 425 = .ok (.iastore, 1) := by decide +kernel
theorem dL_put_426 : decode cL_put 426 = .ok (.aload_n 0, 1) := by decide +kernel
theorem dL_put_427 : decode cL_put 427 = .ok (.iconst 0, 1) := by decide +kernel
theorem dL_put_428 : decode cL_put 428 = .ok (.iload 5, 2) := by decide +kernel
theorem dL_put_430 : decode cL_put 430 = .ok (.iinc 5 1, 3) := by decide +kernel
theorem dL_put_433 : decode cL_put 433 = .ok (.bipush 44, 2) := by decide +kernel
theorem dL_put_435 : decode cL_put 435 = .ok (.invokevirtual 25, 3) := by decide +kernel
theorem dL_put_438 : decode cL_put 438 = .ok (.iconst 1, 1) := by decide +kernel
theorem dL_put_439 : decode cL_put 439 = .ok (.if_icmp .ne 53, 3) := by decide +kernel
theorem dL_put_442 : decode cL_put 442 = .ok (.aload_n 0, 1) := by decide +kernel
theorem dL_put_443 : decode cL_put 443 = .ok (.iconst 0, 1) := by decide +kernel
theorem dL_put_444 : decode cL_put 444 = .ok (.iload 5, 2) := by decide +kernel
theorem dL_put_446 : decode cL_put 446 = .ok (.iinc 5 1, 3) := by decide +kernel
theorem dL_put_449 : decode cL_put 449 = .ok (.iload 9, 2) := by decide +kernel
theorem dL_put_451 : decode cL_put 451 = .ok (.bipush 6, 2) := by decide +kernel
theorem dL_put_453 : decode cL_put 453 = .ok (.if_icmp .ne 8, 3) := by decide +kernel
theorem dL_put_456 : decode cL_put 456 = .ok (.bipush 119, 2) := by decide +kernel
theorem dL_put_458 : decode cL_put 458 = .ok (.goto 8, 3) := by decide +kernel
theorem dL_put_461 : decode cL_put 461 = .ok (.bipush 48, 2) := by decide +kernel
theorem dL_put_463 : decode cL_put 463 = .ok (.iload 9, 2) := by decide +kernel
theorem dL_put_465 : decode cL_put 465 = .ok (.iadd, 1) := by decide +kernel
theorem dL_put_466 : decode cL_put 466 = .ok (.invokevirtual 25, 3) := by decide +kernel
theorem dL_put_469 : decode cL_put 469 = .ok (.iconst 1, 1) := by decide +kernel
theorem dL_put_470 : decode cL_put 470 = .ok (.if_icmp .ne 22, 3) := by decide +kernel
theorem dL_put_473 : decode cL_put 473 = .ok (.aload_n 0, 1) := by decide +kernel
theorem dL_put_474 : decode cL_put 474 = .ok (.iconst 0, 1) := by decide +kernel
theorem dL_put_475 : decode cL_put 475 = .ok (.iload 5, 2) := by decide +kernel
theorem dL_put_477 : decode cL_put 477 = .ok (.iinc 5 1, 3) := by decide +kernel
theorem dL_put_480 : decode cL_put 480 = .ok (.bipush 48, 2) := by decide +kernel
theorem dL_put_482 : decode cL_put 482 = .ok (.iload 10, 2) := by decide +kernel
theorem dL_put_484 : decode cL_put 484 = .ok (.iadd, 1) := by decide +kernel
theorem dL_put_485 : decode cL_put 485 = .ok (.invokevirtual 25, 3) := by decide +kernel
theorem dL_put_488 : decode cL_put 488 = .ok (.iconst 1, 1) := by decide +kernel
theorem dL_put_489 : decode cL_put 489 = .ok (.if_icmp .eq 6, 3) := by decide +kernel
theorem dL_put_492 : decode cL_put 492 = .ok (.bipush (-99), 2) := by decide +kernel
theorem dL_put_494 : decode cL_put 494 = .ok (.ireturn, 1) := by decide +kernel
theorem dL_put_495 : decode cL_put 495 = .ok (.iinc 7 1, 3) := by decide +kernel
theorem dL_put_498 : decode cL_put 498 = .ok (.goto (-215), 3) := by decide +kernel
theorem dL_put_501 : decode cL_put 501 = .ok (.iload 5, 2) := by decide +kernel
theorem dL_put_503 : decode cL_put 503 = .ok (.ireturn, 1) := by decide +kernel
theorem dL_place_0 : decode cL_place 0 = .ok (.iconst 0, 1) := by decide +kernel
theorem dL_place_1 : decode cL_place 1 = .ok (.istore_n 3, 1) := by decide +kernel
theorem dL_place_2 : decode cL_place 2 = .ok (.iload_n 3, 1) := by decide +kernel
theorem dL_place_3 : decode cL_place 3 = .ok (.aload_n 0, 1) := by decide +kernel
theorem dL_place_4 : decode cL_place 4 = .ok (.iconst 1, 1) := by decide +kernel
theorem dL_place_5 : decode cL_place 5 = .ok (.iaload, 1) := by decide +kernel
theorem dL_place_6 : decode cL_place 6 = .ok (.if_icmp .ge 31, 3) := by decide +kernel
theorem dL_place_9 : decode cL_place 9 = .ok (.aload_n 0, 1) := by decide +kernel
theorem dL_place_10 : decode cL_place 10 = .ok (.bipush 14, 2) := by decide +kernel
theorem dL_place_12 : decode cL_place 12 = .ok (.iload_n 3, 1) := by decide +kernel
theorem dL_place_13 : decode cL_place 13 = .ok (.iadd, 1) := by decide +kernel
theorem dL_place_14 : decode cL_place 14 = .ok (.iaload, 1) := by decide +kernel
theorem dL_place_15 : decode cL_place 15 = .ok (.iload_n 1, 1) := by decide +kernel
theorem dL_place_16 : decode cL_place 16 = .ok (.if_icmp .ne 15, 3) := by decide +kernel
theorem dL_place_19 : decode cL_place 19 = .ok (.aload_n 0, 1) := by decide +kernel
theorem dL_place_20 : decode cL_place 20 = .ok (.bipush 26, 2) := by decide +kernel
theorem dL_place_22 : decode cL_place 22 = .ok (.iload_n 3, 1) := by decide +kernel
theorem dL_place_23 : decode cL_place 23 = .ok (.iadd, 1) := by decide +kernel
theorem dL_place_24 : decode cL_place 24 = .ok (.iaload, 1) := by decide +kernel
theorem dL_place_25 : decode cL_place 25 = .ok (.iload_n 2, 1) := by decide +kernel
theorem dL_place_26 : decode cL_place 26 = .ok (.if_icmp .ne 5, 3) := by decide +kernel
theorem dL_place_29 : decode cL_place 29 = .ok (.iload_n 3, 1) := by decide +kernel
theorem dL_place_30 : decode cL_place 30 = .ok (.ireturn, 1) := by decide +kernel
theorem dL_place_31 : decode cL_place 31 = .ok (.iinc 3 1, 3) := by decide +kernel
theorem dL_place_34 : decode cL_place 34 = .ok (.goto (-32), 3) := by decide +kernel
theorem dL_place_37 : decode cL_place 37 = .ok (.bipush (-9), 2) := by decide +kernel
theorem dL_place_39 : decode cL_place 39 = .ok (.ireturn, 1) := by decide +kernel
theorem dL_level_0 : decode cL_level 0 = .ok (.iconst 0, 1) := by decide +kernel
theorem dL_level_1 : decode cL_level 1 = .ok (.istore_n 2, 1) := by decide +kernel
theorem dL_level_2 : decode cL_level 2 = .ok (.iload_n 1, 1) := by decide +kernel
theorem dL_level_3 : decode cL_level 3 = .ok (.istore_n 3, 1) := by decide +kernel
theorem dL_level_4 : decode cL_level 4 = .ok (.iload_n 3, 1) := by decide +kernel
theorem dL_level_5 : decode cL_level 5 = .ok (.bipush 6, 2) := by decide +kernel
theorem dL_level_7 : decode cL_level 7 = .ok (.if_icmp .ge 16, 3) := by decide +kernel
theorem dL_level_10 : decode cL_level 10 = .ok (.iinc 2 1, 3) := by decide +kernel
theorem dL_level_13 : decode cL_level 13 = .ok (.aload_n 0, 1) := by decide +kernel
theorem dL_level_14 : decode cL_level 14 = .ok (.bipush 8, 2) := by decide +kernel
theorem dL_level_16 : decode cL_level 16 = .ok (.iload_n 3, 1) := by decide +kernel
theorem dL_level_17 : decode cL_level 17 = .ok (.iadd, 1) := by decide +kernel
theorem dL_level_18 : decode cL_level 18 = .ok (.iaload, 1) := by decide +kernel
theorem dL_level_19 : decode cL_level 19 = .ok (.istore_n 3, 1) := by decide +kernel
theorem dL_level_20 : decode cL_level 20 = .ok (.goto (-16), 3) := by decide +kernel
theorem dL_level_23 : decode cL_level 23 = .ok (.iload_n 2, 1) := by decide +kernel
theorem dL_level_24 : decode cL_level 24 = .ok (.ireturn, 1) := by decide +kernel
set_option maxRecDepth 20000 in
theorem ggL_lock_L_level : GoodIn wsL_lock wsL_level := goodIn_r _ [4] (by decide +kernel) (by decide +kernel)
set_option maxRecDepth 20000 in
theorem gL_lock_L_level : GoodIn wsL_lock (va_wsS RL 32 yL_level wsL_level) := goodIn_app (goodIn_of _ (by decide +kernel)) ggL_lock_L_level
theorem dL_lock_0 : decode cL_lock 0 = .ok (.aload_n 0, 1) := by decide +kernel
theorem dL_lock_1 : decode cL_lock 1 = .ok (.iload_n 1, 1) := by decide +kernel
theorem dL_lock_2 : decode cL_lock 2 = .ok (.invokestatic 32, 3) := by decide +kernel
theorem dL_lock_5 : decode cL_lock 5 = .ok (.istore_n 2, 1) := by decide +kernel
theorem dL_lock_6 : decode cL_lock 6 = .ok (.aload_n 0, 1) := by decide +kernel
theorem dL_lock_7 : decode cL_lock 7 = .ok (.iconst 2, 1) := by decide +kernel
theorem dL_lock_8 : decode cL_lock 8 = .ok (.iload_n 1, 1) := by decide +kernel
theorem dL_lock_9 : decode cL_lock 9 = .ok (.iadd, 1) := by decide +kernel
theorem dL_lock_10 : decode cL_lock 10 = .ok (.iaload, 1) := by decide +kernel
theorem dL_lock_11 : decode cL_lock 11 = .ok (.iconst 2, 1) := by decide +kernel
theorem dL_lock_12 : decode cL_lock 12 = .ok (.if_icmp .ne 7, 3) := by decide +kernel
theorem dL_lock_15 : decode cL_lock 15 = .ok (.iload_n 2, 1) := by decide +kernel
theorem dL_lock_16 : decode cL_lock 16 = .ok (.iload_n 2, 1) := by decide +kernel
theorem dL_lock_17 : decode cL_lock 17 = .ok (.iadd, 1) := by decide +kernel
theorem dL_lock_18 : decode cL_lock 18 = .ok (.istore_n 2, 1) := by decide +kernel
theorem dL_lock_19 : decode cL_lock 19 = .ok (.aload_n 0, 1) := by decide +kernel
theorem dL_lock_20 : decode cL_lock 20 = .ok (.iconst 2, 1) := by decide +kernel
theorem dL_lock_21 : decode cL_lock 21 = .ok (.iload_n 1, 1) := by decide +kernel
theorem dL_lock_22 : decode cL_lock 22 = .ok (.iadd, 1) := by decide +kernel
theorem dL_lock_23 : decode cL_lock 23 = .ok (.iaload, 1) := by decide +kernel
theorem dL_lock_24 : decode cL_lock 24 = .ok (.iconst 1, 1) := by decide +kernel
theorem dL_lock_25 : decode cL_lock 25 = .ok (.if_icmp .ne 9, 3) := by decide +kernel
theorem dL_lock_28 : decode cL_lock 28 = .ok (.iload_n 2, 1) := by decide +kernel
theorem dL_lock_29 : decode cL_lock 29 = .ok (.iconst 1, 1) := by decide +kernel
theorem dL_lock_30 : decode cL_lock 30 = .ok (.iadd, 1) := by decide +kernel
theorem dL_lock_31 : decode cL_lock 31 = .ok (.goto 4, 3) := by decide +kernel
theorem dL_lock_34 : decode cL_lock 34 = .ok (.iload_n 2, 1) := by decide +kernel
theorem dL_lock_35 : decode cL_lock 35 = .ok (.ireturn, 1) := by decide +kernel
theorem dL_under_0 : decode cL_under 0 = .ok (.iload_n 1, 1) := by decide +kernel
theorem dL_under_1 : decode cL_under 1 = .ok (.istore_n 3, 1) := by decide +kernel
theorem dL_under_2 : decode cL_under 2 = .ok (.iload_n 3, 1) := by decide +kernel
theorem dL_under_3 : decode cL_under 3 = .ok (.bipush 6, 2) := by decide +kernel
theorem dL_under_5 : decode cL_under 5 = .ok (.if_icmp .ge 25, 3) := by decide +kernel
theorem dL_under_8 : decode cL_under 8 = .ok (.aload_n 0, 1) := by decide +kernel
theorem dL_under_9 : decode cL_under 9 = .ok (.bipush 8, 2) := by decide +kernel
theorem dL_under_11 : decode cL_under 11 = .ok (.iload_n 3, 1) := by decide +kernel
theorem dL_under_12 : decode cL_under 12 = .ok (.iadd, 1) := by decide +kernel
theorem dL_under_13 : decode cL_under 13 = .ok (.iaload, 1) := by decide +kernel
theorem dL_under_14 : decode cL_under 14 = .ok (.iload_n 2, 1) := by decide +kernel
theorem dL_under_15 : decode cL_under 15 = .ok (.if_icmp .ne 5, 3) := by decide +kernel
theorem dL_under_18 : decode cL_under 18 = .ok (.iconst 1, 1) := by decide +kernel
theorem dL_under_19 : decode cL_under 19 = .ok (.ireturn, 1) := by decide +kernel
theorem dL_under_20 : decode cL_under 20 = .ok (.aload_n 0, 1) := by decide +kernel
theorem dL_under_21 : decode cL_under 21 = .ok (.bipush 8, 2) := by decide +kernel
theorem dL_under_23 : decode cL_under 23 = .ok (.iload_n 3, 1) := by decide +kernel
theorem dL_under_24 : decode cL_under 24 = .ok (.iadd, 1) := by decide +kernel
theorem dL_under_25 : decode cL_under 25 = .ok (.iaload, 1) := by decide +kernel
theorem dL_under_26 : decode cL_under 26 = .ok (.istore_n 3, 1) := by decide +kernel
theorem dL_under_27 : decode cL_under 27 = .ok (.goto (-25), 3) := by decide +kernel
theorem dL_under_30 : decode cL_under 30 = .ok (.iconst 0, 1) := by decide +kernel
theorem dL_under_31 : decode cL_under 31 = .ok (.ireturn, 1) := by decide +kernel
theorem dL_come_0 : decode cL_come 0 = .ok (.iconst 1, 1) := by decide +kernel
theorem dL_come_1 : decode cL_come 1 = .ok (.iload_n 1, 1) := by decide +kernel
theorem dL_come_2 : decode cL_come 2 = .ok (.ishl, 1) := by decide +kernel
theorem dL_come_3 : decode cL_come 3 = .ok (.istore_n 3, 1) := by decide +kernel
theorem dL_come_4 : decode cL_come 4 = .ok (.iconst 0, 1) := by decide +kernel
theorem dL_come_5 : decode cL_come 5 = .ok (.istore 4, 2) := by decide +kernel
theorem dL_come_7 : decode cL_come 7 = .ok (.iload 4, 2) := by decide +kernel
theorem dL_come_9 : decode cL_come 9 = .ok (.bipush 7, 2) := by decide +kernel
theorem dL_come_11 : decode cL_come 11 = .ok (.if_icmp .ge 64, 3) := by decide +kernel
theorem dL_come_14 : decode cL_come 14 = .ok (.iconst 0, 1) := by decide +kernel
theorem dL_come_15 : decode cL_come 15 = .ok (.istore 5, 2) := by decide +kernel
theorem dL_come_17 : decode cL_come 17 = .ok (.iload 5, 2) := by decide +kernel
theorem dL_come_19 : decode cL_come 19 = .ok (.aload_n 0, 1) := by decide +kernel
theorem dL_come_20 : decode cL_come 20 = .ok (.iconst 1, 1) := by decide +kernel
theorem dL_come_21 : decode cL_come 21 = .ok (.iaload, 1) := by decide +kernel
theorem dL_come_22 : decode cL_come 22 = .ok (.if_icmp .ge 47, 3) := by decide +kernel
theorem dL_come_25 : decode cL_come 25 = .ok (.iload_n 3, 1) := by decide +kernel
theorem dL_come_26 : decode cL_come 26 = .ok (.aload_n 0, 1) := by decide +kernel
theorem dL_come_27 : decode cL_come 27 = .ok (.bipush 14, 2) := by decide +kernel
theorem dL_come_29 : decode cL_come 29 = .ok (.iload 5, 2) := by decide +kernel
theorem dL_come_31 : decode cL_come 31 = .ok (.iadd, 1) := by decide +kernel
theorem dL_come_32 : decode cL_come 32 = .ok (.iaload, 1) := by decide +kernel
theorem dL_come_33 : decode cL_come 33 = .ok (.ishr, 1) := by decide +kernel
theorem dL_come_34 : decode cL_come 34 = .ok (.iconst 1, 1) := by decide +kernel
theorem dL_come_35 : decode cL_come 35 = .ok (.iand, 1) := by decide +kernel
theorem dL_come_36 : decode cL_come 36 = .ok (.iconst 1, 1) := by decide +kernel
theorem dL_come_37 : decode cL_come 37 = .ok (.if_icmp .ne 26, 3) := by decide +kernel
theorem dL_come_40 : decode cL_come 40 = .ok (.aload_n 0, 1) := by decide +kernel
theorem dL_come_41 : decode cL_come 41 = .ok (.bipush 26, 2) := by decide +kernel
theorem dL_come_43 : decode cL_come 43 = .ok (.iload 5, 2) := by decide +kernel
theorem dL_come_45 : decode cL_come 45 = .ok (.iadd, 1) := by decide +kernel
theorem dL_come_46 : decode cL_come 46 = .ok (.iaload, 1) := by decide +kernel
theorem dL_come_47 : decode cL_come 47 = .ok (.iload_n 2, 1) := by decide +kernel
theorem dL_come_48 : decode cL_come 48 = .ok (.if_icmp .eq 15, 3) := by decide +kernel
theorem dL_come_51 : decode cL_come 51 = .ok (.iload_n 3, 1) := by decide +kernel
theorem dL_come_52 : decode cL_come 52 = .ok (.iconst 1, 1) := by decide +kernel
theorem dL_come_53 : decode cL_come 53 = .ok (.aload_n 0, 1) := by decide +kernel
theorem dL_come_54 : decode cL_come 54 = .ok (.bipush 26, 2) := by decide +kernel
theorem dL_come_56 : decode cL_come 56 = .ok (.iload 5, 2) := by decide +kernel
theorem dL_come_58 : decode cL_come 58 = .ok (.iadd, 1) := by decide +kernel
theorem dL_come_59 : decode cL_come 59 = .ok (.iaload, 1) := by decide +kernel
theorem dL_come_60 : decode cL_come 60 = .ok (.ishl, 1) := by decide +kernel
theorem dL_come_61 : decode cL_come 61 = .ok (.ior, 1) := by decide +kernel
theorem dL_come_62 : decode cL_come 62 = .ok (.istore_n 3, 1) := by decide +kernel
theorem dL_come_63 : decode cL_come 63 = .ok (.iinc 5 1, 3) := by decide +kernel
theorem dL_come_66 : decode cL_come 66 = .ok (.goto (-49), 3) := by decide +kernel
theorem dL_come_69 : decode cL_come 69 = .ok (.iinc 4 1, 3) := by decide +kernel
theorem dL_come_72 : decode cL_come 72 = .ok (.goto (-65), 3) := by decide +kernel
theorem dL_come_75 : decode cL_come 75 = .ok (.iload_n 3, 1) := by decide +kernel
theorem dL_come_76 : decode cL_come 76 = .ok (.ireturn, 1) := by decide +kernel
set_option maxRecDepth 20000 in
theorem ggL_before_L_come : GoodIn wsL_before wsL_come := goodIn_r _ [4] (by decide +kernel) (by decide +kernel)
set_option maxRecDepth 20000 in
theorem gL_before_L_come : GoodIn wsL_before (va_wsS RL 35 yL_come wsL_come) := goodIn_app (goodIn_of _ (by decide +kernel)) ggL_before_L_come
theorem dL_before_0 : decode cL_before 0 = .ok (.aload_n 0, 1) := by decide +kernel
theorem dL_before_1 : decode cL_before 1 = .ok (.bipush 6, 2) := by decide +kernel
theorem dL_before_3 : decode cL_before 3 = .ok (.iconst (-1), 1) := by decide +kernel
theorem dL_before_4 : decode cL_before 4 = .ok (.invokestatic 35, 3) := by decide +kernel
theorem dL_before_7 : decode cL_before 7 = .ok (.iload_n 1, 1) := by decide +kernel
theorem dL_before_8 : decode cL_before 8 = .ok (.ishr, 1) := by decide +kernel
theorem dL_before_9 : decode cL_before 9 = .ok (.iconst 1, 1) := by decide +kernel
theorem dL_before_10 : decode cL_before 10 = .ok (.iand, 1) := by decide +kernel
theorem dL_before_11 : decode cL_before 11 = .ok (.ifCond .ne 5, 3) := by decide +kernel
theorem dL_before_14 : decode cL_before 14 = .ok (.iconst 0, 1) := by decide +kernel
theorem dL_before_15 : decode cL_before 15 = .ok (.ireturn, 1) := by decide +kernel
theorem dL_before_16 : decode cL_before 16 = .ok (.bipush 64, 2) := by decide +kernel
theorem dL_before_18 : decode cL_before 18 = .ok (.istore_n 2, 1) := by decide +kernel
theorem dL_before_19 : decode cL_before 19 = .ok (.iconst 0, 1) := by decide +kernel
theorem dL_before_20 : decode cL_before 20 = .ok (.istore_n 3, 1) := by decide +kernel
theorem dL_before_21 : decode cL_before 21 = .ok (.iload_n 3, 1) := by decide +kernel
theorem dL_before_22 : decode cL_before 22 = .ok (.aload_n 0, 1) := by decide +kernel
theorem dL_before_23 : decode cL_before 23 = .ok (.iconst 0, 1) := by decide +kernel
theorem dL_before_24 : decode cL_before 24 = .ok (.iaload, 1) := by decide +kernel
theorem dL_before_25 : decode cL_before 25 = .ok (.if_icmp .ge 29, 3) := by decide +kernel
theorem dL_before_28 : decode cL_before 28 = .ok (.aload_n 0, 1) := by decide +kernel
theorem dL_before_29 : decode cL_before 29 = .ok (.bipush 6, 2) := by decide +kernel
theorem dL_before_31 : decode cL_before 31 = .ok (.iload_n 3, 1) := by decide +kernel
theorem dL_before_32 : decode cL_before 32 = .ok (.invokestatic 35, 3) := by decide +kernel
theorem dL_before_35 : decode cL_before 35 = .ok (.iload_n 1, 1) := by decide +kernel
theorem dL_before_36 : decode cL_before 36 = .ok (.ishr, 1) := by decide +kernel
theorem dL_before_37 : decode cL_before 37 = .ok (.iconst 1, 1) := by decide +kernel
theorem dL_before_38 : decode cL_before 38 = .ok (.iand, 1) := by decide +kernel
theorem dL_before_39 : decode cL_before 39 = .ok (.ifCond .ne 9, 3) := by decide +kernel
theorem dL_before_42 : decode cL_before 42 = .ok (.iload_n 2, 1) := by decide +kernel
theorem dL_before_43 : decode cL_before 43 = .ok (.iconst 1, 1) := by decide +kernel
theorem dL_before_44 : decode cL_before 44 = .ok (.iload_n 3, 1) := by decide +kernel
theorem dL_before_45 : decode cL_before 45 = .ok (.ishl, 1) := by decide +kernel
theorem dL_before_46 : decode cL_before 46 = .ok (.ior, 1) := by decide +kernel
theorem dL_before_47 : decode cL_before 47 = .ok (.istore_n 2, 1) := by decide +kernel
theorem dL_before_48 : decode cL_before 48 = .ok (.iinc 3 1, 3) := by decide +kernel
theorem dL_before_51 : decode cL_before 51 = .ok (.goto (-30), 3) := by decide +kernel
theorem dL_before_54 : decode cL_before 54 = .ok (.iload_n 2, 1) := by decide +kernel
theorem dL_before_55 : decode cL_before 55 = .ok (.ireturn, 1) := by decide +kernel
set_option maxRecDepth 20000 in
theorem ggL_lawful_L_before : GoodIn wsL_lawful wsL_before := goodIn_r _ [4, 5, 6, 3, 7] (by decide +kernel) (by decide +kernel)
set_option maxRecDepth 20000 in
theorem gL_lawful_L_before : GoodIn wsL_lawful (va_wsS RL 38 yL_before wsL_before) := goodIn_app (goodIn_of _ (by decide +kernel)) ggL_lawful_L_before
theorem dL_lawful_0 : decode cL_lawful 0 = .ok (.aload_n 0, 1) := by decide +kernel
theorem dL_lawful_1 : decode cL_lawful 1 = .ok (.iload_n 1, 1) := by decide +kernel
theorem dL_lawful_2 : decode cL_lawful 2 = .ok (.invokestatic 38, 3) := by decide +kernel
theorem dL_lawful_5 : decode cL_lawful 5 = .ok (.istore_n 2, 1) := by decide +kernel
theorem dL_lawful_6 : decode cL_lawful 6 = .ok (.iload_n 2, 1) := by decide +kernel
theorem dL_lawful_7 : decode cL_lawful 7 = .ok (.ifCond .eq 17, 3) := by decide +kernel
theorem dL_lawful_10 : decode cL_lawful 10 = .ok (.iload_n 2, 1) := by decide +kernel
theorem dL_lawful_11 : decode cL_lawful 11 = .ok (.aload_n 0, 1) := by decide +kernel
theorem dL_lawful_12 : decode cL_lawful 12 = .ok (.bipush 8, 2) := by decide +kernel
theorem dL_lawful_14 : decode cL_lawful 14 = .ok (.iload_n 1, 1) := by decide +kernel
theorem dL_lawful_15 : decode cL_lawful 15 = .ok (.iadd, 1) := by decide +kernel
theorem dL_lawful_16 : decode cL_lawful 16 = .ok (.iaload, 1) := by decide +kernel
theorem dL_lawful_17 : decode cL_lawful 17 = .ok (.ishr, 1) := by decide +kernel
theorem dL_lawful_18 : decode cL_lawful 18 = .ok (.iconst 1, 1) := by decide +kernel
theorem dL_lawful_19 : decode cL_lawful 19 = .ok (.iand, 1) := by decide +kernel
theorem dL_lawful_20 : decode cL_lawful 20 = .ok (.iconst 1, 1) := by decide +kernel
theorem dL_lawful_21 : decode cL_lawful 21 = .ok (.if_icmp .ne 7, 3) := by decide +kernel
theorem dL_lawful_24 : decode cL_lawful 24 = .ok (.iconst 1, 1) := by decide +kernel
theorem dL_lawful_25 : decode cL_lawful 25 = .ok (.goto 4, 3) := by decide +kernel
theorem dL_lawful_28 : decode cL_lawful 28 = .ok (.iconst 0, 1) := by decide +kernel
theorem dL_lawful_29 : decode cL_lawful 29 = .ok (.ireturn, 1) := by decide +kernel
set_option maxRecDepth 20000 in
theorem ggL_unlawful_L_lawful : GoodIn wsL_unlawful wsL_lawful := goodIn_r _ [4, 5, 6, 3, 7, 8, 9, 10] (by decide +kernel) (by decide +kernel)
set_option maxRecDepth 20000 in
theorem gL_unlawful_L_lawful : GoodIn wsL_unlawful (va_wsS RL 41 yL_lawful wsL_lawful) := goodIn_app (goodIn_of _ (by decide +kernel)) ggL_unlawful_L_lawful
theorem dL_unlawful_0 : decode cL_unlawful 0 = .ok (.iconst 0, 1) := by decide +kernel
theorem dL_unlawful_1 : decode cL_unlawful 1 = .ok (.istore_n 1, 1) := by decide +kernel
theorem dL_unlawful_2 : decode cL_unlawful 2 = .ok (.iconst 0, 1) := by decide +kernel
theorem dL_unlawful_3 : decode cL_unlawful 3 = .ok (.istore_n 2, 1) := by decide +kernel
theorem dL_unlawful_4 : decode cL_unlawful 4 = .ok (.iload_n 2, 1) := by decide +kernel
theorem dL_unlawful_5 : decode cL_unlawful 5 = .ok (.aload_n 0, 1) := by decide +kernel
theorem dL_unlawful_6 : decode cL_unlawful 6 = .ok (.iconst 0, 1) := by decide +kernel
theorem dL_unlawful_7 : decode cL_unlawful 7 = .ok (.iaload, 1) := by decide +kernel
theorem dL_unlawful_8 : decode cL_unlawful 8 = .ok (.if_icmp .ge 23, 3) := by decide +kernel
theorem dL_unlawful_11 : decode cL_unlawful 11 = .ok (.aload_n 0, 1) := by decide +kernel
theorem dL_unlawful_12 : decode cL_unlawful 12 = .ok (.iload_n 2, 1) := by decide +kernel
theorem dL_unlawful_13 : decode cL_unlawful 13 = .ok (.invokestatic 41, 3) := by decide +kernel
theorem dL_unlawful_16 : decode cL_unlawful 16 = .ok (.ifCond .ne 9, 3) := by decide +kernel
theorem dL_unlawful_19 : decode cL_unlawful 19 = .ok (.iload_n 1, 1) := by decide +kernel
theorem dL_unlawful_20 : decode cL_unlawful 20 = .ok (.iconst 1, 1) := by decide +kernel
theorem dL_unlawful_21 : decode cL_unlawful 21 = .ok (.iload_n 2, 1) := by decide +kernel
theorem dL_unlawful_22 : decode cL_unlawful 22 = .ok (.ishl, 1) := by decide +kernel
theorem dL_unlawful_23 : decode cL_unlawful 23 = .ok (.ior, 1) := by decide +kernel
theorem dL_unlawful_24 : decode cL_unlawful 24 = .ok (.istore_n 1, 1) := by decide +kernel
theorem dL_unlawful_25 : decode cL_unlawful 25 = .ok (.iinc 2 1, 3) := by decide +kernel
theorem dL_unlawful_28 : decode cL_unlawful 28 = .ok (.goto (-24), 3) := by decide +kernel
theorem dL_unlawful_31 : decode cL_unlawful 31 = .ok (.iload_n 1, 1) := by decide +kernel
theorem dL_unlawful_32 : decode cL_unlawful 32 = .ok (.ireturn, 1) := by decide +kernel
theorem dL_size_0 : decode cL_size 0 = .ok (.iconst 0, 1) := by decide +kernel
theorem dL_size_1 : decode cL_size 1 = .ok (.istore_n 1, 1) := by decide +kernel
theorem dL_size_2 : decode cL_size 2 = .ok (.iload_n 0, 1) := by decide +kernel
theorem dL_size_3 : decode cL_size 3 = .ok (.istore_n 2, 1) := by decide +kernel
theorem dL_size_4 : decode cL_size 4 = .ok (.iload_n 2, 1) := by decide +kernel
theorem dL_size_5 : decode cL_size 5 = .ok (.ifCond .le 15, 3) := by decide +kernel
theorem dL_size_8 : decode cL_size 8 = .ok (.iinc 1 1, 3) := by decide +kernel
theorem dL_size_11 : decode cL_size 11 = .ok (.iload_n 2, 1) := by decide +kernel
theorem dL_size_12 : decode cL_size 12 = .ok (.iload_n 2, 1) := by decide +kernel
theorem dL_size_13 : decode cL_size 13 = .ok (.iconst 1, 1) := by decide +kernel
theorem dL_size_14 : decode cL_size 14 = .ok (.isub, 1) := by decide +kernel
theorem dL_size_15 : decode cL_size 15 = .ok (.iand, 1) := by decide +kernel
theorem dL_size_16 : decode cL_size 16 = .ok (.istore_n 2, 1) := by decide +kernel
theorem dL_size_17 : decode cL_size 17 = .ok (.goto (-13), 3) := by decide +kernel
theorem dL_size_20 : decode cL_size 20 = .ok (.iload_n 1, 1) := by decide +kernel
theorem dL_size_21 : decode cL_size 21 = .ok (.ireturn, 1) := by decide +kernel
set_option maxRecDepth 20000 in
theorem ggL_refer_L_place : GoodIn wsL_refer wsL_place := goodIn_r _ [4] (by decide +kernel) (by decide +kernel)
set_option maxRecDepth 20000 in
theorem gL_refer_L_place : GoodIn wsL_refer (va_wsS RL 28 yL_place wsL_place) := goodIn_app (goodIn_of _ (by decide +kernel)) ggL_refer_L_place
theorem dL_refer_0 : decode cL_refer 0 = .ok (.aload_n 0, 1) := by decide +kernel
theorem dL_refer_1 : decode cL_refer 1 = .ok (.iload_n 1, 1) := by decide +kernel
theorem dL_refer_2 : decode cL_refer 2 = .ok (.iload_n 2, 1) := by decide +kernel
theorem dL_refer_3 : decode cL_refer 3 = .ok (.invokestatic 28, 3) := by decide +kernel
theorem dL_refer_6 : decode cL_refer 6 = .ok (.istore_n 3, 1) := by decide +kernel
theorem dL_refer_7 : decode cL_refer 7 = .ok (.iload_n 3, 1) := by decide +kernel
theorem dL_refer_8 : decode cL_refer 8 = .ok (.ifCond .ge 13, 3) := by decide +kernel
theorem dL_refer_11 : decode cL_refer 11 = .ok (.aload_n 0, 1) := by decide +kernel
theorem dL_refer_12 : decode cL_refer 12 = .ok (.iconst 1, 1) := by decide +kernel
theorem dL_refer_13 : decode cL_refer 13 = .ok (.iaload, 1) := by decide +kernel
theorem dL_refer_14 : decode cL_refer 14 = .ok (.bipush 12, 2) := by decide +kernel
theorem dL_refer_16 : decode cL_refer 16 = .ok (.if_icmp .ne 5, 3) := by decide +kernel
theorem dL_refer_19 : decode cL_refer 19 = .ok (.iconst 0, 1) := by decide +kernel
theorem dL_refer_20 : decode cL_refer 20 = .ok (.ireturn, 1) := by decide +kernel
theorem dL_refer_21 : decode cL_refer 21 = .ok (.iload_n 3, 1) := by decide +kernel
theorem dL_refer_22 : decode cL_refer 22 = .ok (.ifCond .ge 30, 3) := by decide +kernel
theorem dL_refer_25 : decode cL_refer 25 = .ok (.aload_n 0, 1) := by decide +kernel
theorem dL_refer_26 : decode cL_refer 26 = .ok (.bipush 14, 2) := by decide +kernel
theorem dL_refer_28 : decode cL_refer 28 = .ok (.aload_n 0, 1) := by decide +kernel
theorem dL_refer_29 : decode cL_refer 29 = .ok (.iconst 1, 1) := by decide +kernel
theorem dL_refer_30 : decode cL_refer 30 = .ok (.iaload, 1) := by decide +kernel
theorem dL_refer_31 : decode cL_refer 31 = .ok (.iadd, 1) := by decide +kernel
theorem dL_refer_32 : decode cL_refer 32 = .ok (.iload_n 1, 1) := by decide +kernel
theorem dL_refer_33 : decode cL_refer 33 = .ok (.iastore, 1) := by decide +kernel
theorem dL_refer_34 : decode cL_refer 34 = .ok (.aload_n 0, 1) := by decide +kernel
theorem dL_refer_35 : decode cL_refer 35 = .ok (.bipush 26, 2) := by decide +kernel
theorem dL_refer_37 : decode cL_refer 37 = .ok (.aload_n 0, 1) := by decide +kernel
theorem dL_refer_38 : decode cL_refer 38 = .ok (.iconst 1, 1) := by decide +kernel
theorem dL_refer_39 : decode cL_refer 39 = .ok (.iaload, 1) := by decide +kernel
theorem dL_refer_40 : decode cL_refer 40 = .ok (.iadd, 1) := by decide +kernel
theorem dL_refer_41 : decode cL_refer 41 = .ok (.iload_n 2, 1) := by decide +kernel
theorem dL_refer_42 : decode cL_refer 42 = .ok (.iastore, 1) := by decide +kernel
theorem dL_refer_43 : decode cL_refer 43 = .ok (.aload_n 0, 1) := by decide +kernel
theorem dL_refer_44 : decode cL_refer 44 = .ok (.iconst 1, 1) := by decide +kernel
theorem dL_refer_45 : decode cL_refer 45 = .ok (.dup2, 1) := by decide +kernel
theorem dL_refer_46 : decode cL_refer 46 = .ok (.iaload, 1) := by decide +kernel
theorem dL_refer_47 : decode cL_refer 47 = .ok (.iconst 1, 1) := by decide +kernel
theorem dL_refer_48 : decode cL_refer 48 = .ok (.iadd, 1) := by decide +kernel
theorem dL_refer_49 : decode cL_refer 49 = .ok (.iastore, 1) := by decide +kernel
theorem dL_refer_50 : decode cL_refer 50 = .ok (.iconst 1, 1) := by decide +kernel
theorem dL_refer_51 : decode cL_refer 51 = .ok (.ireturn, 1) := by decide +kernel
theorem dL_refer_52 : decode cL_refer 52 = .ok (.aload_n 0, 1) := by decide +kernel
theorem dL_refer_53 : decode cL_refer 53 = .ok (.iconst 1, 1) := by decide +kernel
theorem dL_refer_54 : decode cL_refer 54 = .ok (.dup2, 1) := by decide +kernel
theorem dL_refer_55 : decode cL_refer 55 = .ok (.iaload, 1) := by decide +kernel
theorem dL_refer_56 : decode cL_refer 56 = .ok (.iconst 1, 1) := by decide +kernel
theorem dL_refer_57 : decode cL_refer 57 = .ok (.isub, 1) := by decide +kernel
theorem dL_refer_58 : decode cL_refer 58 = .ok (.iastore, 1) := by decide +kernel
theorem dL_refer_59 : decode cL_refer 59 = .ok (.iload_n 3, 1) := by decide +kernel
theorem dL_refer_60 : decode cL_refer 60 = .ok (.istore 4, 2) := by decide +kernel
theorem dL_refer_62 : decode cL_refer 62 = .ok (.iload 4, 2) := by decide +kernel
theorem dL_refer_64 : decode cL_refer 64 = .ok (.aload_n 0, 1) := by decide +kernel
theorem dL_refer_65 : decode cL_refer 65 = .ok (.iconst 1, 1) := by decide +kernel
theorem dL_refer_66 : decode cL_refer 66 = .ok (.iaload, 1) := by decide +kernel
theorem dL_refer_67 : decode cL_refer 67 = .ok (.if_icmp .ge 37, 3) := by decide +kernel
theorem dL_refer_70 : decode cL_refer 70 = .ok (.aload_n 0, 1) := by decide +kernel
theorem dL_refer_71 : decode cL_refer 71 = .ok (.bipush 14, 2) := by decide +kernel
theorem dL_refer_73 : decode cL_refer 73 = .ok (.iload 4, 2) := by decide +kernel
theorem dL_refer_75 : decode cL_refer 75 = .ok (.iadd, 1) := by decide +kernel
theorem dL_refer_76 : decode cL_refer 76 = .ok (.aload_n 0, 1) := by decide +kernel
theorem dL_refer_77 : decode cL_refer 77 = .ok (.bipush 15, 2) := by decide +kernel
theorem dL_refer_79 : decode cL_refer 79 = .ok (.iload 4, 2) := by decide +kernel
theorem dL_refer_81 : decode cL_refer 81 = .ok (.iadd, 1) := by decide +kernel
theorem dL_refer_82 : decode cL_refer 82 = .ok (.iaload, 1) := by decide +kernel
theorem dL_refer_83 : decode cL_refer 83 = .ok (.iastore, 1) := by decide +kernel
theorem dL_refer_84 : decode cL_refer 84 = .ok (.aload_n 0, 1) := by decide +kernel
theorem dL_refer_85 : decode cL_refer 85 = .ok (.bipush 26, 2) := by decide +kernel
theorem dL_refer_87 : decode cL_refer 87 = .ok (.iload 4, 2) := by decide +kernel
theorem dL_refer_89 : decode cL_refer 89 = .ok (.iadd, 1) := by decide +kernel
theorem dL_refer_90 : decode cL_refer 90 = .ok (.aload_n 0, 1) := by decide +kernel
theorem dL_refer_91 : decode cL_refer 91 = .ok (.bipush 27, 2) := by decide +kernel
theorem dL_refer_93 : decode cL_refer 93 = .ok (.iload 4, 2) := by decide +kernel
theorem dL_refer_95 : decode cL_refer 95 = .ok (.iadd, 1) := by decide +kernel
theorem dL_refer_96 : decode cL_refer 96 = .ok (.iaload, 1) := by decide +kernel
theorem dL_refer_97 : decode cL_refer 97 = .ok (.iastore, 1) := by decide +kernel
theorem dL_refer_98 : decode cL_refer 98 = .ok (.iinc 4 1, 3) := by decide +kernel
theorem dL_refer_101 : decode cL_refer 101 = .ok (.goto (-39), 3) := by decide +kernel
theorem dL_refer_104 : decode cL_refer 104 = .ok (.iconst 1, 1) := by decide +kernel
theorem dL_refer_105 : decode cL_refer 105 = .ok (.ireturn, 1) := by decide +kernel
set_option maxRecDepth 20000 in
theorem ggL_hand_L_under : GoodIn wsL_hand wsL_under := goodIn_r _ [4] (by decide +kernel) (by decide +kernel)
set_option maxRecDepth 20000 in
theorem gL_hand_L_under : GoodIn wsL_hand (va_wsS RL 45 yL_under wsL_under) := goodIn_app (goodIn_of _ (by decide +kernel)) ggL_hand_L_under
theorem dL_hand_0 : decode cL_hand 0 = .ok (.iconst 0, 1) := by decide +kernel
theorem dL_hand_1 : decode cL_hand 1 = .ok (.istore_n 3, 1) := by decide +kernel
theorem dL_hand_2 : decode cL_hand 2 = .ok (.iconst 0, 1) := by decide +kernel
theorem dL_hand_3 : decode cL_hand 3 = .ok (.istore 4, 2) := by decide +kernel
theorem dL_hand_5 : decode cL_hand 5 = .ok (.iconst 0, 1) := by decide +kernel
theorem dL_hand_6 : decode cL_hand 6 = .ok (.istore 5, 2) := by decide +kernel
theorem dL_hand_8 : decode cL_hand 8 = .ok (.iload 5, 2) := by decide +kernel
theorem dL_hand_10 : decode cL_hand 10 = .ok (.aload_n 0, 1) := by decide +kernel
theorem dL_hand_11 : decode cL_hand 11 = .ok (.iconst 1, 1) := by decide +kernel
theorem dL_hand_12 : decode cL_hand 12 = .ok (.iaload, 1) := by decide +kernel
theorem dL_hand_13 : decode cL_hand 13 = .ok (.if_icmp .ge 30, 3) := by decide +kernel
theorem dL_hand_16 : decode cL_hand 16 = .ok (.aload_n 0, 1) := by decide +kernel
theorem dL_hand_17 : decode cL_hand 17 = .ok (.bipush 26, 2) := by decide +kernel
theorem dL_hand_19 : decode cL_hand 19 = .ok (.iload 5, 2) := by decide +kernel
theorem dL_hand_21 : decode cL_hand 21 = .ok (.iadd, 1) := by decide +kernel
theorem dL_hand_22 : decode cL_hand 22 = .ok (.iaload, 1) := by decide +kernel
theorem dL_hand_23 : decode cL_hand 23 = .ok (.iload_n 1, 1) := by decide +kernel
theorem dL_hand_24 : decode cL_hand 24 = .ok (.if_icmp .eq 6, 3) := by decide +kernel
theorem dL_hand_27 : decode cL_hand 27 = .ok (.goto 10, 3) := by decide +kernel
theorem dL_hand_30 : decode cL_hand 30 = .ok (.iinc 3 1, 3) := by decide +kernel
theorem dL_hand_33 : decode cL_hand 33 = .ok (.iload 5, 2) := by decide +kernel
theorem dL_hand_35 : decode cL_hand 35 = .ok (.istore 4, 2) := by decide +kernel
theorem dL_hand_37 : decode cL_hand 37 = .ok (.iinc 5 1, 3) := by decide +kernel
theorem dL_hand_40 : decode cL_hand 40 = .ok (.goto (-32), 3) := by decide +kernel
theorem dL_hand_43 : decode cL_hand 43 = .ok (.aload_n 0, 1) := by decide +kernel
theorem dL_hand_44 : decode cL_hand 44 = .ok (.iload_n 2, 1) := by decide +kernel
theorem dL_hand_45 : decode cL_hand 45 = .ok (.iload_n 1, 1) := by decide +kernel
theorem dL_hand_46 : decode cL_hand 46 = .ok (.invokestatic 45, 3) := by decide +kernel
theorem dL_hand_49 : decode cL_hand 49 = .ok (.ifCond .ne 19, 3) := by decide +kernel
theorem dL_hand_52 : decode cL_hand 52 = .ok (.iload_n 3, 1) := by decide +kernel
theorem dL_hand_53 : decode cL_hand 53 = .ok (.iconst 1, 1) := by decide +kernel
theorem dL_hand_54 : decode cL_hand 54 = .ok (.if_icmp .ne 14, 3) := by decide +kernel
theorem dL_hand_57 : decode cL_hand 57 = .ok (.aload_n 0, 1) := by decide +kernel
theorem dL_hand_58 : decode cL_hand 58 = .ok (.bipush 14, 2) := by decide +kernel
theorem dL_hand_60 : decode cL_hand 60 = .ok (.iload 4, 2) := by decide +kernel
theorem dL_hand_62 : decode cL_hand 62 = .ok (.iadd, 1) := by decide +kernel
theorem dL_hand_63 : decode cL_hand 63 = .ok (.iaload, 1) := by decide +kernel
theorem dL_hand_64 : decode cL_hand 64 = .ok (.iload_n 2, 1) := by decide +kernel
theorem dL_hand_65 : decode cL_hand 65 = .ok (.if_icmp .ne 6, 3) := by decide +kernel
theorem dL_hand_68 : decode cL_hand 68 = .ok (.bipush (-9), 2) := by decide +kernel
theorem dL_hand_70 : decode cL_hand 70 = .ok (.ireturn, 1) := by decide +kernel
theorem dL_hand_71 : decode cL_hand 71 = .ok (.aload_n 0, 1) := by decide +kernel
theorem dL_hand_72 : decode cL_hand 72 = .ok (.bipush 14, 2) := by decide +kernel
theorem dL_hand_74 : decode cL_hand 74 = .ok (.iload 4, 2) := by decide +kernel
theorem dL_hand_76 : decode cL_hand 76 = .ok (.iadd, 1) := by decide +kernel
theorem dL_hand_77 : decode cL_hand 77 = .ok (.iaload, 1) := by decide +kernel
theorem dL_hand_78 : decode cL_hand 78 = .ok (.istore 5, 2) := by decide +kernel
theorem dL_hand_80 : decode cL_hand 80 = .ok (.aload_n 0, 1) := by decide +kernel
theorem dL_hand_81 : decode cL_hand 81 = .ok (.bipush 14, 2) := by decide +kernel
theorem dL_hand_83 : decode cL_hand 83 = .ok (.iload 4, 2) := by decide +kernel
theorem dL_hand_85 : decode cL_hand 85 = .ok (.iadd, 1) := by decide +kernel
theorem dL_hand_86 : decode cL_hand 86 = .ok (.iload_n 2, 1) := by decide +kernel
theorem dL_hand_87 : decode cL_hand 87 = .ok (.iastore, 1) := by decide +kernel
theorem dL_hand_88 : decode cL_hand 88 = .ok (.aload_n 0, 1) := by decide +kernel
theorem dL_hand_89 : decode cL_hand 89 = .ok (.bipush 8, 2) := by decide +kernel
theorem dL_hand_91 : decode cL_hand 91 = .ok (.iload_n 1, 1) := by decide +kernel
theorem dL_hand_92 : decode cL_hand 92 = .ok (.iadd, 1) := by decide +kernel
theorem dL_hand_93 : decode cL_hand 93 = .ok (.iload_n 2, 1) := by decide +kernel
theorem dL_hand_94 : decode cL_hand 94 = .ok (.iastore, 1) := by decide +kernel
theorem dL_hand_95 : decode cL_hand 95 = .ok (.iload 5, 2) := by decide +kernel
theorem dL_hand_97 : decode cL_hand 97 = .ok (.ireturn, 1) := by decide +kernel
set_option maxRecDepth 20000 in
theorem ggL_change_L_some : GoodIn wsL_change wsL_some := goodIn_r _ [4, 5] (by decide +kernel) (by decide +kernel)
set_option maxRecDepth 20000 in
theorem gL_change_L_some : GoodIn wsL_change (va_wsS RL 15 yL_some wsL_some) := goodIn_app (goodIn_of _ (by decide +kernel)) ggL_change_L_some
set_option maxRecDepth 20000 in
theorem ggL_change_X4_refer : GoodIn wsL_change wsX4_refer := goodIn_r _ [10, 11, 12, 13, 14, 15, 16, 17, 18, 19, 20, 21, 22, 23, 24, 25, 26, 27, 28, 29, 30, 31, 32, 33, 34, 35, 36, 37, 38, 39, 40, 78, 79, 80, 81, 82, 83, 84, 85, 86, 87, 88, 89, 90, 91] (by decide +kernel) (by decide +kernel)
set_option maxRecDepth 20000 in
theorem gL_change_X4_refer : GoodIn wsL_change (wsV RL 49 RX4 yX4_refer wsX4_refer) := goodIn_app (goodIn_of _ (by decide +kernel)) ggL_change_X4_refer
set_option maxRecDepth 20000 in
theorem ggL_change_X4_own : GoodIn wsL_change wsX4_own := goodIn_r _ [44, 11, 45, 46, 47, 15, 48, 49, 23, 24, 25, 26, 22, 18, 19, 20, 21, 50, 51, 52, 53, 78, 79, 80, 81, 82, 83, 84, 85, 86, 87, 88, 89, 90, 91] (by decide +kernel) (by decide +kernel)
set_option maxRecDepth 20000 in
theorem gL_change_X4_own : GoodIn wsL_change (wsV RL 52 RX4 yX4_own wsX4_own) := goodIn_app (goodIn_of _ (by decide +kernel)) ggL_change_X4_own
set_option maxRecDepth 20000 in
theorem ggL_change_X4_hand : GoodIn wsL_change wsX4_hand := goodIn_r _ [57, 11, 58, 59, 60, 15, 61, 31, 49, 23, 24, 25, 26, 22, 62, 63, 64, 65, 17, 32, 50, 51, 52, 53, 78, 79, 80, 81, 82, 83, 84, 85, 86, 87, 88, 89, 90, 91] (by decide +kernel) (by decide +kernel)
set_option maxRecDepth 20000 in
theorem gL_change_X4_hand : GoodIn wsL_change (wsV RL 55 RX4 yX4_hand wsX4_hand) := goodIn_app (goodIn_of _ (by decide +kernel)) ggL_change_X4_hand
set_option maxRecDepth 20000 in
theorem ggL_change_L_refer : GoodIn wsL_change wsL_refer := goodIn_r _ [68, 69, 70, 3, 71] (by decide +kernel) (by decide +kernel)
set_option maxRecDepth 20000 in
theorem gL_change_L_refer : GoodIn wsL_change (va_wsS RL 58 yL_refer wsL_refer) := goodIn_app (goodIn_of _ (by decide +kernel)) ggL_change_L_refer
set_option maxRecDepth 20000 in
theorem ggL_change_L_under : GoodIn wsL_change wsL_under := goodIn_r _ [74] (by decide +kernel) (by decide +kernel)
set_option maxRecDepth 20000 in
theorem gL_change_L_under : GoodIn wsL_change (va_wsS RL 45 yL_under wsL_under) := goodIn_app (goodIn_of _ (by decide +kernel)) ggL_change_L_under
set_option maxRecDepth 20000 in
theorem ggL_change_L_hand : GoodIn wsL_change wsL_hand := goodIn_r _ [77, 72, 73, 3, 74] (by decide +kernel) (by decide +kernel)
set_option maxRecDepth 20000 in
theorem gL_change_L_hand : GoodIn wsL_change (va_wsS RL 60 yL_hand wsL_hand) := goodIn_app (goodIn_of _ (by decide +kernel)) ggL_change_L_hand
theorem dL_change_0 : decode cL_change 0 = .ok (.iconst 0, 1) := by decide +kernel
theorem dL_change_1 : decode cL_change 1 = .ok (.istore_n 3, 1) := by decide +kernel
theorem dL_change_2 : decode cL_change 2 = .ok (.iload_n 3, 1) := by decide +kernel
theorem dL_change_3 : decode cL_change 3 = .ok (.iconst 2, 1) := by decide +kernel
theorem dL_change_4 : decode cL_change 4 = .ok (.if_icmp .ge 139, 3) := by decide +kernel
theorem dL_change_7 : decode cL_change 7 = .ok (.aload_n 2, 1) := by decide +kernel
theorem dL_change_8 : decode cL_change 8 = .ok (.iconst 0, 1) := by decide +kernel
theorem dL_change_9 : decode cL_change 9 = .ok (.iaload, 1) := by decide +kernel
theorem dL_change_10 : decode cL_change 10 = .ok (.ifCond .le 133, 3) := by decide +kernel
theorem dL_change_13 : decode cL_change 13 = .ok (.iload_n 1, 1) := by decide +kernel
theorem dL_change_14 : decode cL_change 14 = .ok (.iconst 1, 1) := by decide +kernel
theorem dL_change_15 : decode cL_change 15 = .ok (.iload_n 3, 1) := by decide +kernel
theorem dL_change_16 : decode cL_change 16 = .ok (.iadd, 1) := by decide +kernel
theorem dL_change_17 : decode cL_change 17 = .ok (.ishr, 1) := by decide +kernel
theorem dL_change_18 : decode cL_change 18 = .ok (.aload_n 2, 1) := by decide +kernel
theorem dL_change_19 : decode cL_change 19 = .ok (.iconst 0, 1) := by decide +kernel
theorem dL_change_20 : decode cL_change 20 = .ok (.iaload, 1) := by decide +kernel
theorem dL_change_21 : decode cL_change 21 = .ok (.invokestatic 15, 3) := by decide +kernel
theorem dL_change_24 : decode cL_change 24 = .ok (.istore 4, 2) := by decide +kernel
theorem dL_change_26 : decode cL_change 26 = .ok (.iload_n 1, 1) := by decide +kernel
theorem dL_change_27 : decode cL_change 27 = .ok (.iconst 3, 1) := by decide +kernel
theorem dL_change_28 : decode cL_change 28 = .ok (.iload_n 3, 1) := by decide +kernel
theorem dL_change_29 : decode cL_change 29 = .ok (.iadd, 1) := by decide +kernel
theorem dL_change_30 : decode cL_change 30 = .ok (.ishr, 1) := by decide +kernel
theorem dL_change_31 : decode cL_change 31 = .ok (.iconst 3, 1) := by decide +kernel
theorem dL_change_32 : decode cL_change 32 = .ok (.invokestatic 15, 3) := by decide +kernel
theorem dL_change_35 : decode cL_change 35 = .ok (.ifCond .ne 8, 3) := by decide +kernel
theorem dL_change_38 : decode cL_change 38 = .ok (.bipush 6, 2) := by decide +kernel
theorem dL_change_40 : decode cL_change 40 = .ok (.goto 14, 3) := by decide +kernel
theorem dL_change_43 : decode cL_change 43 = .ok (.iload_n 1, 1) := by decide +kernel
theorem dL_change_44 : decode cL_change 44 = .ok (.iconst 4, 1) := by decide +kernel
theorem dL_change_45 : decode cL_change 45 = .ok (.iload_n 3, 1) := by decide +kernel
theorem dL_change_46 : decode cL_change 46 = .ok (.iadd, 1) := by decide +kernel
theorem dL_change_47 : decode cL_change 47 = .ok (.ishr, 1) := by decide +kernel
theorem dL_change_48 : decode cL_change 48 = .ok (.aload_n 2, 1) := by decide +kernel
theorem dL_change_49 : decode cL_change 49 = .ok (.iconst 0, 1) := by decide +kernel
theorem dL_change_50 : decode cL_change 50 = .ok (.iaload, 1) := by decide +kernel
theorem dL_change_51 : decode cL_change 51 = .ok (.invokestatic 15, 3) := by decide +kernel
theorem dL_change_54 : decode cL_change 54 = .ok (.istore 5, 2) := by decide +kernel
theorem dL_change_56 : decode cL_change 56 = .ok (.iload 5, 2) := by decide +kernel
theorem dL_change_58 : decode cL_change 58 = .ok (.iload 4, 2) := by decide +kernel
theorem dL_change_60 : decode cL_change 60 = .ok (.if_icmp .ne 41, 3) := by decide +kernel
theorem dL_change_63 : decode cL_change 63 = .ok (.aload_n 0, 1) := by decide +kernel
theorem dL_change_64 : decode cL_change 64 = .ok (.iload 5, 2) := by decide +kernel
theorem dL_change_66 : decode cL_change 66 = .ok (.iload 4, 2) := by decide +kernel
theorem dL_change_68 : decode cL_change 68 = .ok (.invokevirtual 49, 3) := by decide +kernel
theorem dL_change_71 : decode cL_change 71 = .ok (.iconst (-1), 1) := by decide +kernel
theorem dL_change_72 : decode cL_change 72 = .ok (.if_icmp .ne 27, 3) := by decide +kernel
theorem dL_change_75 : decode cL_change 75 = .ok (.aload_n 0, 1) := by decide +kernel
theorem dL_change_76 : decode cL_change 76 = .ok (.iload 5, 2) := by decide +kernel
theorem dL_change_78 : decode cL_change 78 = .ok (.iload 4, 2) := by decide +kernel
theorem dL_change_80 : decode cL_change 80 = .ok (.invokevirtual 52, 3) := by decide +kernel
theorem dL_change_83 : decode cL_change 83 = .ok (.iconst (-1), 1) := by decide +kernel
theorem dL_change_84 : decode cL_change 84 = .ok (.if_icmp .ne 15, 3) := by decide +kernel
theorem dL_change_87 : decode cL_change 87 = .ok (.aload_n 0, 1) := by decide +kernel
theorem dL_change_88 : decode cL_change 88 = .ok (.iload 5, 2) := by decide +kernel
theorem dL_change_90 : decode cL_change 90 = .ok (.iload 4, 2) := by decide +kernel
theorem dL_change_92 : decode cL_change 92 = .ok (.invokevirtual 55, 3) := by decide +kernel
theorem dL_change_95 : decode cL_change 95 = .ok (.iconst (-1), 1) := by decide +kernel
theorem dL_change_96 : decode cL_change 96 = .ok (.if_icmp .eq 41, 3) := by decide +kernel
theorem dL_change_99 : decode cL_change 99 = .ok (.iconst 0, 1) := by decide +kernel
theorem dL_change_100 : decode cL_change 100 = .ok (.ireturn, 1) := by decide +kernel
theorem dL_change_101 : decode cL_change 101 = .ok (.aload_n 2, 1) := by decide +kernel
theorem dL_change_102 : decode cL_change 102 = .ok (.iload 5, 2) := by decide +kernel
theorem dL_change_104 : decode cL_change 104 = .ok (.iload 4, 2) := by decide +kernel
theorem dL_change_106 : decode cL_change 106 = .ok (.invokestatic 58, 3) := by decide +kernel
theorem dL_change_109 : decode cL_change 109 = .ok (.istore 6, 2) := by decide +kernel
theorem dL_change_111 : decode cL_change 111 = .ok (.aload_n 0, 1) := by decide +kernel
theorem dL_change_112 : decode cL_change 112 = .ok (.iload 5, 2) := by decide +kernel
theorem dL_change_114 : decode cL_change 114 = .ok (.iload 4, 2) := by decide +kernel
theorem dL_change_116 : decode cL_change 116 = .ok (.invokevirtual 49, 3) := by decide +kernel
theorem dL_change_119 : decode cL_change 119 = .ok (.iload 6, 2) := by decide +kernel
theorem dL_change_121 : decode cL_change 121 = .ok (.ifCond .eq 9, 3) := by decide +kernel
theorem dL_change_124 : decode cL_change 124 = .ok (.aload_n 2, 1) := by decide +kernel
theorem dL_change_125 : decode cL_change 125 = .ok (.iconst 1, 1) := by decide +kernel
theorem dL_change_126 : decode cL_change 126 = .ok (.iaload, 1) := by decide +kernel
theorem dL_change_127 : decode cL_change 127 = .ok (.goto 5, 3) := by decide +kernel
theorem dL_change_130 : decode cL_change 130 = .ok (.bipush (-4), 2) := by decide +kernel
theorem dL_change_132 : decode cL_change 132 = .ok (.if_icmp .eq 5, 3) := by decide +kernel
theorem dL_change_135 : decode cL_change 135 = .ok (.iconst 0, 1) := by decide +kernel
theorem dL_change_136 : decode cL_change 136 = .ok (.ireturn, 1) := by decide +kernel
theorem dL_change_137 : decode cL_change 137 = .ok (.iinc 3 1, 3) := by decide +kernel
theorem dL_change_140 : decode cL_change 140 = .ok (.goto (-138), 3) := by decide +kernel
theorem dL_change_143 : decode cL_change 143 = .ok (.iload_n 1, 1) := by decide +kernel
theorem dL_change_144 : decode cL_change 144 = .ok (.iconst 5, 1) := by decide +kernel
theorem dL_change_145 : decode cL_change 145 = .ok (.ishr, 1) := by decide +kernel
theorem dL_change_146 : decode cL_change 146 = .ok (.aload_n 2, 1) := by decide +kernel
theorem dL_change_147 : decode cL_change 147 = .ok (.iconst 0, 1) := by decide +kernel
theorem dL_change_148 : decode cL_change 148 = .ok (.iaload, 1) := by decide +kernel
theorem dL_change_149 : decode cL_change 149 = .ok (.invokestatic 15, 3) := by decide +kernel
theorem dL_change_152 : decode cL_change 152 = .ok (.istore_n 3, 1) := by decide +kernel
theorem dL_change_153 : decode cL_change 153 = .ok (.iload_n 1, 1) := by decide +kernel
theorem dL_change_154 : decode cL_change 154 = .ok (.bipush 6, 2) := by decide +kernel
theorem dL_change_156 : decode cL_change 156 = .ok (.ishr, 1) := by decide +kernel
theorem dL_change_157 : decode cL_change 157 = .ok (.iconst 3, 1) := by decide +kernel
theorem dL_change_158 : decode cL_change 158 = .ok (.invokestatic 15, 3) := by decide +kernel
theorem dL_change_161 : decode cL_change 161 = .ok (.ifCond .ne 8, 3) := by decide +kernel
theorem dL_change_164 : decode cL_change 164 = .ok (.bipush 6, 2) := by decide +kernel
theorem dL_change_166 : decode cL_change 166 = .ok (.goto 13, 3) := by decide +kernel
theorem dL_change_169 : decode cL_change 169 = .ok (.iload_n 1, 1) := by decide +kernel
theorem dL_change_170 : decode cL_change 170 = .ok (.bipush 7, 2) := by decide +kernel
theorem dL_change_172 : decode cL_change 172 = .ok (.ishr, 1) := by decide +kernel
theorem dL_change_173 : decode cL_change 173 = .ok (.aload_n 2, 1) := by decide +kernel
theorem dL_change_174 : decode cL_change 174 = .ok (.iconst 0, 1) := by decide +kernel
theorem dL_change_175 : decode cL_change 175 = .ok (.iaload, 1) := by decide +kernel
theorem dL_change_176 : decode cL_change 176 = .ok (.invokestatic 15, 3) := by decide +kernel
theorem dL_change_179 : decode cL_change 179 = .ok (.istore 4, 2) := by decide +kernel
theorem dL_change_181 : decode cL_change 181 = .ok (.iload_n 3, 1) := by decide +kernel
theorem dL_change_182 : decode cL_change 182 = .ok (.iload 4, 2) := by decide +kernel
theorem dL_change_184 : decode cL_change 184 = .ok (.if_icmp .ne 5, 3) := by decide +kernel
theorem dL_change_187 : decode cL_change 187 = .ok (.iconst 1, 1) := by decide +kernel
theorem dL_change_188 : decode cL_change 188 = .ok (.ireturn, 1) := by decide +kernel
theorem dL_change_189 : decode cL_change 189 = .ok (.iload_n 1, 1) := by decide +kernel
theorem dL_change_190 : decode cL_change 190 = .ok (.bipush 9, 2) := by decide +kernel
theorem dL_change_192 : decode cL_change 192 = .ok (.ishr, 1) := by decide +kernel
theorem dL_change_193 : decode cL_change 193 = .ok (.iconst 2, 1) := by decide +kernel
theorem dL_change_194 : decode cL_change 194 = .ok (.invokestatic 15, 3) := by decide +kernel
theorem dL_change_197 : decode cL_change 197 = .ok (.ifCond .ne 70, 3) := by decide +kernel
theorem dL_change_200 : decode cL_change 200 = .ok (.iload 4, 2) := by decide +kernel
theorem dL_change_202 : decode cL_change 202 = .ok (.bipush 6, 2) := by decide +kernel
theorem dL_change_204 : decode cL_change 204 = .ok (.if_icmp .eq 13, 3) := by decide +kernel
theorem dL_change_207 : decode cL_change 207 = .ok (.aload_n 2, 1) := by decide +kernel
theorem dL_change_208 : decode cL_change 208 = .ok (.iload 4, 2) := by decide +kernel
theorem dL_change_210 : decode cL_change 210 = .ok (.iload_n 3, 1) := by decide +kernel
theorem dL_change_211 : decode cL_change 211 = .ok (.invokestatic 45, 3) := by decide +kernel
theorem dL_change_214 : decode cL_change 214 = .ok (.ifCond .ne 7, 3) := by decide +kernel
theorem dL_change_217 : decode cL_change 217 = .ok (.iconst 1, 1) := by decide +kernel
theorem dL_change_218 : decode cL_change 218 = .ok (.goto 4, 3) := by decide +kernel
theorem dL_change_221 : decode cL_change 221 = .ok (.iconst 0, 1) := by decide +kernel
theorem dL_change_222 : decode cL_change 222 = .ok (.istore 5, 2) := by decide +kernel
theorem dL_change_224 : decode cL_change 224 = .ok (.aload_n 0, 1) := by decide +kernel
theorem dL_change_225 : decode cL_change 225 = .ok (.iload_n 3, 1) := by decide +kernel
theorem dL_change_226 : decode cL_change 226 = .ok (.iload 4, 2) := by decide +kernel
theorem dL_change_228 : decode cL_change 228 = .ok (.invokevirtual 52, 3) := by decide +kernel
theorem dL_change_231 : decode cL_change 231 = .ok (.iload 5, 2) := by decide +kernel
theorem dL_change_233 : decode cL_change 233 = .ok (.ifCond .eq 12, 3) := by decide +kernel
theorem dL_change_236 : decode cL_change 236 = .ok (.aload_n 2, 1) := by decide +kernel
theorem dL_change_237 : decode cL_change 237 = .ok (.bipush 8, 2) := by decide +kernel
theorem dL_change_239 : decode cL_change 239 = .ok (.iload_n 3, 1) := by decide +kernel
theorem dL_change_240 : decode cL_change 240 = .ok (.iadd, 1) := by decide +kernel
theorem dL_change_241 : decode cL_change 241 = .ok (.iaload, 1) := by decide +kernel
theorem dL_change_242 : decode cL_change 242 = .ok (.goto 5, 3) := by decide +kernel
theorem dL_change_245 : decode cL_change 245 = .ok (.bipush (-3), 2) := by decide +kernel
theorem dL_change_247 : decode cL_change 247 = .ok (.if_icmp .eq 5, 3) := by decide +kernel
theorem dL_change_250 : decode cL_change 250 = .ok (.iconst 0, 1) := by decide +kernel
theorem dL_change_251 : decode cL_change 251 = .ok (.ireturn, 1) := by decide +kernel
theorem dL_change_252 : decode cL_change 252 = .ok (.iload 5, 2) := by decide +kernel
theorem dL_change_254 : decode cL_change 254 = .ok (.ifCond .eq 11, 3) := by decide +kernel
theorem dL_change_257 : decode cL_change 257 = .ok (.aload_n 2, 1) := by decide +kernel
theorem dL_change_258 : decode cL_change 258 = .ok (.bipush 8, 2) := by decide +kernel
theorem dL_change_260 : decode cL_change 260 = .ok (.iload_n 3, 1) := by decide +kernel
theorem dL_change_261 : decode cL_change 261 = .ok (.iadd, 1) := by decide +kernel
theorem dL_change_262 : decode cL_change 262 = .ok (.iload 4, 2) := by decide +kernel
theorem dL_change_264 : decode cL_change 264 = .ok (.iastore, 1) := by decide +kernel
theorem dL_change_265 : decode cL_change 265 = .ok (.iconst 1, 1) := by decide +kernel
theorem dL_change_266 : decode cL_change 266 = .ok (.ireturn, 1) := by decide +kernel
theorem dL_change_267 : decode cL_change 267 = .ok (.iload 4, 2) := by decide +kernel
theorem dL_change_269 : decode cL_change 269 = .ok (.bipush 6, 2) := by decide +kernel
theorem dL_change_271 : decode cL_change 271 = .ok (.if_icmp .ne 20, 3) := by decide +kernel
theorem dL_change_274 : decode cL_change 274 = .ok (.aload_n 0, 1) := by decide +kernel
theorem dL_change_275 : decode cL_change 275 = .ok (.iload_n 3, 1) := by decide +kernel
theorem dL_change_276 : decode cL_change 276 = .ok (.iload 4, 2) := by decide +kernel
theorem dL_change_278 : decode cL_change 278 = .ok (.invokevirtual 55, 3) := by decide +kernel
theorem dL_change_281 : decode cL_change 281 = .ok (.iconst (-1), 1) := by decide +kernel
theorem dL_change_282 : decode cL_change 282 = .ok (.if_icmp .ne 7, 3) := by decide +kernel
theorem dL_change_285 : decode cL_change 285 = .ok (.iconst 1, 1) := by decide +kernel
theorem dL_change_286 : decode cL_change 286 = .ok (.goto 4, 3) := by decide +kernel
theorem dL_change_289 : decode cL_change 289 = .ok (.iconst 0, 1) := by decide +kernel
theorem dL_change_290 : decode cL_change 290 = .ok (.ireturn, 1) := by decide +kernel
theorem dL_change_291 : decode cL_change 291 = .ok (.aload_n 2, 1) := by decide +kernel
theorem dL_change_292 : decode cL_change 292 = .ok (.iload_n 3, 1) := by decide +kernel
theorem dL_change_293 : decode cL_change 293 = .ok (.iload 4, 2) := by decide +kernel
theorem dL_change_295 : decode cL_change 295 = .ok (.invokestatic 60, 3) := by decide +kernel
theorem dL_change_298 : decode cL_change 298 = .ok (.istore 5, 2) := by decide +kernel
theorem dL_change_300 : decode cL_change 300 = .ok (.aload_n 0, 1) := by decide +kernel
theorem dL_change_301 : decode cL_change 301 = .ok (.iload_n 3, 1) := by decide +kernel
theorem dL_change_302 : decode cL_change 302 = .ok (.iload 4, 2) := by decide +kernel
theorem dL_change_304 : decode cL_change 304 = .ok (.invokevirtual 55, 3) := by decide +kernel
theorem dL_change_307 : decode cL_change 307 = .ok (.iload 5, 2) := by decide +kernel
theorem dL_change_309 : decode cL_change 309 = .ok (.ifCond .ge 8, 3) := by decide +kernel
theorem dL_change_312 : decode cL_change 312 = .ok (.bipush (-3), 2) := by decide +kernel
theorem dL_change_314 : decode cL_change 314 = .ok (.goto 5, 3) := by decide +kernel
theorem dL_change_317 : decode cL_change 317 = .ok (.iload 5, 2) := by decide +kernel
theorem dL_change_319 : decode cL_change 319 = .ok (.if_icmp .ne 7, 3) := by decide +kernel
theorem dL_change_322 : decode cL_change 322 = .ok (.iconst 1, 1) := by decide +kernel
theorem dL_change_323 : decode cL_change 323 = .ok (.goto 4, 3) := by decide +kernel
theorem dL_change_326 : decode cL_change 326 = .ok (.iconst 0, 1) := by decide +kernel
theorem dL_change_327 : decode cL_change 327 = .ok (.ireturn, 1) := by decide +kernel
set_option maxRecDepth 20000 in
theorem ggL_law_X4_init : GoodIn wsL_law wsX4_init := goodIn_r _ [7, 8, 9, 10, 11, 12, 13, 14, 15, 16, 17, 18, 19, 20, 21, 22, 23, 24, 25, 26, 27, 28, 29, 30, 31, 32, 33, 34, 35, 3, 36, 37, 38, 39, 40, 41, 42, 43, 44, 45, 46, 47, 48, 49, 50, 51, 52, 53, 54, 55, 56, 57, 58, 59, 60, 61, 62, 63, 64, 472, 473, 474, 475, 476, 477, 478, 465, 466, 467, 468, 469, 470, 471, 479, 480, 481, 482, 483, 484, 485, 486, 487, 488, 489, 490] (by decide +kernel) (by decide +kernel)
set_option maxRecDepth 20000 in
theorem gL_law_X4_init : GoodIn wsL_law (wsX4_init) := ggL_law_X4_init
set_option maxRecDepth 20000 in
theorem ggL_law_L_put : GoodIn wsL_law wsL_put := goodIn_r _ [68, 69, 70, 67, 71, 72, 73, 74, 75, 76, 77, 78, 79, 2, 80, 29, 21, 81, 82, 83, 84, 85, 86, 87, 88, 89, 90, 91, 92, 93, 94, 95, 96, 23, 97, 53, 54, 55, 98, 99, 100, 101, 102, 103, 104, 105, 106, 107, 108, 109, 110, 111, 112, 113, 114, 115, 116, 117, 118, 119, 120, 121, 122, 123, 124, 125, 126, 127, 128, 465, 466, 467, 468, 469, 470, 471, 483, 484, 485] (by decide +kernel) (by decide +kernel)
set_option maxRecDepth 20000 in
theorem gL_law_L_put : GoodIn wsL_law (va_wsS RL 63 yL_put wsL_put) := goodIn_app (goodIn_of _ (by decide +kernel)) ggL_law_L_put
set_option maxRecDepth 20000 in
theorem ggL_law_X4_things : GoodIn wsL_law wsX4_things := goodIn_r _ [132, 29, 21, 27, 14, 15, 19, 81, 82, 2, 83, 84, 85, 86, 87, 88, 89, 106, 107, 108, 23, 109, 53, 110, 111, 112, 113, 54, 114, 115, 116, 117, 90, 91, 92, 93, 133, 134, 135, 26, 136, 60, 61, 62, 63, 64, 137, 138, 139, 13, 140, 34, 35, 141, 142, 143, 144, 145, 146, 147, 148, 149, 150, 151, 152, 55, 153, 154, 155, 156, 157, 158, 159, 160, 161, 162, 163, 164, 165, 166, 167, 168, 169, 170, 171, 172, 173, 174, 175, 176, 36, 37, 177, 178, 179, 180, 181, 182, 183, 184, 185, 186, 187, 188, 38, 39, 189, 190, 191, 192, 193, 194, 195, 196, 197, 198, 199, 200, 201, 202, 203, 18, 204, 45, 205, 206, 207, 208, 209, 210, 211, 212, 465, 466, 467, 468, 469, 470, 471, 483, 484, 485, 486, 487, 488, 489, 490, 472, 473, 474, 475, 476, 477, 478, 479, 480, 481, 482] (by decide +kernel) (by decide +kernel)
set_option maxRecDepth 20000 in
theorem gL_law_X4_things : GoodIn wsL_law (wsV RL 66 RX4 yX4_things wsX4_things) := goodIn_app (goodIn_of _ (by decide +kernel)) ggL_law_X4_things
set_option maxRecDepth 20000 in
theorem ggL_law_X4_many : GoodIn wsL_law wsX4_many := goodIn_r _ [216, 14, 19, 209, 210, 211, 13, 212, 34, 217, 218, 219, 220, 35, 221, 222, 223, 224, 225, 226, 227, 228, 229, 2, 230, 231, 232, 233, 234, 38, 39, 235, 236, 237, 238, 239, 240, 241, 242, 243, 244, 245, 246, 247, 248, 249, 250, 251, 252, 253, 254, 255, 37, 256, 170, 171, 172, 201, 202, 203, 18, 204, 45, 465, 466, 467, 468, 469, 470, 471, 472, 473, 474, 475, 476, 477, 478, 479, 480, 481, 482] (by decide +kernel) (by decide +kernel)
set_option maxRecDepth 20000 in
theorem gL_law_X4_many : GoodIn wsL_law (wsV RL 70 RX4 yX4_many wsX4_many) := goodIn_app (goodIn_of _ (by decide +kernel)) ggL_law_X4_many
set_option maxRecDepth 20000 in
theorem ggL_law_L_cell : GoodIn wsL_law wsL_cell := goodIn_r _ [71, 72] (by decide +kernel) (by decide +kernel)
set_option maxRecDepth 20000 in
theorem gL_law_L_cell : GoodIn wsL_law (va_wsS RL 9 yL_cell wsL_cell) := goodIn_app (goodIn_of _ (by decide +kernel)) ggL_law_L_cell
set_option maxRecDepth 20000 in
theorem ggL_law_L_change : GoodIn wsL_law wsL_change := goodIn_r _ [259, 73, 74, 67, 75, 76, 260, 261, 262, 2, 263, 14, 264, 265, 266, 13, 267, 35, 268, 269, 270, 271, 34, 256, 170, 171, 172, 272, 186, 187, 188, 38, 39, 273, 274, 275, 276, 277, 190, 191, 192, 278, 279, 280, 281, 282, 283, 284, 285, 37, 286, 287, 288, 289, 290, 291, 292, 293, 294, 295, 296, 297, 298, 299, 300, 301, 302, 303, 304, 126, 127, 128, 305, 306, 307, 308, 309, 310, 465, 466, 467, 468, 469, 470, 471, 472, 473, 474, 475, 476, 477, 478] (by decide +kernel) (by decide +kernel)
set_option maxRecDepth 20000 in
theorem gL_law_L_change : GoodIn wsL_law (va_wsS RL 74 yL_change wsL_change) := goodIn_app (goodIn_of _ (by decide +kernel)) ggL_law_L_change
set_option maxRecDepth 20000 in
theorem ggL_law_L_come : GoodIn wsL_law wsL_come := goodIn_r _ [313] (by decide +kernel) (by decide +kernel)
set_option maxRecDepth 20000 in
theorem gL_law_L_come : GoodIn wsL_law (va_wsS RL 35 yL_come wsL_come) := goodIn_app (goodIn_of _ (by decide +kernel)) ggL_law_L_come
set_option maxRecDepth 20000 in
theorem ggL_law_L_before : GoodIn wsL_law wsL_before := goodIn_r _ [316, 311, 312, 67, 313] (by decide +kernel) (by decide +kernel)
set_option maxRecDepth 20000 in
theorem gL_law_L_before : GoodIn wsL_law (va_wsS RL 38 yL_before wsL_before) := goodIn_app (goodIn_of _ (by decide +kernel)) ggL_law_L_before
set_option maxRecDepth 20000 in
theorem ggL_law_L_size : GoodIn wsL_law wsL_size := goodIn_r _ [319] (by decide +kernel) (by decide +kernel)
set_option maxRecDepth 20000 in
theorem gL_law_L_size : GoodIn wsL_law (va_wsS RL 78 yL_size wsL_size) := goodIn_app (goodIn_of _ (by decide +kernel)) ggL_law_L_size
set_option maxRecDepth 20000 in
theorem ggL_law_X4_ofThing : GoodIn wsL_law wsX4_ofThing := goodIn_r _ [323, 14, 324, 170, 171, 13, 172, 34, 325, 326, 327, 328, 36, 256, 329, 253, 254, 255, 37, 330, 331, 332, 333, 334, 335, 336, 337, 338, 339, 340, 341, 342, 343, 229, 2, 230, 231, 232, 233, 234, 35, 38, 39, 235, 236, 221, 222, 223, 224, 225, 226, 227, 228, 344, 345, 346, 347, 348, 349, 350, 351, 352, 268, 269, 270, 271, 353, 249, 250, 251, 252, 354, 355, 356, 357, 358, 359, 238, 239, 240, 241, 242, 243, 360, 361, 362, 363, 364, 365, 366, 367, 368, 465, 466, 467, 468, 469, 470, 471, 472, 473, 474, 475, 476, 477, 478] (by decide +kernel) (by decide +kernel)
set_option maxRecDepth 20000 in
theorem gL_law_X4_ofThing : GoodIn wsL_law (wsV RL 81 RX4 yX4_ofThing wsX4_ofThing) := goodIn_app (goodIn_of _ (by decide +kernel)) ggL_law_X4_ofThing
set_option maxRecDepth 20000 in
theorem ggL_law_L_level : GoodIn wsL_law wsL_level := goodIn_r _ [371] (by decide +kernel) (by decide +kernel)
set_option maxRecDepth 20000 in
theorem gL_law_L_level : GoodIn wsL_law (va_wsS RL 32 yL_level wsL_level) := goodIn_app (goodIn_of _ (by decide +kernel)) ggL_law_L_level
set_option maxRecDepth 20000 in
theorem ggL_law_L_lock : GoodIn wsL_law wsL_lock := goodIn_r _ [374, 369, 370, 67, 371] (by decide +kernel) (by decide +kernel)
set_option maxRecDepth 20000 in
theorem gL_law_L_lock : GoodIn wsL_law (va_wsS RL 84 yL_lock wsL_lock) := goodIn_app (goodIn_of _ (by decide +kernel)) ggL_law_L_lock
set_option maxRecDepth 20000 in
theorem ggL_law_L_lawful : GoodIn wsL_law wsL_lawful := goodIn_r _ [377, 314, 315, 67, 316, 311, 312, 313] (by decide +kernel) (by decide +kernel)
set_option maxRecDepth 20000 in
theorem gL_law_L_lawful : GoodIn wsL_law (va_wsS RL 41 yL_lawful wsL_lawful) := goodIn_app (goodIn_of _ (by decide +kernel)) ggL_law_L_lawful
set_option maxRecDepth 20000 in
theorem ggL_law_X4_place : GoodIn wsL_law wsX4_place := goodIn_r _ [381, 14, 382, 269, 270, 13, 271, 34, 256, 170, 171, 172, 324, 383, 186, 187, 188, 35, 38, 39, 465, 466, 467, 468, 469, 470, 471, 472, 473, 474, 475, 476, 477, 478] (by decide +kernel) (by decide +kernel)
set_option maxRecDepth 20000 in
theorem gL_law_X4_place : GoodIn wsL_law (wsV RL 87 RX4 yX4_place wsX4_place) := goodIn_app (goodIn_of _ (by decide +kernel)) ggL_law_X4_place
set_option maxRecDepth 20000 in
theorem ggL_law_L_place : GoodIn wsL_law wsL_place := goodIn_r _ [128] (by decide +kernel) (by decide +kernel)
set_option maxRecDepth 20000 in
theorem gL_law_L_place : GoodIn wsL_law (va_wsS RL 28 yL_place wsL_place) := goodIn_app (goodIn_of _ (by decide +kernel)) ggL_law_L_place
set_option maxRecDepth 20000 in
theorem ggL_law_X4_refers : GoodIn wsL_law wsX4_refers := goodIn_r _ [387, 14, 382, 269, 270, 13, 271, 34, 256, 170, 171, 172, 324, 383, 186, 187, 188, 35, 38, 39, 345, 346, 2, 347, 465, 466, 467, 468, 469, 470, 471, 472, 473, 474, 475, 476, 477, 478] (by decide +kernel) (by decide +kernel)
set_option maxRecDepth 20000 in
theorem gL_law_X4_refers : GoodIn wsL_law (wsV RL 89 RX4 yX4_refers wsX4_refers) := goodIn_app (goodIn_of _ (by decide +kernel)) ggL_law_X4_refers
set_option maxRecDepth 20000 in
theorem ggL_law_L_unlawful : GoodIn wsL_law wsL_unlawful := goodIn_r _ [390, 375, 376, 67, 377, 314, 315, 316, 311, 312, 313] (by decide +kernel) (by decide +kernel)
set_option maxRecDepth 20000 in
theorem gL_law_L_unlawful : GoodIn wsL_law (va_wsS RL 92 yL_unlawful wsL_unlawful) := goodIn_app (goodIn_of _ (by decide +kernel)) ggL_law_L_unlawful
set_option maxRecDepth 20000 in
theorem ggL_law_X4_unlawful : GoodIn wsL_law wsX4_unlawful := goodIn_r _ [394, 14, 209, 210, 211, 13, 212, 34, 244, 245, 246, 247, 248, 249, 250, 251, 252, 253, 254, 255, 37, 256, 170, 171, 172, 225, 226, 227, 228, 229, 2, 230, 231, 232, 233, 234, 35, 38, 39, 235, 236, 465, 466, 467, 468, 469, 470, 471, 472, 473, 474, 475, 476, 477, 478] (by decide +kernel) (by decide +kernel)
set_option maxRecDepth 20000 in
theorem gL_law_X4_unlawful : GoodIn wsL_law (wsV RL 96 RX4 yX4_unlawful wsX4_unlawful) := goodIn_app (goodIn_of _ (by decide +kernel)) ggL_law_X4_unlawful
set_option maxRecDepth 20000 in
theorem ggL_law_L_some : GoodIn wsL_law wsL_some := goodIn_r _ [75, 76] (by decide +kernel) (by decide +kernel)
set_option maxRecDepth 20000 in
theorem gL_law_L_some : GoodIn wsL_law (va_wsS RL 15 yL_some wsL_some) := goodIn_app (goodIn_of _ (by decide +kernel)) ggL_law_L_some
set_option maxRecDepth 20000 in
theorem ggL_law_X4_sheet : GoodIn wsL_law wsX4_sheet := goodIn_r _ [80, 29, 21, 81, 82, 2, 83, 84, 85, 86, 87, 88, 89, 90, 91, 92, 93, 94, 95, 96, 23, 97, 53, 54, 55, 465, 466, 467, 468, 469, 470, 471, 483, 484, 485] (by decide +kernel) (by decide +kernel)
set_option maxRecDepth 20000 in
theorem gL_law_X4_sheet : GoodIn wsL_law (wsV RL 19 RX4 yX4_sheet wsX4_sheet) := goodIn_app (goodIn_of _ (by decide +kernel)) ggL_law_X4_sheet
set_option maxRecDepth 20000 in
theorem ggL_law_L_can : GoodIn wsL_law wsL_can := goodIn_r _ [397, 126, 127, 67, 128, 305, 306, 307] (by decide +kernel) (by decide +kernel)
set_option maxRecDepth 20000 in
theorem gL_law_L_can : GoodIn wsL_law (va_wsS RL 99 yL_can wsL_can) := goodIn_app (goodIn_of _ (by decide +kernel)) ggL_law_L_can
set_option maxRecDepth 20000 in
theorem ggL_law_X4_put : GoodIn wsL_law wsX4_put := goodIn_r _ [101, 29, 21, 81, 82, 2, 83, 84, 85, 86, 102, 103, 104, 23, 105, 53, 106, 107, 108, 109, 110, 111, 112, 113, 54, 114, 115, 116, 117, 90, 91, 92, 93, 118, 119, 120, 121, 55, 122, 123, 124, 125, 465, 466, 467, 468, 469, 470, 471, 483, 484, 485] (by decide +kernel) (by decide +kernel)
set_option maxRecDepth 20000 in
theorem gL_law_X4_put : GoodIn wsL_law (wsV RL 25 RX4 yX4_put wsX4_put) := goodIn_app (goodIn_of _ (by decide +kernel)) ggL_law_X4_put
set_option maxRecDepth 20000 in
theorem ggL_law_L_refer : GoodIn wsL_law wsL_refer := goodIn_r _ [304, 126, 127, 67, 128] (by decide +kernel) (by decide +kernel)
set_option maxRecDepth 20000 in
theorem gL_law_L_refer : GoodIn wsL_law (va_wsS RL 58 yL_refer wsL_refer) := goodIn_app (goodIn_of _ (by decide +kernel)) ggL_law_L_refer
set_option maxRecDepth 20000 in
theorem ggL_law_L_hand : GoodIn wsL_law wsL_hand := goodIn_r _ [310, 305, 306, 67, 307] (by decide +kernel) (by decide +kernel)
set_option maxRecDepth 20000 in
theorem gL_law_L_hand : GoodIn wsL_law (va_wsS RL 60 yL_hand wsL_hand) := goodIn_app (goodIn_of _ (by decide +kernel)) ggL_law_L_hand
set_option maxRecDepth 20000 in
theorem ggL_law_X4_day : GoodIn wsL_law wsX4_day := goodIn_r _ [401, 29, 21, 14, 15, 81, 82, 2, 83, 84, 85, 86, 87, 88, 89, 402, 403, 404, 106, 107, 108, 23, 109, 53, 110, 111, 112, 113, 54, 114, 115, 116, 117, 90, 91, 92, 93, 209, 210, 211, 13, 212, 34, 405, 406, 407, 408, 150, 151, 152, 55, 193, 194, 195, 196, 35, 36, 197, 198, 199, 200, 37, 38, 39, 409, 410, 411, 412, 413, 414, 415, 416, 264, 265, 266, 267, 268, 269, 270, 271, 256, 170, 171, 172, 272, 186, 187, 188, 273, 274, 275, 276, 277, 190, 191, 192, 282, 283, 284, 285, 286, 287, 288, 289, 294, 295, 296, 297, 298, 299, 300, 301, 417, 418, 419, 420, 217, 218, 219, 220, 244, 245, 246, 247, 248, 249, 250, 251, 252, 253, 254, 255, 225, 226, 227, 228, 229, 230, 231, 232, 233, 234, 235, 236, 221, 222, 223, 224, 421, 422, 423, 424, 425, 426, 427, 428, 429, 335, 336, 337, 338, 331, 332, 333, 339, 326, 327, 328, 324, 329, 465, 466, 467, 468, 469, 470, 471, 483, 484, 485, 472, 473, 474, 475, 476, 477, 478] (by decide +kernel) (by decide +kernel)
set_option maxRecDepth 20000 in
theorem gL_law_X4_day : GoodIn wsL_law (wsV RL 103 RX4 yX4_day wsX4_day) := goodIn_app (goodIn_of _ (by decide +kernel)) ggL_law_X4_day
set_option maxRecDepth 20000 in
theorem ggL_law_X4_refer : GoodIn wsL_law wsX4_refer := goodIn_r _ [263, 14, 264, 265, 266, 13, 267, 35, 268, 269, 270, 271, 34, 256, 170, 171, 172, 272, 186, 187, 188, 38, 39, 273, 274, 275, 276, 277, 190, 191, 192, 465, 466, 467, 468, 469, 470, 471, 472, 473, 474, 475, 476, 477, 478] (by decide +kernel) (by decide +kernel)
set_option maxRecDepth 20000 in
theorem gL_law_X4_refer : GoodIn wsL_law (wsV RL 49 RX4 yX4_refer wsX4_refer) := goodIn_app (goodIn_of _ (by decide +kernel)) ggL_law_X4_refer
set_option maxRecDepth 20000 in
theorem ggL_law_X4_own : GoodIn wsL_law wsX4_own := goodIn_r _ [281, 14, 282, 283, 284, 13, 285, 37, 256, 170, 171, 172, 34, 268, 269, 270, 271, 286, 287, 288, 289, 465, 466, 467, 468, 469, 470, 471, 472, 473, 474, 475, 476, 477, 478] (by decide +kernel) (by decide +kernel)
set_option maxRecDepth 20000 in
theorem gL_law_X4_own : GoodIn wsL_law (wsV RL 52 RX4 yX4_own wsX4_own) := goodIn_app (goodIn_of _ (by decide +kernel)) ggL_law_X4_own
set_option maxRecDepth 20000 in
theorem ggL_law_X4_hand : GoodIn wsL_law wsX4_hand := goodIn_r _ [293, 14, 294, 295, 296, 13, 297, 38, 37, 256, 170, 171, 172, 34, 298, 299, 300, 301, 35, 39, 286, 287, 288, 289, 465, 466, 467, 468, 469, 470, 471, 472, 473, 474, 475, 476, 477, 478] (by decide +kernel) (by decide +kernel)
set_option maxRecDepth 20000 in
theorem gL_law_X4_hand : GoodIn wsL_law (wsV RL 55 RX4 yX4_hand wsX4_hand) := goodIn_app (goodIn_of _ (by decide +kernel)) ggL_law_X4_hand
set_option maxRecDepth 20000 in
theorem ggL_law_X4_odds : GoodIn wsL_law wsX4_odds := goodIn_r _ [433, 14, 434, 217, 218, 219, 13, 220, 35, 84, 85, 2, 86, 435, 436, 437, 438, 15, 193, 194, 195, 196, 34, 36, 197, 198, 199, 200, 37, 38, 39, 439, 274, 275, 276, 244, 245, 246, 247, 248, 249, 250, 251, 252, 253, 254, 255, 256, 170, 171, 172, 225, 226, 227, 228, 229, 230, 231, 232, 233, 234, 235, 236, 440, 441, 442, 465, 466, 467, 468, 469, 470, 471, 472, 473, 474, 475, 476, 477, 478] (by decide +kernel) (by decide +kernel)
set_option maxRecDepth 20000 in
theorem gL_law_X4_odds : GoodIn wsL_law (wsV RL 107 RX4 yX4_odds wsX4_odds) := goodIn_app (goodIn_of _ (by decide +kernel)) ggL_law_X4_odds
set_option maxRecDepth 20000 in
theorem ggL_law_X4_past : GoodIn wsL_law wsX4_past := goodIn_r _ [446, 14, 324, 170, 171, 13, 172, 34, 84, 85, 2, 86, 447, 448, 449, 450, 40, 229, 230, 451, 452, 453, 454, 35, 39, 38, 235, 236, 252, 253, 254, 255, 37, 256, 455, 456, 457, 458, 459, 460, 341, 342, 343, 231, 232, 233, 234, 461, 462, 463, 464, 465, 466, 467, 468, 469, 470, 471, 472, 473, 474, 475, 476, 477, 478] (by decide +kernel) (by decide +kernel)
set_option maxRecDepth 20000 in
theorem gL_law_X4_past : GoodIn wsL_law (wsV RL 113 RX4 yX4_past wsX4_past) := goodIn_app (goodIn_of _ (by decide +kernel)) ggL_law_X4_past
