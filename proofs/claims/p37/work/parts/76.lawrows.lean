theorem dL_cell_0 : decode cL_cell 0 = .ok (.aload_n 0, 1) := by decide +kernel
theorem dL_cell_1 : decode cL_cell 1 = .ok (.arraylength, 1) := by decide +kernel
theorem dL_cell_2 : decode cL_cell 2 = .ok (.ifCond .ne 11, 3) := by decide +kernel
theorem dL_cell_5 : decode cL_cell 5 = .ok (.sipush 367, 3) := by decide +kernel
theorem dL_cell_8 : decode cL_cell 8 = .ok (.iload_n 1, 1) := by decide +kernel
theorem dL_cell_9 : decode cL_cell 9 = .ok (.imul, 1) := by decide +kernel
theorem dL_cell_10 : decode cL_cell 10 = .ok (.goto 12, 3) := by decide +kernel
theorem dL_cell_13 : decode cL_cell 13 = .ok (.aload_n 0, 1) := by decide +kernel
theorem dL_cell_14 : decode cL_cell 14 = .ok (.iload_n 1, 1) := by decide +kernel
theorem dL_cell_15 : decode cL_cell 15 = .ok (.ldc 7, 2) := by decide +kernel
theorem dL_cell_17 : decode cL_cell 17 = .ok (.iand, 1) := by decide +kernel
theorem dL_cell_18 : decode cL_cell 18 = .ok (.aload_n 0, 1) := by decide +kernel
theorem dL_cell_19 : decode cL_cell 19 = .ok (.arraylength, 1) := by decide +kernel
theorem dL_cell_20 : decode cL_cell 20 = .ok (.irem, 1) := by decide +kernel
theorem dL_cell_21 : decode cL_cell 21 = .ok (.iaload, 1) := by decide +kernel
theorem dL_cell_22 : decode cL_cell 22 = .ok (.ireturn, 1) := by decide +kernel
theorem dL_act_0 : decode cL_act 0 = .ok (.aload_n 1, 1) := by decide +kernel
theorem dL_act_1 : decode cL_act 1 = .ok (.iload_n 2, 1) := by decide +kernel
theorem dL_act_2 : decode cL_act 2 = .ok (.invokestatic 8, 3) := by decide +kernel
theorem dL_act_5 : decode cL_act 5 = .ok (.istore_n 3, 1) := by decide +kernel
theorem dL_act_6 : decode cL_act 6 = .ok (.iload_n 3, 1) := by decide +kernel
theorem dL_act_7 : decode cL_act 7 = .ok (.iconst 4, 1) := by decide +kernel
theorem dL_act_8 : decode cL_act 8 = .ok (.ishr, 1) := by decide +kernel
theorem dL_act_9 : decode cL_act 9 = .ok (.ldc 7, 2) := by decide +kernel
theorem dL_act_11 : decode cL_act 11 = .ok (.iand, 1) := by decide +kernel
theorem dL_act_12 : decode cL_act 12 = .ok (.istore 4, 2) := by decide +kernel
theorem dL_act_14 : decode cL_act 14 = .ok (.iload 4, 2) := by decide +kernel
theorem dL_act_16 : decode cL_act 16 = .ok (.bipush 7, 2) := by decide +kernel
theorem dL_act_18 : decode cL_act 18 = .ok (.iand, 1) := by decide +kernel
theorem dL_act_19 : decode cL_act 19 = .ok (.istore 5, 2) := by decide +kernel
theorem dL_act_21 : decode cL_act 21 = .ok (.iload 4, 2) := by decide +kernel
theorem dL_act_23 : decode cL_act 23 = .ok (.iconst 3, 1) := by decide +kernel
theorem dL_act_24 : decode cL_act 24 = .ok (.ishr, 1) := by decide +kernel
theorem dL_act_25 : decode cL_act 25 = .ok (.bipush 7, 2) := by decide +kernel
theorem dL_act_27 : decode cL_act 27 = .ok (.iand, 1) := by decide +kernel
theorem dL_act_28 : decode cL_act 28 = .ok (.istore 6, 2) := by decide +kernel
theorem dL_act_30 : decode cL_act 30 = .ok (.iload_n 3, 1) := by decide +kernel
theorem dL_act_31 : decode cL_act 31 = .ok (.bipush 15, 2) := by decide +kernel
theorem dL_act_33 : decode cL_act 33 = .ok (.iand, 1) := by decide +kernel
theorem dL_act_34 : decode cL_act 34 = .ok (.tableswitch 314 0 14 #[74, 108, 123, 123, 123, 145, 178, 178, 188, 200, 218, 237, 247, 262, 285], 74) := by decide +kernel
theorem dL_act_108 : decode cL_act 108 = .ok (.iload 4, 2) := by decide +kernel
theorem dL_act_110 : decode cL_act 110 = .ok (.bipush 6, 2) := by decide +kernel
theorem dL_act_112 : decode cL_act 112 = .ok (.ishr, 1) := by decide +kernel
theorem dL_act_113 : decode cL_act 113 = .ok (.sipush 255, 3) := by decide +kernel
theorem dL_act_116 : decode cL_act 116 = .ok (.iand, 1) := by decide +kernel
theorem dL_act_117 : decode cL_act 117 = .ok (.istore 7, 2) := by decide +kernel
theorem dL_act_119 : decode cL_act 119 = .ok (.aload_n 0, 1) := by decide +kernel
theorem dL_act_120 : decode cL_act 120 = .ok (.iconst 1, 1) := by decide +kernel
theorem dL_act_121 : decode cL_act 121 = .ok (.iload 4, 2) := by decide +kernel
theorem dL_act_123 : decode cL_act 123 = .ok (.bipush 15, 2) := by decide +kernel
theorem dL_act_125 : decode cL_act 125 = .ok (.iand, 1) := by decide +kernel
theorem dL_act_126 : decode cL_act 126 = .ok (.iadd, 1) := by decide +kernel
theorem dL_act_127 : decode cL_act 127 = .ok (.iload 7, 2) := by decide +kernel
theorem dL_act_129 : decode cL_act 129 = .ok (.invokevirtual 14, 3) := by decide +kernel
theorem dL_act_132 : decode cL_act 132 = .ok (.ifCond .lt 8, 3) := by decide +kernel
theorem dL_act_135 : decode cL_act 135 = .ok (.iload 7, 2) := by decide +kernel
theorem dL_act_137 : decode cL_act 137 = .ok (.goto 4, 3) := by decide +kernel
theorem dL_act_140 : decode cL_act 140 = .ok (.iconst 0, 1) := by decide +kernel
theorem dL_act_141 : decode cL_act 141 = .ok (.ireturn, 1) := by decide +kernel
theorem dL_act_142 : decode cL_act 142 = .ok (.aload_n 0, 1) := by decide +kernel
theorem dL_act_143 : decode cL_act 143 = .ok (.iconst 1, 1) := by decide +kernel
theorem dL_act_144 : decode cL_act 144 = .ok (.iload 4, 2) := by decide +kernel
theorem dL_act_146 : decode cL_act 146 = .ok (.bipush 63, 2) := by decide +kernel
theorem dL_act_148 : decode cL_act 148 = .ok (.iand, 1) := by decide +kernel
theorem dL_act_149 : decode cL_act 149 = .ok (.iadd, 1) := by decide +kernel
theorem dL_act_150 : decode cL_act 150 = .ok (.invokevirtual 20, 3) := by decide +kernel
theorem dL_act_153 : decode cL_act 153 = .ok (.pop, 1) := by decide +kernel
theorem dL_act_154 : decode cL_act 154 = .ok (.goto 203, 3) := by decide +kernel
theorem dL_act_157 : decode cL_act 157 = .ok (.aload_n 0, 1) := by decide +kernel
theorem dL_act_158 : decode cL_act 158 = .ok (.iload 5, 2) := by decide +kernel
theorem dL_act_160 : decode cL_act 160 = .ok (.iload 6, 2) := by decide +kernel
theorem dL_act_162 : decode cL_act 162 = .ok (.iconst 1, 1) := by decide +kernel
theorem dL_act_163 : decode cL_act 163 = .ok (.iload 4, 2) := by decide +kernel
theorem dL_act_165 : decode cL_act 165 = .ok (.bipush 6, 2) := by decide +kernel
theorem dL_act_167 : decode cL_act 167 = .ok (.ishr, 1) := by decide +kernel
theorem dL_act_168 : decode cL_act 168 = .ok (.bipush 15, 2) := by decide +kernel
theorem dL_act_170 : decode cL_act 170 = .ok (.iand, 1) := by decide +kernel
theorem dL_act_171 : decode cL_act 171 = .ok (.iadd, 1) := by decide +kernel
theorem dL_act_172 : decode cL_act 172 = .ok (.invokevirtual 24, 3) := by decide +kernel
theorem dL_act_175 : decode cL_act 175 = .ok (.pop, 1) := by decide +kernel
theorem dL_act_176 : decode cL_act 176 = .ok (.goto 181, 3) := by decide +kernel
theorem dL_act_179 : decode cL_act 179 = .ok (.aload_n 0, 1) := by decide +kernel
theorem dL_act_180 : decode cL_act 180 = .ok (.iload 5, 2) := by decide +kernel
theorem dL_act_182 : decode cL_act 182 = .ok (.iload 6, 2) := by decide +kernel
theorem dL_act_184 : decode cL_act 184 = .ok (.bipush 100, 2) := by decide +kernel
theorem dL_act_186 : decode cL_act 186 = .ok (.iload 4, 2) := by decide +kernel
theorem dL_act_188 : decode cL_act 188 = .ok (.bipush 6, 2) := by decide +kernel
theorem dL_act_190 : decode cL_act 190 = .ok (.ishr, 1) := by decide +kernel
theorem dL_act_191 : decode cL_act 191 = .ok (.iconst 3, 1) := by decide +kernel
theorem dL_act_192 : decode cL_act 192 = .ok (.iand, 1) := by decide +kernel
theorem dL_act_193 : decode cL_act 193 = .ok (.imul, 1) := by decide +kernel
theorem dL_act_194 : decode cL_act 194 = .ok (.iconst 1, 1) := by decide +kernel
theorem dL_act_195 : decode cL_act 195 = .ok (.iadd, 1) := by decide +kernel
theorem dL_act_196 : decode cL_act 196 = .ok (.iload 4, 2) := by decide +kernel
theorem dL_act_198 : decode cL_act 198 = .ok (.bipush 8, 2) := by decide +kernel
theorem dL_act_200 : decode cL_act 200 = .ok (.ishr, 1) := by decide +kernel
theorem dL_act_201 : decode cL_act 201 = .ok (.bipush 7, 2) := by decide +kernel
theorem dL_act_203 : decode cL_act 203 = .ok (.iand, 1) := by decide +kernel
theorem dL_act_204 : decode cL_act 204 = .ok (.iadd, 1) := by decide +kernel
theorem dL_act_205 : decode cL_act 205 = .ok (.invokevirtual 28, 3) := by decide +kernel
theorem dL_act_208 : decode cL_act 208 = .ok (.pop, 1) := by decide +kernel
theorem dL_act_209 : decode cL_act 209 = .ok (.goto 148, 3) := by decide +kernel
theorem dL_act_212 : decode cL_act 212 = .ok (.aload_n 0, 1) := by decide +kernel
theorem dL_act_213 : decode cL_act 213 = .ok (.iload 6, 2) := by decide +kernel
theorem dL_act_215 : decode cL_act 215 = .ok (.invokevirtual 31, 3) := by decide +kernel
theorem dL_act_218 : decode cL_act 218 = .ok (.pop, 1) := by decide +kernel
theorem dL_act_219 : decode cL_act 219 = .ok (.goto 138, 3) := by decide +kernel
theorem dL_act_222 : decode cL_act 222 = .ok (.aload_n 0, 1) := by decide +kernel
theorem dL_act_223 : decode cL_act 223 = .ok (.iload 6, 2) := by decide +kernel
theorem dL_act_225 : decode cL_act 225 = .ok (.iload 5, 2) := by decide +kernel
theorem dL_act_227 : decode cL_act 227 = .ok (.invokevirtual 34, 3) := by decide +kernel
theorem dL_act_230 : decode cL_act 230 = .ok (.pop, 1) := by decide +kernel
theorem dL_act_231 : decode cL_act 231 = .ok (.goto 126, 3) := by decide +kernel
theorem dL_act_234 : decode cL_act 234 = .ok (.aload_n 0, 1) := by decide +kernel
theorem dL_act_235 : decode cL_act 235 = .ok (.iload 6, 2) := by decide +kernel
theorem dL_act_237 : decode cL_act 237 = .ok (.iload 4, 2) := by decide +kernel
theorem dL_act_239 : decode cL_act 239 = .ok (.bipush 6, 2) := by decide +kernel
theorem dL_act_241 : decode cL_act 241 = .ok (.ishr, 1) := by decide +kernel
theorem dL_act_242 : decode cL_act 242 = .ok (.bipush 7, 2) := by decide +kernel
theorem dL_act_244 : decode cL_act 244 = .ok (.iand, 1) := by decide +kernel
theorem dL_act_245 : decode cL_act 245 = .ok (.invokevirtual 37, 3) := by decide +kernel
theorem dL_act_248 : decode cL_act 248 = .ok (.pop, 1) := by decide +kernel
theorem dL_act_249 : decode cL_act 249 = .ok (.goto 108, 3) := by decide +kernel
theorem dL_act_252 : decode cL_act 252 = .ok (.aload_n 0, 1) := by decide +kernel
theorem dL_act_253 : decode cL_act 253 = .ok (.iload 6, 2) := by decide +kernel
theorem dL_act_255 : decode cL_act 255 = .ok (.iconst 1, 1) := by decide +kernel
theorem dL_act_256 : decode cL_act 256 = .ok (.iload 4, 2) := by decide +kernel
theorem dL_act_258 : decode cL_act 258 = .ok (.bipush 6, 2) := by decide +kernel
theorem dL_act_260 : decode cL_act 260 = .ok (.ishr, 1) := by decide +kernel
theorem dL_act_261 : decode cL_act 261 = .ok (.iconst 3, 1) := by decide +kernel
theorem dL_act_262 : decode cL_act 262 = .ok (.iand, 1) := by decide +kernel
theorem dL_act_263 : decode cL_act 263 = .ok (.iadd, 1) := by decide +kernel
theorem dL_act_264 : decode cL_act 264 = .ok (.invokevirtual 40, 3) := by decide +kernel
theorem dL_act_267 : decode cL_act 267 = .ok (.pop, 1) := by decide +kernel
theorem dL_act_268 : decode cL_act 268 = .ok (.goto 89, 3) := by decide +kernel
theorem dL_act_271 : decode cL_act 271 = .ok (.aload_n 0, 1) := by decide +kernel
theorem dL_act_272 : decode cL_act 272 = .ok (.iload 6, 2) := by decide +kernel
theorem dL_act_274 : decode cL_act 274 = .ok (.invokevirtual 43, 3) := by decide +kernel
theorem dL_act_277 : decode cL_act 277 = .ok (.pop, 1) := by decide +kernel
theorem dL_act_278 : decode cL_act 278 = .ok (.goto 79, 3) := by decide +kernel
theorem dL_act_281 : decode cL_act 281 = .ok (.aload_n 0, 1) := by decide +kernel
theorem dL_act_282 : decode cL_act 282 = .ok (.iconst 1, 1) := by decide +kernel
theorem dL_act_283 : decode cL_act 283 = .ok (.iload 4, 2) := by decide +kernel
theorem dL_act_285 : decode cL_act 285 = .ok (.bipush 7, 2) := by decide +kernel
theorem dL_act_287 : decode cL_act 287 = .ok (.iand, 1) := by decide +kernel
theorem dL_act_288 : decode cL_act 288 = .ok (.iadd, 1) := by decide +kernel
theorem dL_act_289 : decode cL_act 289 = .ok (.invokevirtual 46, 3) := by decide +kernel
theorem dL_act_292 : decode cL_act 292 = .ok (.pop, 1) := by decide +kernel
theorem dL_act_293 : decode cL_act 293 = .ok (.goto 64, 3) := by decide +kernel
theorem dL_act_296 : decode cL_act 296 = .ok (.aload_n 0, 1) := by decide +kernel
theorem dL_act_297 : decode cL_act 297 = .ok (.iload 5, 2) := by decide +kernel
theorem dL_act_299 : decode cL_act 299 = .ok (.iload 6, 2) := by decide +kernel
theorem dL_act_301 : decode cL_act 301 = .ok (.iload 4, 2) := by decide +kernel
theorem dL_act_303 : decode cL_act 303 = .ok (.bipush 6, 2) := by decide +kernel
theorem dL_act_305 : decode cL_act 305 = .ok (.ishr, 1) := by decide +kernel
theorem dL_act_306 : decode cL_act 306 = .ok (.bipush 15, 2) := by decide +kernel
theorem dL_act_308 : decode cL_act 308 = .ok (.iand, 1) := by decide +kernel
theorem dL_act_309 : decode cL_act 309 = .ok (.bipush 10, 2) := by decide +kernel
theorem dL_act_311 : decode cL_act 311 = .ok (.irem, 1) := by decide +kernel
theorem dL_act_312 : decode cL_act 312 = .ok (.invokevirtual 49, 3) := by decide +kernel
theorem dL_act_315 : decode cL_act 315 = .ok (.pop, 1) := by decide +kernel
theorem dL_act_316 : decode cL_act 316 = .ok (.goto 41, 3) := by decide +kernel
theorem dL_act_319 : decode cL_act 319 = .ok (.iconst 1, 1) := by decide +kernel
theorem dL_act_320 : decode cL_act 320 = .ok (.iload 4, 2) := by decide +kernel
theorem dL_act_322 : decode cL_act 322 = .ok (.iconst 3, 1) := by decide +kernel
theorem dL_act_323 : decode cL_act 323 = .ok (.ishr, 1) := by decide +kernel
theorem dL_act_324 : decode cL_act 324 = .ok (.bipush 63, 2) := by decide +kernel
theorem dL_act_326 : decode cL_act 326 = .ok (.iand, 1) := by decide +kernel
theorem dL_act_327 : decode cL_act 327 = .ok (.iadd, 1) := by decide +kernel
theorem dL_act_328 : decode cL_act 328 = .ok (.istore 8, 2) := by decide +kernel
theorem dL_act_330 : decode cL_act 330 = .ok (.aload_n 0, 1) := by decide +kernel
theorem dL_act_331 : decode cL_act 331 = .ok (.iload 5, 2) := by decide +kernel
theorem dL_act_333 : decode cL_act 333 = .ok (.iload 8, 2) := by decide +kernel
theorem dL_act_335 : decode cL_act 335 = .ok (.invokevirtual 52, 3) := by decide +kernel
theorem dL_act_338 : decode cL_act 338 = .ok (.ifCond .lt 8, 3) := by decide +kernel
theorem dL_act_341 : decode cL_act 341 = .ok (.iload 8, 2) := by decide +kernel
theorem dL_act_343 : decode cL_act 343 = .ok (.goto 4, 3) := by decide +kernel
theorem dL_act_346 : decode cL_act 346 = .ok (.iconst 0, 1) := by decide +kernel
theorem dL_act_347 : decode cL_act 347 = .ok (.ireturn, 1) := by decide +kernel
theorem dL_act_348 : decode cL_act 348 = .ok (.aload_n 0, 1) := by decide +kernel
theorem dL_act_349 : decode cL_act 349 = .ok (.iload 5, 2) := by decide +kernel
theorem dL_act_351 : decode cL_act 351 = .ok (.iload 6, 2) := by decide +kernel
theorem dL_act_353 : decode cL_act 353 = .ok (.invokevirtual 55, 3) := by decide +kernel
theorem dL_act_356 : decode cL_act 356 = .ok (.pop, 1) := by decide +kernel
theorem dL_act_357 : decode cL_act 357 = .ok (.iconst 0, 1) := by decide +kernel
theorem dL_act_358 : decode cL_act 358 = .ok (.ireturn, 1) := by decide +kernel
theorem dL_isFair_0 : decode cL_isFair 0 = .ok (.iconst 0, 1) := by decide +kernel
theorem dL_isFair_1 : decode cL_isFair 1 = .ok (.istore_n 2, 1) := by decide +kernel
theorem dL_isFair_2 : decode cL_isFair 2 = .ok (.aload_n 0, 1) := by decide +kernel
theorem dL_isFair_3 : decode cL_isFair 3 = .ok (.iconst 5, 1) := by decide +kernel
theorem dL_isFair_4 : decode cL_isFair 4 = .ok (.invokevirtual 58, 3) := by decide +kernel
theorem dL_isFair_7 : decode cL_isFair 7 = .ok (.istore_n 3, 1) := by decide +kernel
theorem dL_isFair_8 : decode cL_isFair 8 = .ok (.iconst 0, 1) := by decide +kernel
theorem dL_isFair_9 : decode cL_isFair 9 = .ok (.istore 4, 2) := by decide +kernel
theorem dL_isFair_11 : decode cL_isFair 11 = .ok (.iconst 0, 1) := by decide +kernel
theorem dL_isFair_12 : decode cL_isFair 12 = .ok (.istore 5, 2) := by decide +kernel
theorem dL_isFair_14 : decode cL_isFair 14 = .ok (.iload 5, 2) := by decide +kernel
theorem dL_isFair_16 : decode cL_isFair 16 = .ok (.aload_n 0, 1) := by decide +kernel
theorem dL_isFair_17 : decode cL_isFair 17 = .ok (.iconst 0, 1) := by decide +kernel
theorem dL_isFair_18 : decode cL_isFair 18 = .ok (.invokevirtual 58, 3) := by decide +kernel
theorem dL_isFair_21 : decode cL_isFair 21 = .ok (.if_icmp .ge 102, 3) := by decide +kernel
theorem dL_isFair_24 : decode cL_isFair 24 = .ok (.iload_n 3, 1) := by decide +kernel
theorem dL_isFair_25 : decode cL_isFair 25 = .ok (.aload_n 0, 1) := by decide +kernel
theorem dL_isFair_26 : decode cL_isFair 26 = .ok (.iload 5, 2) := by decide +kernel
theorem dL_isFair_28 : decode cL_isFair 28 = .ok (.iconst 1, 1) := by decide +kernel
theorem dL_isFair_29 : decode cL_isFair 29 = .ok (.invokevirtual 61, 3) := by decide +kernel
theorem dL_isFair_32 : decode cL_isFair 32 = .ok (.iadd, 1) := by decide +kernel
theorem dL_isFair_33 : decode cL_isFair 33 = .ok (.istore_n 3, 1) := by decide +kernel
theorem dL_isFair_34 : decode cL_isFair 34 = .ok (.iload 4, 2) := by decide +kernel
theorem dL_isFair_36 : decode cL_isFair 36 = .ok (.aload_n 0, 1) := by decide +kernel
theorem dL_isFair_37 : decode cL_isFair 37 = .ok (.iload 5, 2) := by decide +kernel
theorem dL_isFair_39 : decode cL_isFair 39 = .ok (.iconst 4, 1) := by decide +kernel
theorem dL_isFair_40 : decode cL_isFair 40 = .ok (.invokevirtual 61, 3) := by decide +kernel
theorem dL_isFair_43 : decode cL_isFair 43 = .ok (.iadd, 1) := by decide +kernel
theorem dL_isFair_44 : decode cL_isFair 44 = .ok (.istore 4, 2) := by decide +kernel
theorem dL_isFair_46 : decode cL_isFair 46 = .ok (.iload_n 2, 1) := by decide +kernel
theorem dL_isFair_47 : decode cL_isFair 47 = .ok (.aload_n 0, 1) := by decide +kernel
theorem dL_isFair_48 : decode cL_isFair 48 = .ok (.iload 5, 2) := by decide +kernel
theorem dL_isFair_50 : decode cL_isFair 50 = .ok (.iconst 5, 1) := by decide +kernel
theorem dL_isFair_51 : decode cL_isFair 51 = .ok (.invokevirtual 61, 3) := by decide +kernel
theorem dL_isFair_54 : decode cL_isFair 54 = .ok (.iadd, 1) := by decide +kernel
theorem dL_isFair_55 : decode cL_isFair 55 = .ok (.istore_n 2, 1) := by decide +kernel
theorem dL_isFair_56 : decode cL_isFair 56 = .ok (.aload_n 0, 1) := by decide +kernel
theorem dL_isFair_57 : decode cL_isFair 57 = .ok (.iload 5, 2) := by decide +kernel
theorem dL_isFair_59 : decode cL_isFair 59 = .ok (.iconst 1, 1) := by decide +kernel
theorem dL_isFair_60 : decode cL_isFair 60 = .ok (.invokevirtual 61, 3) := by decide +kernel
theorem dL_isFair_63 : decode cL_isFair 63 = .ok (.ifCond .lt 52, 3) := by decide +kernel
theorem dL_isFair_66 : decode cL_isFair 66 = .ok (.aload_n 0, 1) := by decide +kernel
theorem dL_isFair_67 : decode cL_isFair 67 = .ok (.iload 5, 2) := by decide +kernel
theorem dL_isFair_69 : decode cL_isFair 69 = .ok (.iconst 2, 1) := by decide +kernel
theorem dL_isFair_70 : decode cL_isFair 70 = .ok (.invokevirtual 61, 3) := by decide +kernel
theorem dL_isFair_73 : decode cL_isFair 73 = .ok (.ifCond .lt 42, 3) := by decide +kernel
theorem dL_isFair_76 : decode cL_isFair 76 = .ok (.aload_n 0, 1) := by decide +kernel
theorem dL_isFair_77 : decode cL_isFair 77 = .ok (.iload 5, 2) := by decide +kernel
theorem dL_isFair_79 : decode cL_isFair 79 = .ok (.iconst 2, 1) := by decide +kernel
theorem dL_isFair_80 : decode cL_isFair 80 = .ok (.invokevirtual 61, 3) := by decide +kernel
theorem dL_isFair_83 : decode cL_isFair 83 = .ok (.bipush 99, 2) := by decide +kernel
theorem dL_isFair_85 : decode cL_isFair 85 = .ok (.if_icmp .gt 30, 3) := by decide +kernel
theorem dL_isFair_88 : decode cL_isFair 88 = .ok (.aload_n 0, 1) := by decide +kernel
theorem dL_isFair_89 : decode cL_isFair 89 = .ok (.iload 5, 2) := by decide +kernel
theorem dL_isFair_91 : decode cL_isFair 91 = .ok (.iconst 4, 1) := by decide +kernel
theorem dL_isFair_92 : decode cL_isFair 92 = .ok (.invokevirtual 61, 3) := by decide +kernel
theorem dL_isFair_95 : decode cL_isFair 95 = .ok (.ifCond .lt 20, 3) := by decide +kernel
theorem dL_isFair_98 : decode cL_isFair 98 = .ok (.aload_n 0, 1) := by decide +kernel
theorem dL_isFair_99 : decode cL_isFair 99 = .ok (.aload_n 0, 1) := by decide +kernel
theorem dL_isFair_100 : decode cL_isFair 100 = .ok (.iload 5, 2) := by decide +kernel
theorem dL_isFair_102 : decode cL_isFair 102 = .ok (.bipush 6, 2) := by decide +kernel
theorem dL_isFair_104 : decode cL_isFair 104 = .ok (.invokevirtual 61, 3) := by decide +kernel
theorem dL_isFair_107 : decode cL_isFair 107 = .ok (.invokevirtual 64, 3) := by decide +kernel
theorem dL_isFair_110 : decode cL_isFair 110 = .ok (.iload 5, 2) := by decide +kernel
theorem dL_isFair_112 : decode cL_isFair 112 = .ok (.if_icmp .eq 5, 3) := by decide +kernel
theorem dL_isFair_115 : decode cL_isFair 115 = .ok (.iconst 0, 1) := by decide +kernel
theorem dL_isFair_116 : decode cL_isFair 116 = .ok (.ireturn, 1) := by decide +kernel
theorem dL_isFair_117 : decode cL_isFair 117 = .ok (.iinc 5 1, 3) := by decide +kernel
theorem dL_isFair_120 : decode cL_isFair 120 = .ok (.goto (-106), 3) := by decide +kernel
theorem dL_isFair_123 : decode cL_isFair 123 = .ok (.iconst 0, 1) := by decide +kernel
theorem dL_isFair_124 : decode cL_isFair 124 = .ok (.istore 5, 2) := by decide +kernel
theorem dL_isFair_126 : decode cL_isFair 126 = .ok (.iload 5, 2) := by decide +kernel
theorem dL_isFair_128 : decode cL_isFair 128 = .ok (.aload_n 0, 1) := by decide +kernel
theorem dL_isFair_129 : decode cL_isFair 129 = .ok (.iconst 1, 1) := by decide +kernel
theorem dL_isFair_130 : decode cL_isFair 130 = .ok (.invokevirtual 58, 3) := by decide +kernel
theorem dL_isFair_133 : decode cL_isFair 133 = .ok (.if_icmp .ge 251, 3) := by decide +kernel
theorem dL_isFair_136 : decode cL_isFair 136 = .ok (.aload_n 0, 1) := by decide +kernel
theorem dL_isFair_137 : decode cL_isFair 137 = .ok (.iload 5, 2) := by decide +kernel
theorem dL_isFair_139 : decode cL_isFair 139 = .ok (.iconst 2, 1) := by decide +kernel
theorem dL_isFair_140 : decode cL_isFair 140 = .ok (.invokevirtual 67, 3) := by decide +kernel
theorem dL_isFair_143 : decode cL_isFair 143 = .ok (.istore 6, 2) := by decide +kernel
theorem dL_isFair_145 : decode cL_isFair 145 = .ok (.aload_n 0, 1) := by decide +kernel
theorem dL_isFair_146 : decode cL_isFair 146 = .ok (.iload 5, 2) := by decide +kernel
theorem dL_isFair_148 : decode cL_isFair 148 = .ok (.bipush 7, 2) := by decide +kernel
theorem dL_isFair_150 : decode cL_isFair 150 = .ok (.invokevirtual 67, 3) := by decide +kernel
theorem dL_isFair_153 : decode cL_isFair 153 = .ok (.istore 7, 2) := by decide +kernel
theorem dL_isFair_155 : decode cL_isFair 155 = .ok (.iload_n 3, 1) := by decide +kernel
theorem dL_isFair_156 : decode cL_isFair 156 = .ok (.aload_n 0, 1) := by decide +kernel
theorem dL_isFair_157 : decode cL_isFair 157 = .ok (.iload 5, 2) := by decide +kernel
theorem dL_isFair_159 : decode cL_isFair 159 = .ok (.iconst 5, 1) := by decide +kernel
theorem dL_isFair_160 : decode cL_isFair 160 = .ok (.invokevirtual 67, 3) := by decide +kernel
theorem dL_isFair_163 : decode cL_isFair 163 = .ok (.iadd, 1) := by decide +kernel
theorem dL_isFair_164 : decode cL_isFair 164 = .ok (.istore_n 3, 1) := by decide +kernel
theorem dL_isFair_165 : decode cL_isFair 165 = .ok (.aload_n 0, 1) := by decide +kernel
theorem dL_isFair_166 : decode cL_isFair 166 = .ok (.iload 5, 2) := by decide +kernel
theorem dL_isFair_168 : decode cL_isFair 168 = .ok (.iconst 1, 1) := by decide +kernel
theorem dL_isFair_169 : decode cL_isFair 169 = .ok (.invokevirtual 67, 3) := by decide +kernel
theorem dL_isFair_172 : decode cL_isFair 172 = .ok (.ifCond .lt 149, 3) := by decide +kernel
theorem dL_isFair_175 : decode cL_isFair 175 = .ok (.aload_n 0, 1) := by decide +kernel
theorem dL_isFair_176 : decode cL_isFair 176 = .ok (.iload 5, 2) := by decide +kernel
theorem dL_isFair_178 : decode cL_isFair 178 = .ok (.iconst 1, 1) := by decide +kernel
theorem dL_isFair_179 : decode cL_isFair 179 = .ok (.invokevirtual 67, 3) := by decide +kernel
theorem dL_isFair_182 : decode cL_isFair 182 = .ok (.bipush 9, 2) := by decide +kernel
theorem dL_isFair_184 : decode cL_isFair 184 = .ok (.if_icmp .gt 137, 3) := by decide +kernel
theorem dL_isFair_187 : decode cL_isFair 187 = .ok (.iload 7, 2) := by decide +kernel
theorem dL_isFair_189 : decode cL_isFair 189 = .ok (.bipush 8, 2) := by decide +kernel
theorem dL_isFair_191 : decode cL_isFair 191 = .ok (.if_icmp .gt 130, 3) := by decide +kernel
theorem dL_isFair_194 : decode cL_isFair 194 = .ok (.aload_n 0, 1) := by decide +kernel
theorem dL_isFair_195 : decode cL_isFair 195 = .ok (.iload 5, 2) := by decide +kernel
theorem dL_isFair_197 : decode cL_isFair 197 = .ok (.bipush 8, 2) := by decide +kernel
theorem dL_isFair_199 : decode cL_isFair 199 = .ok (.invokevirtual 67, 3) := by decide +kernel
theorem dL_isFair_202 : decode cL_isFair 202 = .ok (.iconst 1, 1) := by decide +kernel
theorem dL_isFair_203 : decode cL_isFair 203 = .ok (.if_icmp .lt 118, 3) := by decide +kernel
theorem dL_isFair_206 : decode cL_isFair 206 = .ok (.aload_n 0, 1) := by decide +kernel
theorem dL_isFair_207 : decode cL_isFair 207 = .ok (.iload 5, 2) := by decide +kernel
theorem dL_isFair_209 : decode cL_isFair 209 = .ok (.bipush 8, 2) := by decide +kernel
theorem dL_isFair_211 : decode cL_isFair 211 = .ok (.invokevirtual 67, 3) := by decide +kernel
theorem dL_isFair_214 : decode cL_isFair 214 = .ok (.bipush 6, 2) := by decide +kernel
theorem dL_isFair_216 : decode cL_isFair 216 = .ok (.if_icmp .gt 105, 3) := by decide +kernel
theorem dL_isFair_219 : decode cL_isFair 219 = .ok (.aload_n 0, 1) := by decide +kernel
theorem dL_isFair_220 : decode cL_isFair 220 = .ok (.iload 5, 2) := by decide +kernel
theorem dL_isFair_222 : decode cL_isFair 222 = .ok (.bipush 6, 2) := by decide +kernel
theorem dL_isFair_224 : decode cL_isFair 224 = .ok (.invokevirtual 67, 3) := by decide +kernel
theorem dL_isFair_227 : decode cL_isFair 227 = .ok (.bipush 8, 2) := by decide +kernel
theorem dL_isFair_229 : decode cL_isFair 229 = .ok (.if_icmp .gt 92, 3) := by decide +kernel
theorem dL_isFair_232 : decode cL_isFair 232 = .ok (.iload 6, 2) := by decide +kernel
theorem dL_isFair_234 : decode cL_isFair 234 = .ok (.ifCond .lt 7, 3) := by decide +kernel
theorem dL_isFair_237 : decode cL_isFair 237 = .ok (.iconst 1, 1) := by decide +kernel
theorem dL_isFair_238 : decode cL_isFair 238 = .ok (.goto 4, 3) := by decide +kernel
theorem dL_isFair_241 : decode cL_isFair 241 = .ok (.iconst 0, 1) := by decide +kernel
theorem dL_isFair_242 : decode cL_isFair 242 = .ok (.aload_n 0, 1) := by decide +kernel
theorem dL_isFair_243 : decode cL_isFair 243 = .ok (.iload 5, 2) := by decide +kernel
theorem dL_isFair_245 : decode cL_isFair 245 = .ok (.iconst 5, 1) := by decide +kernel
theorem dL_isFair_246 : decode cL_isFair 246 = .ok (.invokevirtual 67, 3) := by decide +kernel
theorem dL_isFair_249 : decode cL_isFair 249 = .ok (.ifCond .le 7, 3) := by decide +kernel
theorem dL_isFair_252 : decode cL_isFair 252 = .ok (.iconst 1, 1) := by decide +kernel
theorem dL_isFair_253 : decode cL_isFair 253 = .ok (.goto 4, 3) := by decide +kernel
theorem dL_isFair_256 : decode cL_isFair 256 = .ok (.iconst 0, 1) := by decide +kernel
theorem dL_isFair_257 : decode cL_isFair 257 = .ok (.if_icmp .ne 64, 3) := by decide +kernel
theorem dL_isFair_260 : decode cL_isFair 260 = .ok (.iload 6, 2) := by decide +kernel
theorem dL_isFair_262 : decode cL_isFair 262 = .ok (.ifCond .lt 35, 3) := by decide +kernel
theorem dL_isFair_265 : decode cL_isFair 265 = .ok (.aload_n 0, 1) := by decide +kernel
theorem dL_isFair_266 : decode cL_isFair 266 = .ok (.iload 5, 2) := by decide +kernel
theorem dL_isFair_268 : decode cL_isFair 268 = .ok (.iload 7, 2) := by decide +kernel
theorem dL_isFair_270 : decode cL_isFair 270 = .ok (.iconst 1, 1) := by decide +kernel
theorem dL_isFair_271 : decode cL_isFair 271 = .ok (.isub, 1) := by decide +kernel
theorem dL_isFair_272 : decode cL_isFair 272 = .ok (.iconst 0, 1) := by decide +kernel
theorem dL_isFair_273 : decode cL_isFair 273 = .ok (.invokevirtual 70, 3) := by decide +kernel
theorem dL_isFair_276 : decode cL_isFair 276 = .ok (.iload 6, 2) := by decide +kernel
theorem dL_isFair_278 : decode cL_isFair 278 = .ok (.if_icmp .ne 43, 3) := by decide +kernel
theorem dL_isFair_281 : decode cL_isFair 281 = .ok (.aload_n 0, 1) := by decide +kernel
theorem dL_isFair_282 : decode cL_isFair 282 = .ok (.iload 5, 2) := by decide +kernel
theorem dL_isFair_284 : decode cL_isFair 284 = .ok (.iload 7, 2) := by decide +kernel
theorem dL_isFair_286 : decode cL_isFair 286 = .ok (.iconst 1, 1) := by decide +kernel
theorem dL_isFair_287 : decode cL_isFair 287 = .ok (.isub, 1) := by decide +kernel
theorem dL_isFair_288 : decode cL_isFair 288 = .ok (.iconst 2, 1) := by decide +kernel
theorem dL_isFair_289 : decode cL_isFair 289 = .ok (.invokevirtual 70, 3) := by decide +kernel
theorem dL_isFair_292 : decode cL_isFair 292 = .ok (.bipush (-2), 2) := by decide +kernel
theorem dL_isFair_294 : decode cL_isFair 294 = .ok (.if_icmp .ne 27, 3) := by decide +kernel
theorem dL_isFair_297 : decode cL_isFair 297 = .ok (.iload 6, 2) := by decide +kernel
theorem dL_isFair_299 : decode cL_isFair 299 = .ok (.ifCond .ge 24, 3) := by decide +kernel
theorem dL_isFair_302 : decode cL_isFair 302 = .ok (.iload 7, 2) := by decide +kernel
theorem dL_isFair_304 : decode cL_isFair 304 = .ok (.ifCond .le 19, 3) := by decide +kernel
theorem dL_isFair_307 : decode cL_isFair 307 = .ok (.aload_n 0, 1) := by decide +kernel
theorem dL_isFair_308 : decode cL_isFair 308 = .ok (.iload 5, 2) := by decide +kernel
theorem dL_isFair_310 : decode cL_isFair 310 = .ok (.iload 7, 2) := by decide +kernel
theorem dL_isFair_312 : decode cL_isFair 312 = .ok (.iconst 1, 1) := by decide +kernel
theorem dL_isFair_313 : decode cL_isFair 313 = .ok (.isub, 1) := by decide +kernel
theorem dL_isFair_314 : decode cL_isFair 314 = .ok (.iconst 2, 1) := by decide +kernel
theorem dL_isFair_315 : decode cL_isFair 315 = .ok (.invokevirtual 70, 3) := by decide +kernel
theorem dL_isFair_318 : decode cL_isFair 318 = .ok (.ifCond .ge 5, 3) := by decide +kernel
theorem dL_isFair_321 : decode cL_isFair 321 = .ok (.iconst 0, 1) := by decide +kernel
theorem dL_isFair_322 : decode cL_isFair 322 = .ok (.ireturn, 1) := by decide +kernel
theorem dL_isFair_323 : decode cL_isFair 323 = .ok (.iconst 1, 1) := by decide +kernel
theorem dL_isFair_324 : decode cL_isFair 324 = .ok (.istore 8, 2) := by decide +kernel
theorem dL_isFair_326 : decode cL_isFair 326 = .ok (.iload 8, 2) := by decide +kernel
theorem dL_isFair_328 : decode cL_isFair 328 = .ok (.iload 7, 2) := by decide +kernel
theorem dL_isFair_330 : decode cL_isFair 330 = .ok (.if_icmp .ge 48, 3) := by decide +kernel
theorem dL_isFair_333 : decode cL_isFair 333 = .ok (.aload_n 0, 1) := by decide +kernel
theorem dL_isFair_334 : decode cL_isFair 334 = .ok (.iload 5, 2) := by decide +kernel
theorem dL_isFair_336 : decode cL_isFair 336 = .ok (.iload 8, 2) := by decide +kernel
theorem dL_isFair_338 : decode cL_isFair 338 = .ok (.iconst 1, 1) := by decide +kernel
theorem dL_isFair_339 : decode cL_isFair 339 = .ok (.isub, 1) := by decide +kernel
theorem dL_isFair_340 : decode cL_isFair 340 = .ok (.iconst 2, 1) := by decide +kernel
theorem dL_isFair_341 : decode cL_isFair 341 = .ok (.invokevirtual 70, 3) := by decide +kernel
theorem dL_isFair_344 : decode cL_isFair 344 = .ok (.ifCond .lt 26, 3) := by decide +kernel
theorem dL_isFair_347 : decode cL_isFair 347 = .ok (.aload_n 0, 1) := by decide +kernel
theorem dL_isFair_348 : decode cL_isFair 348 = .ok (.iload 5, 2) := by decide +kernel
theorem dL_isFair_350 : decode cL_isFair 350 = .ok (.iload 8, 2) := by decide +kernel
theorem dL_isFair_352 : decode cL_isFair 352 = .ok (.iconst 1, 1) := by decide +kernel
theorem dL_isFair_353 : decode cL_isFair 353 = .ok (.isub, 1) := by decide +kernel
theorem dL_isFair_354 : decode cL_isFair 354 = .ok (.iconst 2, 1) := by decide +kernel
theorem dL_isFair_355 : decode cL_isFair 355 = .ok (.invokevirtual 70, 3) := by decide +kernel
theorem dL_isFair_358 : decode cL_isFair 358 = .ok (.aload_n 0, 1) := by decide +kernel
theorem dL_isFair_359 : decode cL_isFair 359 = .ok (.iload 5, 2) := by decide +kernel
theorem dL_isFair_361 : decode cL_isFair 361 = .ok (.iload 8, 2) := by decide +kernel
theorem dL_isFair_363 : decode cL_isFair 363 = .ok (.iconst 1, 1) := by decide +kernel
theorem dL_isFair_364 : decode cL_isFair 364 = .ok (.invokevirtual 70, 3) := by decide +kernel
theorem dL_isFair_367 : decode cL_isFair 367 = .ok (.if_icmp .le 5, 3) := by decide +kernel
theorem dL_isFair_370 : decode cL_isFair 370 = .ok (.iconst 0, 1) := by decide +kernel
theorem dL_isFair_371 : decode cL_isFair 371 = .ok (.ireturn, 1) := by decide +kernel
theorem dL_isFair_372 : decode cL_isFair 372 = .ok (.iinc 8 1, 3) := by decide +kernel
theorem dL_isFair_375 : decode cL_isFair 375 = .ok (.goto (-49), 3) := by decide +kernel
theorem dL_isFair_378 : decode cL_isFair 378 = .ok (.iinc 5 1, 3) := by decide +kernel
theorem dL_isFair_381 : decode cL_isFair 381 = .ok (.goto (-255), 3) := by decide +kernel
theorem dL_isFair_384 : decode cL_isFair 384 = .ok (.iload_n 2, 1) := by decide +kernel
theorem dL_isFair_385 : decode cL_isFair 385 = .ok (.aload_n 0, 1) := by decide +kernel
theorem dL_isFair_386 : decode cL_isFair 386 = .ok (.iconst 2, 1) := by decide +kernel
theorem dL_isFair_387 : decode cL_isFair 387 = .ok (.invokevirtual 58, 3) := by decide +kernel
theorem dL_isFair_390 : decode cL_isFair 390 = .ok (.if_icmp .ne 32, 3) := by decide +kernel
theorem dL_isFair_393 : decode cL_isFair 393 = .ok (.iload 4, 2) := by decide +kernel
theorem dL_isFair_395 : decode cL_isFair 395 = .ok (.aload_n 0, 1) := by decide +kernel
theorem dL_isFair_396 : decode cL_isFair 396 = .ok (.bipush 6, 2) := by decide +kernel
theorem dL_isFair_398 : decode cL_isFair 398 = .ok (.invokevirtual 58, 3) := by decide +kernel
theorem dL_isFair_401 : decode cL_isFair 401 = .ok (.if_icmp .ne 21, 3) := by decide +kernel
theorem dL_isFair_404 : decode cL_isFair 404 = .ok (.iload_n 3, 1) := by decide +kernel
theorem dL_isFair_405 : decode cL_isFair 405 = .ok (.iload_n 1, 1) := by decide +kernel
theorem dL_isFair_406 : decode cL_isFair 406 = .ok (.if_icmp .ne 16, 3) := by decide +kernel
theorem dL_isFair_409 : decode cL_isFair 409 = .ok (.aload_n 0, 1) := by decide +kernel
theorem dL_isFair_410 : decode cL_isFair 410 = .ok (.iconst 3, 1) := by decide +kernel
theorem dL_isFair_411 : decode cL_isFair 411 = .ok (.invokevirtual 73, 3) := by decide +kernel
theorem dL_isFair_414 : decode cL_isFair 414 = .ok (.iload_n 1, 1) := by decide +kernel
theorem dL_isFair_415 : decode cL_isFair 415 = .ok (.if_icmp .ne 7, 3) := by decide +kernel
theorem dL_isFair_418 : decode cL_isFair 418 = .ok (.iconst 1, 1) := by decide +kernel
theorem dL_isFair_419 : decode cL_isFair 419 = .ok (.goto 4, 3) := by decide +kernel
theorem dL_isFair_422 : decode cL_isFair 422 = .ok (.iconst 0, 1) := by decide +kernel
theorem dL_isFair_423 : decode cL_isFair 423 = .ok (.ireturn, 1) := by decide +kernel
theorem dL_law_0 : decode cL_law 0 = .ok (.new 15, 3) := by decide +kernel
theorem dL_law_3 : decode cL_law 3 = .ok (.dup, 1) := by decide +kernel
theorem dL_law_4 : decode cL_law 4 = .ok (.invokespecial 76, 3) := by decide +kernel
theorem dL_law_7 : decode cL_law 7 = .ok (.astore_n 1, 1) := by decide +kernel
theorem dL_law_8 : decode cL_law 8 = .ok (.iconst 0, 1) := by decide +kernel
theorem dL_law_9 : decode cL_law 9 = .ok (.istore_n 2, 1) := by decide +kernel
theorem dL_law_10 : decode cL_law 10 = .ok (.aload_n 0, 1) := by decide +kernel
theorem dL_law_11 : decode cL_law 11 = .ok (.arraylength, 1) := by decide +kernel
theorem dL_law_12 : decode cL_law 12 = .ok (.bipush 60, 2) := by decide +kernel
theorem dL_law_14 : decode cL_law 14 = .ok (.if_icmp .ge 8, 3) := by decide +kernel
theorem dL_law_17 : decode cL_law 17 = .ok (.aload_n 0, 1) := by decide +kernel
theorem dL_law_18 : decode cL_law 18 = .ok (.arraylength, 1) := by decide +kernel
theorem dL_law_19 : decode cL_law 19 = .ok (.goto 5, 3) := by decide +kernel
theorem dL_law_22 : decode cL_law 22 = .ok (.bipush 60, 2) := by decide +kernel
theorem dL_law_24 : decode cL_law 24 = .ok (.istore_n 3, 1) := by decide +kernel
theorem dL_law_25 : decode cL_law 25 = .ok (.iconst 0, 1) := by decide +kernel
theorem dL_law_26 : decode cL_law 26 = .ok (.istore 4, 2) := by decide +kernel
theorem dL_law_28 : decode cL_law 28 = .ok (.iload 4, 2) := by decide +kernel
theorem dL_law_30 : decode cL_law 30 = .ok (.iload_n 3, 1) := by decide +kernel
theorem dL_law_31 : decode cL_law 31 = .ok (.if_icmp .ge 30, 3) := by decide +kernel
theorem dL_law_34 : decode cL_law 34 = .ok (.iload_n 2, 1) := by decide +kernel
theorem dL_law_35 : decode cL_law 35 = .ok (.aload_n 1, 1) := by decide +kernel
theorem dL_law_36 : decode cL_law 36 = .ok (.aload_n 0, 1) := by decide +kernel
theorem dL_law_37 : decode cL_law 37 = .ok (.iload 4, 2) := by decide +kernel
theorem dL_law_39 : decode cL_law 39 = .ok (.invokestatic 77, 3) := by decide +kernel
theorem dL_law_42 : decode cL_law 42 = .ok (.iadd, 1) := by decide +kernel
theorem dL_law_43 : decode cL_law 43 = .ok (.istore_n 2, 1) := by decide +kernel
theorem dL_law_44 : decode cL_law 44 = .ok (.aload_n 1, 1) := by decide +kernel
theorem dL_law_45 : decode cL_law 45 = .ok (.iconst 3, 1) := by decide +kernel
theorem dL_law_46 : decode cL_law 46 = .ok (.invokevirtual 73, 3) := by decide +kernel
theorem dL_law_49 : decode cL_law 49 = .ok (.iload_n 2, 1) := by decide +kernel
theorem dL_law_50 : decode cL_law 50 = .ok (.if_icmp .eq 5, 3) := by decide +kernel
theorem dL_law_53 : decode cL_law 53 = .ok (.iconst 0, 1) := by decide +kernel
theorem dL_law_54 : decode cL_law 54 = .ok (.ireturn, 1) := by decide +kernel
theorem dL_law_55 : decode cL_law 55 = .ok (.iinc 4 1, 3) := by decide +kernel
theorem dL_law_58 : decode cL_law 58 = .ok (.goto (-30), 3) := by decide +kernel
theorem dL_law_61 : decode cL_law 61 = .ok (.aload_n 1, 1) := by decide +kernel
theorem dL_law_62 : decode cL_law 62 = .ok (.invokevirtual 81, 3) := by decide +kernel
theorem dL_law_65 : decode cL_law 65 = .ok (.istore 4, 2) := by decide +kernel
theorem dL_law_67 : decode cL_law 67 = .ok (.aload_n 1, 1) := by decide +kernel
theorem dL_law_68 : decode cL_law 68 = .ok (.iload_n 2, 1) := by decide +kernel
theorem dL_law_69 : decode cL_law 69 = .ok (.invokestatic 85, 3) := by decide +kernel
theorem dL_law_72 : decode cL_law 72 = .ok (.ifCond .eq 27, 3) := by decide +kernel
theorem dL_law_75 : decode cL_law 75 = .ok (.iload 4, 2) := by decide +kernel
theorem dL_law_77 : decode cL_law 77 = .ok (.aload_n 1, 1) := by decide +kernel
theorem dL_law_78 : decode cL_law 78 = .ok (.iconst 4, 1) := by decide +kernel
theorem dL_law_79 : decode cL_law 79 = .ok (.invokevirtual 58, 3) := by decide +kernel
theorem dL_law_82 : decode cL_law 82 = .ok (.if_icmp .ne 17, 3) := by decide +kernel
theorem dL_law_85 : decode cL_law 85 = .ok (.aload_n 1, 1) := by decide +kernel
theorem dL_law_86 : decode cL_law 86 = .ok (.aload_n 1, 1) := by decide +kernel
theorem dL_law_87 : decode cL_law 87 = .ok (.iconst 0, 1) := by decide +kernel
theorem dL_law_88 : decode cL_law 88 = .ok (.invokevirtual 58, 3) := by decide +kernel
theorem dL_law_91 : decode cL_law 91 = .ok (.iconst 0, 1) := by decide +kernel
theorem dL_law_92 : decode cL_law 92 = .ok (.invokevirtual 61, 3) := by decide +kernel
theorem dL_law_95 : decode cL_law 95 = .ok (.iconst (-1), 1) := by decide +kernel
theorem dL_law_96 : decode cL_law 96 = .ok (.if_icmp .eq 5, 3) := by decide +kernel
theorem dL_law_99 : decode cL_law 99 = .ok (.iconst 0, 1) := by decide +kernel
theorem dL_law_100 : decode cL_law 100 = .ok (.ireturn, 1) := by decide +kernel
theorem dL_law_101 : decode cL_law 101 = .ok (.aload_n 1, 1) := by decide +kernel
theorem dL_law_102 : decode cL_law 102 = .ok (.bipush 9, 2) := by decide +kernel
theorem dL_law_104 : decode cL_law 104 = .ok (.iconst 0, 1) := by decide +kernel
theorem dL_law_105 : decode cL_law 105 = .ok (.invokevirtual 89, 3) := by decide +kernel
theorem dL_law_108 : decode cL_law 108 = .ok (.istore 5, 2) := by decide +kernel
theorem dL_law_110 : decode cL_law 110 = .ok (.aload_n 1, 1) := by decide +kernel
theorem dL_law_111 : decode cL_law 111 = .ok (.bipush 9, 2) := by decide +kernel
theorem dL_law_113 : decode cL_law 113 = .ok (.iconst 1, 1) := by decide +kernel
theorem dL_law_114 : decode cL_law 114 = .ok (.invokevirtual 89, 3) := by decide +kernel
theorem dL_law_117 : decode cL_law 117 = .ok (.istore 6, 2) := by decide +kernel
theorem dL_law_119 : decode cL_law 119 = .ok (.aload_n 1, 1) := by decide +kernel
theorem dL_law_120 : decode cL_law 120 = .ok (.bipush 9, 2) := by decide +kernel
theorem dL_law_122 : decode cL_law 122 = .ok (.invokevirtual 46, 3) := by decide +kernel
theorem dL_law_125 : decode cL_law 125 = .ok (.pop, 1) := by decide +kernel
theorem dL_law_126 : decode cL_law 126 = .ok (.iconst 0, 1) := by decide +kernel
theorem dL_law_127 : decode cL_law 127 = .ok (.istore 7, 2) := by decide +kernel
theorem dL_law_129 : decode cL_law 129 = .ok (.iconst 0, 1) := by decide +kernel
theorem dL_law_130 : decode cL_law 130 = .ok (.istore 8, 2) := by decide +kernel
theorem dL_law_132 : decode cL_law 132 = .ok (.iconst 0, 1) := by decide +kernel
theorem dL_law_133 : decode cL_law 133 = .ok (.istore 9, 2) := by decide +kernel
theorem dL_law_135 : decode cL_law 135 = .ok (.iload 9, 2) := by decide +kernel
theorem dL_law_137 : decode cL_law 137 = .ok (.aload_n 1, 1) := by decide +kernel
theorem dL_law_138 : decode cL_law 138 = .ok (.iconst 1, 1) := by decide +kernel
theorem dL_law_139 : decode cL_law 139 = .ok (.invokevirtual 58, 3) := by decide +kernel
theorem dL_law_142 : decode cL_law 142 = .ok (.if_icmp .ge 56, 3) := by decide +kernel
theorem dL_law_145 : decode cL_law 145 = .ok (.iload 7, 2) := by decide +kernel
theorem dL_law_147 : decode cL_law 147 = .ok (.aload_n 1, 1) := by decide +kernel
theorem dL_law_148 : decode cL_law 148 = .ok (.iload 9, 2) := by decide +kernel
theorem dL_law_150 : decode cL_law 150 = .ok (.iconst 2, 1) := by decide +kernel
theorem dL_law_151 : decode cL_law 151 = .ok (.invokevirtual 67, 3) := by decide +kernel
theorem dL_law_154 : decode cL_law 154 = .ok (.ifCond .lt 22, 3) := by decide +kernel
theorem dL_law_157 : decode cL_law 157 = .ok (.aload_n 1, 1) := by decide +kernel
theorem dL_law_158 : decode cL_law 158 = .ok (.iload 9, 2) := by decide +kernel
theorem dL_law_160 : decode cL_law 160 = .ok (.iconst 4, 1) := by decide +kernel
theorem dL_law_161 : decode cL_law 161 = .ok (.invokevirtual 67, 3) := by decide +kernel
theorem dL_law_164 : decode cL_law 164 = .ok (.aload_n 1, 1) := by decide +kernel
theorem dL_law_165 : decode cL_law 165 = .ok (.iconst 4, 1) := by decide +kernel
theorem dL_law_166 : decode cL_law 166 = .ok (.invokevirtual 58, 3) := by decide +kernel
theorem dL_law_169 : decode cL_law 169 = .ok (.if_icmp .ge 7, 3) := by decide +kernel
theorem dL_law_172 : decode cL_law 172 = .ok (.iconst 1, 1) := by decide +kernel
theorem dL_law_173 : decode cL_law 173 = .ok (.goto 4, 3) := by decide +kernel
theorem dL_law_176 : decode cL_law 176 = .ok (.iconst 0, 1) := by decide +kernel
theorem dL_law_177 : decode cL_law 177 = .ok (.iadd, 1) := by decide +kernel
theorem dL_law_178 : decode cL_law 178 = .ok (.istore 7, 2) := by decide +kernel
theorem dL_law_180 : decode cL_law 180 = .ok (.iload 8, 2) := by decide +kernel
theorem dL_law_182 : decode cL_law 182 = .ok (.aload_n 1, 1) := by decide +kernel
theorem dL_law_183 : decode cL_law 183 = .ok (.iload 9, 2) := by decide +kernel
theorem dL_law_185 : decode cL_law 185 = .ok (.iconst 2, 1) := by decide +kernel
theorem dL_law_186 : decode cL_law 186 = .ok (.invokevirtual 92, 3) := by decide +kernel
theorem dL_law_189 : decode cL_law 189 = .ok (.iadd, 1) := by decide +kernel
theorem dL_law_190 : decode cL_law 190 = .ok (.istore 8, 2) := by decide +kernel
theorem dL_law_192 : decode cL_law 192 = .ok (.iinc 9 1, 3) := by decide +kernel
theorem dL_law_195 : decode cL_law 195 = .ok (.goto (-60), 3) := by decide +kernel
theorem dL_law_198 : decode cL_law 198 = .ok (.iload 5, 2) := by decide +kernel
theorem dL_law_200 : decode cL_law 200 = .ok (.iload 7, 2) := by decide +kernel
theorem dL_law_202 : decode cL_law 202 = .ok (.if_icmp .ne 21, 3) := by decide +kernel
theorem dL_law_205 : decode cL_law 205 = .ok (.iload 6, 2) := by decide +kernel
theorem dL_law_207 : decode cL_law 207 = .ok (.iload 8, 2) := by decide +kernel
theorem dL_law_209 : decode cL_law 209 = .ok (.if_icmp .ne 14, 3) := by decide +kernel
theorem dL_law_212 : decode cL_law 212 = .ok (.aload_n 1, 1) := by decide +kernel
theorem dL_law_213 : decode cL_law 213 = .ok (.iconst 0, 1) := by decide +kernel
theorem dL_law_214 : decode cL_law 214 = .ok (.iconst 1, 1) := by decide +kernel
theorem dL_law_215 : decode cL_law 215 = .ok (.invokevirtual 89, 3) := by decide +kernel
theorem dL_law_218 : decode cL_law 218 = .ok (.iload 8, 2) := by decide +kernel
theorem dL_law_220 : decode cL_law 220 = .ok (.if_icmp .eq 5, 3) := by decide +kernel
theorem dL_law_223 : decode cL_law 223 = .ok (.iconst 0, 1) := by decide +kernel
theorem dL_law_224 : decode cL_law 224 = .ok (.ireturn, 1) := by decide +kernel
theorem dL_law_225 : decode cL_law 225 = .ok (.iconst 0, 1) := by decide +kernel
theorem dL_law_226 : decode cL_law 226 = .ok (.istore 9, 2) := by decide +kernel
theorem dL_law_228 : decode cL_law 228 = .ok (.iload 9, 2) := by decide +kernel
theorem dL_law_230 : decode cL_law 230 = .ok (.aload_n 1, 1) := by decide +kernel
theorem dL_law_231 : decode cL_law 231 = .ok (.iconst 1, 1) := by decide +kernel
theorem dL_law_232 : decode cL_law 232 = .ok (.invokevirtual 58, 3) := by decide +kernel
theorem dL_law_235 : decode cL_law 235 = .ok (.if_icmp .ge 50, 3) := by decide +kernel
theorem dL_law_238 : decode cL_law 238 = .ok (.aload_n 1, 1) := by decide +kernel
theorem dL_law_239 : decode cL_law 239 = .ok (.iload 9, 2) := by decide +kernel
theorem dL_law_241 : decode cL_law 241 = .ok (.iconst 2, 1) := by decide +kernel
theorem dL_law_242 : decode cL_law 242 = .ok (.invokevirtual 92, 3) := by decide +kernel
theorem dL_law_245 : decode cL_law 245 = .ok (.istore 10, 2) := by decide +kernel
theorem dL_law_247 : decode cL_law 247 = .ok (.aload_n 1, 1) := by decide +kernel
theorem dL_law_248 : decode cL_law 248 = .ok (.iload 9, 2) := by decide +kernel
theorem dL_law_250 : decode cL_law 250 = .ok (.invokevirtual 31, 3) := by decide +kernel
theorem dL_law_253 : decode cL_law 253 = .ok (.istore 11, 2) := by decide +kernel
theorem dL_law_255 : decode cL_law 255 = .ok (.iload 11, 2) := by decide +kernel
theorem dL_law_257 : decode cL_law 257 = .ok (.bipush (-5), 2) := by decide +kernel
theorem dL_law_259 : decode cL_law 259 = .ok (.if_icmp .eq 10, 3) := by decide +kernel
theorem dL_law_262 : decode cL_law 262 = .ok (.iload 11, 2) := by decide +kernel
theorem dL_law_264 : decode cL_law 264 = .ok (.iload 10, 2) := by decide +kernel
theorem dL_law_266 : decode cL_law 266 = .ok (.if_icmp .ne 11, 3) := by decide +kernel
theorem dL_law_269 : decode cL_law 269 = .ok (.aload_n 1, 1) := by decide +kernel
theorem dL_law_270 : decode cL_law 270 = .ok (.iload_n 2, 1) := by decide +kernel
theorem dL_law_271 : decode cL_law 271 = .ok (.invokestatic 85, 3) := by decide +kernel
theorem dL_law_274 : decode cL_law 274 = .ok (.ifCond .ne 5, 3) := by decide +kernel
theorem dL_law_277 : decode cL_law 277 = .ok (.iconst 0, 1) := by decide +kernel
theorem dL_law_278 : decode cL_law 278 = .ok (.ireturn, 1) := by decide +kernel
theorem dL_law_279 : decode cL_law 279 = .ok (.iinc 9 1, 3) := by decide +kernel
theorem dL_law_282 : decode cL_law 282 = .ok (.goto (-54), 3) := by decide +kernel
theorem dL_law_285 : decode cL_law 285 = .ok (.aload_n 1, 1) := by decide +kernel
theorem dL_law_286 : decode cL_law 286 = .ok (.invokevirtual 95, 3) := by decide +kernel
theorem dL_law_289 : decode cL_law 289 = .ok (.iload 4, 2) := by decide +kernel
theorem dL_law_291 : decode cL_law 291 = .ok (.if_icmp .ne 37, 3) := by decide +kernel
theorem dL_law_294 : decode cL_law 294 = .ok (.aload_n 1, 1) := by decide +kernel
theorem dL_law_295 : decode cL_law 295 = .ok (.iconst 4, 1) := by decide +kernel
theorem dL_law_296 : decode cL_law 296 = .ok (.invokevirtual 58, 3) := by decide +kernel
theorem dL_law_299 : decode cL_law 299 = .ok (.iload 4, 2) := by decide +kernel
theorem dL_law_301 : decode cL_law 301 = .ok (.if_icmp .ne 27, 3) := by decide +kernel
theorem dL_law_304 : decode cL_law 304 = .ok (.aload_n 1, 1) := by decide +kernel
theorem dL_law_305 : decode cL_law 305 = .ok (.bipush 9, 2) := by decide +kernel
theorem dL_law_307 : decode cL_law 307 = .ok (.iconst 0, 1) := by decide +kernel
theorem dL_law_308 : decode cL_law 308 = .ok (.invokevirtual 89, 3) := by decide +kernel
theorem dL_law_311 : decode cL_law 311 = .ok (.iload 5, 2) := by decide +kernel
theorem dL_law_313 : decode cL_law 313 = .ok (.if_icmp .ne 15, 3) := by decide +kernel
theorem dL_law_316 : decode cL_law 316 = .ok (.aload_n 1, 1) := by decide +kernel
theorem dL_law_317 : decode cL_law 317 = .ok (.iload_n 2, 1) := by decide +kernel
theorem dL_law_318 : decode cL_law 318 = .ok (.invokestatic 85, 3) := by decide +kernel
theorem dL_law_321 : decode cL_law 321 = .ok (.ifCond .eq 7, 3) := by decide +kernel
theorem dL_law_324 : decode cL_law 324 = .ok (.iconst 1, 1) := by decide +kernel
theorem dL_law_325 : decode cL_law 325 = .ok (.goto 4, 3) := by decide +kernel
theorem dL_law_328 : decode cL_law 328 = .ok (.iconst 0, 1) := by decide +kernel
theorem dL_law_329 : decode cL_law 329 = .ok (.ireturn, 1) := by decide +kernel
