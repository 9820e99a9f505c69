theorem dL_joins_399 : decode cL_joins 399 = .ok (.iload 17, 2) := by decide +kernel
theorem dL_joins_401 : decode cL_joins 401 = .ok (.imul, 1) := by decide +kernel
theorem dL_joins_402 : decode cL_joins 402 = .ok (.iconst 1, 1) := by decide +kernel
theorem dL_joins_403 : decode cL_joins 403 = .ok (.iadd, 1) := by decide +kernel
theorem dL_joins_404 : decode cL_joins 404 = .ok (.aload 7, 2) := by decide +kernel
theorem dL_joins_406 : decode cL_joins 406 = .ok (.iconst 4, 1) := by decide +kernel
theorem dL_joins_407 : decode cL_joins 407 = .ok (.iaload, 1) := by decide +kernel
theorem dL_joins_408 : decode cL_joins 408 = .ok (.iastore, 1) := by decide +kernel
theorem dL_joins_409 : decode cL_joins 409 = .ok (.iload 16, 2) := by decide +kernel
theorem dL_joins_411 : decode cL_joins 411 = .ok (.iload 15, 2) := by decide +kernel
theorem dL_joins_413 : decode cL_joins 413 = .ok (.ifCond .eq 8, 3) := by decide +kernel
theorem dL_joins_416 : decode cL_joins 416 = .ok (.iload 8, 2) := by decide +kernel
theorem dL_joins_418 : decode cL_joins 418 = .ok (.goto 5, 3) := by decide +kernel
theorem dL_joins_421 : decode cL_joins 421 = .ok (.iload 9, 2) := by decide +kernel
theorem dL_joins_423 : decode cL_joins 423 = .ok (.if_icmp .ne 19, 3) := by decide +kernel
theorem dL_joins_426 : decode cL_joins 426 = .ok (.aload_n 0, 1) := by decide +kernel
theorem dL_joins_427 : decode cL_joins 427 = .ok (.iload 17, 2) := by decide +kernel
theorem dL_joins_429 : decode cL_joins 429 = .ok (.iconst 2, 1) := by decide +kernel
theorem dL_joins_430 : decode cL_joins 430 = .ok (.invokevirtual 86, 3) := by decide +kernel
theorem dL_joins_433 : decode cL_joins 433 = .ok (.iload 16, 2) := by decide +kernel
theorem dL_joins_435 : decode cL_joins 435 = .ok (.if_icmp .ne 7, 3) := by decide +kernel
theorem dL_joins_438 : decode cL_joins 438 = .ok (.iconst 1, 1) := by decide +kernel
theorem dL_joins_439 : decode cL_joins 439 = .ok (.goto 4, 3) := by decide +kernel
theorem dL_joins_442 : decode cL_joins 442 = .ok (.iconst 0, 1) := by decide +kernel
theorem dL_joins_443 : decode cL_joins 443 = .ok (.ireturn, 1) := by decide +kernel
theorem dL_numbers_0 : decode cL_numbers 0 = .ok (.iload_n 1, 1) := by decide +kernel
theorem dL_numbers_1 : decode cL_numbers 1 = .ok (.aload 6, 2) := by decide +kernel
theorem dL_numbers_3 : decode cL_numbers 3 = .ok (.iconst 3, 1) := by decide +kernel
theorem dL_numbers_4 : decode cL_numbers 4 = .ok (.iaload, 1) := by decide +kernel
theorem dL_numbers_5 : decode cL_numbers 5 = .ok (.irem, 1) := by decide +kernel
theorem dL_numbers_6 : decode cL_numbers 6 = .ok (.istore 7, 2) := by decide +kernel
theorem dL_numbers_8 : decode cL_numbers 8 = .ok (.sipush 1000, 3) := by decide +kernel
theorem dL_numbers_11 : decode cL_numbers 11 = .ok (.istore 8, 2) := by decide +kernel
theorem dL_numbers_13 : decode cL_numbers 13 = .ok (.iconst (-1), 1) := by decide +kernel
theorem dL_numbers_14 : decode cL_numbers 14 = .ok (.istore 9, 2) := by decide +kernel
theorem dL_numbers_16 : decode cL_numbers 16 = .ok (.iconst (-1), 1) := by decide +kernel
theorem dL_numbers_17 : decode cL_numbers 17 = .ok (.istore 10, 2) := by decide +kernel
theorem dL_numbers_19 : decode cL_numbers 19 = .ok (.iconst 0, 1) := by decide +kernel
theorem dL_numbers_20 : decode cL_numbers 20 = .ok (.istore 11, 2) := by decide +kernel
theorem dL_numbers_22 : decode cL_numbers 22 = .ok (.iload 11, 2) := by decide +kernel
theorem dL_numbers_24 : decode cL_numbers 24 = .ok (.aload 6, 2) := by decide +kernel
theorem dL_numbers_26 : decode cL_numbers 26 = .ok (.iconst 2, 1) := by decide +kernel
theorem dL_numbers_27 : decode cL_numbers 27 = .ok (.iaload, 1) := by decide +kernel
theorem dL_numbers_28 : decode cL_numbers 28 = .ok (.if_icmp .ge 74, 3) := by decide +kernel
theorem dL_numbers_31 : decode cL_numbers 31 = .ok (.aload_n 2, 1) := by decide +kernel
theorem dL_numbers_32 : decode cL_numbers 32 = .ok (.aload 5, 2) := by decide +kernel
theorem dL_numbers_34 : decode cL_numbers 34 = .ok (.iload 11, 2) := by decide +kernel
theorem dL_numbers_36 : decode cL_numbers 36 = .ok (.iload 7, 2) := by decide +kernel
theorem dL_numbers_38 : decode cL_numbers 38 = .ok (.invokestatic 57, 3) := by decide +kernel
theorem dL_numbers_41 : decode cL_numbers 41 = .ok (.ifCond .eq 55, 3) := by decide +kernel
theorem dL_numbers_44 : decode cL_numbers 44 = .ok (.aload_n 2, 1) := by decide +kernel
theorem dL_numbers_45 : decode cL_numbers 45 = .ok (.aload_n 3, 1) := by decide +kernel
theorem dL_numbers_46 : decode cL_numbers 46 = .ok (.iload 11, 2) := by decide +kernel
theorem dL_numbers_48 : decode cL_numbers 48 = .ok (.invokestatic 61, 3) := by decide +kernel
theorem dL_numbers_51 : decode cL_numbers 51 = .ok (.iload 8, 2) := by decide +kernel
theorem dL_numbers_53 : decode cL_numbers 53 = .ok (.if_icmp .ge 13, 3) := by decide +kernel
theorem dL_numbers_56 : decode cL_numbers 56 = .ok (.aload_n 2, 1) := by decide +kernel
theorem dL_numbers_57 : decode cL_numbers 57 = .ok (.aload_n 3, 1) := by decide +kernel
theorem dL_numbers_58 : decode cL_numbers 58 = .ok (.iload 11, 2) := by decide +kernel
theorem dL_numbers_60 : decode cL_numbers 60 = .ok (.invokestatic 61, 3) := by decide +kernel
theorem dL_numbers_63 : decode cL_numbers 63 = .ok (.goto 5, 3) := by decide +kernel
theorem dL_numbers_66 : decode cL_numbers 66 = .ok (.iload 8, 2) := by decide +kernel
theorem dL_numbers_68 : decode cL_numbers 68 = .ok (.istore 8, 2) := by decide +kernel
theorem dL_numbers_70 : decode cL_numbers 70 = .ok (.aload_n 2, 1) := by decide +kernel
theorem dL_numbers_71 : decode cL_numbers 71 = .ok (.aload_n 3, 1) := by decide +kernel
theorem dL_numbers_72 : decode cL_numbers 72 = .ok (.iload 11, 2) := by decide +kernel
theorem dL_numbers_74 : decode cL_numbers 74 = .ok (.invokestatic 61, 3) := by decide +kernel
theorem dL_numbers_77 : decode cL_numbers 77 = .ok (.iload 9, 2) := by decide +kernel
theorem dL_numbers_79 : decode cL_numbers 79 = .ok (.if_icmp .le 13, 3) := by decide +kernel
theorem dL_numbers_82 : decode cL_numbers 82 = .ok (.aload_n 2, 1) := by decide +kernel
theorem dL_numbers_83 : decode cL_numbers 83 = .ok (.aload_n 3, 1) := by decide +kernel
theorem dL_numbers_84 : decode cL_numbers 84 = .ok (.iload 11, 2) := by decide +kernel
theorem dL_numbers_86 : decode cL_numbers 86 = .ok (.invokestatic 61, 3) := by decide +kernel
theorem dL_numbers_89 : decode cL_numbers 89 = .ok (.goto 5, 3) := by decide +kernel
theorem dL_numbers_92 : decode cL_numbers 92 = .ok (.iload 9, 2) := by decide +kernel
theorem dL_numbers_94 : decode cL_numbers 94 = .ok (.istore 9, 2) := by decide +kernel
theorem dL_numbers_96 : decode cL_numbers 96 = .ok (.iinc 11 1, 3) := by decide +kernel
theorem dL_numbers_99 : decode cL_numbers 99 = .ok (.goto (-77), 3) := by decide +kernel
theorem dL_numbers_102 : decode cL_numbers 102 = .ok (.iconst 0, 1) := by decide +kernel
theorem dL_numbers_103 : decode cL_numbers 103 = .ok (.istore 11, 2) := by decide +kernel
theorem dL_numbers_105 : decode cL_numbers 105 = .ok (.iload 11, 2) := by decide +kernel
theorem dL_numbers_107 : decode cL_numbers 107 = .ok (.aload 6, 2) := by decide +kernel
theorem dL_numbers_109 : decode cL_numbers 109 = .ok (.iconst 2, 1) := by decide +kernel
theorem dL_numbers_110 : decode cL_numbers 110 = .ok (.iaload, 1) := by decide +kernel
theorem dL_numbers_111 : decode cL_numbers 111 = .ok (.if_icmp .ge 55, 3) := by decide +kernel
theorem dL_numbers_114 : decode cL_numbers 114 = .ok (.aload_n 2, 1) := by decide +kernel
theorem dL_numbers_115 : decode cL_numbers 115 = .ok (.aload 5, 2) := by decide +kernel
theorem dL_numbers_117 : decode cL_numbers 117 = .ok (.iload 11, 2) := by decide +kernel
theorem dL_numbers_119 : decode cL_numbers 119 = .ok (.iload 7, 2) := by decide +kernel
theorem dL_numbers_121 : decode cL_numbers 121 = .ok (.invokestatic 57, 3) := by decide +kernel
theorem dL_numbers_124 : decode cL_numbers 124 = .ok (.ifCond .eq 32, 3) := by decide +kernel
theorem dL_numbers_127 : decode cL_numbers 127 = .ok (.aload_n 2, 1) := by decide +kernel
theorem dL_numbers_128 : decode cL_numbers 128 = .ok (.aload_n 3, 1) := by decide +kernel
theorem dL_numbers_129 : decode cL_numbers 129 = .ok (.iload 11, 2) := by decide +kernel
theorem dL_numbers_131 : decode cL_numbers 131 = .ok (.invokestatic 61, 3) := by decide +kernel
theorem dL_numbers_134 : decode cL_numbers 134 = .ok (.iload 8, 2) := by decide +kernel
theorem dL_numbers_136 : decode cL_numbers 136 = .ok (.if_icmp .le 20, 3) := by decide +kernel
theorem dL_numbers_139 : decode cL_numbers 139 = .ok (.aload_n 2, 1) := by decide +kernel
theorem dL_numbers_140 : decode cL_numbers 140 = .ok (.aload_n 3, 1) := by decide +kernel
theorem dL_numbers_141 : decode cL_numbers 141 = .ok (.iload 11, 2) := by decide +kernel
theorem dL_numbers_143 : decode cL_numbers 143 = .ok (.invokestatic 61, 3) := by decide +kernel
theorem dL_numbers_146 : decode cL_numbers 146 = .ok (.iload 9, 2) := by decide +kernel
theorem dL_numbers_148 : decode cL_numbers 148 = .ok (.if_icmp .ge 8, 3) := by decide +kernel
theorem dL_numbers_151 : decode cL_numbers 151 = .ok (.iload 11, 2) := by decide +kernel
theorem dL_numbers_153 : decode cL_numbers 153 = .ok (.goto 5, 3) := by decide +kernel
theorem dL_numbers_156 : decode cL_numbers 156 = .ok (.iload 10, 2) := by decide +kernel
theorem dL_numbers_158 : decode cL_numbers 158 = .ok (.istore 10, 2) := by decide +kernel
theorem dL_numbers_160 : decode cL_numbers 160 = .ok (.iinc 11 1, 3) := by decide +kernel
theorem dL_numbers_163 : decode cL_numbers 163 = .ok (.goto (-58), 3) := by decide +kernel
theorem dL_numbers_166 : decode cL_numbers 166 = .ok (.aload 5, 2) := by decide +kernel
theorem dL_numbers_168 : decode cL_numbers 168 = .ok (.iconst 5, 1) := by decide +kernel
theorem dL_numbers_169 : decode cL_numbers 169 = .ok (.iload 7, 2) := by decide +kernel
theorem dL_numbers_171 : decode cL_numbers 171 = .ok (.imul, 1) := by decide +kernel
theorem dL_numbers_172 : decode cL_numbers 172 = .ok (.iaload, 1) := by decide +kernel
theorem dL_numbers_173 : decode cL_numbers 173 = .ok (.ifCond .ne 53, 3) := by decide +kernel
theorem dL_numbers_176 : decode cL_numbers 176 = .ok (.aload 5, 2) := by decide +kernel
theorem dL_numbers_178 : decode cL_numbers 178 = .ok (.iconst 5, 1) := by decide +kernel
theorem dL_numbers_179 : decode cL_numbers 179 = .ok (.iload 7, 2) := by decide +kernel
theorem dL_numbers_181 : decode cL_numbers 181 = .ok (.imul, 1) := by decide +kernel
theorem dL_numbers_182 : decode cL_numbers 182 = .ok (.iconst 2, 1) := by decide +kernel
theorem dL_numbers_183 : decode cL_numbers 183 = .ok (.iadd, 1) := by decide +kernel
theorem dL_numbers_184 : decode cL_numbers 184 = .ok (.iaload, 1) := by decide +kernel
theorem dL_numbers_185 : decode cL_numbers 185 = .ok (.ifCond .ne 41, 3) := by decide +kernel
theorem dL_numbers_188 : decode cL_numbers 188 = .ok (.iload 10, 2) := by decide +kernel
theorem dL_numbers_190 : decode cL_numbers 190 = .ok (.ifCond .lt 36, 3) := by decide +kernel
theorem dL_numbers_193 : decode cL_numbers 193 = .ok (.iload 9, 2) := by decide +kernel
theorem dL_numbers_195 : decode cL_numbers 195 = .ok (.iload 8, 2) := by decide +kernel
theorem dL_numbers_197 : decode cL_numbers 197 = .ok (.isub, 1) := by decide +kernel
theorem dL_numbers_198 : decode cL_numbers 198 = .ok (.bipush 30, 2) := by decide +kernel
theorem dL_numbers_200 : decode cL_numbers 200 = .ok (.if_icmp .lt 26, 3) := by decide +kernel
theorem dL_numbers_203 : decode cL_numbers 203 = .ok (.aload_n 2, 1) := by decide +kernel
theorem dL_numbers_204 : decode cL_numbers 204 = .ok (.aload_n 3, 1) := by decide +kernel
theorem dL_numbers_205 : decode cL_numbers 205 = .ok (.aload 4, 2) := by decide +kernel
theorem dL_numbers_207 : decode cL_numbers 207 = .ok (.aload 5, 2) := by decide +kernel
theorem dL_numbers_209 : decode cL_numbers 209 = .ok (.aload 6, 2) := by decide +kernel
theorem dL_numbers_211 : decode cL_numbers 211 = .ok (.iload 7, 2) := by decide +kernel
theorem dL_numbers_213 : decode cL_numbers 213 = .ok (.iconst (-1), 1) := by decide +kernel
theorem dL_numbers_214 : decode cL_numbers 214 = .ok (.iconst (-1), 1) := by decide +kernel
theorem dL_numbers_215 : decode cL_numbers 215 = .ok (.invokestatic 93, 3) := by decide +kernel
theorem dL_numbers_218 : decode cL_numbers 218 = .ok (.iconst 1, 1) := by decide +kernel
theorem dL_numbers_219 : decode cL_numbers 219 = .ok (.if_icmp .ne 7, 3) := by decide +kernel
theorem dL_numbers_222 : decode cL_numbers 222 = .ok (.iconst 1, 1) := by decide +kernel
theorem dL_numbers_223 : decode cL_numbers 223 = .ok (.goto 4, 3) := by decide +kernel
theorem dL_numbers_226 : decode cL_numbers 226 = .ok (.iconst 0, 1) := by decide +kernel
theorem dL_numbers_227 : decode cL_numbers 227 = .ok (.istore 11, 2) := by decide +kernel
theorem dL_numbers_229 : decode cL_numbers 229 = .ok (.aload_n 0, 1) := by decide +kernel
theorem dL_numbers_230 : decode cL_numbers 230 = .ok (.iconst 5, 1) := by decide +kernel
theorem dL_numbers_231 : decode cL_numbers 231 = .ok (.iload 7, 2) := by decide +kernel
theorem dL_numbers_233 : decode cL_numbers 233 = .ok (.iconst 0, 1) := by decide +kernel
theorem dL_numbers_234 : decode cL_numbers 234 = .ok (.invokestatic 99, 3) := by decide +kernel
theorem dL_numbers_237 : decode cL_numbers 237 = .ok (.istore 12, 2) := by decide +kernel
theorem dL_numbers_239 : decode cL_numbers 239 = .ok (.iload 11, 2) := by decide +kernel
theorem dL_numbers_241 : decode cL_numbers 241 = .ok (.ifCond .eq 58, 3) := by decide +kernel
theorem dL_numbers_244 : decode cL_numbers 244 = .ok (.aload 6, 2) := by decide +kernel
theorem dL_numbers_246 : decode cL_numbers 246 = .ok (.iconst 5, 1) := by decide +kernel
theorem dL_numbers_247 : decode cL_numbers 247 = .ok (.dup2, 1) := by decide +kernel
theorem dL_numbers_248 : decode cL_numbers 248 = .ok (.iaload, 1) := by decide +kernel
theorem dL_numbers_249 : decode cL_numbers 249 = .ok (.iconst 1, 1) := by decide +kernel
theorem dL_numbers_250 : decode cL_numbers 250 = .ok (.iadd, 1) := by decide +kernel
theorem dL_numbers_251 : decode cL_numbers 251 = .ok (.iastore, 1) := by decide +kernel
theorem dL_numbers_252 : decode cL_numbers 252 = .ok (.aload 5, 2) := by decide +kernel
theorem dL_numbers_254 : decode cL_numbers 254 = .ok (.iconst 5, 1) := by decide +kernel
theorem dL_numbers_255 : decode cL_numbers 255 = .ok (.iload 7, 2) := by decide +kernel
theorem dL_numbers_257 : decode cL_numbers 257 = .ok (.imul, 1) := by decide +kernel
theorem dL_numbers_258 : decode cL_numbers 258 = .ok (.iconst 2, 1) := by decide +kernel
theorem dL_numbers_259 : decode cL_numbers 259 = .ok (.iadd, 1) := by decide +kernel
theorem dL_numbers_260 : decode cL_numbers 260 = .ok (.aload 6, 2) := by decide +kernel
theorem dL_numbers_262 : decode cL_numbers 262 = .ok (.iconst 5, 1) := by decide +kernel
theorem dL_numbers_263 : decode cL_numbers 263 = .ok (.iaload, 1) := by decide +kernel
theorem dL_numbers_264 : decode cL_numbers 264 = .ok (.iastore, 1) := by decide +kernel
theorem dL_numbers_265 : decode cL_numbers 265 = .ok (.aload 5, 2) := by decide +kernel
theorem dL_numbers_267 : decode cL_numbers 267 = .ok (.iconst 5, 1) := by decide +kernel
theorem dL_numbers_268 : decode cL_numbers 268 = .ok (.iload 7, 2) := by decide +kernel
theorem dL_numbers_270 : decode cL_numbers 270 = .ok (.imul, 1) := by decide +kernel
theorem dL_numbers_271 : decode cL_numbers 271 = .ok (.iconst 3, 1) := by decide +kernel
theorem dL_numbers_272 : decode cL_numbers 272 = .ok (.iadd, 1) := by decide +kernel
theorem dL_numbers_273 : decode cL_numbers 273 = .ok (.aload_n 0, 1) := by decide +kernel
theorem dL_numbers_274 : decode cL_numbers 274 = .ok (.iload 7, 2) := by decide +kernel
theorem dL_numbers_276 : decode cL_numbers 276 = .ok (.iconst 0, 1) := by decide +kernel
theorem dL_numbers_277 : decode cL_numbers 277 = .ok (.iconst 1, 1) := by decide +kernel
theorem dL_numbers_278 : decode cL_numbers 278 = .ok (.invokevirtual 32, 3) := by decide +kernel
theorem dL_numbers_281 : decode cL_numbers 281 = .ok (.iastore, 1) := by decide +kernel
theorem dL_numbers_282 : decode cL_numbers 282 = .ok (.aload 5, 2) := by decide +kernel
theorem dL_numbers_284 : decode cL_numbers 284 = .ok (.iconst 5, 1) := by decide +kernel
theorem dL_numbers_285 : decode cL_numbers 285 = .ok (.iload 7, 2) := by decide +kernel
theorem dL_numbers_287 : decode cL_numbers 287 = .ok (.imul, 1) := by decide +kernel
theorem dL_numbers_288 : decode cL_numbers 288 = .ok (.iconst 4, 1) := by decide +kernel
theorem dL_numbers_289 : decode cL_numbers 289 = .ok (.iadd, 1) := by decide +kernel
theorem dL_numbers_290 : decode cL_numbers 290 = .ok (.aload_n 0, 1) := by decide +kernel
theorem dL_numbers_291 : decode cL_numbers 291 = .ok (.iload 7, 2) := by decide +kernel
theorem dL_numbers_293 : decode cL_numbers 293 = .ok (.iconst 0, 1) := by decide +kernel
theorem dL_numbers_294 : decode cL_numbers 294 = .ok (.iconst 2, 1) := by decide +kernel
theorem dL_numbers_295 : decode cL_numbers 295 = .ok (.invokevirtual 32, 3) := by decide +kernel
theorem dL_numbers_298 : decode cL_numbers 298 = .ok (.iastore, 1) := by decide +kernel
theorem dL_numbers_299 : decode cL_numbers 299 = .ok (.iload 12, 2) := by decide +kernel
theorem dL_numbers_301 : decode cL_numbers 301 = .ok (.iload 11, 2) := by decide +kernel
theorem dL_numbers_303 : decode cL_numbers 303 = .ok (.ifCond .eq 10, 3) := by decide +kernel
theorem dL_numbers_306 : decode cL_numbers 306 = .ok (.aload 6, 2) := by decide +kernel
theorem dL_numbers_308 : decode cL_numbers 308 = .ok (.iconst 5, 1) := by decide +kernel
theorem dL_numbers_309 : decode cL_numbers 309 = .ok (.iaload, 1) := by decide +kernel
theorem dL_numbers_310 : decode cL_numbers 310 = .ok (.goto 5, 3) := by decide +kernel
theorem dL_numbers_313 : decode cL_numbers 313 = .ok (.ldc 41, 2) := by decide +kernel
theorem dL_numbers_315 : decode cL_numbers 315 = .ok (.if_icmp .ne 7, 3) := by decide +kernel
theorem dL_numbers_318 : decode cL_numbers 318 = .ok (.iconst 1, 1) := by decide +kernel
theorem dL_numbers_319 : decode cL_numbers 319 = .ok (.goto 4, 3) := by decide +kernel
theorem dL_numbers_322 : decode cL_numbers 322 = .ok (.iconst 0, 1) := by decide +kernel
theorem dL_numbers_323 : decode cL_numbers 323 = .ok (.ireturn, 1) := by decide +kernel
theorem dL_desk_0 : decode cL_desk 0 = .ok (.new 11, 3) := by decide +kernel
theorem dL_desk_3 : decode cL_desk 3 = .ok (.dup, 1) := by decide +kernel
theorem dL_desk_4 : decode cL_desk 4 = .ok (.invokespecial 133, 3) := by decide +kernel
theorem dL_desk_7 : decode cL_desk 7 = .ok (.astore_n 2, 1) := by decide +kernel
theorem dL_desk_8 : decode cL_desk 8 = .ok (.bipush 60, 2) := by decide +kernel
theorem dL_desk_10 : decode cL_desk 10 = .ok (.newarray .int, 2) := by decide +kernel
theorem dL_desk_12 : decode cL_desk 12 = .ok (.astore_n 3, 1) := by decide +kernel
theorem dL_desk_13 : decode cL_desk 13 = .ok (.bipush 30, 2) := by decide +kernel
theorem dL_desk_15 : decode cL_desk 15 = .ok (.newarray .int, 2) := by decide +kernel
theorem dL_desk_17 : decode cL_desk 17 = .ok (.astore 4, 2) := by decide +kernel
theorem dL_desk_19 : decode cL_desk 19 = .ok (.bipush 9, 2) := by decide +kernel
theorem dL_desk_21 : decode cL_desk 21 = .ok (.newarray .int, 2) := by decide +kernel
theorem dL_desk_23 : decode cL_desk 23 = .ok (.astore 5, 2) := by decide +kernel
theorem dL_desk_25 : decode cL_desk 25 = .ok (.bipush 64, 2) := by decide +kernel
theorem dL_desk_27 : decode cL_desk 27 = .ok (.newarray .int, 2) := by decide +kernel
theorem dL_desk_29 : decode cL_desk 29 = .ok (.astore 6, 2) := by decide +kernel
theorem dL_desk_31 : decode cL_desk 31 = .ok (.bipush 6, 2) := by decide +kernel
theorem dL_desk_33 : decode cL_desk 33 = .ok (.newarray .int, 2) := by decide +kernel
theorem dL_desk_35 : decode cL_desk 35 = .ok (.astore 7, 2) := by decide +kernel
theorem dL_desk_37 : decode cL_desk 37 = .ok (.iconst 3, 1) := by decide +kernel
theorem dL_desk_38 : decode cL_desk 38 = .ok (.newarray .int, 2) := by decide +kernel
theorem dL_desk_40 : decode cL_desk 40 = .ok (.astore 8, 2) := by decide +kernel
theorem dL_desk_42 : decode cL_desk 42 = .ok (.iconst 1, 1) := by decide +kernel
theorem dL_desk_43 : decode cL_desk 43 = .ok (.istore 9, 2) := by decide +kernel
theorem dL_desk_45 : decode cL_desk 45 = .ok (.iconst 0, 1) := by decide +kernel
theorem dL_desk_46 : decode cL_desk 46 = .ok (.istore 10, 2) := by decide +kernel
theorem dL_desk_48 : decode cL_desk 48 = .ok (.iload 10, 2) := by decide +kernel
theorem dL_desk_50 : decode cL_desk 50 = .ok (.iconst 3, 1) := by decide +kernel
theorem dL_desk_51 : decode cL_desk 51 = .ok (.if_icmp .ge 49, 3) := by decide +kernel
theorem dL_desk_54 : decode cL_desk 54 = .ok (.aload 8, 2) := by decide +kernel
theorem dL_desk_56 : decode cL_desk 56 = .ok (.iload 10, 2) := by decide +kernel
theorem dL_desk_58 : decode cL_desk 58 = .ok (.aload_n 0, 1) := by decide +kernel
theorem dL_desk_59 : decode cL_desk 59 = .ok (.iload_n 1, 1) := by decide +kernel
theorem dL_desk_60 : decode cL_desk 60 = .ok (.iload 10, 2) := by decide +kernel
theorem dL_desk_62 : decode cL_desk 62 = .ok (.iadd, 1) := by decide +kernel
theorem dL_desk_63 : decode cL_desk 63 = .ok (.iconst 3, 1) := by decide +kernel
theorem dL_desk_64 : decode cL_desk 64 = .ok (.invokestatic 134, 3) := by decide +kernel
theorem dL_desk_67 : decode cL_desk 67 = .ok (.iastore, 1) := by decide +kernel
theorem dL_desk_68 : decode cL_desk 68 = .ok (.iload 9, 2) := by decide +kernel
theorem dL_desk_70 : decode cL_desk 70 = .ok (.ifCond .eq 21, 3) := by decide +kernel
theorem dL_desk_73 : decode cL_desk 73 = .ok (.aload_n 2, 1) := by decide +kernel
theorem dL_desk_74 : decode cL_desk 74 = .ok (.aload 8, 2) := by decide +kernel
theorem dL_desk_76 : decode cL_desk 76 = .ok (.iload 10, 2) := by decide +kernel
theorem dL_desk_78 : decode cL_desk 78 = .ok (.iaload, 1) := by decide +kernel
theorem dL_desk_79 : decode cL_desk 79 = .ok (.invokevirtual 138, 3) := by decide +kernel
theorem dL_desk_82 : decode cL_desk 82 = .ok (.iload 10, 2) := by decide +kernel
theorem dL_desk_84 : decode cL_desk 84 = .ok (.if_icmp .ne 7, 3) := by decide +kernel
theorem dL_desk_87 : decode cL_desk 87 = .ok (.iconst 1, 1) := by decide +kernel
theorem dL_desk_88 : decode cL_desk 88 = .ok (.goto 4, 3) := by decide +kernel
theorem dL_desk_91 : decode cL_desk 91 = .ok (.iconst 0, 1) := by decide +kernel
theorem dL_desk_92 : decode cL_desk 92 = .ok (.istore 9, 2) := by decide +kernel
theorem dL_desk_94 : decode cL_desk 94 = .ok (.iinc 10 1, 3) := by decide +kernel
theorem dL_desk_97 : decode cL_desk 97 = .ok (.goto (-49), 3) := by decide +kernel
theorem dL_desk_100 : decode cL_desk 100 = .ok (.iconst 0, 1) := by decide +kernel
theorem dL_desk_101 : decode cL_desk 101 = .ok (.istore 10, 2) := by decide +kernel
theorem dL_desk_103 : decode cL_desk 103 = .ok (.iload 10, 2) := by decide +kernel
theorem dL_desk_105 : decode cL_desk 105 = .ok (.bipush 14, 2) := by decide +kernel
theorem dL_desk_107 : decode cL_desk 107 = .ok (.if_icmp .ge 82, 3) := by decide +kernel
theorem dL_desk_110 : decode cL_desk 110 = .ok (.aload_n 0, 1) := by decide +kernel
theorem dL_desk_111 : decode cL_desk 111 = .ok (.iload_n 1, 1) := by decide +kernel
theorem dL_desk_112 : decode cL_desk 112 = .ok (.iconst 3, 1) := by decide +kernel
theorem dL_desk_113 : decode cL_desk 113 = .ok (.iadd, 1) := by decide +kernel
theorem dL_desk_114 : decode cL_desk 114 = .ok (.iload 10, 2) := by decide +kernel
theorem dL_desk_116 : decode cL_desk 116 = .ok (.iadd, 1) := by decide +kernel
theorem dL_desk_117 : decode cL_desk 117 = .ok (.ldc 141, 2) := by decide +kernel
theorem dL_desk_119 : decode cL_desk 119 = .ok (.invokestatic 134, 3) := by decide +kernel
theorem dL_desk_122 : decode cL_desk 122 = .ok (.istore 11, 2) := by decide +kernel
theorem dL_desk_124 : decode cL_desk 124 = .ok (.iconst 4, 1) := by decide +kernel
theorem dL_desk_125 : decode cL_desk 125 = .ok (.iload 10, 2) := by decide +kernel
theorem dL_desk_127 : decode cL_desk 127 = .ok (.imul, 1) := by decide +kernel
theorem dL_desk_128 : decode cL_desk 128 = .ok (.iload 11, 2) := by decide +kernel
theorem dL_desk_130 : decode cL_desk 130 = .ok (.iconst 3, 1) := by decide +kernel
theorem dL_desk_131 : decode cL_desk 131 = .ok (.idiv, 1) := by decide +kernel
theorem dL_desk_132 : decode cL_desk 132 = .ok (.bipush 7, 2) := by decide +kernel
theorem dL_desk_134 : decode cL_desk 134 = .ok (.irem, 1) := by decide +kernel
theorem dL_desk_135 : decode cL_desk 135 = .ok (.iadd, 1) := by decide +kernel
theorem dL_desk_136 : decode cL_desk 136 = .ok (.istore 12, 2) := by decide +kernel
theorem dL_desk_138 : decode cL_desk 138 = .ok (.aload 4, 2) := by decide +kernel
theorem dL_desk_140 : decode cL_desk 140 = .ok (.iload 10, 2) := by decide +kernel
theorem dL_desk_142 : decode cL_desk 142 = .ok (.bipush 10, 2) := by decide +kernel
theorem dL_desk_144 : decode cL_desk 144 = .ok (.iload 12, 2) := by decide +kernel
theorem dL_desk_146 : decode cL_desk 146 = .ok (.imul, 1) := by decide +kernel
theorem dL_desk_147 : decode cL_desk 147 = .ok (.aload 8, 2) := by decide +kernel
theorem dL_desk_149 : decode cL_desk 149 = .ok (.iload 11, 2) := by decide +kernel
theorem dL_desk_151 : decode cL_desk 151 = .ok (.iconst 3, 1) := by decide +kernel
theorem dL_desk_152 : decode cL_desk 152 = .ok (.irem, 1) := by decide +kernel
theorem dL_desk_153 : decode cL_desk 153 = .ok (.iaload, 1) := by decide +kernel
theorem dL_desk_154 : decode cL_desk 154 = .ok (.iadd, 1) := by decide +kernel
theorem dL_desk_155 : decode cL_desk 155 = .ok (.iastore, 1) := by decide +kernel
theorem dL_desk_156 : decode cL_desk 156 = .ok (.iload 9, 2) := by decide +kernel
theorem dL_desk_158 : decode cL_desk 158 = .ok (.ifCond .eq 22, 3) := by decide +kernel
theorem dL_desk_161 : decode cL_desk 161 = .ok (.aload_n 2, 1) := by decide +kernel
theorem dL_desk_162 : decode cL_desk 162 = .ok (.iload 11, 2) := by decide +kernel
theorem dL_desk_164 : decode cL_desk 164 = .ok (.iconst 3, 1) := by decide +kernel
theorem dL_desk_165 : decode cL_desk 165 = .ok (.irem, 1) := by decide +kernel
theorem dL_desk_166 : decode cL_desk 166 = .ok (.iload 12, 2) := by decide +kernel
theorem dL_desk_168 : decode cL_desk 168 = .ok (.invokevirtual 142, 3) := by decide +kernel
theorem dL_desk_171 : decode cL_desk 171 = .ok (.iload 10, 2) := by decide +kernel
theorem dL_desk_173 : decode cL_desk 173 = .ok (.if_icmp .ne 7, 3) := by decide +kernel
theorem dL_desk_176 : decode cL_desk 176 = .ok (.iconst 1, 1) := by decide +kernel
theorem dL_desk_177 : decode cL_desk 177 = .ok (.goto 4, 3) := by decide +kernel
theorem dL_desk_180 : decode cL_desk 180 = .ok (.iconst 0, 1) := by decide +kernel
theorem dL_desk_181 : decode cL_desk 181 = .ok (.istore 9, 2) := by decide +kernel
theorem dL_desk_183 : decode cL_desk 183 = .ok (.iinc 10 1, 3) := by decide +kernel
theorem dL_desk_186 : decode cL_desk 186 = .ok (.goto (-83), 3) := by decide +kernel
theorem dL_desk_189 : decode cL_desk 189 = .ok (.aload 7, 2) := by decide +kernel
theorem dL_desk_191 : decode cL_desk 191 = .ok (.iconst 1, 1) := by decide +kernel
theorem dL_desk_192 : decode cL_desk 192 = .ok (.bipush 14, 2) := by decide +kernel
theorem dL_desk_194 : decode cL_desk 194 = .ok (.iastore, 1) := by decide +kernel
theorem dL_desk_195 : decode cL_desk 195 = .ok (.iconst 0, 1) := by decide +kernel
theorem dL_desk_196 : decode cL_desk 196 = .ok (.istore 10, 2) := by decide +kernel
theorem dL_desk_198 : decode cL_desk 198 = .ok (.iload 10, 2) := by decide +kernel
theorem dL_desk_200 : decode cL_desk 200 = .ok (.bipush 40, 2) := by decide +kernel
theorem dL_desk_202 : decode cL_desk 202 = .ok (.if_icmp .ge 191, 3) := by decide +kernel
theorem dL_desk_205 : decode cL_desk 205 = .ok (.iload 9, 2) := by decide +kernel
theorem dL_desk_207 : decode cL_desk 207 = .ok (.ifCond .eq 186, 3) := by decide +kernel
theorem dL_desk_210 : decode cL_desk 210 = .ok (.aload_n 0, 1) := by decide +kernel
theorem dL_desk_211 : decode cL_desk 211 = .ok (.iload_n 1, 1) := by decide +kernel
theorem dL_desk_212 : decode cL_desk 212 = .ok (.bipush 17, 2) := by decide +kernel
theorem dL_desk_214 : decode cL_desk 214 = .ok (.iadd, 1) := by decide +kernel
theorem dL_desk_215 : decode cL_desk 215 = .ok (.iload 10, 2) := by decide +kernel
theorem dL_desk_217 : decode cL_desk 217 = .ok (.iadd, 1) := by decide +kernel
theorem dL_desk_218 : decode cL_desk 218 = .ok (.ldc 141, 2) := by decide +kernel
theorem dL_desk_220 : decode cL_desk 220 = .ok (.invokestatic 134, 3) := by decide +kernel
theorem dL_desk_223 : decode cL_desk 223 = .ok (.istore 11, 2) := by decide +kernel
theorem dL_desk_225 : decode cL_desk 225 = .ok (.iload 11, 2) := by decide +kernel
theorem dL_desk_227 : decode cL_desk 227 = .ok (.bipush 14, 2) := by decide +kernel
theorem dL_desk_229 : decode cL_desk 229 = .ok (.irem, 1) := by decide +kernel
theorem dL_desk_230 : decode cL_desk 230 = .ok (.istore 12, 2) := by decide +kernel
theorem dL_desk_232 : decode cL_desk 232 = .ok (.iload 11, 2) := by decide +kernel
theorem dL_desk_234 : decode cL_desk 234 = .ok (.bipush 14, 2) := by decide +kernel
theorem dL_desk_236 : decode cL_desk 236 = .ok (.idiv, 1) := by decide +kernel
theorem dL_desk_237 : decode cL_desk 237 = .ok (.iconst 4, 1) := by decide +kernel
theorem dL_desk_238 : decode cL_desk 238 = .ok (.irem, 1) := by decide +kernel
theorem dL_desk_239 : decode cL_desk 239 = .ok (.istore 13, 2) := by decide +kernel
theorem dL_desk_241 : decode cL_desk 241 = .ok (.iload 13, 2) := by decide +kernel
theorem dL_desk_243 : decode cL_desk 243 = .ok (.iconst 3, 1) := by decide +kernel
theorem dL_desk_244 : decode cL_desk 244 = .ok (.if_icmp .ne 15, 3) := by decide +kernel
theorem dL_desk_247 : decode cL_desk 247 = .ok (.iload 11, 2) := by decide +kernel
theorem dL_desk_249 : decode cL_desk 249 = .ok (.bipush 56, 2) := by decide +kernel
theorem dL_desk_251 : decode cL_desk 251 = .ok (.idiv, 1) := by decide +kernel
theorem dL_desk_252 : decode cL_desk 252 = .ok (.sipush 3600, 3) := by decide +kernel
theorem dL_desk_255 : decode cL_desk 255 = .ok (.irem, 1) := by decide +kernel
theorem dL_desk_256 : decode cL_desk 256 = .ok (.goto 34, 3) := by decide +kernel
theorem dL_desk_259 : decode cL_desk 259 = .ok (.sipush 900, 3) := by decide +kernel
theorem dL_desk_262 : decode cL_desk 262 = .ok (.iload 13, 2) := by decide +kernel
theorem dL_desk_264 : decode cL_desk 264 = .ok (.imul, 1) := by decide +kernel
theorem dL_desk_265 : decode cL_desk 265 = .ok (.bipush 77, 2) := by decide +kernel
theorem dL_desk_267 : decode cL_desk 267 = .ok (.iadd, 1) := by decide +kernel
theorem dL_desk_268 : decode cL_desk 268 = .ok (.bipush 7, 2) := by decide +kernel
theorem dL_desk_270 : decode cL_desk 270 = .ok (.iload 13, 2) := by decide +kernel
theorem dL_desk_272 : decode cL_desk 272 = .ok (.imul, 1) := by decide +kernel
theorem dL_desk_273 : decode cL_desk 273 = .ok (.iconst 5, 1) := by decide +kernel
theorem dL_desk_274 : decode cL_desk 274 = .ok (.isub, 1) := by decide +kernel
theorem dL_desk_275 : decode cL_desk 275 = .ok (.iload 13, 2) := by decide +kernel
theorem dL_desk_277 : decode cL_desk 277 = .ok (.iconst 1, 1) := by decide +kernel
theorem dL_desk_278 : decode cL_desk 278 = .ok (.isub, 1) := by decide +kernel
theorem dL_desk_279 : decode cL_desk 279 = .ok (.aload 4, 2) := by decide +kernel
theorem dL_desk_281 : decode cL_desk 281 = .ok (.iload 12, 2) := by decide +kernel
theorem dL_desk_283 : decode cL_desk 283 = .ok (.iaload, 1) := by decide +kernel
theorem dL_desk_284 : decode cL_desk 284 = .ok (.bipush 10, 2) := by decide +kernel
theorem dL_desk_286 : decode cL_desk 286 = .ok (.idiv, 1) := by decide +kernel
theorem dL_desk_287 : decode cL_desk 287 = .ok (.invokestatic 68, 3) := by decide +kernel
theorem dL_desk_290 : decode cL_desk 290 = .ok (.istore 14, 2) := by decide +kernel
theorem dL_desk_292 : decode cL_desk 292 = .ok (.iload 14, 2) := by decide +kernel
theorem dL_desk_294 : decode cL_desk 294 = .ok (.iload 11, 2) := by decide +kernel
theorem dL_desk_296 : decode cL_desk 296 = .ok (.bipush 56, 2) := by decide +kernel
theorem dL_desk_298 : decode cL_desk 298 = .ok (.idiv, 1) := by decide +kernel
theorem dL_desk_299 : decode cL_desk 299 = .ok (.iconst 2, 1) := by decide +kernel
theorem dL_desk_300 : decode cL_desk 300 = .ok (.aload 4, 2) := by decide +kernel
theorem dL_desk_302 : decode cL_desk 302 = .ok (.iload 12, 2) := by decide +kernel
theorem dL_desk_304 : decode cL_desk 304 = .ok (.iaload, 1) := by decide +kernel
theorem dL_desk_305 : decode cL_desk 305 = .ok (.bipush 10, 2) := by decide +kernel
theorem dL_desk_307 : decode cL_desk 307 = .ok (.irem, 1) := by decide +kernel
theorem dL_desk_308 : decode cL_desk 308 = .ok (.imul, 1) := by decide +kernel
theorem dL_desk_309 : decode cL_desk 309 = .ok (.iconst 1, 1) := by decide +kernel
theorem dL_desk_310 : decode cL_desk 310 = .ok (.iadd, 1) := by decide +kernel
theorem dL_desk_311 : decode cL_desk 311 = .ok (.irem, 1) := by decide +kernel
theorem dL_desk_312 : decode cL_desk 312 = .ok (.iadd, 1) := by decide +kernel
theorem dL_desk_313 : decode cL_desk 313 = .ok (.aload 4, 2) := by decide +kernel
theorem dL_desk_315 : decode cL_desk 315 = .ok (.iload 12, 2) := by decide +kernel
theorem dL_desk_317 : decode cL_desk 317 = .ok (.iaload, 1) := by decide +kernel
theorem dL_desk_318 : decode cL_desk 318 = .ok (.bipush 10, 2) := by decide +kernel
theorem dL_desk_320 : decode cL_desk 320 = .ok (.irem, 1) := by decide +kernel
theorem dL_desk_321 : decode cL_desk 321 = .ok (.isub, 1) := by decide +kernel
theorem dL_desk_322 : decode cL_desk 322 = .ok (.sipush 3600, 3) := by decide +kernel
theorem dL_desk_325 : decode cL_desk 325 = .ok (.iadd, 1) := by decide +kernel
theorem dL_desk_326 : decode cL_desk 326 = .ok (.sipush 3600, 3) := by decide +kernel
theorem dL_desk_329 : decode cL_desk 329 = .ok (.irem, 1) := by decide +kernel
theorem dL_desk_330 : decode cL_desk 330 = .ok (.istore 14, 2) := by decide +kernel
theorem dL_desk_332 : decode cL_desk 332 = .ok (.aload_n 3, 1) := by decide +kernel
theorem dL_desk_333 : decode cL_desk 333 = .ok (.iload 10, 2) := by decide +kernel
theorem dL_desk_335 : decode cL_desk 335 = .ok (.sipush 3600, 3) := by decide +kernel
theorem dL_desk_338 : decode cL_desk 338 = .ok (.iload 12, 2) := by decide +kernel
theorem dL_desk_340 : decode cL_desk 340 = .ok (.imul, 1) := by decide +kernel
theorem dL_desk_341 : decode cL_desk 341 = .ok (.iload 14, 2) := by decide +kernel
theorem dL_desk_343 : decode cL_desk 343 = .ok (.iadd, 1) := by decide +kernel
theorem dL_desk_344 : decode cL_desk 344 = .ok (.ldc 43, 2) := by decide +kernel
theorem dL_desk_346 : decode cL_desk 346 = .ok (.iload 11, 2) := by decide +kernel
theorem dL_desk_348 : decode cL_desk 348 = .ok (.sipush 4000, 3) := by decide +kernel
theorem dL_desk_351 : decode cL_desk 351 = .ok (.idiv, 1) := by decide +kernel
theorem dL_desk_352 : decode cL_desk 352 = .ok (.bipush 100, 2) := by decide +kernel
theorem dL_desk_354 : decode cL_desk 354 = .ok (.irem, 1) := by decide +kernel
theorem dL_desk_355 : decode cL_desk 355 = .ok (.imul, 1) := by decide +kernel
theorem dL_desk_356 : decode cL_desk 356 = .ok (.iadd, 1) := by decide +kernel
theorem dL_desk_357 : decode cL_desk 357 = .ok (.iastore, 1) := by decide +kernel
theorem dL_desk_358 : decode cL_desk 358 = .ok (.aload_n 2, 1) := by decide +kernel
theorem dL_desk_359 : decode cL_desk 359 = .ok (.iload 12, 2) := by decide +kernel
theorem dL_desk_361 : decode cL_desk 361 = .ok (.iload 14, 2) := by decide +kernel
theorem dL_desk_363 : decode cL_desk 363 = .ok (.iload 11, 2) := by decide +kernel
theorem dL_desk_365 : decode cL_desk 365 = .ok (.sipush 4000, 3) := by decide +kernel
theorem dL_desk_368 : decode cL_desk 368 = .ok (.idiv, 1) := by decide +kernel
theorem dL_desk_369 : decode cL_desk 369 = .ok (.bipush 100, 2) := by decide +kernel
theorem dL_desk_371 : decode cL_desk 371 = .ok (.irem, 1) := by decide +kernel
theorem dL_desk_372 : decode cL_desk 372 = .ok (.invokevirtual 145, 3) := by decide +kernel
theorem dL_desk_375 : decode cL_desk 375 = .ok (.iload 10, 2) := by decide +kernel
theorem dL_desk_377 : decode cL_desk 377 = .ok (.if_icmp .ne 7, 3) := by decide +kernel
theorem dL_desk_380 : decode cL_desk 380 = .ok (.iconst 1, 1) := by decide +kernel
theorem dL_desk_381 : decode cL_desk 381 = .ok (.goto 4, 3) := by decide +kernel
theorem dL_desk_384 : decode cL_desk 384 = .ok (.iconst 0, 1) := by decide +kernel
theorem dL_desk_385 : decode cL_desk 385 = .ok (.istore 9, 2) := by decide +kernel
theorem dL_desk_387 : decode cL_desk 387 = .ok (.iinc 10 1, 3) := by decide +kernel
theorem dL_desk_390 : decode cL_desk 390 = .ok (.goto (-192), 3) := by decide +kernel
theorem dL_desk_393 : decode cL_desk 393 = .ok (.aload 7, 2) := by decide +kernel
theorem dL_desk_395 : decode cL_desk 395 = .ok (.iconst 2, 1) := by decide +kernel
theorem dL_desk_396 : decode cL_desk 396 = .ok (.bipush 40, 2) := by decide +kernel
theorem dL_desk_398 : decode cL_desk 398 = .ok (.iastore, 1) := by decide +kernel
theorem dL_desk_399 : decode cL_desk 399 = .ok (.iconst 0, 1) := by decide +kernel
theorem dL_desk_400 : decode cL_desk 400 = .ok (.istore 10, 2) := by decide +kernel
theorem dL_desk_402 : decode cL_desk 402 = .ok (.iload 10, 2) := by decide +kernel
theorem dL_desk_404 : decode cL_desk 404 = .ok (.bipush 44, 2) := by decide +kernel
theorem dL_desk_406 : decode cL_desk 406 = .ok (.if_icmp .ge 515, 3) := by decide +kernel
theorem dL_desk_409 : decode cL_desk 409 = .ok (.iload 9, 2) := by decide +kernel
theorem dL_desk_411 : decode cL_desk 411 = .ok (.ifCond .eq 510, 3) := by decide +kernel
theorem dL_desk_414 : decode cL_desk 414 = .ok (.aload_n 0, 1) := by decide +kernel
theorem dL_desk_415 : decode cL_desk 415 = .ok (.iload_n 1, 1) := by decide +kernel
theorem dL_desk_416 : decode cL_desk 416 = .ok (.bipush 57, 2) := by decide +kernel
theorem dL_desk_418 : decode cL_desk 418 = .ok (.iadd, 1) := by decide +kernel
theorem dL_desk_419 : decode cL_desk 419 = .ok (.iconst 2, 1) := by decide +kernel
theorem dL_desk_420 : decode cL_desk 420 = .ok (.iload 10, 2) := by decide +kernel
theorem dL_desk_422 : decode cL_desk 422 = .ok (.imul, 1) := by decide +kernel
theorem dL_desk_423 : decode cL_desk 423 = .ok (.iadd, 1) := by decide +kernel
theorem dL_desk_424 : decode cL_desk 424 = .ok (.ldc 141, 2) := by decide +kernel
theorem dL_desk_426 : decode cL_desk 426 = .ok (.invokestatic 134, 3) := by decide +kernel
theorem dL_desk_429 : decode cL_desk 429 = .ok (.istore 11, 2) := by decide +kernel
theorem dL_desk_431 : decode cL_desk 431 = .ok (.aload_n 0, 1) := by decide +kernel
theorem dL_desk_432 : decode cL_desk 432 = .ok (.iload_n 1, 1) := by decide +kernel
theorem dL_desk_433 : decode cL_desk 433 = .ok (.bipush 58, 2) := by decide +kernel
theorem dL_desk_435 : decode cL_desk 435 = .ok (.iadd, 1) := by decide +kernel
theorem dL_desk_436 : decode cL_desk 436 = .ok (.iconst 2, 1) := by decide +kernel
theorem dL_desk_437 : decode cL_desk 437 = .ok (.iload 10, 2) := by decide +kernel
theorem dL_desk_439 : decode cL_desk 439 = .ok (.imul, 1) := by decide +kernel
theorem dL_desk_440 : decode cL_desk 440 = .ok (.iadd, 1) := by decide +kernel
theorem dL_desk_441 : decode cL_desk 441 = .ok (.ldc 141, 2) := by decide +kernel
theorem dL_desk_443 : decode cL_desk 443 = .ok (.invokestatic 134, 3) := by decide +kernel
theorem dL_desk_446 : decode cL_desk 446 = .ok (.istore 12, 2) := by decide +kernel
theorem dL_desk_448 : decode cL_desk 448 = .ok (.iload 10, 2) := by decide +kernel
theorem dL_desk_450 : decode cL_desk 450 = .ok (.iconst 4, 1) := by decide +kernel
theorem dL_desk_451 : decode cL_desk 451 = .ok (.if_icmp .ge 7, 3) := by decide +kernel
theorem dL_desk_454 : decode cL_desk 454 = .ok (.iconst 0, 1) := by decide +kernel
theorem dL_desk_455 : decode cL_desk 455 = .ok (.goto 8, 3) := by decide +kernel
theorem dL_desk_458 : decode cL_desk 458 = .ok (.iload 11, 2) := by decide +kernel
theorem dL_desk_460 : decode cL_desk 460 = .ok (.bipush 16, 2) := by decide +kernel
theorem dL_desk_462 : decode cL_desk 462 = .ok (.irem, 1) := by decide +kernel
theorem dL_desk_463 : decode cL_desk 463 = .ok (.istore 13, 2) := by decide +kernel
theorem dL_desk_465 : decode cL_desk 465 = .ok (.iload 11, 2) := by decide +kernel
theorem dL_desk_467 : decode cL_desk 467 = .ok (.bipush 16, 2) := by decide +kernel
theorem dL_desk_469 : decode cL_desk 469 = .ok (.idiv, 1) := by decide +kernel
theorem dL_desk_470 : decode cL_desk 470 = .ok (.istore 14, 2) := by decide +kernel
theorem dL_desk_472 : decode cL_desk 472 = .ok (.iload 13, 2) := by decide +kernel
theorem dL_desk_474 : decode cL_desk 474 = .ok (.bipush 8, 2) := by decide +kernel
theorem dL_desk_476 : decode cL_desk 476 = .ok (.if_icmp .ge 25, 3) := by decide +kernel
theorem dL_desk_479 : decode cL_desk 479 = .ok (.aload_n 2, 1) := by decide +kernel
theorem dL_desk_480 : decode cL_desk 480 = .ok (.iload 14, 2) := by decide +kernel
theorem dL_desk_482 : decode cL_desk 482 = .ok (.iload 12, 2) := by decide +kernel
theorem dL_desk_484 : decode cL_desk 484 = .ok (.aload_n 3, 1) := by decide +kernel
theorem dL_desk_485 : decode cL_desk 485 = .ok (.aload 4, 2) := by decide +kernel
theorem dL_desk_487 : decode cL_desk 487 = .ok (.aload 5, 2) := by decide +kernel
theorem dL_desk_489 : decode cL_desk 489 = .ok (.aload 6, 2) := by decide +kernel
theorem dL_desk_491 : decode cL_desk 491 = .ok (.aload 7, 2) := by decide +kernel
theorem dL_desk_493 : decode cL_desk 493 = .ok (.invokestatic 148, 3) := by decide +kernel
theorem dL_desk_496 : decode cL_desk 496 = .ok (.istore 9, 2) := by decide +kernel
theorem dL_desk_498 : decode cL_desk 498 = .ok (.goto 365, 3) := by decide +kernel
theorem dL_desk_501 : decode cL_desk 501 = .ok (.iload 13, 2) := by decide +kernel
theorem dL_desk_503 : decode cL_desk 503 = .ok (.bipush 11, 2) := by decide +kernel
theorem dL_desk_505 : decode cL_desk 505 = .ok (.if_icmp .ge 41, 3) := by decide +kernel
theorem dL_desk_508 : decode cL_desk 508 = .ok (.aload 7, 2) := by decide +kernel
theorem dL_desk_510 : decode cL_desk 510 = .ok (.iconst 3, 1) := by decide +kernel
theorem dL_desk_511 : decode cL_desk 511 = .ok (.iaload, 1) := by decide +kernel
theorem dL_desk_512 : decode cL_desk 512 = .ok (.iconst 2, 1) := by decide +kernel
theorem dL_desk_513 : decode cL_desk 513 = .ok (.if_icmp .lt 23, 3) := by decide +kernel
theorem dL_desk_516 : decode cL_desk 516 = .ok (.aload_n 2, 1) := by decide +kernel
theorem dL_desk_517 : decode cL_desk 517 = .ok (.iload 14, 2) := by decide +kernel
theorem dL_desk_519 : decode cL_desk 519 = .ok (.iload 12, 2) := by decide +kernel
theorem dL_desk_521 : decode cL_desk 521 = .ok (.aload_n 3, 1) := by decide +kernel
theorem dL_desk_522 : decode cL_desk 522 = .ok (.aload 4, 2) := by decide +kernel
theorem dL_desk_524 : decode cL_desk 524 = .ok (.aload 5, 2) := by decide +kernel
theorem dL_desk_526 : decode cL_desk 526 = .ok (.aload 6, 2) := by decide +kernel
theorem dL_desk_528 : decode cL_desk 528 = .ok (.aload 7, 2) := by decide +kernel
theorem dL_desk_530 : decode cL_desk 530 = .ok (.invokestatic 152, 3) := by decide +kernel
theorem dL_desk_533 : decode cL_desk 533 = .ok (.ifCond .eq 7, 3) := by decide +kernel
theorem dL_desk_536 : decode cL_desk 536 = .ok (.iconst 1, 1) := by decide +kernel
theorem dL_desk_537 : decode cL_desk 537 = .ok (.goto 4, 3) := by decide +kernel
theorem dL_desk_540 : decode cL_desk 540 = .ok (.iconst 0, 1) := by decide +kernel
theorem dL_desk_541 : decode cL_desk 541 = .ok (.istore 9, 2) := by decide +kernel
theorem dL_desk_543 : decode cL_desk 543 = .ok (.goto 320, 3) := by decide +kernel
theorem dL_desk_546 : decode cL_desk 546 = .ok (.iload 13, 2) := by decide +kernel
theorem dL_desk_548 : decode cL_desk 548 = .ok (.bipush 11, 2) := by decide +kernel
theorem dL_desk_550 : decode cL_desk 550 = .ok (.if_icmp .ne 38, 3) := by decide +kernel
theorem dL_desk_553 : decode cL_desk 553 = .ok (.aload 7, 2) := by decide +kernel
theorem dL_desk_555 : decode cL_desk 555 = .ok (.iconst 3, 1) := by decide +kernel
theorem dL_desk_556 : decode cL_desk 556 = .ok (.iaload, 1) := by decide +kernel
theorem dL_desk_557 : decode cL_desk 557 = .ok (.ifCond .eq 21, 3) := by decide +kernel
theorem dL_desk_560 : decode cL_desk 560 = .ok (.aload_n 2, 1) := by decide +kernel
theorem dL_desk_561 : decode cL_desk 561 = .ok (.iload 14, 2) := by decide +kernel
theorem dL_desk_563 : decode cL_desk 563 = .ok (.aload_n 3, 1) := by decide +kernel
theorem dL_desk_564 : decode cL_desk 564 = .ok (.aload 4, 2) := by decide +kernel
theorem dL_desk_566 : decode cL_desk 566 = .ok (.aload 5, 2) := by decide +kernel
theorem dL_desk_568 : decode cL_desk 568 = .ok (.aload 6, 2) := by decide +kernel
theorem dL_desk_570 : decode cL_desk 570 = .ok (.aload 7, 2) := by decide +kernel
theorem dL_desk_572 : decode cL_desk 572 = .ok (.invokestatic 155, 3) := by decide +kernel
theorem dL_desk_575 : decode cL_desk 575 = .ok (.ifCond .eq 7, 3) := by decide +kernel
theorem dL_desk_578 : decode cL_desk 578 = .ok (.iconst 1, 1) := by decide +kernel
theorem dL_desk_579 : decode cL_desk 579 = .ok (.goto 4, 3) := by decide +kernel
theorem dL_desk_582 : decode cL_desk 582 = .ok (.iconst 0, 1) := by decide +kernel
theorem dL_desk_583 : decode cL_desk 583 = .ok (.istore 9, 2) := by decide +kernel
theorem dL_desk_585 : decode cL_desk 585 = .ok (.goto 278, 3) := by decide +kernel
theorem dL_desk_588 : decode cL_desk 588 = .ok (.iload 13, 2) := by decide +kernel
theorem dL_desk_590 : decode cL_desk 590 = .ok (.bipush 12, 2) := by decide +kernel
theorem dL_desk_592 : decode cL_desk 592 = .ok (.if_icmp .ne 54, 3) := by decide +kernel
theorem dL_desk_595 : decode cL_desk 595 = .ok (.iload 14, 2) := by decide +kernel
theorem dL_desk_597 : decode cL_desk 597 = .ok (.bipush 9, 2) := by decide +kernel
theorem dL_desk_599 : decode cL_desk 599 = .ok (.irem, 1) := by decide +kernel
theorem dL_desk_600 : decode cL_desk 600 = .ok (.istore 15, 2) := by decide +kernel
theorem dL_desk_602 : decode cL_desk 602 = .ok (.aload 5, 2) := by decide +kernel
theorem dL_desk_604 : decode cL_desk 604 = .ok (.iload 15, 2) := by decide +kernel
theorem dL_desk_606 : decode cL_desk 606 = .ok (.iaload, 1) := by decide +kernel
theorem dL_desk_607 : decode cL_desk 607 = .ok (.istore 16, 2) := by decide +kernel
theorem dL_desk_609 : decode cL_desk 609 = .ok (.aload 5, 2) := by decide +kernel
theorem dL_desk_611 : decode cL_desk 611 = .ok (.iload 15, 2) := by decide +kernel
theorem dL_desk_613 : decode cL_desk 613 = .ok (.iload 12, 2) := by decide +kernel
theorem dL_desk_615 : decode cL_desk 615 = .ok (.iconst 5, 1) := by decide +kernel
theorem dL_desk_616 : decode cL_desk 616 = .ok (.irem, 1) := by decide +kernel
theorem dL_desk_617 : decode cL_desk 617 = .ok (.iconst 2, 1) := by decide +kernel
theorem dL_desk_618 : decode cL_desk 618 = .ok (.isub, 1) := by decide +kernel
theorem dL_desk_619 : decode cL_desk 619 = .ok (.iastore, 1) := by decide +kernel
theorem dL_desk_620 : decode cL_desk 620 = .ok (.aload_n 2, 1) := by decide +kernel
theorem dL_desk_621 : decode cL_desk 621 = .ok (.iload 15, 2) := by decide +kernel
theorem dL_desk_623 : decode cL_desk 623 = .ok (.aload 5, 2) := by decide +kernel
theorem dL_desk_625 : decode cL_desk 625 = .ok (.iload 15, 2) := by decide +kernel
theorem dL_desk_627 : decode cL_desk 627 = .ok (.iaload, 1) := by decide +kernel
theorem dL_desk_628 : decode cL_desk 628 = .ok (.invokevirtual 159, 3) := by decide +kernel
theorem dL_desk_631 : decode cL_desk 631 = .ok (.iload 16, 2) := by decide +kernel
theorem dL_desk_633 : decode cL_desk 633 = .ok (.if_icmp .ne 7, 3) := by decide +kernel
theorem dL_desk_636 : decode cL_desk 636 = .ok (.iconst 1, 1) := by decide +kernel
theorem dL_desk_637 : decode cL_desk 637 = .ok (.goto 4, 3) := by decide +kernel
theorem dL_desk_640 : decode cL_desk 640 = .ok (.iconst 0, 1) := by decide +kernel
theorem dL_desk_641 : decode cL_desk 641 = .ok (.istore 9, 2) := by decide +kernel
theorem dL_desk_643 : decode cL_desk 643 = .ok (.goto 220, 3) := by decide +kernel
theorem dL_desk_646 : decode cL_desk 646 = .ok (.iload 13, 2) := by decide +kernel
theorem dL_desk_648 : decode cL_desk 648 = .ok (.bipush 13, 2) := by decide +kernel
theorem dL_desk_650 : decode cL_desk 650 = .ok (.if_icmp .ne 146, 3) := by decide +kernel
theorem dL_desk_653 : decode cL_desk 653 = .ok (.aload 7, 2) := by decide +kernel
theorem dL_desk_655 : decode cL_desk 655 = .ok (.iconst 3, 1) := by decide +kernel
theorem dL_desk_656 : decode cL_desk 656 = .ok (.iaload, 1) := by decide +kernel
theorem dL_desk_657 : decode cL_desk 657 = .ok (.ifCond .le 139, 3) := by decide +kernel
theorem dL_desk_660 : decode cL_desk 660 = .ok (.iload 12, 2) := by decide +kernel
theorem dL_desk_662 : decode cL_desk 662 = .ok (.bipush 40, 2) := by decide +kernel
theorem dL_desk_664 : decode cL_desk 664 = .ok (.irem, 1) := by decide +kernel
theorem dL_desk_665 : decode cL_desk 665 = .ok (.istore 15, 2) := by decide +kernel
theorem dL_desk_667 : decode cL_desk 667 = .ok (.aload_n 3, 1) := by decide +kernel
theorem dL_desk_668 : decode cL_desk 668 = .ok (.iload 15, 2) := by decide +kernel
theorem dL_desk_670 : decode cL_desk 670 = .ok (.invokestatic 50, 3) := by decide +kernel
theorem dL_desk_673 : decode cL_desk 673 = .ok (.ifCond .lt 13, 3) := by decide +kernel
theorem dL_desk_676 : decode cL_desk 676 = .ok (.iload 12, 2) := by decide +kernel
theorem dL_desk_678 : decode cL_desk 678 = .ok (.bipush 40, 2) := by decide +kernel
theorem dL_desk_680 : decode cL_desk 680 = .ok (.idiv, 1) := by decide +kernel
theorem dL_desk_681 : decode cL_desk 681 = .ok (.iconst 4, 1) := by decide +kernel
theorem dL_desk_682 : decode cL_desk 682 = .ok (.irem, 1) := by decide +kernel
theorem dL_desk_683 : decode cL_desk 683 = .ok (.ifCond .ne 13, 3) := by decide +kernel
theorem dL_desk_686 : decode cL_desk 686 = .ok (.iload 14, 2) := by decide +kernel
theorem dL_desk_688 : decode cL_desk 688 = .ok (.aload 7, 2) := by decide +kernel
theorem dL_desk_690 : decode cL_desk 690 = .ok (.iconst 3, 1) := by decide +kernel
theorem dL_desk_691 : decode cL_desk 691 = .ok (.iaload, 1) := by decide +kernel
theorem dL_desk_692 : decode cL_desk 692 = .ok (.irem, 1) := by decide +kernel
theorem dL_desk_693 : decode cL_desk 693 = .ok (.goto 9, 3) := by decide +kernel
theorem dL_desk_696 : decode cL_desk 696 = .ok (.aload_n 3, 1) := by decide +kernel
theorem dL_desk_697 : decode cL_desk 697 = .ok (.iload 15, 2) := by decide +kernel
theorem dL_desk_699 : decode cL_desk 699 = .ok (.invokestatic 50, 3) := by decide +kernel
theorem dL_desk_702 : decode cL_desk 702 = .ok (.istore 16, 2) := by decide +kernel
theorem dL_desk_704 : decode cL_desk 704 = .ok (.aload_n 2, 1) := by decide +kernel
theorem dL_desk_705 : decode cL_desk 705 = .ok (.iload 16, 2) := by decide +kernel
theorem dL_desk_707 : decode cL_desk 707 = .ok (.iconst 1, 1) := by decide +kernel
theorem dL_desk_708 : decode cL_desk 708 = .ok (.invokevirtual 86, 3) := by decide +kernel
theorem dL_desk_711 : decode cL_desk 711 = .ok (.istore 17, 2) := by decide +kernel
theorem dL_desk_713 : decode cL_desk 713 = .ok (.aload_n 3, 1) := by decide +kernel
theorem dL_desk_714 : decode cL_desk 714 = .ok (.iload 15, 2) := by decide +kernel
theorem dL_desk_716 : decode cL_desk 716 = .ok (.invokestatic 50, 3) := by decide +kernel
theorem dL_desk_719 : decode cL_desk 719 = .ok (.iload 16, 2) := by decide +kernel
theorem dL_desk_721 : decode cL_desk 721 = .ok (.if_icmp .ne 13, 3) := by decide +kernel
theorem dL_desk_724 : decode cL_desk 724 = .ok (.iload 17, 2) := by decide +kernel
theorem dL_desk_726 : decode cL_desk 726 = .ok (.iconst 1, 1) := by decide +kernel
theorem dL_desk_727 : decode cL_desk 727 = .ok (.if_icmp .le 7, 3) := by decide +kernel
theorem dL_desk_730 : decode cL_desk 730 = .ok (.iconst 1, 1) := by decide +kernel
theorem dL_desk_731 : decode cL_desk 731 = .ok (.goto 4, 3) := by decide +kernel
theorem dL_desk_734 : decode cL_desk 734 = .ok (.iconst 0, 1) := by decide +kernel
theorem dL_desk_735 : decode cL_desk 735 = .ok (.istore 18, 2) := by decide +kernel
theorem dL_desk_737 : decode cL_desk 737 = .ok (.aload_n 3, 1) := by decide +kernel
theorem dL_desk_738 : decode cL_desk 738 = .ok (.iload 15, 2) := by decide +kernel
theorem dL_desk_740 : decode cL_desk 740 = .ok (.dup2, 1) := by decide +kernel
theorem dL_desk_741 : decode cL_desk 741 = .ok (.iaload, 1) := by decide +kernel
theorem dL_desk_742 : decode cL_desk 742 = .ok (.iload 18, 2) := by decide +kernel
theorem dL_desk_744 : decode cL_desk 744 = .ok (.ifCond .eq 13, 3) := by decide +kernel
theorem dL_desk_747 : decode cL_desk 747 = .ok (.ldc 42, 2) := by decide +kernel
theorem dL_desk_749 : decode cL_desk 749 = .ok (.iload 16, 2) := by decide +kernel
theorem dL_desk_751 : decode cL_desk 751 = .ok (.iconst 1, 1) := by decide +kernel
theorem dL_desk_752 : decode cL_desk 752 = .ok (.iadd, 1) := by decide +kernel
theorem dL_desk_753 : decode cL_desk 753 = .ok (.imul, 1) := by decide +kernel
theorem dL_desk_754 : decode cL_desk 754 = .ok (.goto 4, 3) := by decide +kernel
theorem dL_desk_757 : decode cL_desk 757 = .ok (.iconst 0, 1) := by decide +kernel
theorem dL_desk_758 : decode cL_desk 758 = .ok (.isub, 1) := by decide +kernel
theorem dL_desk_759 : decode cL_desk 759 = .ok (.iastore, 1) := by decide +kernel
theorem dL_desk_760 : decode cL_desk 760 = .ok (.aload_n 2, 1) := by decide +kernel
theorem dL_desk_761 : decode cL_desk 761 = .ok (.iconst 2, 1) := by decide +kernel
theorem dL_desk_762 : decode cL_desk 762 = .ok (.iload 16, 2) := by decide +kernel
theorem dL_desk_764 : decode cL_desk 764 = .ok (.iload 15, 2) := by decide +kernel
theorem dL_desk_766 : decode cL_desk 766 = .ok (.invokestatic 99, 3) := by decide +kernel
theorem dL_desk_769 : decode cL_desk 769 = .ok (.iload 18, 2) := by decide +kernel
theorem dL_desk_771 : decode cL_desk 771 = .ok (.ifCond .eq 10, 3) := by decide +kernel
theorem dL_desk_774 : decode cL_desk 774 = .ok (.iload 17, 2) := by decide +kernel
theorem dL_desk_776 : decode cL_desk 776 = .ok (.iconst 1, 1) := by decide +kernel
theorem dL_desk_777 : decode cL_desk 777 = .ok (.isub, 1) := by decide +kernel
theorem dL_desk_778 : decode cL_desk 778 = .ok (.goto 5, 3) := by decide +kernel
theorem dL_desk_781 : decode cL_desk 781 = .ok (.ldc 41, 2) := by decide +kernel
theorem dL_desk_783 : decode cL_desk 783 = .ok (.if_icmp .ne 7, 3) := by decide +kernel
theorem dL_desk_786 : decode cL_desk 786 = .ok (.iconst 1, 1) := by decide +kernel
theorem dL_desk_787 : decode cL_desk 787 = .ok (.goto 4, 3) := by decide +kernel
theorem dL_desk_790 : decode cL_desk 790 = .ok (.iconst 0, 1) := by decide +kernel
theorem dL_desk_791 : decode cL_desk 791 = .ok (.istore 9, 2) := by decide +kernel
theorem dL_desk_793 : decode cL_desk 793 = .ok (.goto 70, 3) := by decide +kernel
theorem dL_desk_796 : decode cL_desk 796 = .ok (.aload 7, 2) := by decide +kernel
theorem dL_desk_798 : decode cL_desk 798 = .ok (.iconst 3, 1) := by decide +kernel
theorem dL_desk_799 : decode cL_desk 799 = .ok (.iaload, 1) := by decide +kernel
theorem dL_desk_800 : decode cL_desk 800 = .ok (.ifCond .le 63, 3) := by decide +kernel
theorem dL_desk_803 : decode cL_desk 803 = .ok (.aload_n 2, 1) := by decide +kernel
theorem dL_desk_804 : decode cL_desk 804 = .ok (.iload 12, 2) := by decide +kernel
theorem dL_desk_806 : decode cL_desk 806 = .ok (.iload 14, 2) := by decide +kernel
theorem dL_desk_808 : decode cL_desk 808 = .ok (.aload 7, 2) := by decide +kernel
theorem dL_desk_810 : decode cL_desk 810 = .ok (.iconst 3, 1) := by decide +kernel
theorem dL_desk_811 : decode cL_desk 811 = .ok (.iaload, 1) := by decide +kernel
theorem dL_desk_812 : decode cL_desk 812 = .ok (.irem, 1) := by decide +kernel
theorem dL_desk_813 : decode cL_desk 813 = .ok (.invokestatic 162, 3) := by decide +kernel
theorem dL_desk_816 : decode cL_desk 816 = .ok (.ifCond .eq 44, 3) := by decide +kernel
theorem dL_desk_819 : decode cL_desk 819 = .ok (.aload_n 2, 1) := by decide +kernel
theorem dL_desk_820 : decode cL_desk 820 = .ok (.iload 12, 2) := by decide +kernel
theorem dL_desk_822 : decode cL_desk 822 = .ok (.bipush 91, 2) := by decide +kernel
theorem dL_desk_824 : decode cL_desk 824 = .ok (.irem, 1) := by decide +kernel
theorem dL_desk_825 : decode cL_desk 825 = .ok (.aload 6, 2) := by decide +kernel
theorem dL_desk_827 : decode cL_desk 827 = .ok (.aload 7, 2) := by decide +kernel
theorem dL_desk_829 : decode cL_desk 829 = .ok (.invokestatic 166, 3) := by decide +kernel
theorem dL_desk_832 : decode cL_desk 832 = .ok (.ifCond .eq 28, 3) := by decide +kernel
theorem dL_desk_835 : decode cL_desk 835 = .ok (.aload_n 2, 1) := by decide +kernel
theorem dL_desk_836 : decode cL_desk 836 = .ok (.iload 14, 2) := by decide +kernel
theorem dL_desk_838 : decode cL_desk 838 = .ok (.aload 7, 2) := by decide +kernel
theorem dL_desk_840 : decode cL_desk 840 = .ok (.iconst 3, 1) := by decide +kernel
theorem dL_desk_841 : decode cL_desk 841 = .ok (.iaload, 1) := by decide +kernel
theorem dL_desk_842 : decode cL_desk 842 = .ok (.irem, 1) := by decide +kernel
theorem dL_desk_843 : decode cL_desk 843 = .ok (.aload_n 3, 1) := by decide +kernel
theorem dL_desk_844 : decode cL_desk 844 = .ok (.aload 4, 2) := by decide +kernel
theorem dL_desk_846 : decode cL_desk 846 = .ok (.aload 6, 2) := by decide +kernel
theorem dL_desk_848 : decode cL_desk 848 = .ok (.aload 7, 2) := by decide +kernel
theorem dL_desk_850 : decode cL_desk 850 = .ok (.invokestatic 170, 3) := by decide +kernel
theorem dL_desk_853 : decode cL_desk 853 = .ok (.ifCond .eq 7, 3) := by decide +kernel
theorem dL_desk_856 : decode cL_desk 856 = .ok (.iconst 1, 1) := by decide +kernel
theorem dL_desk_857 : decode cL_desk 857 = .ok (.goto 4, 3) := by decide +kernel
theorem dL_desk_860 : decode cL_desk 860 = .ok (.iconst 0, 1) := by decide +kernel
theorem dL_desk_861 : decode cL_desk 861 = .ok (.istore 9, 2) := by decide +kernel
theorem dL_desk_863 : decode cL_desk 863 = .ok (.iload 9, 2) := by decide +kernel
theorem dL_desk_865 : decode cL_desk 865 = .ok (.ifCond .eq 47, 3) := by decide +kernel
theorem dL_desk_868 : decode cL_desk 868 = .ok (.iload 10, 2) := by decide +kernel
theorem dL_desk_870 : decode cL_desk 870 = .ok (.iconst 4, 1) := by decide +kernel
theorem dL_desk_871 : decode cL_desk 871 = .ok (.irem, 1) := by decide +kernel
theorem dL_desk_872 : decode cL_desk 872 = .ok (.iconst 3, 1) := by decide +kernel
theorem dL_desk_873 : decode cL_desk 873 = .ok (.if_icmp .lt 35, 3) := by decide +kernel
theorem dL_desk_876 : decode cL_desk 876 = .ok (.aload 7, 2) := by decide +kernel
theorem dL_desk_878 : decode cL_desk 878 = .ok (.iconst 3, 1) := by decide +kernel
theorem dL_desk_879 : decode cL_desk 879 = .ok (.iaload, 1) := by decide +kernel
theorem dL_desk_880 : decode cL_desk 880 = .ok (.ifCond .eq 28, 3) := by decide +kernel
theorem dL_desk_883 : decode cL_desk 883 = .ok (.aload_n 2, 1) := by decide +kernel
theorem dL_desk_884 : decode cL_desk 884 = .ok (.iload 12, 2) := by decide +kernel
theorem dL_desk_886 : decode cL_desk 886 = .ok (.iload 14, 2) := by decide +kernel
theorem dL_desk_888 : decode cL_desk 888 = .ok (.aload 7, 2) := by decide +kernel
theorem dL_desk_890 : decode cL_desk 890 = .ok (.iconst 3, 1) := by decide +kernel
theorem dL_desk_891 : decode cL_desk 891 = .ok (.iaload, 1) := by decide +kernel
theorem dL_desk_892 : decode cL_desk 892 = .ok (.irem, 1) := by decide +kernel
theorem dL_desk_893 : decode cL_desk 893 = .ok (.aload_n 3, 1) := by decide +kernel
theorem dL_desk_894 : decode cL_desk 894 = .ok (.aload 4, 2) := by decide +kernel
theorem dL_desk_896 : decode cL_desk 896 = .ok (.aload 5, 2) := by decide +kernel
theorem dL_desk_898 : decode cL_desk 898 = .ok (.aload 6, 2) := by decide +kernel
theorem dL_desk_900 : decode cL_desk 900 = .ok (.aload 7, 2) := by decide +kernel
theorem dL_desk_902 : decode cL_desk 902 = .ok (.invokestatic 174, 3) := by decide +kernel
theorem dL_desk_905 : decode cL_desk 905 = .ok (.ifCond .eq 7, 3) := by decide +kernel
theorem dL_desk_908 : decode cL_desk 908 = .ok (.iconst 1, 1) := by decide +kernel
theorem dL_desk_909 : decode cL_desk 909 = .ok (.goto 4, 3) := by decide +kernel
theorem dL_desk_912 : decode cL_desk 912 = .ok (.iconst 0, 1) := by decide +kernel
theorem dL_desk_913 : decode cL_desk 913 = .ok (.istore 9, 2) := by decide +kernel
theorem dL_desk_915 : decode cL_desk 915 = .ok (.iinc 10 1, 3) := by decide +kernel
theorem dL_desk_918 : decode cL_desk 918 = .ok (.goto (-516), 3) := by decide +kernel
theorem dL_desk_921 : decode cL_desk 921 = .ok (.iload 9, 2) := by decide +kernel
theorem dL_desk_923 : decode cL_desk 923 = .ok (.ireturn, 1) := by decide +kernel
theorem dL_law_0 : decode cL_law 0 = .ok (.aload_n 0, 1) := by decide +kernel
theorem dL_law_1 : decode cL_law 1 = .ok (.iconst 0, 1) := by decide +kernel
theorem dL_law_2 : decode cL_law 2 = .ok (.invokestatic 177, 3) := by decide +kernel
theorem dL_law_5 : decode cL_law 5 = .ok (.ifCond .eq 27, 3) := by decide +kernel
theorem dL_law_8 : decode cL_law 8 = .ok (.aload_n 0, 1) := by decide +kernel
theorem dL_law_9 : decode cL_law 9 = .ok (.sipush 145, 3) := by decide +kernel
theorem dL_law_12 : decode cL_law 12 = .ok (.invokestatic 177, 3) := by decide +kernel
theorem dL_law_15 : decode cL_law 15 = .ok (.ifCond .eq 17, 3) := by decide +kernel
theorem dL_law_18 : decode cL_law 18 = .ok (.aload_n 0, 1) := by decide +kernel
theorem dL_law_19 : decode cL_law 19 = .ok (.sipush 290, 3) := by decide +kernel
theorem dL_law_22 : decode cL_law 22 = .ok (.invokestatic 177, 3) := by decide +kernel
theorem dL_law_25 : decode cL_law 25 = .ok (.ifCond .eq 7, 3) := by decide +kernel
theorem dL_law_28 : decode cL_law 28 = .ok (.iconst 1, 1) := by decide +kernel
theorem dL_law_29 : decode cL_law 29 = .ok (.goto 4, 3) := by decide +kernel
theorem dL_law_32 : decode cL_law 32 = .ok (.iconst 0, 1) := by decide +kernel
theorem dL_law_33 : decode cL_law 33 = .ok (.ireturn, 1) := by decide +kernel
