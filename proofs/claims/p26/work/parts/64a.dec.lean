theorem dL_hangs_0 : decode cL_hangs 0 = .ok (.iconst 0, 1) := by decide +kernel
theorem dL_hangs_1 : decode cL_hangs 1 = .ok (.istore_n 1, 1) := by decide +kernel
theorem dL_hangs_2 : decode cL_hangs 2 = .ok (.aload_n 0, 1) := by decide +kernel
theorem dL_hangs_3 : decode cL_hangs 3 = .ok (.iconst 1, 1) := by decide +kernel
theorem dL_hangs_4 : decode cL_hangs 4 = .ok (.invokevirtual 37, 3) := by decide +kernel
theorem dL_hangs_7 : decode cL_hangs 7 = .ok (.bipush 50, 2) := by decide +kernel
theorem dL_hangs_9 : decode cL_hangs 9 = .ok (.aload_n 0, 1) := by decide +kernel
theorem dL_hangs_10 : decode cL_hangs 10 = .ok (.iconst 3, 1) := by decide +kernel
theorem dL_hangs_11 : decode cL_hangs 11 = .ok (.invokevirtual 37, 3) := by decide +kernel
theorem dL_hangs_14 : decode cL_hangs 14 = .ok (.iadd, 1) := by decide +kernel
theorem dL_hangs_15 : decode cL_hangs 15 = .ok (.aload_n 0, 1) := by decide +kernel
theorem dL_hangs_16 : decode cL_hangs 16 = .ok (.iconst 2, 1) := by decide +kernel
theorem dL_hangs_17 : decode cL_hangs 17 = .ok (.invokevirtual 37, 3) := by decide +kernel
theorem dL_hangs_20 : decode cL_hangs 20 = .ok (.isub, 1) := by decide +kernel
theorem dL_hangs_21 : decode cL_hangs 21 = .ok (.if_icmp .ne 26, 3) := by decide +kernel
theorem dL_hangs_24 : decode cL_hangs 24 = .ok (.aload_n 0, 1) := by decide +kernel
theorem dL_hangs_25 : decode cL_hangs 25 = .ok (.iconst 1, 1) := by decide +kernel
theorem dL_hangs_26 : decode cL_hangs 26 = .ok (.invokevirtual 37, 3) := by decide +kernel
theorem dL_hangs_29 : decode cL_hangs 29 = .ok (.ifCond .lt 18, 3) := by decide +kernel
theorem dL_hangs_32 : decode cL_hangs 32 = .ok (.aload_n 0, 1) := by decide +kernel
theorem dL_hangs_33 : decode cL_hangs 33 = .ok (.iconst 1, 1) := by decide +kernel
theorem dL_hangs_34 : decode cL_hangs 34 = .ok (.invokevirtual 37, 3) := by decide +kernel
theorem dL_hangs_37 : decode cL_hangs 37 = .ok (.sipush 999, 3) := by decide +kernel
theorem dL_hangs_40 : decode cL_hangs 40 = .ok (.if_icmp .gt 7, 3) := by decide +kernel
theorem dL_hangs_43 : decode cL_hangs 43 = .ok (.iconst 1, 1) := by decide +kernel
theorem dL_hangs_44 : decode cL_hangs 44 = .ok (.goto 4, 3) := by decide +kernel
theorem dL_hangs_48 : decode cL_hangs 48 = .ok (.istore_n 2, 1) := by decide +kernel
theorem dL_hangs_49 : decode cL_hangs 49 = .ok (.iconst 0, 1) := by decide +kernel
theorem dL_hangs_50 : decode cL_hangs 50 = .ok (.istore_n 3, 1) := by decide +kernel
theorem dL_hangs_51 : decode cL_hangs 51 = .ok (.iload_n 3, 1) := by decide +kernel
theorem dL_hangs_52 : decode cL_hangs 52 = .ok (.iconst 4, 1) := by decide +kernel
theorem dL_hangs_53 : decode cL_hangs 53 = .ok (.if_icmp .ge 137, 3) := by decide +kernel
theorem dL_hangs_56 : decode cL_hangs 56 = .ok (.iload_n 2, 1) := by decide +kernel
theorem dL_hangs_57 : decode cL_hangs 57 = .ok (.ifCond .eq 133, 3) := by decide +kernel
theorem dL_hangs_60 : decode cL_hangs 60 = .ok (.aload_n 0, 1) := by decide +kernel
theorem dL_hangs_61 : decode cL_hangs 61 = .ok (.iload_n 3, 1) := by decide +kernel
theorem dL_hangs_62 : decode cL_hangs 62 = .ok (.iconst 0, 1) := by decide +kernel
theorem dL_hangs_63 : decode cL_hangs 63 = .ok (.invokevirtual 40, 3) := by decide +kernel
theorem dL_hangs_66 : decode cL_hangs 66 = .ok (.istore 4, 2) := by decide +kernel
theorem dL_hangs_68 : decode cL_hangs 68 = .ok (.aload_n 0, 1) := by decide +kernel
theorem dL_hangs_69 : decode cL_hangs 69 = .ok (.iload_n 3, 1) := by decide +kernel
theorem dL_hangs_70 : decode cL_hangs 70 = .ok (.iconst 1, 1) := by decide +kernel
theorem dL_hangs_71 : decode cL_hangs 71 = .ok (.invokevirtual 40, 3) := by decide +kernel
theorem dL_hangs_74 : decode cL_hangs 74 = .ok (.istore 5, 2) := by decide +kernel
theorem dL_hangs_76 : decode cL_hangs 76 = .ok (.iload 4, 2) := by decide +kernel
theorem dL_hangs_78 : decode cL_hangs 78 = .ok (.ifCond .ne 7, 3) := by decide +kernel
theorem dL_hangs_81 : decode cL_hangs 81 = .ok (.iconst 4, 1) := by decide +kernel
theorem dL_hangs_82 : decode cL_hangs 82 = .ok (.goto 16, 3) := by decide +kernel
theorem dL_hangs_85 : decode cL_hangs 85 = .ok (.iload 4, 2) := by decide +kernel
theorem dL_hangs_87 : decode cL_hangs 87 = .ok (.iconst 1, 1) := by decide +kernel
theorem dL_hangs_88 : decode cL_hangs 88 = .ok (.if_icmp .ne 8, 3) := by decide +kernel
theorem dL_hangs_91 : decode cL_hangs 91 = .ok (.bipush 6, 2) := by decide +kernel
theorem dL_hangs_93 : decode cL_hangs 93 = .ok (.goto 5, 3) := by decide +kernel
theorem dL_hangs_96 : decode cL_hangs 96 = .ok (.bipush 9, 2) := by decide +kernel
theorem dL_hangs_98 : decode cL_hangs 98 = .ok (.istore 6, 2) := by decide +kernel
theorem dL_hangs_100 : decode cL_hangs 100 = .ok (.iload_n 1, 1) := by decide +kernel
theorem dL_hangs_101 : decode cL_hangs 101 = .ok (.iload 4, 2) := by decide +kernel
theorem dL_hangs_103 : decode cL_hangs 103 = .ok (.ifCond .lt 7, 3) := by decide +kernel
theorem dL_hangs_106 : decode cL_hangs 106 = .ok (.iconst 1, 1) := by decide +kernel
theorem dL_hangs_107 : decode cL_hangs 107 = .ok (.goto 4, 3) := by decide +kernel
theorem dL_hangs_110 : decode cL_hangs 110 = .ok (.iconst 0, 1) := by decide +kernel
theorem dL_hangs_111 : decode cL_hangs 111 = .ok (.iadd, 1) := by decide +kernel
theorem dL_hangs_112 : decode cL_hangs 112 = .ok (.istore_n 1, 1) := by decide +kernel
theorem dL_hangs_113 : decode cL_hangs 113 = .ok (.iload 4, 2) := by decide +kernel
theorem dL_hangs_115 : decode cL_hangs 115 = .ok (.ifCond .ge 32, 3) := by decide +kernel
theorem dL_hangs_118 : decode cL_hangs 118 = .ok (.iload 4, 2) := by decide +kernel
theorem dL_hangs_120 : decode cL_hangs 120 = .ok (.bipush (-5), 2) := by decide +kernel
theorem dL_hangs_122 : decode cL_hangs 122 = .ok (.if_icmp .ne 21, 3) := by decide +kernel
theorem dL_hangs_125 : decode cL_hangs 125 = .ok (.iload 5, 2) := by decide +kernel
theorem dL_hangs_127 : decode cL_hangs 127 = .ok (.ifCond .ne 16, 3) := by decide +kernel
theorem dL_hangs_130 : decode cL_hangs 130 = .ok (.aload_n 0, 1) := by decide +kernel
theorem dL_hangs_131 : decode cL_hangs 131 = .ok (.iload_n 3, 1) := by decide +kernel
theorem dL_hangs_132 : decode cL_hangs 132 = .ok (.iconst 2, 1) := by decide +kernel
theorem dL_hangs_133 : decode cL_hangs 133 = .ok (.invokevirtual 40, 3) := by decide +kernel
theorem dL_hangs_136 : decode cL_hangs 136 = .ok (.ifCond .ne 7, 3) := by decide +kernel
theorem dL_hangs_139 : decode cL_hangs 139 = .ok (.iconst 1, 1) := by decide +kernel
theorem dL_hangs_140 : decode cL_hangs 140 = .ok (.goto 43, 3) := by decide +kernel
theorem dL_hangs_147 : decode cL_hangs 147 = .ok (.iload 5, 2) := by decide +kernel
theorem dL_hangs_149 : decode cL_hangs 149 = .ok (.ifCond .le 33, 3) := by decide +kernel
theorem dL_hangs_152 : decode cL_hangs 152 = .ok (.iload 5, 2) := by decide +kernel
theorem dL_hangs_154 : decode cL_hangs 154 = .ok (.iload 6, 2) := by decide +kernel
theorem dL_hangs_156 : decode cL_hangs 156 = .ok (.if_icmp .gt 26, 3) := by decide +kernel
theorem dL_hangs_159 : decode cL_hangs 159 = .ok (.aload_n 0, 1) := by decide +kernel
theorem dL_hangs_160 : decode cL_hangs 160 = .ok (.iload_n 3, 1) := by decide +kernel
theorem dL_hangs_161 : decode cL_hangs 161 = .ok (.iconst 2, 1) := by decide +kernel
theorem dL_hangs_162 : decode cL_hangs 162 = .ok (.invokevirtual 40, 3) := by decide +kernel
theorem dL_hangs_165 : decode cL_hangs 165 = .ok (.ifCond .lt 17, 3) := by decide +kernel
theorem dL_hangs_168 : decode cL_hangs 168 = .ok (.aload_n 0, 1) := by decide +kernel
theorem dL_hangs_169 : decode cL_hangs 169 = .ok (.iload_n 3, 1) := by decide +kernel
theorem dL_hangs_170 : decode cL_hangs 170 = .ok (.iconst 2, 1) := by decide +kernel
theorem dL_hangs_171 : decode cL_hangs 171 = .ok (.invokevirtual 40, 3) := by decide +kernel
theorem dL_hangs_174 : decode cL_hangs 174 = .ok (.iconst 3, 1) := by decide +kernel
theorem dL_hangs_175 : decode cL_hangs 175 = .ok (.if_icmp .ge 7, 3) := by decide +kernel
theorem dL_hangs_178 : decode cL_hangs 178 = .ok (.iconst 1, 1) := by decide +kernel
theorem dL_hangs_179 : decode cL_hangs 179 = .ok (.goto 4, 3) := by decide +kernel
theorem dL_hangs_183 : decode cL_hangs 183 = .ok (.istore_n 2, 1) := by decide +kernel
theorem dL_hangs_184 : decode cL_hangs 184 = .ok (.iinc 3 1, 3) := by decide +kernel
theorem dL_hangs_187 : decode cL_hangs 187 = .ok (.goto (-136), 3) := by decide +kernel
theorem dL_hangs_190 : decode cL_hangs 190 = .ok (.iconst 0, 1) := by decide +kernel
theorem dL_hangs_191 : decode cL_hangs 191 = .ok (.istore_n 3, 1) := by decide +kernel
theorem dL_hangs_192 : decode cL_hangs 192 = .ok (.iload_n 3, 1) := by decide +kernel
theorem dL_hangs_193 : decode cL_hangs 193 = .ok (.iconst 2, 1) := by decide +kernel
theorem dL_hangs_194 : decode cL_hangs 194 = .ok (.if_icmp .ge 126, 3) := by decide +kernel
theorem dL_hangs_197 : decode cL_hangs 197 = .ok (.iload_n 2, 1) := by decide +kernel
theorem dL_hangs_198 : decode cL_hangs 198 = .ok (.ifCond .eq 122, 3) := by decide +kernel
theorem dL_hangs_201 : decode cL_hangs 201 = .ok (.aload_n 0, 1) := by decide +kernel
theorem dL_hangs_202 : decode cL_hangs 202 = .ok (.iload_n 3, 1) := by decide +kernel
theorem dL_hangs_203 : decode cL_hangs 203 = .ok (.iconst 0, 1) := by decide +kernel
theorem dL_hangs_204 : decode cL_hangs 204 = .ok (.invokevirtual 43, 3) := by decide +kernel
theorem dL_hangs_207 : decode cL_hangs 207 = .ok (.ifCond .lt 105, 3) := by decide +kernel
theorem dL_hangs_210 : decode cL_hangs 210 = .ok (.aload_n 0, 1) := by decide +kernel
theorem dL_hangs_211 : decode cL_hangs 211 = .ok (.iload_n 3, 1) := by decide +kernel
theorem dL_hangs_212 : decode cL_hangs 212 = .ok (.iconst 0, 1) := by decide +kernel
theorem dL_hangs_213 : decode cL_hangs 213 = .ok (.invokevirtual 43, 3) := by decide +kernel
theorem dL_hangs_216 : decode cL_hangs 216 = .ok (.iconst 5, 1) := by decide +kernel
theorem dL_hangs_217 : decode cL_hangs 217 = .ok (.if_icmp .gt 95, 3) := by decide +kernel
theorem dL_hangs_220 : decode cL_hangs 220 = .ok (.aload_n 0, 1) := by decide +kernel
theorem dL_hangs_221 : decode cL_hangs 221 = .ok (.iload_n 3, 1) := by decide +kernel
theorem dL_hangs_222 : decode cL_hangs 222 = .ok (.iconst 1, 1) := by decide +kernel
theorem dL_hangs_223 : decode cL_hangs 223 = .ok (.invokevirtual 43, 3) := by decide +kernel
theorem dL_hangs_226 : decode cL_hangs 226 = .ok (.ifCond .lt 86, 3) := by decide +kernel
theorem dL_hangs_229 : decode cL_hangs 229 = .ok (.aload_n 0, 1) := by decide +kernel
theorem dL_hangs_230 : decode cL_hangs 230 = .ok (.iload_n 3, 1) := by decide +kernel
theorem dL_hangs_231 : decode cL_hangs 231 = .ok (.iconst 1, 1) := by decide +kernel
theorem dL_hangs_232 : decode cL_hangs 232 = .ok (.invokevirtual 43, 3) := by decide +kernel
theorem dL_hangs_235 : decode cL_hangs 235 = .ok (.sipush 200, 3) := by decide +kernel
theorem dL_hangs_238 : decode cL_hangs 238 = .ok (.if_icmp .gt 74, 3) := by decide +kernel
theorem dL_hangs_241 : decode cL_hangs 241 = .ok (.aload_n 0, 1) := by decide +kernel
theorem dL_hangs_242 : decode cL_hangs 242 = .ok (.iload_n 3, 1) := by decide +kernel
theorem dL_hangs_243 : decode cL_hangs 243 = .ok (.iconst 2, 1) := by decide +kernel
theorem dL_hangs_244 : decode cL_hangs 244 = .ok (.invokevirtual 43, 3) := by decide +kernel
theorem dL_hangs_247 : decode cL_hangs 247 = .ok (.ifCond .lt 65, 3) := by decide +kernel
theorem dL_hangs_250 : decode cL_hangs 250 = .ok (.aload_n 0, 1) := by decide +kernel
theorem dL_hangs_251 : decode cL_hangs 251 = .ok (.iload_n 3, 1) := by decide +kernel
theorem dL_hangs_252 : decode cL_hangs 252 = .ok (.iconst 2, 1) := by decide +kernel
theorem dL_hangs_253 : decode cL_hangs 253 = .ok (.invokevirtual 43, 3) := by decide +kernel
theorem dL_hangs_256 : decode cL_hangs 256 = .ok (.bipush 70, 2) := by decide +kernel
theorem dL_hangs_258 : decode cL_hangs 258 = .ok (.if_icmp .gt 54, 3) := by decide +kernel
theorem dL_hangs_261 : decode cL_hangs 261 = .ok (.aload_n 0, 1) := by decide +kernel
theorem dL_hangs_262 : decode cL_hangs 262 = .ok (.iload_n 3, 1) := by decide +kernel
theorem dL_hangs_263 : decode cL_hangs 263 = .ok (.iconst 3, 1) := by decide +kernel
theorem dL_hangs_264 : decode cL_hangs 264 = .ok (.invokevirtual 43, 3) := by decide +kernel
theorem dL_hangs_267 : decode cL_hangs 267 = .ok (.ifCond .lt 45, 3) := by decide +kernel
theorem dL_hangs_270 : decode cL_hangs 270 = .ok (.aload_n 0, 1) := by decide +kernel
theorem dL_hangs_271 : decode cL_hangs 271 = .ok (.iload_n 3, 1) := by decide +kernel
theorem dL_hangs_272 : decode cL_hangs 272 = .ok (.iconst 3, 1) := by decide +kernel
theorem dL_hangs_273 : decode cL_hangs 273 = .ok (.invokevirtual 43, 3) := by decide +kernel
theorem dL_hangs_276 : decode cL_hangs 276 = .ok (.bipush 10, 2) := by decide +kernel
theorem dL_hangs_278 : decode cL_hangs 278 = .ok (.if_icmp .gt 34, 3) := by decide +kernel
theorem dL_hangs_281 : decode cL_hangs 281 = .ok (.aload_n 0, 1) := by decide +kernel
theorem dL_hangs_282 : decode cL_hangs 282 = .ok (.iload_n 3, 1) := by decide +kernel
theorem dL_hangs_283 : decode cL_hangs 283 = .ok (.iconst 3, 1) := by decide +kernel
theorem dL_hangs_284 : decode cL_hangs 284 = .ok (.invokevirtual 43, 3) := by decide +kernel
theorem dL_hangs_287 : decode cL_hangs 287 = .ok (.ifCond .eq 21, 3) := by decide +kernel
theorem dL_hangs_290 : decode cL_hangs 290 = .ok (.aload_n 0, 1) := by decide +kernel
theorem dL_hangs_291 : decode cL_hangs 291 = .ok (.iload_n 3, 1) := by decide +kernel
theorem dL_hangs_292 : decode cL_hangs 292 = .ok (.iconst 0, 1) := by decide +kernel
theorem dL_hangs_293 : decode cL_hangs 293 = .ok (.invokevirtual 43, 3) := by decide +kernel
theorem dL_hangs_296 : decode cL_hangs 296 = .ok (.ifCond .ne 16, 3) := by decide +kernel
theorem dL_hangs_299 : decode cL_hangs 299 = .ok (.aload_n 0, 1) := by decide +kernel
theorem dL_hangs_300 : decode cL_hangs 300 = .ok (.iload_n 3, 1) := by decide +kernel
theorem dL_hangs_301 : decode cL_hangs 301 = .ok (.iconst 4, 1) := by decide +kernel
theorem dL_hangs_302 : decode cL_hangs 302 = .ok (.invokevirtual 43, 3) := by decide +kernel
theorem dL_hangs_305 : decode cL_hangs 305 = .ok (.ifCond .le 7, 3) := by decide +kernel
theorem dL_hangs_308 : decode cL_hangs 308 = .ok (.iconst 1, 1) := by decide +kernel
theorem dL_hangs_309 : decode cL_hangs 309 = .ok (.goto 4, 3) := by decide +kernel
theorem dL_hangs_313 : decode cL_hangs 313 = .ok (.istore_n 2, 1) := by decide +kernel
theorem dL_hangs_314 : decode cL_hangs 314 = .ok (.iinc 3 1, 3) := by decide +kernel
theorem dL_hangs_317 : decode cL_hangs 317 = .ok (.goto (-125), 3) := by decide +kernel
theorem dL_hangs_320 : decode cL_hangs 320 = .ok (.aload_n 0, 1) := by decide +kernel
theorem dL_hangs_321 : decode cL_hangs 321 = .ok (.bipush 6, 2) := by decide +kernel
theorem dL_hangs_323 : decode cL_hangs 323 = .ok (.invokevirtual 37, 3) := by decide +kernel
theorem dL_hangs_326 : decode cL_hangs 326 = .ok (.istore_n 3, 1) := by decide +kernel
theorem dL_hangs_327 : decode cL_hangs 327 = .ok (.iconst 0, 1) := by decide +kernel
theorem dL_hangs_328 : decode cL_hangs 328 = .ok (.istore 4, 2) := by decide +kernel
theorem dL_hangs_330 : decode cL_hangs 330 = .ok (.iload 4, 2) := by decide +kernel
theorem dL_hangs_332 : decode cL_hangs 332 = .ok (.iload_n 3, 1) := by decide +kernel
theorem dL_hangs_333 : decode cL_hangs 333 = .ok (.if_icmp .ge 38, 3) := by decide +kernel
theorem dL_hangs_336 : decode cL_hangs 336 = .ok (.iload_n 2, 1) := by decide +kernel
theorem dL_hangs_337 : decode cL_hangs 337 = .ok (.ifCond .eq 34, 3) := by decide +kernel
theorem dL_hangs_340 : decode cL_hangs 340 = .ok (.aload_n 0, 1) := by decide +kernel
theorem dL_hangs_341 : decode cL_hangs 341 = .ok (.iload 4, 2) := by decide +kernel
theorem dL_hangs_343 : decode cL_hangs 343 = .ok (.invokevirtual 46, 3) := by decide +kernel
theorem dL_hangs_346 : decode cL_hangs 346 = .ok (.ifCond .lt 17, 3) := by decide +kernel
theorem dL_hangs_349 : decode cL_hangs 349 = .ok (.aload_n 0, 1) := by decide +kernel
theorem dL_hangs_350 : decode cL_hangs 350 = .ok (.iload 4, 2) := by decide +kernel
theorem dL_hangs_352 : decode cL_hangs 352 = .ok (.invokevirtual 46, 3) := by decide +kernel
theorem dL_hangs_355 : decode cL_hangs 355 = .ok (.iconst 3, 1) := by decide +kernel
theorem dL_hangs_356 : decode cL_hangs 356 = .ok (.if_icmp .ge 7, 3) := by decide +kernel
theorem dL_hangs_359 : decode cL_hangs 359 = .ok (.iconst 1, 1) := by decide +kernel
theorem dL_hangs_360 : decode cL_hangs 360 = .ok (.goto 4, 3) := by decide +kernel
theorem dL_hangs_364 : decode cL_hangs 364 = .ok (.istore_n 2, 1) := by decide +kernel
theorem dL_hangs_365 : decode cL_hangs 365 = .ok (.iinc 4 1, 3) := by decide +kernel
theorem dL_hangs_368 : decode cL_hangs 368 = .ok (.goto (-38), 3) := by decide +kernel
theorem dL_hangs_371 : decode cL_hangs 371 = .ok (.iload_n 2, 1) := by decide +kernel
theorem dL_hangs_372 : decode cL_hangs 372 = .ok (.ifCond .eq 114, 3) := by decide +kernel
theorem dL_hangs_375 : decode cL_hangs 375 = .ok (.aload_n 0, 1) := by decide +kernel
theorem dL_hangs_376 : decode cL_hangs 376 = .ok (.iload_n 3, 1) := by decide +kernel
theorem dL_hangs_377 : decode cL_hangs 377 = .ok (.invokevirtual 46, 3) := by decide +kernel
theorem dL_hangs_380 : decode cL_hangs 380 = .ok (.bipush (-5), 2) := by decide +kernel
theorem dL_hangs_382 : decode cL_hangs 382 = .ok (.if_icmp .ne 104, 3) := by decide +kernel
theorem dL_hangs_385 : decode cL_hangs 385 = .ok (.iload_n 1, 1) := by decide +kernel
theorem dL_hangs_386 : decode cL_hangs 386 = .ok (.aload_n 0, 1) := by decide +kernel
theorem dL_hangs_387 : decode cL_hangs 387 = .ok (.iconst 5, 1) := by decide +kernel
theorem dL_hangs_388 : decode cL_hangs 388 = .ok (.invokevirtual 37, 3) := by decide +kernel
theorem dL_hangs_391 : decode cL_hangs 391 = .ok (.if_icmp .ne 95, 3) := by decide +kernel
theorem dL_hangs_394 : decode cL_hangs 394 = .ok (.aload_n 0, 1) := by decide +kernel
theorem dL_hangs_395 : decode cL_hangs 395 = .ok (.bipush 7, 2) := by decide +kernel
theorem dL_hangs_397 : decode cL_hangs 397 = .ok (.invokevirtual 37, 3) := by decide +kernel
theorem dL_hangs_400 : decode cL_hangs 400 = .ok (.aload_n 0, 1) := by decide +kernel
theorem dL_hangs_401 : decode cL_hangs 401 = .ok (.bipush 8, 2) := by decide +kernel
theorem dL_hangs_403 : decode cL_hangs 403 = .ok (.invokevirtual 37, 3) := by decide +kernel
theorem dL_hangs_406 : decode cL_hangs 406 = .ok (.aload_n 0, 1) := by decide +kernel
theorem dL_hangs_407 : decode cL_hangs 407 = .ok (.bipush 9, 2) := by decide +kernel
theorem dL_hangs_409 : decode cL_hangs 409 = .ok (.invokevirtual 37, 3) := by decide +kernel
theorem dL_hangs_412 : decode cL_hangs 412 = .ok (.iadd, 1) := by decide +kernel
theorem dL_hangs_413 : decode cL_hangs 413 = .ok (.aload_n 0, 1) := by decide +kernel
theorem dL_hangs_414 : decode cL_hangs 414 = .ok (.bipush 10, 2) := by decide +kernel
theorem dL_hangs_416 : decode cL_hangs 416 = .ok (.invokevirtual 37, 3) := by decide +kernel
theorem dL_hangs_419 : decode cL_hangs 419 = .ok (.iadd, 1) := by decide +kernel
theorem dL_hangs_420 : decode cL_hangs 420 = .ok (.iload_n 1, 1) := by decide +kernel
theorem dL_hangs_421 : decode cL_hangs 421 = .ok (.iadd, 1) := by decide +kernel
theorem dL_hangs_422 : decode cL_hangs 422 = .ok (.if_icmp .ne 64, 3) := by decide +kernel
theorem dL_hangs_425 : decode cL_hangs 425 = .ok (.aload_n 0, 1) := by decide +kernel
theorem dL_hangs_426 : decode cL_hangs 426 = .ok (.bipush 12, 2) := by decide +kernel
theorem dL_hangs_428 : decode cL_hangs 428 = .ok (.invokevirtual 37, 3) := by decide +kernel
theorem dL_hangs_431 : decode cL_hangs 431 = .ok (.aload_n 0, 1) := by decide +kernel
theorem dL_hangs_432 : decode cL_hangs 432 = .ok (.iconst 0, 1) := by decide +kernel
theorem dL_hangs_433 : decode cL_hangs 433 = .ok (.iconst 2, 1) := by decide +kernel
theorem dL_hangs_434 : decode cL_hangs 434 = .ok (.invokevirtual 43, 3) := by decide +kernel
theorem dL_hangs_437 : decode cL_hangs 437 = .ok (.aload_n 0, 1) := by decide +kernel
theorem dL_hangs_438 : decode cL_hangs 438 = .ok (.iconst 1, 1) := by decide +kernel
theorem dL_hangs_439 : decode cL_hangs 439 = .ok (.iconst 2, 1) := by decide +kernel
theorem dL_hangs_440 : decode cL_hangs 440 = .ok (.invokevirtual 43, 3) := by decide +kernel
theorem dL_hangs_443 : decode cL_hangs 443 = .ok (.iadd, 1) := by decide +kernel
theorem dL_hangs_444 : decode cL_hangs 444 = .ok (.if_icmp .ne 42, 3) := by decide +kernel
theorem dL_hangs_447 : decode cL_hangs 447 = .ok (.aload_n 0, 1) := by decide +kernel
theorem dL_hangs_448 : decode cL_hangs 448 = .ok (.bipush 11, 2) := by decide +kernel
theorem dL_hangs_450 : decode cL_hangs 450 = .ok (.invokevirtual 37, 3) := by decide +kernel
theorem dL_hangs_453 : decode cL_hangs 453 = .ok (.iconst 3, 1) := by decide +kernel
theorem dL_hangs_454 : decode cL_hangs 454 = .ok (.aload_n 0, 1) := by decide +kernel
theorem dL_hangs_455 : decode cL_hangs 455 = .ok (.bipush 8, 2) := by decide +kernel
theorem dL_hangs_457 : decode cL_hangs 457 = .ok (.invokevirtual 37, 3) := by decide +kernel
theorem dL_hangs_460 : decode cL_hangs 460 = .ok (.imul, 1) := by decide +kernel
theorem dL_hangs_461 : decode cL_hangs 461 = .ok (.if_icmp .lt 25, 3) := by decide +kernel
theorem dL_hangs_464 : decode cL_hangs 464 = .ok (.aload_n 0, 1) := by decide +kernel
theorem dL_hangs_465 : decode cL_hangs 465 = .ok (.bipush 11, 2) := by decide +kernel
theorem dL_hangs_467 : decode cL_hangs 467 = .ok (.invokevirtual 37, 3) := by decide +kernel
theorem dL_hangs_470 : decode cL_hangs 470 = .ok (.bipush 9, 2) := by decide +kernel
theorem dL_hangs_472 : decode cL_hangs 472 = .ok (.aload_n 0, 1) := by decide +kernel
theorem dL_hangs_473 : decode cL_hangs 473 = .ok (.bipush 8, 2) := by decide +kernel
theorem dL_hangs_475 : decode cL_hangs 475 = .ok (.invokevirtual 37, 3) := by decide +kernel
theorem dL_hangs_478 : decode cL_hangs 478 = .ok (.imul, 1) := by decide +kernel
theorem dL_hangs_479 : decode cL_hangs 479 = .ok (.if_icmp .gt 7, 3) := by decide +kernel
theorem dL_hangs_482 : decode cL_hangs 482 = .ok (.iconst 1, 1) := by decide +kernel
theorem dL_hangs_483 : decode cL_hangs 483 = .ok (.goto 4, 3) := by decide +kernel
theorem dL_hangs_487 : decode cL_hangs 487 = .ok (.istore_n 2, 1) := by decide +kernel
theorem dL_hangs_488 : decode cL_hangs 488 = .ok (.iconst 0, 1) := by decide +kernel
theorem dL_hangs_489 : decode cL_hangs 489 = .ok (.istore 4, 2) := by decide +kernel
theorem dL_hangs_491 : decode cL_hangs 491 = .ok (.iload 4, 2) := by decide +kernel
theorem dL_hangs_493 : decode cL_hangs 493 = .ok (.iconst 3, 1) := by decide +kernel
theorem dL_hangs_494 : decode cL_hangs 494 = .ok (.if_icmp .ge 92, 3) := by decide +kernel
theorem dL_hangs_497 : decode cL_hangs 497 = .ok (.iload_n 2, 1) := by decide +kernel
theorem dL_hangs_498 : decode cL_hangs 498 = .ok (.ifCond .eq 88, 3) := by decide +kernel
theorem dL_hangs_501 : decode cL_hangs 501 = .ok (.aload_n 0, 1) := by decide +kernel
theorem dL_hangs_502 : decode cL_hangs 502 = .ok (.iload 4, 2) := by decide +kernel
theorem dL_hangs_504 : decode cL_hangs 504 = .ok (.invokevirtual 49, 3) := by decide +kernel
theorem dL_hangs_507 : decode cL_hangs 507 = .ok (.istore 5, 2) := by decide +kernel
theorem dL_hangs_509 : decode cL_hangs 509 = .ok (.iload 5, 2) := by decide +kernel
theorem dL_hangs_511 : decode cL_hangs 511 = .ok (.iconst 1, 1) := by decide +kernel
theorem dL_hangs_512 : decode cL_hangs 512 = .ok (.if_icmp .ne 7, 3) := by decide +kernel
theorem dL_hangs_515 : decode cL_hangs 515 = .ok (.iconst 1, 1) := by decide +kernel
theorem dL_hangs_516 : decode cL_hangs 516 = .ok (.goto 4, 3) := by decide +kernel
theorem dL_hangs_519 : decode cL_hangs 519 = .ok (.iconst 0, 1) := by decide +kernel
theorem dL_hangs_520 : decode cL_hangs 520 = .ok (.iload_n 1, 1) := by decide +kernel
theorem dL_hangs_521 : decode cL_hangs 521 = .ok (.iconst 4, 1) := by decide +kernel
theorem dL_hangs_522 : decode cL_hangs 522 = .ok (.if_icmp .ne 7, 3) := by decide +kernel
theorem dL_hangs_525 : decode cL_hangs 525 = .ok (.iconst 1, 1) := by decide +kernel
theorem dL_hangs_526 : decode cL_hangs 526 = .ok (.goto 4, 3) := by decide +kernel
theorem dL_hangs_529 : decode cL_hangs 529 = .ok (.iconst 0, 1) := by decide +kernel
theorem dL_hangs_530 : decode cL_hangs 530 = .ok (.if_icmp .ne 48, 3) := by decide +kernel
theorem dL_hangs_533 : decode cL_hangs 533 = .ok (.iload_n 1, 1) := by decide +kernel
theorem dL_hangs_534 : decode cL_hangs 534 = .ok (.iconst 4, 1) := by decide +kernel
theorem dL_hangs_535 : decode cL_hangs 535 = .ok (.if_icmp .eq 33, 3) := by decide +kernel
theorem dL_hangs_538 : decode cL_hangs 538 = .ok (.iload 5, 2) := by decide +kernel
theorem dL_hangs_540 : decode cL_hangs 540 = .ok (.iconst 2, 1) := by decide +kernel
theorem dL_hangs_541 : decode cL_hangs 541 = .ok (.if_icmp .ne 7, 3) := by decide +kernel
theorem dL_hangs_544 : decode cL_hangs 544 = .ok (.iconst 1, 1) := by decide +kernel
theorem dL_hangs_545 : decode cL_hangs 545 = .ok (.goto 4, 3) := by decide +kernel
theorem dL_hangs_548 : decode cL_hangs 548 = .ok (.iconst 0, 1) := by decide +kernel
theorem dL_hangs_549 : decode cL_hangs 549 = .ok (.aload_n 0, 1) := by decide +kernel
theorem dL_hangs_550 : decode cL_hangs 550 = .ok (.bipush 12, 2) := by decide +kernel
theorem dL_hangs_552 : decode cL_hangs 552 = .ok (.invokevirtual 37, 3) := by decide +kernel
theorem dL_hangs_555 : decode cL_hangs 555 = .ok (.bipush 10, 2) := by decide +kernel
theorem dL_hangs_557 : decode cL_hangs 557 = .ok (.if_icmp .ge 7, 3) := by decide +kernel
theorem dL_hangs_560 : decode cL_hangs 560 = .ok (.iconst 1, 1) := by decide +kernel
theorem dL_hangs_561 : decode cL_hangs 561 = .ok (.goto 4, 3) := by decide +kernel
theorem dL_hangs_564 : decode cL_hangs 564 = .ok (.iconst 0, 1) := by decide +kernel
theorem dL_hangs_565 : decode cL_hangs 565 = .ok (.if_icmp .ne 13, 3) := by decide +kernel
theorem dL_hangs_568 : decode cL_hangs 568 = .ok (.iload 5, 2) := by decide +kernel
theorem dL_hangs_570 : decode cL_hangs 570 = .ok (.iconst 3, 1) := by decide +kernel
theorem dL_hangs_571 : decode cL_hangs 571 = .ok (.if_icmp .gt 7, 3) := by decide +kernel
theorem dL_hangs_574 : decode cL_hangs 574 = .ok (.iconst 1, 1) := by decide +kernel
theorem dL_hangs_575 : decode cL_hangs 575 = .ok (.goto 4, 3) := by decide +kernel
theorem dL_hangs_579 : decode cL_hangs 579 = .ok (.istore_n 2, 1) := by decide +kernel
theorem dL_hangs_580 : decode cL_hangs 580 = .ok (.iinc 4 1, 3) := by decide +kernel
theorem dL_hangs_583 : decode cL_hangs 583 = .ok (.goto (-92), 3) := by decide +kernel
theorem dL_hangs_586 : decode cL_hangs 586 = .ok (.iload_n 2, 1) := by decide +kernel
theorem dL_hangs_587 : decode cL_hangs 587 = .ok (.ifCond .eq 10, 3) := by decide +kernel
theorem dL_hangs_590 : decode cL_hangs 590 = .ok (.aload_n 0, 1) := by decide +kernel
theorem dL_hangs_591 : decode cL_hangs 591 = .ok (.invokevirtual 52, 3) := by decide +kernel
theorem dL_hangs_594 : decode cL_hangs 594 = .ok (.goto 4, 3) := by decide +kernel
theorem dL_hangs_598 : decode cL_hangs 598 = .ok (.istore 4, 2) := by decide +kernel
theorem dL_hangs_600 : decode cL_hangs 600 = .ok (.iload_n 2, 1) := by decide +kernel
theorem dL_hangs_601 : decode cL_hangs 601 = .ok (.ifCond .eq 33, 3) := by decide +kernel
theorem dL_hangs_604 : decode cL_hangs 604 = .ok (.iload 4, 2) := by decide +kernel
theorem dL_hangs_606 : decode cL_hangs 606 = .ok (.ifCond .ne 7, 3) := by decide +kernel
theorem dL_hangs_609 : decode cL_hangs 609 = .ok (.iconst 1, 1) := by decide +kernel
theorem dL_hangs_610 : decode cL_hangs 610 = .ok (.goto 4, 3) := by decide +kernel
theorem dL_hangs_613 : decode cL_hangs 613 = .ok (.iconst 0, 1) := by decide +kernel
theorem dL_hangs_614 : decode cL_hangs 614 = .ok (.iload_n 1, 1) := by decide +kernel
theorem dL_hangs_615 : decode cL_hangs 615 = .ok (.ifCond .ne 11, 3) := by decide +kernel
theorem dL_hangs_618 : decode cL_hangs 618 = .ok (.iload_n 3, 1) := by decide +kernel
theorem dL_hangs_619 : decode cL_hangs 619 = .ok (.ifCond .ne 7, 3) := by decide +kernel
theorem dL_hangs_622 : decode cL_hangs 622 = .ok (.iconst 1, 1) := by decide +kernel
theorem dL_hangs_623 : decode cL_hangs 623 = .ok (.goto 4, 3) := by decide +kernel
theorem dL_hangs_626 : decode cL_hangs 626 = .ok (.iconst 0, 1) := by decide +kernel
theorem dL_hangs_627 : decode cL_hangs 627 = .ok (.if_icmp .ne 7, 3) := by decide +kernel
theorem dL_hangs_630 : decode cL_hangs 630 = .ok (.iconst 1, 1) := by decide +kernel
theorem dL_hangs_631 : decode cL_hangs 631 = .ok (.goto 4, 3) := by decide +kernel
theorem dL_hangs_635 : decode cL_hangs 635 = .ok (.ireturn, 1) := by decide +kernel
