/-! the law's decode rows -/
theorem dL_law_0 : decode cL_law 0 = .ok (.new 34, 3) := by decide +kernel
theorem dL_law_3 : decode cL_law 3 = .ok (.dup, 1) := by decide +kernel
theorem dL_law_4 : decode cL_law 4 = .ok (.invokespecial 78, 3) := by decide +kernel
theorem dL_law_7 : decode cL_law 7 = .ok (.astore_n 1, 1) := by decide +kernel
theorem dL_law_8 : decode cL_law 8 = .ok (.bipush 8, 2) := by decide +kernel
theorem dL_law_10 : decode cL_law 10 = .ok (.newarray .int, 2) := by decide +kernel
theorem dL_law_12 : decode cL_law 12 = .ok (.astore_n 2, 1) := by decide +kernel
theorem dL_law_13 : decode cL_law 13 = .ok (.bipush 48, 2) := by decide +kernel
theorem dL_law_15 : decode cL_law 15 = .ok (.newarray .int, 2) := by decide +kernel
theorem dL_law_17 : decode cL_law 17 = .ok (.astore_n 3, 1) := by decide +kernel
theorem dL_law_18 : decode cL_law 18 = .ok (.bipush 64, 2) := by decide +kernel
theorem dL_law_20 : decode cL_law 20 = .ok (.newarray .int, 2) := by decide +kernel
theorem dL_law_22 : decode cL_law 22 = .ok (.astore 4, 2) := by decide +kernel
theorem dL_law_24 : decode cL_law 24 = .ok (.bipush 20, 2) := by decide +kernel
theorem dL_law_26 : decode cL_law 26 = .ok (.newarray .int, 2) := by decide +kernel
theorem dL_law_28 : decode cL_law 28 = .ok (.astore 5, 2) := by decide +kernel
theorem dL_law_30 : decode cL_law 30 = .ok (.bipush 12, 2) := by decide +kernel
theorem dL_law_32 : decode cL_law 32 = .ok (.newarray .int, 2) := by decide +kernel
theorem dL_law_34 : decode cL_law 34 = .ok (.astore 6, 2) := by decide +kernel
theorem dL_law_36 : decode cL_law 36 = .ok (.bipush 12, 2) := by decide +kernel
theorem dL_law_38 : decode cL_law 38 = .ok (.newarray .int, 2) := by decide +kernel
theorem dL_law_40 : decode cL_law 40 = .ok (.astore 7, 2) := by decide +kernel
theorem dL_law_42 : decode cL_law 42 = .ok (.bipush 8, 2) := by decide +kernel
theorem dL_law_44 : decode cL_law 44 = .ok (.newarray .int, 2) := by decide +kernel
theorem dL_law_46 : decode cL_law 46 = .ok (.astore 8, 2) := by decide +kernel
theorem dL_law_48 : decode cL_law 48 = .ok (.bipush 48, 2) := by decide +kernel
theorem dL_law_50 : decode cL_law 50 = .ok (.newarray .int, 2) := by decide +kernel
theorem dL_law_52 : decode cL_law 52 = .ok (.astore 9, 2) := by decide +kernel
theorem dL_law_54 : decode cL_law 54 = .ok (.bipush 64, 2) := by decide +kernel
theorem dL_law_56 : decode cL_law 56 = .ok (.newarray .int, 2) := by decide +kernel
theorem dL_law_58 : decode cL_law 58 = .ok (.astore 10, 2) := by decide +kernel
theorem dL_law_60 : decode cL_law 60 = .ok (.bipush 20, 2) := by decide +kernel
theorem dL_law_62 : decode cL_law 62 = .ok (.newarray .int, 2) := by decide +kernel
theorem dL_law_64 : decode cL_law 64 = .ok (.astore 11, 2) := by decide +kernel
theorem dL_law_66 : decode cL_law 66 = .ok (.bipush 12, 2) := by decide +kernel
theorem dL_law_68 : decode cL_law 68 = .ok (.newarray .int, 2) := by decide +kernel
theorem dL_law_70 : decode cL_law 70 = .ok (.astore 12, 2) := by decide +kernel
theorem dL_law_72 : decode cL_law 72 = .ok (.bipush 12, 2) := by decide +kernel
theorem dL_law_74 : decode cL_law 74 = .ok (.newarray .int, 2) := by decide +kernel
theorem dL_law_76 : decode cL_law 76 = .ok (.astore 13, 2) := by decide +kernel
theorem dL_law_78 : decode cL_law 78 = .ok (.iconst 0, 1) := by decide +kernel
theorem dL_law_79 : decode cL_law 79 = .ok (.istore 14, 2) := by decide +kernel
theorem dL_law_81 : decode cL_law 81 = .ok (.iload 14, 2) := by decide +kernel
theorem dL_law_83 : decode cL_law 83 = .ok (.bipush 30, 2) := by decide +kernel
theorem dL_law_85 : decode cL_law 85 = .ok (.if_icmp .ge 812, 3) := by decide +kernel
theorem dL_law_88 : decode cL_law 88 = .ok (.aload_n 0, 1) := by decide +kernel
theorem dL_law_89 : decode cL_law 89 = .ok (.iload 14, 2) := by decide +kernel
theorem dL_law_91 : decode cL_law 91 = .ok (.invokestatic 79, 3) := by decide +kernel
theorem dL_law_94 : decode cL_law 94 = .ok (.istore 15, 2) := by decide +kernel
theorem dL_law_96 : decode cL_law 96 = .ok (.iload 14, 2) := by decide +kernel
theorem dL_law_98 : decode cL_law 98 = .ok (.iconst 5, 1) := by decide +kernel
theorem dL_law_99 : decode cL_law 99 = .ok (.if_icmp .ge 10, 3) := by decide +kernel
theorem dL_law_102 : decode cL_law 102 = .ok (.iload 14, 2) := by decide +kernel
theorem dL_law_104 : decode cL_law 104 = .ok (.iconst 2, 1) := by decide +kernel
theorem dL_law_105 : decode cL_law 105 = .ok (.irem, 1) := by decide +kernel
theorem dL_law_106 : decode cL_law 106 = .ok (.goto 10, 3) := by decide +kernel
theorem dL_law_109 : decode cL_law 109 = .ok (.iload 15, 2) := by decide +kernel
theorem dL_law_111 : decode cL_law 111 = .ok (.bipush 12, 2) := by decide +kernel
theorem dL_law_113 : decode cL_law 113 = .ok (.invokestatic 53, 3) := by decide +kernel
theorem dL_law_116 : decode cL_law 116 = .ok (.istore 16, 2) := by decide +kernel
theorem dL_law_118 : decode cL_law 118 = .ok (.iload 16, 2) := by decide +kernel
theorem dL_law_120 : decode cL_law 120 = .ok (.iconst 2, 1) := by decide +kernel
theorem dL_law_121 : decode cL_law 121 = .ok (.if_icmp .ge 220, 3) := by decide +kernel
theorem dL_law_124 : decode cL_law 124 = .ok (.iload 15, 2) := by decide +kernel
theorem dL_law_126 : decode cL_law 126 = .ok (.iconst 4, 1) := by decide +kernel
theorem dL_law_127 : decode cL_law 127 = .ok (.ishr, 1) := by decide +kernel
theorem dL_law_128 : decode cL_law 128 = .ok (.bipush 30, 2) := by decide +kernel
theorem dL_law_130 : decode cL_law 130 = .ok (.invokestatic 53, 3) := by decide +kernel
theorem dL_law_133 : decode cL_law 133 = .ok (.istore 17, 2) := by decide +kernel
theorem dL_law_135 : decode cL_law 135 = .ok (.iload 17, 2) := by decide +kernel
theorem dL_law_137 : decode cL_law 137 = .ok (.iload 15, 2) := by decide +kernel
theorem dL_law_139 : decode cL_law 139 = .ok (.bipush 9, 2) := by decide +kernel
theorem dL_law_141 : decode cL_law 141 = .ok (.ishr, 1) := by decide +kernel
theorem dL_law_142 : decode cL_law 142 = .ok (.bipush 31, 2) := by decide +kernel
theorem dL_law_144 : decode cL_law 144 = .ok (.invokestatic 53, 3) := by decide +kernel
theorem dL_law_147 : decode cL_law 147 = .ok (.iadd, 1) := by decide +kernel
theorem dL_law_148 : decode cL_law 148 = .ok (.istore 18, 2) := by decide +kernel
theorem dL_law_150 : decode cL_law 150 = .ok (.iload 16, 2) := by decide +kernel
theorem dL_law_152 : decode cL_law 152 = .ok (.ifCond .ne 79, 3) := by decide +kernel
theorem dL_law_155 : decode cL_law 155 = .ok (.aload_n 1, 1) := by decide +kernel
theorem dL_law_156 : decode cL_law 156 = .ok (.iload 17, 2) := by decide +kernel
theorem dL_law_158 : decode cL_law 158 = .ok (.iload 18, 2) := by decide +kernel
theorem dL_law_160 : decode cL_law 160 = .ok (.invokevirtual 83, 3) := by decide +kernel
theorem dL_law_163 : decode cL_law 163 = .ok (.aload_n 2, 1) := by decide +kernel
theorem dL_law_164 : decode cL_law 164 = .ok (.iconst 0, 1) := by decide +kernel
theorem dL_law_165 : decode cL_law 165 = .ok (.iaload, 1) := by decide +kernel
theorem dL_law_166 : decode cL_law 166 = .ok (.bipush 12, 2) := by decide +kernel
theorem dL_law_168 : decode cL_law 168 = .ok (.if_icmp .ne 8, 3) := by decide +kernel
theorem dL_law_171 : decode cL_law 171 = .ok (.bipush (-4), 2) := by decide +kernel
theorem dL_law_173 : decode cL_law 173 = .ok (.goto 6, 3) := by decide +kernel
theorem dL_law_176 : decode cL_law 176 = .ok (.aload_n 2, 1) := by decide +kernel
theorem dL_law_177 : decode cL_law 177 = .ok (.iconst 0, 1) := by decide +kernel
theorem dL_law_178 : decode cL_law 178 = .ok (.iaload, 1) := by decide +kernel
theorem dL_law_179 : decode cL_law 179 = .ok (.if_icmp .eq 5, 3) := by decide +kernel
theorem dL_law_182 : decode cL_law 182 = .ok (.iconst 0, 1) := by decide +kernel
theorem dL_law_183 : decode cL_law 183 = .ok (.ireturn, 1) := by decide +kernel
theorem dL_law_184 : decode cL_law 184 = .ok (.aload_n 2, 1) := by decide +kernel
theorem dL_law_185 : decode cL_law 185 = .ok (.iconst 0, 1) := by decide +kernel
theorem dL_law_186 : decode cL_law 186 = .ok (.iaload, 1) := by decide +kernel
theorem dL_law_187 : decode cL_law 187 = .ok (.bipush 12, 2) := by decide +kernel
theorem dL_law_189 : decode cL_law 189 = .ok (.if_icmp .ge 149, 3) := by decide +kernel
theorem dL_law_192 : decode cL_law 192 = .ok (.aload_n 3, 1) := by decide +kernel
theorem dL_law_193 : decode cL_law 193 = .ok (.iconst 4, 1) := by decide +kernel
theorem dL_law_194 : decode cL_law 194 = .ok (.aload_n 2, 1) := by decide +kernel
theorem dL_law_195 : decode cL_law 195 = .ok (.iconst 0, 1) := by decide +kernel
theorem dL_law_196 : decode cL_law 196 = .ok (.iaload, 1) := by decide +kernel
theorem dL_law_197 : decode cL_law 197 = .ok (.imul, 1) := by decide +kernel
theorem dL_law_198 : decode cL_law 198 = .ok (.iload 17, 2) := by decide +kernel
theorem dL_law_200 : decode cL_law 200 = .ok (.iastore, 1) := by decide +kernel
theorem dL_law_201 : decode cL_law 201 = .ok (.aload_n 3, 1) := by decide +kernel
theorem dL_law_202 : decode cL_law 202 = .ok (.iconst 4, 1) := by decide +kernel
theorem dL_law_203 : decode cL_law 203 = .ok (.aload_n 2, 1) := by decide +kernel
theorem dL_law_204 : decode cL_law 204 = .ok (.iconst 0, 1) := by decide +kernel
theorem dL_law_205 : decode cL_law 205 = .ok (.iaload, 1) := by decide +kernel
theorem dL_law_206 : decode cL_law 206 = .ok (.imul, 1) := by decide +kernel
theorem dL_law_207 : decode cL_law 207 = .ok (.iconst 1, 1) := by decide +kernel
theorem dL_law_208 : decode cL_law 208 = .ok (.iadd, 1) := by decide +kernel
theorem dL_law_209 : decode cL_law 209 = .ok (.iload 18, 2) := by decide +kernel
theorem dL_law_211 : decode cL_law 211 = .ok (.iastore, 1) := by decide +kernel
theorem dL_law_212 : decode cL_law 212 = .ok (.aload_n 2, 1) := by decide +kernel
theorem dL_law_213 : decode cL_law 213 = .ok (.iconst 3, 1) := by decide +kernel
theorem dL_law_214 : decode cL_law 214 = .ok (.dup2, 1) := by decide +kernel
theorem dL_law_215 : decode cL_law 215 = .ok (.iaload, 1) := by decide +kernel
theorem dL_law_216 : decode cL_law 216 = .ok (.iconst 1, 1) := by decide +kernel
theorem dL_law_217 : decode cL_law 217 = .ok (.aload_n 2, 1) := by decide +kernel
theorem dL_law_218 : decode cL_law 218 = .ok (.iconst 0, 1) := by decide +kernel
theorem dL_law_219 : decode cL_law 219 = .ok (.dup2, 1) := by decide +kernel
theorem dL_law_220 : decode cL_law 220 = .ok (.iaload, 1) := by decide +kernel
theorem dL_law_221 : decode cL_law 221 = .ok (.dup_x2, 1) := by decide +kernel
theorem dL_law_222 : decode cL_law 222 = .ok (.iconst 1, 1) := by decide +kernel
theorem dL_law_223 : decode cL_law 223 = .ok (.iadd, 1) := by decide +kernel
theorem dL_law_224 : decode cL_law 224 = .ok (.iastore, 1) := by decide +kernel
theorem dL_law_225 : decode cL_law 225 = .ok (.ishl, 1) := by decide +kernel
theorem dL_law_226 : decode cL_law 226 = .ok (.ior, 1) := by decide +kernel
theorem dL_law_227 : decode cL_law 227 = .ok (.iastore, 1) := by decide +kernel
theorem dL_law_228 : decode cL_law 228 = .ok (.goto 110, 3) := by decide +kernel
theorem dL_law_231 : decode cL_law 231 = .ok (.iload 17, 2) := by decide +kernel
theorem dL_law_233 : decode cL_law 233 = .ok (.iload 15, 2) := by decide +kernel
theorem dL_law_235 : decode cL_law 235 = .ok (.bipush 9, 2) := by decide +kernel
theorem dL_law_237 : decode cL_law 237 = .ok (.ishr, 1) := by decide +kernel
theorem dL_law_238 : decode cL_law 238 = .ok (.bipush 20, 2) := by decide +kernel
theorem dL_law_240 : decode cL_law 240 = .ok (.invokestatic 53, 3) := by decide +kernel
theorem dL_law_243 : decode cL_law 243 = .ok (.iadd, 1) := by decide +kernel
theorem dL_law_244 : decode cL_law 244 = .ok (.istore 18, 2) := by decide +kernel
theorem dL_law_246 : decode cL_law 246 = .ok (.iconst 1, 1) := by decide +kernel
theorem dL_law_247 : decode cL_law 247 = .ok (.iload 15, 2) := by decide +kernel
theorem dL_law_249 : decode cL_law 249 = .ok (.bipush 13, 2) := by decide +kernel
theorem dL_law_251 : decode cL_law 251 = .ok (.ishr, 1) := by decide +kernel
theorem dL_law_252 : decode cL_law 252 = .ok (.bipush 9, 2) := by decide +kernel
theorem dL_law_254 : decode cL_law 254 = .ok (.invokestatic 53, 3) := by decide +kernel
theorem dL_law_257 : decode cL_law 257 = .ok (.iadd, 1) := by decide +kernel
theorem dL_law_258 : decode cL_law 258 = .ok (.istore 19, 2) := by decide +kernel
theorem dL_law_260 : decode cL_law 260 = .ok (.aload_n 1, 1) := by decide +kernel
theorem dL_law_261 : decode cL_law 261 = .ok (.iload 17, 2) := by decide +kernel
theorem dL_law_263 : decode cL_law 263 = .ok (.iload 18, 2) := by decide +kernel
theorem dL_law_265 : decode cL_law 265 = .ok (.iload 19, 2) := by decide +kernel
theorem dL_law_267 : decode cL_law 267 = .ok (.invokevirtual 86, 3) := by decide +kernel
theorem dL_law_270 : decode cL_law 270 = .ok (.aload_n 2, 1) := by decide +kernel
theorem dL_law_271 : decode cL_law 271 = .ok (.iconst 1, 1) := by decide +kernel
theorem dL_law_272 : decode cL_law 272 = .ok (.iaload, 1) := by decide +kernel
theorem dL_law_273 : decode cL_law 273 = .ok (.bipush 16, 2) := by decide +kernel
theorem dL_law_275 : decode cL_law 275 = .ok (.if_icmp .ne 8, 3) := by decide +kernel
theorem dL_law_278 : decode cL_law 278 = .ok (.bipush (-4), 2) := by decide +kernel
theorem dL_law_280 : decode cL_law 280 = .ok (.goto 6, 3) := by decide +kernel
theorem dL_law_283 : decode cL_law 283 = .ok (.aload_n 2, 1) := by decide +kernel
theorem dL_law_284 : decode cL_law 284 = .ok (.iconst 1, 1) := by decide +kernel
theorem dL_law_285 : decode cL_law 285 = .ok (.iaload, 1) := by decide +kernel
theorem dL_law_286 : decode cL_law 286 = .ok (.if_icmp .eq 5, 3) := by decide +kernel
theorem dL_law_289 : decode cL_law 289 = .ok (.iconst 0, 1) := by decide +kernel
theorem dL_law_290 : decode cL_law 290 = .ok (.ireturn, 1) := by decide +kernel
theorem dL_law_291 : decode cL_law 291 = .ok (.aload_n 2, 1) := by decide +kernel
theorem dL_law_292 : decode cL_law 292 = .ok (.iconst 1, 1) := by decide +kernel
theorem dL_law_293 : decode cL_law 293 = .ok (.iaload, 1) := by decide +kernel
theorem dL_law_294 : decode cL_law 294 = .ok (.bipush 16, 2) := by decide +kernel
theorem dL_law_296 : decode cL_law 296 = .ok (.if_icmp .ge 42, 3) := by decide +kernel
theorem dL_law_299 : decode cL_law 299 = .ok (.aload 4, 2) := by decide +kernel
theorem dL_law_301 : decode cL_law 301 = .ok (.iconst 4, 1) := by decide +kernel
theorem dL_law_302 : decode cL_law 302 = .ok (.aload_n 2, 1) := by decide +kernel
theorem dL_law_303 : decode cL_law 303 = .ok (.iconst 1, 1) := by decide +kernel
theorem dL_law_304 : decode cL_law 304 = .ok (.iaload, 1) := by decide +kernel
theorem dL_law_305 : decode cL_law 305 = .ok (.imul, 1) := by decide +kernel
theorem dL_law_306 : decode cL_law 306 = .ok (.iload 17, 2) := by decide +kernel
theorem dL_law_308 : decode cL_law 308 = .ok (.iastore, 1) := by decide +kernel
theorem dL_law_309 : decode cL_law 309 = .ok (.aload 4, 2) := by decide +kernel
theorem dL_law_311 : decode cL_law 311 = .ok (.iconst 4, 1) := by decide +kernel
theorem dL_law_312 : decode cL_law 312 = .ok (.aload_n 2, 1) := by decide +kernel
theorem dL_law_313 : decode cL_law 313 = .ok (.iconst 1, 1) := by decide +kernel
theorem dL_law_314 : decode cL_law 314 = .ok (.iaload, 1) := by decide +kernel
theorem dL_law_315 : decode cL_law 315 = .ok (.imul, 1) := by decide +kernel
theorem dL_law_316 : decode cL_law 316 = .ok (.iconst 1, 1) := by decide +kernel
theorem dL_law_317 : decode cL_law 317 = .ok (.iadd, 1) := by decide +kernel
theorem dL_law_318 : decode cL_law 318 = .ok (.iload 18, 2) := by decide +kernel
theorem dL_law_320 : decode cL_law 320 = .ok (.iastore, 1) := by decide +kernel
theorem dL_law_321 : decode cL_law 321 = .ok (.aload 4, 2) := by decide +kernel
theorem dL_law_323 : decode cL_law 323 = .ok (.iconst 4, 1) := by decide +kernel
theorem dL_law_324 : decode cL_law 324 = .ok (.aload_n 2, 1) := by decide +kernel
theorem dL_law_325 : decode cL_law 325 = .ok (.iconst 1, 1) := by decide +kernel
theorem dL_law_326 : decode cL_law 326 = .ok (.dup2, 1) := by decide +kernel
theorem dL_law_327 : decode cL_law 327 = .ok (.iaload, 1) := by decide +kernel
theorem dL_law_328 : decode cL_law 328 = .ok (.dup_x2, 1) := by decide +kernel
theorem dL_law_329 : decode cL_law 329 = .ok (.iconst 1, 1) := by decide +kernel
theorem dL_law_330 : decode cL_law 330 = .ok (.iadd, 1) := by decide +kernel
theorem dL_law_331 : decode cL_law 331 = .ok (.iastore, 1) := by decide +kernel
theorem dL_law_332 : decode cL_law 332 = .ok (.imul, 1) := by decide +kernel
theorem dL_law_333 : decode cL_law 333 = .ok (.iconst 2, 1) := by decide +kernel
theorem dL_law_334 : decode cL_law 334 = .ok (.iadd, 1) := by decide +kernel
theorem dL_law_335 : decode cL_law 335 = .ok (.iload 19, 2) := by decide +kernel
theorem dL_law_337 : decode cL_law 337 = .ok (.iastore, 1) := by decide +kernel
theorem dL_law_338 : decode cL_law 338 = .ok (.goto 518, 3) := by decide +kernel
theorem dL_law_341 : decode cL_law 341 = .ok (.iload 16, 2) := by decide +kernel
theorem dL_law_343 : decode cL_law 343 = .ok (.bipush 8, 2) := by decide +kernel
theorem dL_law_345 : decode cL_law 345 = .ok (.if_icmp .ge 244, 3) := by decide +kernel
theorem dL_law_348 : decode cL_law 348 = .ok (.iconst 0, 1) := by decide +kernel
theorem dL_law_349 : decode cL_law 349 = .ok (.istore 17, 2) := by decide +kernel
theorem dL_law_351 : decode cL_law 351 = .ok (.iload 17, 2) := by decide +kernel
theorem dL_law_353 : decode cL_law 353 = .ok (.iconst 3, 1) := by decide +kernel
theorem dL_law_354 : decode cL_law 354 = .ok (.if_icmp .ge 232, 3) := by decide +kernel
theorem dL_law_357 : decode cL_law 357 = .ok (.iload 15, 2) := by decide +kernel
theorem dL_law_359 : decode cL_law 359 = .ok (.iconst 4, 1) := by decide +kernel
theorem dL_law_360 : decode cL_law 360 = .ok (.iload 17, 2) := by decide +kernel
theorem dL_law_362 : decode cL_law 362 = .ok (.iadd, 1) := by decide +kernel
theorem dL_law_363 : decode cL_law 363 = .ok (.ishr, 1) := by decide +kernel
theorem dL_law_364 : decode cL_law 364 = .ok (.aload_n 2, 1) := by decide +kernel
theorem dL_law_365 : decode cL_law 365 = .ok (.iconst 0, 1) := by decide +kernel
theorem dL_law_366 : decode cL_law 366 = .ok (.iaload, 1) := by decide +kernel
theorem dL_law_367 : decode cL_law 367 = .ok (.invokestatic 53, 3) := by decide +kernel
theorem dL_law_370 : decode cL_law 370 = .ok (.istore 18, 2) := by decide +kernel
theorem dL_law_372 : decode cL_law 372 = .ok (.iload 15, 2) := by decide +kernel
theorem dL_law_374 : decode cL_law 374 = .ok (.bipush 8, 2) := by decide +kernel
theorem dL_law_376 : decode cL_law 376 = .ok (.iload 17, 2) := by decide +kernel
theorem dL_law_378 : decode cL_law 378 = .ok (.iadd, 1) := by decide +kernel
theorem dL_law_379 : decode cL_law 379 = .ok (.ishr, 1) := by decide +kernel
theorem dL_law_380 : decode cL_law 380 = .ok (.iconst 2, 1) := by decide +kernel
theorem dL_law_381 : decode cL_law 381 = .ok (.invokestatic 53, 3) := by decide +kernel
theorem dL_law_384 : decode cL_law 384 = .ok (.ifCond .ne 20, 3) := by decide +kernel
theorem dL_law_387 : decode cL_law 387 = .ok (.iload 15, 2) := by decide +kernel
theorem dL_law_389 : decode cL_law 389 = .ok (.bipush 9, 2) := by decide +kernel
theorem dL_law_391 : decode cL_law 391 = .ok (.iload 17, 2) := by decide +kernel
theorem dL_law_393 : decode cL_law 393 = .ok (.iadd, 1) := by decide +kernel
theorem dL_law_394 : decode cL_law 394 = .ok (.ishr, 1) := by decide +kernel
theorem dL_law_395 : decode cL_law 395 = .ok (.aload_n 2, 1) := by decide +kernel
theorem dL_law_396 : decode cL_law 396 = .ok (.iconst 0, 1) := by decide +kernel
theorem dL_law_397 : decode cL_law 397 = .ok (.iaload, 1) := by decide +kernel
theorem dL_law_398 : decode cL_law 398 = .ok (.invokestatic 53, 3) := by decide +kernel
theorem dL_law_401 : decode cL_law 401 = .ok (.goto 4, 3) := by decide +kernel
theorem dL_law_404 : decode cL_law 404 = .ok (.iconst (-1), 1) := by decide +kernel
theorem dL_law_405 : decode cL_law 405 = .ok (.istore 19, 2) := by decide +kernel
theorem dL_law_407 : decode cL_law 407 = .ok (.iload 15, 2) := by decide +kernel
theorem dL_law_409 : decode cL_law 409 = .ok (.bipush 12, 2) := by decide +kernel
theorem dL_law_411 : decode cL_law 411 = .ok (.iload 17, 2) := by decide +kernel
theorem dL_law_413 : decode cL_law 413 = .ok (.iadd, 1) := by decide +kernel
theorem dL_law_414 : decode cL_law 414 = .ok (.ishr, 1) := by decide +kernel
theorem dL_law_415 : decode cL_law 415 = .ok (.aload_n 2, 1) := by decide +kernel
theorem dL_law_416 : decode cL_law 416 = .ok (.iconst 1, 1) := by decide +kernel
theorem dL_law_417 : decode cL_law 417 = .ok (.iaload, 1) := by decide +kernel
theorem dL_law_418 : decode cL_law 418 = .ok (.invokestatic 53, 3) := by decide +kernel
theorem dL_law_421 : decode cL_law 421 = .ok (.istore 20, 2) := by decide +kernel
theorem dL_law_423 : decode cL_law 423 = .ok (.iload 18, 2) := by decide +kernel
theorem dL_law_425 : decode cL_law 425 = .ok (.iload 19, 2) := by decide +kernel
theorem dL_law_427 : decode cL_law 427 = .ok (.if_icmp .ne 8, 3) := by decide +kernel
theorem dL_law_430 : decode cL_law 430 = .ok (.bipush (-2), 2) := by decide +kernel
theorem dL_law_432 : decode cL_law 432 = .ok (.goto 39, 3) := by decide +kernel
theorem dL_law_435 : decode cL_law 435 = .ok (.aload_n 2, 1) := by decide +kernel
theorem dL_law_436 : decode cL_law 436 = .ok (.iconst 2, 1) := by decide +kernel
theorem dL_law_437 : decode cL_law 437 = .ok (.iaload, 1) := by decide +kernel
theorem dL_law_438 : decode cL_law 438 = .ok (.bipush 20, 2) := by decide +kernel
theorem dL_law_440 : decode cL_law 440 = .ok (.if_icmp .ne 8, 3) := by decide +kernel
theorem dL_law_443 : decode cL_law 443 = .ok (.bipush (-4), 2) := by decide +kernel
theorem dL_law_445 : decode cL_law 445 = .ok (.goto 26, 3) := by decide +kernel
theorem dL_law_448 : decode cL_law 448 = .ok (.iload 18, 2) := by decide +kernel
theorem dL_law_450 : decode cL_law 450 = .ok (.iload 19, 2) := by decide +kernel
theorem dL_law_452 : decode cL_law 452 = .ok (.iload 20, 2) := by decide +kernel
theorem dL_law_454 : decode cL_law 454 = .ok (.aload_n 3, 1) := by decide +kernel
theorem dL_law_455 : decode cL_law 455 = .ok (.aload 4, 2) := by decide +kernel
theorem dL_law_457 : decode cL_law 457 = .ok (.invokestatic 39, 3) := by decide +kernel
theorem dL_law_460 : decode cL_law 460 = .ok (.ifCond .ge 8, 3) := by decide +kernel
theorem dL_law_463 : decode cL_law 463 = .ok (.bipush (-5), 2) := by decide +kernel
theorem dL_law_465 : decode cL_law 465 = .ok (.goto 6, 3) := by decide +kernel
theorem dL_law_468 : decode cL_law 468 = .ok (.aload_n 2, 1) := by decide +kernel
theorem dL_law_469 : decode cL_law 469 = .ok (.iconst 2, 1) := by decide +kernel
theorem dL_law_470 : decode cL_law 470 = .ok (.iaload, 1) := by decide +kernel
theorem dL_law_471 : decode cL_law 471 = .ok (.istore 21, 2) := by decide +kernel
theorem dL_law_473 : decode cL_law 473 = .ok (.aload_n 1, 1) := by decide +kernel
theorem dL_law_474 : decode cL_law 474 = .ok (.iload 18, 2) := by decide +kernel
theorem dL_law_476 : decode cL_law 476 = .ok (.iload 19, 2) := by decide +kernel
theorem dL_law_478 : decode cL_law 478 = .ok (.ifCond .ge 8, 3) := by decide +kernel
theorem dL_law_481 : decode cL_law 481 = .ok (.bipush (-6), 2) := by decide +kernel
theorem dL_law_483 : decode cL_law 483 = .ok (.goto 5, 3) := by decide +kernel
theorem dL_law_486 : decode cL_law 486 = .ok (.iload 19, 2) := by decide +kernel
theorem dL_law_488 : decode cL_law 488 = .ok (.iload 20, 2) := by decide +kernel
theorem dL_law_490 : decode cL_law 490 = .ok (.invokevirtual 90, 3) := by decide +kernel
theorem dL_law_493 : decode cL_law 493 = .ok (.iload 18, 2) := by decide +kernel
theorem dL_law_495 : decode cL_law 495 = .ok (.iload 19, 2) := by decide +kernel
theorem dL_law_497 : decode cL_law 497 = .ok (.if_icmp .ne 8, 3) := by decide +kernel
theorem dL_law_500 : decode cL_law 500 = .ok (.bipush (-2), 2) := by decide +kernel
theorem dL_law_502 : decode cL_law 502 = .ok (.goto 15, 3) := by decide +kernel
theorem dL_law_505 : decode cL_law 505 = .ok (.iload 18, 2) := by decide +kernel
theorem dL_law_507 : decode cL_law 507 = .ok (.iload 19, 2) := by decide +kernel
theorem dL_law_509 : decode cL_law 509 = .ok (.iload 20, 2) := by decide +kernel
theorem dL_law_511 : decode cL_law 511 = .ok (.aload_n 3, 1) := by decide +kernel
theorem dL_law_512 : decode cL_law 512 = .ok (.aload 4, 2) := by decide +kernel
theorem dL_law_514 : decode cL_law 514 = .ok (.invokestatic 39, 3) := by decide +kernel
theorem dL_law_517 : decode cL_law 517 = .ok (.if_icmp .ne 28, 3) := by decide +kernel
theorem dL_law_520 : decode cL_law 520 = .ok (.aload_n 1, 1) := by decide +kernel
theorem dL_law_521 : decode cL_law 521 = .ok (.iload 18, 2) := by decide +kernel
theorem dL_law_523 : decode cL_law 523 = .ok (.iload 19, 2) := by decide +kernel
theorem dL_law_525 : decode cL_law 525 = .ok (.ifCond .ge 8, 3) := by decide +kernel
theorem dL_law_528 : decode cL_law 528 = .ok (.bipush (-6), 2) := by decide +kernel
theorem dL_law_530 : decode cL_law 530 = .ok (.goto 5, 3) := by decide +kernel
theorem dL_law_533 : decode cL_law 533 = .ok (.iload 19, 2) := by decide +kernel
theorem dL_law_535 : decode cL_law 535 = .ok (.iload 20, 2) := by decide +kernel
theorem dL_law_537 : decode cL_law 537 = .ok (.invokevirtual 92, 3) := by decide +kernel
theorem dL_law_540 : decode cL_law 540 = .ok (.iload 21, 2) := by decide +kernel
theorem dL_law_542 : decode cL_law 542 = .ok (.if_icmp .eq 5, 3) := by decide +kernel
theorem dL_law_545 : decode cL_law 545 = .ok (.iconst 0, 1) := by decide +kernel
theorem dL_law_546 : decode cL_law 546 = .ok (.ireturn, 1) := by decide +kernel
theorem dL_law_547 : decode cL_law 547 = .ok (.iload 21, 2) := by decide +kernel
theorem dL_law_549 : decode cL_law 549 = .ok (.ifCond .lt 31, 3) := by decide +kernel
theorem dL_law_552 : decode cL_law 552 = .ok (.aload 5, 2) := by decide +kernel
theorem dL_law_554 : decode cL_law 554 = .ok (.aload_n 2, 1) := by decide +kernel
theorem dL_law_555 : decode cL_law 555 = .ok (.iconst 2, 1) := by decide +kernel
theorem dL_law_556 : decode cL_law 556 = .ok (.dup2, 1) := by decide +kernel
theorem dL_law_557 : decode cL_law 557 = .ok (.iaload, 1) := by decide +kernel
theorem dL_law_558 : decode cL_law 558 = .ok (.dup_x2, 1) := by decide +kernel
theorem dL_law_559 : decode cL_law 559 = .ok (.iconst 1, 1) := by decide +kernel
theorem dL_law_560 : decode cL_law 560 = .ok (.iadd, 1) := by decide +kernel
theorem dL_law_561 : decode cL_law 561 = .ok (.iastore, 1) := by decide +kernel
theorem dL_law_562 : decode cL_law 562 = .ok (.sipush 10000, 3) := by decide +kernel
theorem dL_law_565 : decode cL_law 565 = .ok (.iload 20, 2) := by decide +kernel
theorem dL_law_567 : decode cL_law 567 = .ok (.imul, 1) := by decide +kernel
theorem dL_law_568 : decode cL_law 568 = .ok (.bipush 100, 2) := by decide +kernel
theorem dL_law_570 : decode cL_law 570 = .ok (.iload 19, 2) := by decide +kernel
theorem dL_law_572 : decode cL_law 572 = .ok (.iconst 1, 1) := by decide +kernel
theorem dL_law_573 : decode cL_law 573 = .ok (.iadd, 1) := by decide +kernel
theorem dL_law_574 : decode cL_law 574 = .ok (.imul, 1) := by decide +kernel
theorem dL_law_575 : decode cL_law 575 = .ok (.iadd, 1) := by decide +kernel
theorem dL_law_576 : decode cL_law 576 = .ok (.iload 18, 2) := by decide +kernel
theorem dL_law_578 : decode cL_law 578 = .ok (.iadd, 1) := by decide +kernel
theorem dL_law_579 : decode cL_law 579 = .ok (.iastore, 1) := by decide +kernel
theorem dL_law_580 : decode cL_law 580 = .ok (.iinc 17 1, 3) := by decide +kernel
theorem dL_law_583 : decode cL_law 583 = .ok (.goto (-232), 3) := by decide +kernel
theorem dL_law_586 : decode cL_law 586 = .ok (.goto 270, 3) := by decide +kernel
theorem dL_law_589 : decode cL_law 589 = .ok (.iload 16, 2) := by decide +kernel
theorem dL_law_591 : decode cL_law 591 = .ok (.bipush 8, 2) := by decide +kernel
theorem dL_law_593 : decode cL_law 593 = .ok (.if_icmp .ne 104, 3) := by decide +kernel
theorem dL_law_596 : decode cL_law 596 = .ok (.iload 15, 2) := by decide +kernel
theorem dL_law_598 : decode cL_law 598 = .ok (.iconst 4, 1) := by decide +kernel
theorem dL_law_599 : decode cL_law 599 = .ok (.ishr, 1) := by decide +kernel
theorem dL_law_600 : decode cL_law 600 = .ok (.aload_n 2, 1) := by decide +kernel
theorem dL_law_601 : decode cL_law 601 = .ok (.iconst 0, 1) := by decide +kernel
theorem dL_law_602 : decode cL_law 602 = .ok (.iaload, 1) := by decide +kernel
theorem dL_law_603 : decode cL_law 603 = .ok (.invokestatic 53, 3) := by decide +kernel
theorem dL_law_606 : decode cL_law 606 = .ok (.istore 17, 2) := by decide +kernel
theorem dL_law_608 : decode cL_law 608 = .ok (.iload 15, 2) := by decide +kernel
theorem dL_law_610 : decode cL_law 610 = .ok (.bipush 8, 2) := by decide +kernel
theorem dL_law_612 : decode cL_law 612 = .ok (.ishr, 1) := by decide +kernel
theorem dL_law_613 : decode cL_law 613 = .ok (.iconst 2, 1) := by decide +kernel
theorem dL_law_614 : decode cL_law 614 = .ok (.invokestatic 53, 3) := by decide +kernel
theorem dL_law_617 : decode cL_law 617 = .ok (.ifCond .ne 7, 3) := by decide +kernel
theorem dL_law_620 : decode cL_law 620 = .ok (.iconst 1, 1) := by decide +kernel
theorem dL_law_621 : decode cL_law 621 = .ok (.goto 4, 3) := by decide +kernel
theorem dL_law_624 : decode cL_law 624 = .ok (.iconst 0, 1) := by decide +kernel
theorem dL_law_625 : decode cL_law 625 = .ok (.istore 18, 2) := by decide +kernel
theorem dL_law_627 : decode cL_law 627 = .ok (.aload_n 2, 1) := by decide +kernel
theorem dL_law_628 : decode cL_law 628 = .ok (.iconst 3, 1) := by decide +kernel
theorem dL_law_629 : decode cL_law 629 = .ok (.iaload, 1) := by decide +kernel
theorem dL_law_630 : decode cL_law 630 = .ok (.iload 17, 2) := by decide +kernel
theorem dL_law_632 : decode cL_law 632 = .ok (.ishr, 1) := by decide +kernel
theorem dL_law_633 : decode cL_law 633 = .ok (.iconst 1, 1) := by decide +kernel
theorem dL_law_634 : decode cL_law 634 = .ok (.iand, 1) := by decide +kernel
theorem dL_law_635 : decode cL_law 635 = .ok (.iconst 1, 1) := by decide +kernel
theorem dL_law_636 : decode cL_law 636 = .ok (.if_icmp .ne 7, 3) := by decide +kernel
theorem dL_law_639 : decode cL_law 639 = .ok (.iconst 1, 1) := by decide +kernel
theorem dL_law_640 : decode cL_law 640 = .ok (.goto 4, 3) := by decide +kernel
theorem dL_law_643 : decode cL_law 643 = .ok (.iconst 0, 1) := by decide +kernel
theorem dL_law_644 : decode cL_law 644 = .ok (.istore 19, 2) := by decide +kernel
theorem dL_law_646 : decode cL_law 646 = .ok (.iload 19, 2) := by decide +kernel
theorem dL_law_648 : decode cL_law 648 = .ok (.iload 18, 2) := by decide +kernel
theorem dL_law_650 : decode cL_law 650 = .ok (.if_icmp .ne 13, 3) := by decide +kernel
theorem dL_law_653 : decode cL_law 653 = .ok (.aload_n 2, 1) := by decide +kernel
theorem dL_law_654 : decode cL_law 654 = .ok (.iconst 3, 1) := by decide +kernel
theorem dL_law_655 : decode cL_law 655 = .ok (.dup2, 1) := by decide +kernel
theorem dL_law_656 : decode cL_law 656 = .ok (.iaload, 1) := by decide +kernel
theorem dL_law_657 : decode cL_law 657 = .ok (.iconst 1, 1) := by decide +kernel
theorem dL_law_658 : decode cL_law 658 = .ok (.iload 17, 2) := by decide +kernel
theorem dL_law_660 : decode cL_law 660 = .ok (.ishl, 1) := by decide +kernel
theorem dL_law_661 : decode cL_law 661 = .ok (.ixor, 1) := by decide +kernel
theorem dL_law_662 : decode cL_law 662 = .ok (.iastore, 1) := by decide +kernel
theorem dL_law_663 : decode cL_law 663 = .ok (.aload_n 1, 1) := by decide +kernel
theorem dL_law_664 : decode cL_law 664 = .ok (.iload 17, 2) := by decide +kernel
theorem dL_law_666 : decode cL_law 666 = .ok (.iload 18, 2) := by decide +kernel
theorem dL_law_668 : decode cL_law 668 = .ok (.invokevirtual 95, 3) := by decide +kernel
theorem dL_law_671 : decode cL_law 671 = .ok (.iload 19, 2) := by decide +kernel
theorem dL_law_673 : decode cL_law 673 = .ok (.iload 18, 2) := by decide +kernel
theorem dL_law_675 : decode cL_law 675 = .ok (.if_icmp .ne 12, 3) := by decide +kernel
theorem dL_law_678 : decode cL_law 678 = .ok (.aload_n 2, 1) := by decide +kernel
theorem dL_law_679 : decode cL_law 679 = .ok (.iconst 3, 1) := by decide +kernel
theorem dL_law_680 : decode cL_law 680 = .ok (.iaload, 1) := by decide +kernel
theorem dL_law_681 : decode cL_law 681 = .ok (.invokestatic 99, 3) := by decide +kernel
theorem dL_law_684 : decode cL_law 684 = .ok (.goto 5, 3) := by decide +kernel
theorem dL_law_687 : decode cL_law 687 = .ok (.bipush (-5), 2) := by decide +kernel
theorem dL_law_689 : decode cL_law 689 = .ok (.if_icmp .eq 5, 3) := by decide +kernel
theorem dL_law_692 : decode cL_law 692 = .ok (.iconst 0, 1) := by decide +kernel
theorem dL_law_693 : decode cL_law 693 = .ok (.ireturn, 1) := by decide +kernel
theorem dL_law_694 : decode cL_law 694 = .ok (.goto 162, 3) := by decide +kernel
theorem dL_law_697 : decode cL_law 697 = .ok (.iload 16, 2) := by decide +kernel
theorem dL_law_699 : decode cL_law 699 = .ok (.bipush 9, 2) := by decide +kernel
theorem dL_law_701 : decode cL_law 701 = .ok (.if_icmp .ne 75, 3) := by decide +kernel
theorem dL_law_704 : decode cL_law 704 = .ok (.aload_n 2, 1) := by decide +kernel
theorem dL_law_705 : decode cL_law 705 = .ok (.iconst 2, 1) := by decide +kernel
theorem dL_law_706 : decode cL_law 706 = .ok (.iaload, 1) := by decide +kernel
theorem dL_law_707 : decode cL_law 707 = .ok (.ifCond .le 69, 3) := by decide +kernel
theorem dL_law_710 : decode cL_law 710 = .ok (.iload 15, 2) := by decide +kernel
theorem dL_law_712 : decode cL_law 712 = .ok (.iconst 4, 1) := by decide +kernel
theorem dL_law_713 : decode cL_law 713 = .ok (.ishr, 1) := by decide +kernel
theorem dL_law_714 : decode cL_law 714 = .ok (.aload_n 2, 1) := by decide +kernel
theorem dL_law_715 : decode cL_law 715 = .ok (.iconst 2, 1) := by decide +kernel
theorem dL_law_716 : decode cL_law 716 = .ok (.iaload, 1) := by decide +kernel
theorem dL_law_717 : decode cL_law 717 = .ok (.invokestatic 53, 3) := by decide +kernel
theorem dL_law_720 : decode cL_law 720 = .ok (.istore 17, 2) := by decide +kernel
theorem dL_law_722 : decode cL_law 722 = .ok (.iload 17, 2) := by decide +kernel
theorem dL_law_724 : decode cL_law 724 = .ok (.istore 18, 2) := by decide +kernel
theorem dL_law_726 : decode cL_law 726 = .ok (.iload 18, 2) := by decide +kernel
theorem dL_law_728 : decode cL_law 728 = .ok (.iconst 1, 1) := by decide +kernel
theorem dL_law_729 : decode cL_law 729 = .ok (.iadd, 1) := by decide +kernel
theorem dL_law_730 : decode cL_law 730 = .ok (.aload_n 2, 1) := by decide +kernel
theorem dL_law_731 : decode cL_law 731 = .ok (.iconst 2, 1) := by decide +kernel
theorem dL_law_732 : decode cL_law 732 = .ok (.iaload, 1) := by decide +kernel
theorem dL_law_733 : decode cL_law 733 = .ok (.if_icmp .ge 21, 3) := by decide +kernel
theorem dL_law_736 : decode cL_law 736 = .ok (.aload 5, 2) := by decide +kernel
theorem dL_law_738 : decode cL_law 738 = .ok (.iload 18, 2) := by decide +kernel
theorem dL_law_740 : decode cL_law 740 = .ok (.aload 5, 2) := by decide +kernel
theorem dL_law_742 : decode cL_law 742 = .ok (.iload 18, 2) := by decide +kernel
theorem dL_law_744 : decode cL_law 744 = .ok (.iconst 1, 1) := by decide +kernel
theorem dL_law_745 : decode cL_law 745 = .ok (.iadd, 1) := by decide +kernel
theorem dL_law_746 : decode cL_law 746 = .ok (.iaload, 1) := by decide +kernel
theorem dL_law_747 : decode cL_law 747 = .ok (.iastore, 1) := by decide +kernel
theorem dL_law_748 : decode cL_law 748 = .ok (.iinc 18 1, 3) := by decide +kernel
theorem dL_law_751 : decode cL_law 751 = .ok (.goto (-25), 3) := by decide +kernel
theorem dL_law_754 : decode cL_law 754 = .ok (.aload_n 1, 1) := by decide +kernel
theorem dL_law_755 : decode cL_law 755 = .ok (.iload 17, 2) := by decide +kernel
theorem dL_law_757 : decode cL_law 757 = .ok (.invokevirtual 102, 3) := by decide +kernel
theorem dL_law_760 : decode cL_law 760 = .ok (.aload_n 2, 1) := by decide +kernel
theorem dL_law_761 : decode cL_law 761 = .ok (.iconst 2, 1) := by decide +kernel
theorem dL_law_762 : decode cL_law 762 = .ok (.dup2, 1) := by decide +kernel
theorem dL_law_763 : decode cL_law 763 = .ok (.iaload, 1) := by decide +kernel
theorem dL_law_764 : decode cL_law 764 = .ok (.iconst 1, 1) := by decide +kernel
theorem dL_law_765 : decode cL_law 765 = .ok (.isub, 1) := by decide +kernel
theorem dL_law_766 : decode cL_law 766 = .ok (.dup_x2, 1) := by decide +kernel
theorem dL_law_767 : decode cL_law 767 = .ok (.iastore, 1) := by decide +kernel
theorem dL_law_768 : decode cL_law 768 = .ok (.if_icmp .eq 5, 3) := by decide +kernel
theorem dL_law_771 : decode cL_law 771 = .ok (.iconst 0, 1) := by decide +kernel
theorem dL_law_772 : decode cL_law 772 = .ok (.ireturn, 1) := by decide +kernel
theorem dL_law_773 : decode cL_law 773 = .ok (.goto 83, 3) := by decide +kernel
theorem dL_law_776 : decode cL_law 776 = .ok (.iconst 1, 1) := by decide +kernel
theorem dL_law_777 : decode cL_law 777 = .ok (.iload 15, 2) := by decide +kernel
theorem dL_law_779 : decode cL_law 779 = .ok (.iconst 4, 1) := by decide +kernel
theorem dL_law_780 : decode cL_law 780 = .ok (.ishr, 1) := by decide +kernel
theorem dL_law_781 : decode cL_law 781 = .ok (.bipush 6, 2) := by decide +kernel
theorem dL_law_783 : decode cL_law 783 = .ok (.invokestatic 53, 3) := by decide +kernel
theorem dL_law_786 : decode cL_law 786 = .ok (.iadd, 1) := by decide +kernel
theorem dL_law_787 : decode cL_law 787 = .ok (.istore 17, 2) := by decide +kernel
theorem dL_law_789 : decode cL_law 789 = .ok (.iconst 0, 1) := by decide +kernel
theorem dL_law_790 : decode cL_law 790 = .ok (.istore 18, 2) := by decide +kernel
theorem dL_law_792 : decode cL_law 792 = .ok (.aload_n 2, 1) := by decide +kernel
theorem dL_law_793 : decode cL_law 793 = .ok (.aload_n 3, 1) := by decide +kernel
theorem dL_law_794 : decode cL_law 794 = .ok (.aload 5, 2) := by decide +kernel
theorem dL_law_796 : decode cL_law 796 = .ok (.invokestatic 25, 3) := by decide +kernel
theorem dL_law_799 : decode cL_law 799 = .ok (.istore 19, 2) := by decide +kernel
theorem dL_law_801 : decode cL_law 801 = .ok (.iload 18, 2) := by decide +kernel
theorem dL_law_803 : decode cL_law 803 = .ok (.iload 17, 2) := by decide +kernel
theorem dL_law_805 : decode cL_law 805 = .ok (.if_icmp .ge 38, 3) := by decide +kernel
theorem dL_law_808 : decode cL_law 808 = .ok (.iload 19, 2) := by decide +kernel
theorem dL_law_810 : decode cL_law 810 = .ok (.ifCond .lt 33, 3) := by decide +kernel
theorem dL_law_813 : decode cL_law 813 = .ok (.iload 19, 2) := by decide +kernel
theorem dL_law_815 : decode cL_law 815 = .ok (.aload_n 2, 1) := by decide +kernel
theorem dL_law_816 : decode cL_law 816 = .ok (.aload_n 3, 1) := by decide +kernel
theorem dL_law_817 : decode cL_law 817 = .ok (.aload 4, 2) := by decide +kernel
theorem dL_law_819 : decode cL_law 819 = .ok (.aload 5, 2) := by decide +kernel
theorem dL_law_821 : decode cL_law 821 = .ok (.aload 6, 2) := by decide +kernel
theorem dL_law_823 : decode cL_law 823 = .ok (.aload 7, 2) := by decide +kernel
theorem dL_law_825 : decode cL_law 825 = .ok (.invokestatic 29, 3) := by decide +kernel
theorem dL_law_828 : decode cL_law 828 = .ok (.iinc 18 1, 3) := by decide +kernel
theorem dL_law_831 : decode cL_law 831 = .ok (.aload_n 2, 1) := by decide +kernel
theorem dL_law_832 : decode cL_law 832 = .ok (.aload_n 3, 1) := by decide +kernel
theorem dL_law_833 : decode cL_law 833 = .ok (.aload 5, 2) := by decide +kernel
theorem dL_law_835 : decode cL_law 835 = .ok (.invokestatic 25, 3) := by decide +kernel
theorem dL_law_838 : decode cL_law 838 = .ok (.istore 19, 2) := by decide +kernel
theorem dL_law_840 : decode cL_law 840 = .ok (.goto (-39), 3) := by decide +kernel
theorem dL_law_843 : decode cL_law 843 = .ok (.aload_n 1, 1) := by decide +kernel
theorem dL_law_844 : decode cL_law 844 = .ok (.iload 17, 2) := by decide +kernel
theorem dL_law_846 : decode cL_law 846 = .ok (.invokevirtual 105, 3) := by decide +kernel
theorem dL_law_849 : decode cL_law 849 = .ok (.iload 18, 2) := by decide +kernel
theorem dL_law_851 : decode cL_law 851 = .ok (.if_icmp .eq 5, 3) := by decide +kernel
theorem dL_law_854 : decode cL_law 854 = .ok (.iconst 0, 1) := by decide +kernel
theorem dL_law_855 : decode cL_law 855 = .ok (.ireturn, 1) := by decide +kernel
theorem dL_law_856 : decode cL_law 856 = .ok (.aload_n 1, 1) := by decide +kernel
theorem dL_law_857 : decode cL_law 857 = .ok (.iload 15, 2) := by decide +kernel
theorem dL_law_859 : decode cL_law 859 = .ok (.iconst 3, 1) := by decide +kernel
theorem dL_law_860 : decode cL_law 860 = .ok (.ishr, 1) := by decide +kernel
theorem dL_law_861 : decode cL_law 861 = .ok (.aload_n 2, 1) := by decide +kernel
theorem dL_law_862 : decode cL_law 862 = .ok (.aload_n 3, 1) := by decide +kernel
theorem dL_law_863 : decode cL_law 863 = .ok (.aload 4, 2) := by decide +kernel
theorem dL_law_865 : decode cL_law 865 = .ok (.aload 5, 2) := by decide +kernel
theorem dL_law_867 : decode cL_law 867 = .ok (.aload 6, 2) := by decide +kernel
theorem dL_law_869 : decode cL_law 869 = .ok (.aload 7, 2) := by decide +kernel
theorem dL_law_871 : decode cL_law 871 = .ok (.aload 8, 2) := by decide +kernel
theorem dL_law_873 : decode cL_law 873 = .ok (.aload 9, 2) := by decide +kernel
theorem dL_law_875 : decode cL_law 875 = .ok (.aload 10, 2) := by decide +kernel
theorem dL_law_877 : decode cL_law 877 = .ok (.aload 11, 2) := by decide +kernel
theorem dL_law_879 : decode cL_law 879 = .ok (.aload 12, 2) := by decide +kernel
theorem dL_law_881 : decode cL_law 881 = .ok (.aload 13, 2) := by decide +kernel
theorem dL_law_883 : decode cL_law 883 = .ok (.invokestatic 107, 3) := by decide +kernel
theorem dL_law_886 : decode cL_law 886 = .ok (.ifCond .ne 5, 3) := by decide +kernel
theorem dL_law_889 : decode cL_law 889 = .ok (.iconst 0, 1) := by decide +kernel
theorem dL_law_890 : decode cL_law 890 = .ok (.ireturn, 1) := by decide +kernel
theorem dL_law_891 : decode cL_law 891 = .ok (.iinc 14 1, 3) := by decide +kernel
theorem dL_law_894 : decode cL_law 894 = .ok (.goto (-813), 3) := by decide +kernel
theorem dL_law_897 : decode cL_law 897 = .ok (.iconst 1, 1) := by decide +kernel
theorem dL_law_898 : decode cL_law 898 = .ok (.ireturn, 1) := by decide +kernel
