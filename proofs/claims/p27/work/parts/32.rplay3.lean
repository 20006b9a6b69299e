theorem push_L {K0 K : RS} {d o nn u n L P : Nat} (h : PI K0 K d o nn) (hO : opO K d + 1 = o) (hu : u < fN K0 3) (hn : n < 12) (hc : (chooseF K0 u n).isSome = true) (hL : L ≤ 20) (hP : potS K d ≤ P) : ∃ d' o', PI K0 (pushL K d u n L true) d' o' nn ∧ opO (pushL K d u n L true) d' = o' ∧ potS (pushL K d u n L true) d' ≤ P + 250 := by
  have hd := PI_deep h
  obtain ⟨t1, t2, t3⟩ := pushL_PI (op := true) h hO hu hn hc hL (by omega) (by omega)
  exact ⟨_, _, t1, t2, by omega⟩
theorem push_O {K0 K : RS} {d o nn u n cd pl P : Nat} (h : PI K0 K d o nn) (hO : opO K d + 1 = o) (hu : u < fN K0 3) (hn : n < 12) (hc : (chooseF K0 u n).isSome = true) (hcd : cd < 624) (hpl : pl ≤ rN K0 8 u) (hP : potS K d ≤ P) : ∃ d' o', PI K0 (pushO K d u n cd pl none true) d' o' nn ∧ opO (pushO K d u n cd pl none true) d' = o' ∧ potS (pushO K d u n cd pl none true) d' ≤ P + 250 := by
  have hd := PI_deep h
  obtain ⟨t1, t2, t3⟩ := pushO_PI (lo := none) (op := true) h hO hu hn hc hcd hpl (fun L z => by cases z) (by omega) (by omega)
  exact ⟨_, _, t1, t2, by omega⟩
theorem then_q {K0 K K' : RS} {nn P : Nat} (h : ∃ d' o', PI K0 K d' o' nn ∧ opO K d' = o' ∧ potS K d' ≤ P) (q : quiet K K') : ∃ d' o', PI K0 K' d' o' nn ∧ opO K' d' = o' ∧ potS K' d' ≤ P := by
  obtain ⟨d', o', h1, h2, h3⟩ := h
  obtain ⟨e1, e2, e3⟩ := PI_quiet h1 q
  exact ⟨_, _, e1, e2.trans h2, by omega⟩
theorem dX10_opens_0 : decode cX10_opens 0 = .ok (.aload_n 0, 1) := by decide +kernel
theorem dX10_opens_1 : decode cX10_opens 1 = .ok (.getfield 103, 3) := by decide +kernel
theorem dX10_opens_4 : decode cX10_opens 4 = .ok (.iload_n 1, 1) := by decide +kernel
theorem dX10_opens_5 : decode cX10_opens 5 = .ok (.iaload, 1) := by decide +kernel
theorem dX10_opens_6 : decode cX10_opens 6 = .ok (.istore 5, 2) := by decide +kernel
theorem dX10_opens_8 : decode cX10_opens 8 = .ok (.aload_n 0, 1) := by decide +kernel
theorem dX10_opens_9 : decode cX10_opens 9 = .ok (.getfield 106, 3) := by decide +kernel
theorem dX10_opens_12 : decode cX10_opens 12 = .ok (.iload_n 1, 1) := by decide +kernel
theorem dX10_opens_13 : decode cX10_opens 13 = .ok (.iaload, 1) := by decide +kernel
theorem dX10_opens_14 : decode cX10_opens 14 = .ok (.istore 6, 2) := by decide +kernel
theorem dX10_opens_16 : decode cX10_opens 16 = .ok (.aload_n 0, 1) := by decide +kernel
theorem dX10_opens_17 : decode cX10_opens 17 = .ok (.getfield 243, 3) := by decide +kernel
theorem dX10_opens_20 : decode cX10_opens 20 = .ok (.bipush 40, 2) := by decide +kernel
theorem dX10_opens_22 : decode cX10_opens 22 = .ok (.if_icmp .ne 9, 3) := by decide +kernel
theorem dX10_opens_25 : decode cX10_opens 25 = .ok (.aload_n 0, 1) := by decide +kernel
theorem dX10_opens_26 : decode cX10_opens 26 = .ok (.iconst 2, 1) := by decide +kernel
theorem dX10_opens_27 : decode cX10_opens 27 = .ok (.invokevirtual 269, 3) := by decide +kernel
theorem dX10_opens_30 : decode cX10_opens 30 = .ok (.ireturn, 1) := by decide +kernel
theorem dX10_opens_31 : decode cX10_opens 31 = .ok (.aload_n 0, 1) := by decide +kernel
theorem dX10_opens_32 : decode cX10_opens 32 = .ok (.dup, 1) := by decide +kernel
theorem dX10_opens_33 : decode cX10_opens 33 = .ok (.getfield 243, 3) := by decide +kernel
theorem dX10_opens_36 : decode cX10_opens 36 = .ok (.iconst 1, 1) := by decide +kernel
theorem dX10_opens_37 : decode cX10_opens 37 = .ok (.iadd, 1) := by decide +kernel
theorem dX10_opens_38 : decode cX10_opens 38 = .ok (.putfield 243, 3) := by decide +kernel
theorem dX10_opens_41 : decode cX10_opens 41 = .ok (.aload_n 0, 1) := by decide +kernel
theorem dX10_opens_42 : decode cX10_opens 42 = .ok (.aload_n 0, 1) := by decide +kernel
theorem dX10_opens_43 : decode cX10_opens 43 = .ok (.getfield 243, 3) := by decide +kernel
theorem dX10_opens_46 : decode cX10_opens 46 = .ok (.aload_n 0, 1) := by decide +kernel
theorem dX10_opens_47 : decode cX10_opens 47 = .ok (.getfield 272, 3) := by decide +kernel
theorem dX10_opens_50 : decode cX10_opens 50 = .ok (.if_icmp .le 10, 3) := by decide +kernel
theorem dX10_opens_53 : decode cX10_opens 53 = .ok (.aload_n 0, 1) := by decide +kernel
theorem dX10_opens_54 : decode cX10_opens 54 = .ok (.getfield 243, 3) := by decide +kernel
theorem dX10_opens_57 : decode cX10_opens 57 = .ok (.goto 7, 3) := by decide +kernel
theorem dX10_opens_60 : decode cX10_opens 60 = .ok (.aload_n 0, 1) := by decide +kernel
theorem dX10_opens_61 : decode cX10_opens 61 = .ok (.getfield 272, 3) := by decide +kernel
theorem dX10_opens_64 : decode cX10_opens 64 = .ok (.putfield 272, 3) := by decide +kernel
theorem dX10_opens_67 : decode cX10_opens 67 = .ok (.iconst 0, 1) := by decide +kernel
theorem dX10_opens_68 : decode cX10_opens 68 = .ok (.istore 7, 2) := by decide +kernel
theorem dX10_opens_70 : decode cX10_opens 70 = .ok (.iload_n 2, 1) := by decide +kernel
theorem dX10_opens_71 : decode cX10_opens 71 = .ok (.tableswitch 281 5 10 #[37, 86, 166, 241, 281, 37], 37) := by decide +kernel
theorem dX10_opens_108 : decode cX10_opens 108 = .ok (.aload_n 0, 1) := by decide +kernel
theorem dX10_opens_109 : decode cX10_opens 109 = .ok (.iload 5, 2) := by decide +kernel
theorem dX10_opens_111 : decode cX10_opens 111 = .ok (.iload_n 3, 1) := by decide +kernel
theorem dX10_opens_112 : decode cX10_opens 112 = .ok (.iconst (-1), 1) := by decide +kernel
theorem dX10_opens_113 : decode cX10_opens 113 = .ok (.invokevirtual 275, 3) := by decide +kernel
theorem dX10_opens_116 : decode cX10_opens 116 = .ok (.istore 7, 2) := by decide +kernel
theorem dX10_opens_118 : decode cX10_opens 118 = .ok (.iload 7, 2) := by decide +kernel
theorem dX10_opens_120 : decode cX10_opens 120 = .ok (.ifCond .ne 249, 3) := by decide +kernel
theorem dX10_opens_123 : decode cX10_opens 123 = .ok (.aload_n 0, 1) := by decide +kernel
theorem dX10_opens_124 : decode cX10_opens 124 = .ok (.iload 5, 2) := by decide +kernel
theorem dX10_opens_126 : decode cX10_opens 126 = .ok (.iload_n 3, 1) := by decide +kernel
theorem dX10_opens_127 : decode cX10_opens 127 = .ok (.iconst 0, 1) := by decide +kernel
theorem dX10_opens_128 : decode cX10_opens 128 = .ok (.iconst 1, 1) := by decide +kernel
theorem dX10_opens_129 : decode cX10_opens 129 = .ok (.invokevirtual 253, 3) := by decide +kernel
theorem dX10_opens_132 : decode cX10_opens 132 = .ok (.aload_n 0, 1) := by decide +kernel
theorem dX10_opens_133 : decode cX10_opens 133 = .ok (.getfield 127, 3) := by decide +kernel
theorem dX10_opens_136 : decode cX10_opens 136 = .ok (.aload_n 0, 1) := by decide +kernel
theorem dX10_opens_137 : decode cX10_opens 137 = .ok (.getfield 236, 3) := by decide +kernel
theorem dX10_opens_140 : decode cX10_opens 140 = .ok (.iconst 1, 1) := by decide +kernel
theorem dX10_opens_141 : decode cX10_opens 141 = .ok (.isub, 1) := by decide +kernel
theorem dX10_opens_142 : decode cX10_opens 142 = .ok (.iload_n 2, 1) := by decide +kernel
theorem dX10_opens_143 : decode cX10_opens 143 = .ok (.bipush 10, 2) := by decide +kernel
theorem dX10_opens_145 : decode cX10_opens 145 = .ok (.if_icmp .ne 7, 3) := by decide +kernel
theorem dX10_opens_148 : decode cX10_opens 148 = .ok (.iconst 1, 1) := by decide +kernel
theorem dX10_opens_149 : decode cX10_opens 149 = .ok (.goto 4, 3) := by decide +kernel
theorem dX10_opens_152 : decode cX10_opens 152 = .ok (.iconst 0, 1) := by decide +kernel
theorem dX10_opens_153 : decode cX10_opens 153 = .ok (.bastore, 1) := by decide +kernel
theorem dX10_opens_154 : decode cX10_opens 154 = .ok (.goto 215, 3) := by decide +kernel
theorem dX10_opens_157 : decode cX10_opens 157 = .ok (.aload_n 0, 1) := by decide +kernel
theorem dX10_opens_158 : decode cX10_opens 158 = .ok (.iload 5, 2) := by decide +kernel
theorem dX10_opens_160 : decode cX10_opens 160 = .ok (.aload_n 0, 1) := by decide +kernel
theorem dX10_opens_161 : decode cX10_opens 161 = .ok (.iload_n 1, 1) := by decide +kernel
theorem dX10_opens_162 : decode cX10_opens 162 = .ok (.invokevirtual 278, 3) := by decide +kernel
theorem dX10_opens_165 : decode cX10_opens 165 = .ok (.ifCond .eq 14, 3) := by decide +kernel
theorem dX10_opens_168 : decode cX10_opens 168 = .ok (.aload_n 0, 1) := by decide +kernel
theorem dX10_opens_169 : decode cX10_opens 169 = .ok (.iload 5, 2) := by decide +kernel
theorem dX10_opens_171 : decode cX10_opens 171 = .ok (.iload 6, 2) := by decide +kernel
theorem dX10_opens_173 : decode cX10_opens 173 = .ok (.invokevirtual 208, 3) := by decide +kernel
theorem dX10_opens_176 : decode cX10_opens 176 = .ok (.goto 9, 3) := by decide +kernel
theorem dX10_opens_179 : decode cX10_opens 179 = .ok (.aload_n 0, 1) := by decide +kernel
theorem dX10_opens_180 : decode cX10_opens 180 = .ok (.getfield 112, 3) := by decide +kernel
theorem dX10_opens_183 : decode cX10_opens 183 = .ok (.iload_n 1, 1) := by decide +kernel
theorem dX10_opens_184 : decode cX10_opens 184 = .ok (.iaload, 1) := by decide +kernel
theorem dX10_opens_185 : decode cX10_opens 185 = .ok (.iconst 1, 1) := by decide +kernel
theorem dX10_opens_186 : decode cX10_opens 186 = .ok (.iadd, 1) := by decide +kernel
theorem dX10_opens_187 : decode cX10_opens 187 = .ok (.iload 6, 2) := by decide +kernel
theorem dX10_opens_189 : decode cX10_opens 189 = .ok (.invokevirtual 205, 3) := by decide +kernel
theorem dX10_opens_192 : decode cX10_opens 192 = .ok (.istore 8, 2) := by decide +kernel
theorem dX10_opens_194 : decode cX10_opens 194 = .ok (.iload 8, 2) := by decide +kernel
theorem dX10_opens_196 : decode cX10_opens 196 = .ok (.iconst (-1), 1) := by decide +kernel
theorem dX10_opens_197 : decode cX10_opens 197 = .ok (.if_icmp .ne 7, 3) := by decide +kernel
theorem dX10_opens_200 : decode cX10_opens 200 = .ok (.iconst 4, 1) := by decide +kernel
theorem dX10_opens_201 : decode cX10_opens 201 = .ok (.goto 4, 3) := by decide +kernel
theorem dX10_opens_204 : decode cX10_opens 204 = .ok (.iconst 0, 1) := by decide +kernel
theorem dX10_opens_205 : decode cX10_opens 205 = .ok (.istore 7, 2) := by decide +kernel
theorem dX10_opens_207 : decode cX10_opens 207 = .ok (.iload 7, 2) := by decide +kernel
theorem dX10_opens_209 : decode cX10_opens 209 = .ok (.ifCond .ne 160, 3) := by decide +kernel
theorem dX10_opens_212 : decode cX10_opens 212 = .ok (.aload_n 0, 1) := by decide +kernel
theorem dX10_opens_213 : decode cX10_opens 213 = .ok (.iload 5, 2) := by decide +kernel
theorem dX10_opens_215 : decode cX10_opens 215 = .ok (.iload 6, 2) := by decide +kernel
theorem dX10_opens_217 : decode cX10_opens 217 = .ok (.aload_n 0, 1) := by decide +kernel
theorem dX10_opens_218 : decode cX10_opens 218 = .ok (.iload 5, 2) := by decide +kernel
theorem dX10_opens_220 : decode cX10_opens 220 = .ok (.iload 8, 2) := by decide +kernel
theorem dX10_opens_222 : decode cX10_opens 222 = .ok (.iload 6, 2) := by decide +kernel
theorem dX10_opens_224 : decode cX10_opens 224 = .ok (.invokevirtual 199, 3) := by decide +kernel
theorem dX10_opens_227 : decode cX10_opens 227 = .ok (.iload 8, 2) := by decide +kernel
theorem dX10_opens_229 : decode cX10_opens 229 = .ok (.iconst (-1), 1) := by decide +kernel
theorem dX10_opens_230 : decode cX10_opens 230 = .ok (.iconst 1, 1) := by decide +kernel
theorem dX10_opens_231 : decode cX10_opens 231 = .ok (.invokevirtual 249, 3) := by decide +kernel
theorem dX10_opens_234 : decode cX10_opens 234 = .ok (.goto 135, 3) := by decide +kernel
theorem dX10_opens_237 : decode cX10_opens 237 = .ok (.aload_n 0, 1) := by decide +kernel
theorem dX10_opens_238 : decode cX10_opens 238 = .ok (.iload 5, 2) := by decide +kernel
theorem dX10_opens_240 : decode cX10_opens 240 = .ok (.iload_n 3, 1) := by decide +kernel
theorem dX10_opens_241 : decode cX10_opens 241 = .ok (.invokevirtual 202, 3) := by decide +kernel
theorem dX10_opens_244 : decode cX10_opens 244 = .ok (.istore 8, 2) := by decide +kernel
theorem dX10_opens_246 : decode cX10_opens 246 = .ok (.iload 8, 2) := by decide +kernel
theorem dX10_opens_248 : decode cX10_opens 248 = .ok (.ifCond .ne 7, 3) := by decide +kernel
theorem dX10_opens_251 : decode cX10_opens 251 = .ok (.iconst (-1), 1) := by decide +kernel
theorem dX10_opens_252 : decode cX10_opens 252 = .ok (.goto 13, 3) := by decide +kernel
theorem dX10_opens_255 : decode cX10_opens 255 = .ok (.aload_n 0, 1) := by decide +kernel
theorem dX10_opens_256 : decode cX10_opens 256 = .ok (.iload 5, 2) := by decide +kernel
theorem dX10_opens_258 : decode cX10_opens 258 = .ok (.iload 8, 2) := by decide +kernel
theorem dX10_opens_260 : decode cX10_opens 260 = .ok (.iload 6, 2) := by decide +kernel
theorem dX10_opens_262 : decode cX10_opens 262 = .ok (.invokevirtual 199, 3) := by decide +kernel
theorem dX10_opens_265 : decode cX10_opens 265 = .ok (.istore 9, 2) := by decide +kernel
theorem dX10_opens_267 : decode cX10_opens 267 = .ok (.iload 9, 2) := by decide +kernel
theorem dX10_opens_269 : decode cX10_opens 269 = .ok (.iconst (-1), 1) := by decide +kernel
theorem dX10_opens_270 : decode cX10_opens 270 = .ok (.if_icmp .eq 13, 3) := by decide +kernel
theorem dX10_opens_273 : decode cX10_opens 273 = .ok (.aload_n 0, 1) := by decide +kernel
theorem dX10_opens_274 : decode cX10_opens 274 = .ok (.getfield 39, 3) := by decide +kernel
theorem dX10_opens_277 : decode cX10_opens 277 = .ok (.iload 9, 2) := by decide +kernel
theorem dX10_opens_279 : decode cX10_opens 279 = .ok (.baload, 1) := by decide +kernel
theorem dX10_opens_280 : decode cX10_opens 280 = .ok (.ifCond .eq 7, 3) := by decide +kernel
theorem dX10_opens_283 : decode cX10_opens 283 = .ok (.iconst 4, 1) := by decide +kernel
theorem dX10_opens_284 : decode cX10_opens 284 = .ok (.goto 4, 3) := by decide +kernel
theorem dX10_opens_287 : decode cX10_opens 287 = .ok (.iconst 0, 1) := by decide +kernel
theorem dX10_opens_288 : decode cX10_opens 288 = .ok (.istore 7, 2) := by decide +kernel
theorem dX10_opens_290 : decode cX10_opens 290 = .ok (.iload 7, 2) := by decide +kernel
theorem dX10_opens_292 : decode cX10_opens 292 = .ok (.ifCond .ne 77, 3) := by decide +kernel
theorem dX10_opens_295 : decode cX10_opens 295 = .ok (.aload_n 0, 1) := by decide +kernel
theorem dX10_opens_296 : decode cX10_opens 296 = .ok (.iload 5, 2) := by decide +kernel
theorem dX10_opens_298 : decode cX10_opens 298 = .ok (.iload 6, 2) := by decide +kernel
theorem dX10_opens_300 : decode cX10_opens 300 = .ok (.iload 9, 2) := by decide +kernel
theorem dX10_opens_302 : decode cX10_opens 302 = .ok (.iload 8, 2) := by decide +kernel
theorem dX10_opens_304 : decode cX10_opens 304 = .ok (.iconst (-1), 1) := by decide +kernel
theorem dX10_opens_305 : decode cX10_opens 305 = .ok (.iconst 1, 1) := by decide +kernel
theorem dX10_opens_306 : decode cX10_opens 306 = .ok (.invokevirtual 249, 3) := by decide +kernel
theorem dX10_opens_309 : decode cX10_opens 309 = .ok (.goto 60, 3) := by decide +kernel
theorem dX10_opens_312 : decode cX10_opens 312 = .ok (.aload_n 0, 1) := by decide +kernel
theorem dX10_opens_313 : decode cX10_opens 313 = .ok (.iload_n 3, 1) := by decide +kernel
theorem dX10_opens_314 : decode cX10_opens 314 = .ok (.invokevirtual 176, 3) := by decide +kernel
theorem dX10_opens_317 : decode cX10_opens 317 = .ok (.ifCond .eq 15, 3) := by decide +kernel
theorem dX10_opens_320 : decode cX10_opens 320 = .ok (.aload_n 0, 1) := by decide +kernel
theorem dX10_opens_321 : decode cX10_opens 321 = .ok (.iload_n 3, 1) := by decide +kernel
theorem dX10_opens_322 : decode cX10_opens 322 = .ok (.iload 4, 2) := by decide +kernel
theorem dX10_opens_324 : decode cX10_opens 324 = .ok (.iload 5, 2) := by decide +kernel
theorem dX10_opens_326 : decode cX10_opens 326 = .ok (.invokevirtual 275, 3) := by decide +kernel
theorem dX10_opens_329 : decode cX10_opens 329 = .ok (.goto 4, 3) := by decide +kernel
theorem dX10_opens_332 : decode cX10_opens 332 = .ok (.iconst 4, 1) := by decide +kernel
theorem dX10_opens_333 : decode cX10_opens 333 = .ok (.istore 7, 2) := by decide +kernel
theorem dX10_opens_335 : decode cX10_opens 335 = .ok (.iload 7, 2) := by decide +kernel
theorem dX10_opens_337 : decode cX10_opens 337 = .ok (.ifCond .ne 32, 3) := by decide +kernel
theorem dX10_opens_340 : decode cX10_opens 340 = .ok (.aload_n 0, 1) := by decide +kernel
theorem dX10_opens_341 : decode cX10_opens 341 = .ok (.iload_n 3, 1) := by decide +kernel
theorem dX10_opens_342 : decode cX10_opens 342 = .ok (.iload 4, 2) := by decide +kernel
theorem dX10_opens_344 : decode cX10_opens 344 = .ok (.iconst 0, 1) := by decide +kernel
theorem dX10_opens_345 : decode cX10_opens 345 = .ok (.iconst 1, 1) := by decide +kernel
theorem dX10_opens_346 : decode cX10_opens 346 = .ok (.invokevirtual 253, 3) := by decide +kernel
theorem dX10_opens_349 : decode cX10_opens 349 = .ok (.goto 20, 3) := by decide +kernel
theorem dX10_opens_352 : decode cX10_opens 352 = .ok (.aload_n 0, 1) := by decide +kernel
theorem dX10_opens_353 : decode cX10_opens 353 = .ok (.iload 5, 2) := by decide +kernel
theorem dX10_opens_355 : decode cX10_opens 355 = .ok (.iload 6, 2) := by decide +kernel
theorem dX10_opens_357 : decode cX10_opens 357 = .ok (.aload_n 0, 1) := by decide +kernel
theorem dX10_opens_358 : decode cX10_opens 358 = .ok (.getfield 118, 3) := by decide +kernel
theorem dX10_opens_361 : decode cX10_opens 361 = .ok (.iload_n 1, 1) := by decide +kernel
theorem dX10_opens_362 : decode cX10_opens 362 = .ok (.iaload, 1) := by decide +kernel
theorem dX10_opens_363 : decode cX10_opens 363 = .ok (.iconst 1, 1) := by decide +kernel
theorem dX10_opens_364 : decode cX10_opens 364 = .ok (.iadd, 1) := by decide +kernel
theorem dX10_opens_365 : decode cX10_opens 365 = .ok (.iconst 1, 1) := by decide +kernel
theorem dX10_opens_366 : decode cX10_opens 366 = .ok (.invokevirtual 253, 3) := by decide +kernel
theorem dX10_opens_369 : decode cX10_opens 369 = .ok (.iload 7, 2) := by decide +kernel
theorem dX10_opens_371 : decode cX10_opens 371 = .ok (.ifCond .ne 5, 3) := by decide +kernel
theorem dX10_opens_374 : decode cX10_opens 374 = .ok (.iconst 0, 1) := by decide +kernel
theorem dX10_opens_375 : decode cX10_opens 375 = .ok (.ireturn, 1) := by decide +kernel
theorem dX10_opens_376 : decode cX10_opens 376 = .ok (.aload_n 0, 1) := by decide +kernel
theorem dX10_opens_377 : decode cX10_opens 377 = .ok (.dup, 1) := by decide +kernel
theorem dX10_opens_378 : decode cX10_opens 378 = .ok (.getfield 243, 3) := by decide +kernel
theorem dX10_opens_381 : decode cX10_opens 381 = .ok (.iconst 1, 1) := by decide +kernel
theorem dX10_opens_382 : decode cX10_opens 382 = .ok (.isub, 1) := by decide +kernel
theorem dX10_opens_383 : decode cX10_opens 383 = .ok (.putfield 243, 3) := by decide +kernel
theorem dX10_opens_386 : decode cX10_opens 386 = .ok (.iload_n 2, 1) := by decide +kernel
theorem dX10_opens_387 : decode cX10_opens 387 = .ok (.bipush 10, 2) := by decide +kernel
theorem dX10_opens_389 : decode cX10_opens 389 = .ok (.if_icmp .ne 16, 3) := by decide +kernel
theorem dX10_opens_392 : decode cX10_opens 392 = .ok (.aload_n 0, 1) := by decide +kernel
theorem dX10_opens_393 : decode cX10_opens 393 = .ok (.ldc2_w 260, 3) := by decide +kernel
theorem dX10_opens_396 : decode cX10_opens 396 = .ok (.iload 7, 2) := by decide +kernel
theorem dX10_opens_398 : decode cX10_opens 398 = .ok (.i2l, 1) := by decide +kernel
theorem dX10_opens_399 : decode cX10_opens 399 = .ok (.lsub, 1) := by decide +kernel
theorem dX10_opens_400 : decode cX10_opens 400 = .ok (.putfield 262, 3) := by decide +kernel
theorem dX10_opens_403 : decode cX10_opens 403 = .ok (.iconst 0, 1) := by decide +kernel
theorem dX10_opens_404 : decode cX10_opens 404 = .ok (.ireturn, 1) := by decide +kernel
theorem dX10_opens_405 : decode cX10_opens 405 = .ok (.aload_n 0, 1) := by decide +kernel
theorem dX10_opens_406 : decode cX10_opens 406 = .ok (.iload 7, 2) := by decide +kernel
theorem dX10_opens_408 : decode cX10_opens 408 = .ok (.invokevirtual 269, 3) := by decide +kernel
theorem dX10_opens_411 : decode cX10_opens 411 = .ok (.ireturn, 1) := by decide +kernel
set_option maxRecDepth 100000 in
set_option maxHeartbeats 4000000 in
theorem rt_X10_opens (l : Launch) (m0 : Nat) (ad : Nat → Nat) (K : RS) (f : Nat) (kd : Int32) (a : Int32) (b : Int32) (K0 : RS) (o nn : Nat) : Ct l yX10_opens cX10_opens 10 (some .int) 6 0 0 150 (fun S av => av = [.ref m0, .int (nI f), .int kd, .int a, .int b] ∧ mdR S m0 ad K ∧ RV K ∧ (PI K0 K (f + 1) o nn) ∧ (opO K (f + 1) = o) ∧ (¬ rA K 32 f = 0) ∧ ((kd = 5 ∨ kd = 10) → ∃ j, j < 12 ∧ a = nI j) ∧ (kd = 8 → ∃ j, j < 12 ∧ b = nI j)) (fun S _ r S' => ∃ (v : Int32) (K' : RS), r = some (.int v) ∧ mdR S' m0 ad K' ∧ exm S S' m0 ad ∧ ∃ d' o', PI K0 K' d' o' nn ∧ opO K' d' = o' ∧ potS K' d' ≤ potS K (f + 1) + 250) := by
  refine ct_of (by decide) (fun S av h => by obtain ⟨rfl, hk, rv, hp, hO, h32, ha, hb⟩ := h; exact Nat.le_of_ble_eq_true rfl) ?_
  intro p e s m args below meth c D G bs S av C hr hin hpre
  obtain ⟨rfl, hk, rv, hp, hO, h32, ha, hb⟩ := hpre
  have E0 : exm S S m0 ad := exm_rfl
  obtain ⟨u, n, cd, pl, nx, lo, hu0, hn, a33, a34, hc, hcd, hpl, hnx, a35, a36, a37, a38, hlo, h1⟩ := PI_topO hp h32
  have hdd := PI_deep hp
  have ho4 := hp.2.2.2.2.2.2.2
  have hf2 : f + 1 < 2000 := by omega
  have c3 : fN K 3 = fN K0 3 := keep_fN hp.1 (by decide)
  have hu : u < 12 := by have := rv.p2.2; omega
  obtain ⟨z1, z2⟩ := rv.p5 u hu
  have b8 : rN K 8 u = rN K0 8 u := keep_rN hp.1 (by decide) u
  have v0 := hp.2.1
  refine v_aload_n C dX10_opens_0 rfl ?_
  refine q10_103 C hk dX10_opens_1 ?_
  refine v_iload_n C dX10_opens_4 rfl ?_
  refine n_iald C hk (show (33, 11, 2000) ∈ mTab by decide +kernel) (by omega) dX10_opens_5 ?_
  refine v_val a33 ?_
  refine v_istore C dX10_opens_6 (by decide) rfl ?_
  refine v_aload_n C dX10_opens_8 rfl ?_
  refine q10_106 C hk dX10_opens_9 ?_
  refine v_iload_n C dX10_opens_12 rfl ?_
  refine n_iald C hk (show (34, 11, 2000) ∈ mTab by decide +kernel) (by omega) dX10_opens_13 ?_
  refine v_val a34 ?_
  refine v_istore C dX10_opens_14 (by decide) rfl ?_
  refine v_aload_n C dX10_opens_16 rfl ?_
  refine q10_243 C hk dX10_opens_17 ?_
  refine v_val hp.2.2.2.2.2.2.1 ?_
  refine v_bipush (v := nI 40) C dX10_opens_20 (by decide) ?_
  refine n_icmp_ne (tgt := 31) C (by omega) (by omega) dX10_opens_22 (by decide) (fun c_22 => ?_) (fun c_22 => ?_)
  · skip
    refine v_aload_n C dX10_opens_31 rfl ?_
    refine v_dup C dX10_opens_32 rfl ?_
    refine q10_243 C hk dX10_opens_33 ?_
    refine v_val hp.2.2.2.2.2.2.1 ?_
    refine v_iconst (v := nI 1) C dX10_opens_36 (by decide) ?_
    refine n_iadd C dX10_opens_37 ?_
    refine w10_243 C hk dX10_opens_38 (fun S4_38 hk' x_38 => ?_)
    have E0 := exm_tr E0 x_38
    have hk := hk'
    clear hk'
    refine V.lits (lv' := [some (.ref m0), some (.int (nI f)), some (.int kd), some (.int a), some (.int b), some (.int (nI u)), some (.int (nI n)), none, none, none]) rfl ?_
    refine v_cutX 64 [some (.ref m0), some (.int (nI f)), some (.int kd), some (.int a), some (.int b), some (.int (nI u)), some (.int (nI n)), none, none, none] [.ref m0] (fun X => ?_) (fun k64 => ?_)
    · skip
      refine w10_272 C hk dX10_opens_64 (fun S2_64 hk' x_64 => ?_)
      have E0 := exm_tr E0 x_64
      have hk := hk'
      clear hk'
      obtain ⟨i1, i2, i3⟩ := PI_open hp (o' := o + 1) (by omega)
      obtain ⟨j1, j2, j3⟩ := PI_quiet i1 (quiet_wF (g := 48) (v := X) quiet_rfl (Or.inr rfl))
      generalize hK2 : wF (wF K 47 (nI (o + 1))) 48 X = K2 at hk j1 j2 j3
      have hO2 : opO K2 (f + 1) + 1 = o + 1 := by omega
      have hP2 : potS K2 (f + 1) ≤ potS K (f + 1) := by omega
      have rv2 : RV K2 := by rw [← hK2]; exact RV_play rv (keep_wF (keep_wF keep_rfl (by decide)) (by decide)) rv.p16
      have kA : ∀ g i, rA K2 g i = rA K g i := fun g i => by rw [← hK2]; rfl
      have kN : ∀ g i, rN K2 g i = rN K g i := fun g i => by rw [← hK2]; rfl
      have k42 : rF K2 42 = nI (f + 1) := j1.2.1
      have k47 : rF K2 47 = nI (o + 1) := j1.2.2.2.2.2.2.1
      have c32 : fN K2 3 = fN K0 3 := keep_fN j1.1 (by decide)
      refine v_iconst (v := nI 0) C dX10_opens_67 (by decide) ?_
      refine v_istore C dX10_opens_68 (by decide) rfl ?_
      refine v_iload_n C dX10_opens_70 rfl ?_
      by_cases k_5 : kd = 5
      · skip
        refine v_tableIn (off := 37) (tgt := 108) C dX10_opens_71 (by rw [k_5]; decide) (by rw [k_5]; decide) (by rw [k_5]; rfl) (by decide) ?_
        obtain ⟨j, hj, rfl⟩ := ha (Or.inl k_5)
        refine v_aload_n C dX10_opens_108 rfl ?_
        refine v_iload C dX10_opens_109 rfl ?_
        refine v_iload_n C dX10_opens_111 rfl ?_
        refine v_iconst (v := -1) C dX10_opens_112 (by decide) ?_
        refine v_callV (As := [_, _, _]) (n := 3) C (rt_X10_against l m0 ad _ _ _ _) rfl hk.1 (by decide) rfl ⟨wd834, wd835, wd836, wd5, wd837⟩ ⟨rfl, hy_X10_against⟩ rfl ⟨Nat.le_of_ble_eq_true rfl, Nat.le_of_ble_eq_true rfl⟩ (Nat.le_of_ble_eq_true rfl) ⟨Nat.le_of_ble_eq_true rfl, Nat.le_of_ble_eq_true rfl⟩ dX10_opens_113 ⟨rfl, hk, rv2, hu, hj, (Or.inl rfl)⟩ (fun r_113 S4_113 h_113 => ?_)
        obtain ⟨v113, rfl, p_v113, b_v113, q_v113⟩ := h_113
        obtain rfl := q_v113.symm
        obtain ⟨bw1, bw2⟩ := b_v113
        refine v_istore C dX10_opens_116 (by decide) rfl ?_
        refine v_iload C dX10_opens_118 rfl ?_
        refine n_if_ne (tgt := 369) C (by omega) dX10_opens_120 (by decide) (fun c_120 => ?_) (fun c_120 => ?_)
        · skip
          refine v_iload C dX10_opens_369 rfl ?_
          refine n_if_ne (tgt := 376) C (by omega) dX10_opens_371 (by decide) (fun c_371 => ?_) (fun c_371 => ?_)
          · skip
            refine v_aload_n C dX10_opens_376 rfl ?_
            refine v_dup C dX10_opens_377 rfl ?_
            refine q10_243 C hk dX10_opens_378 ?_
            refine v_val k47 ?_
            refine v_iconst (v := nI 1) C dX10_opens_381 (by decide) ?_
            refine n_isub C (by omega) dX10_opens_382 ?_
            refine v_val (y := nI o) rfl ?_
            refine w10_243 C hk dX10_opens_383 (fun S8_383 hk' x_383 => ?_)
            have E0 := exm_tr E0 x_383
            have hk := hk'
            clear hk'
            obtain ⟨n1, n2, n3⟩ := PI_open j1 (o' := o) ho4
            have n4 := n2.trans (j2.trans (i2.trans hO))
            refine v_iload_n C dX10_opens_386 rfl ?_
            refine v_bipush (v := nI 10) C dX10_opens_387 (by decide) ?_
            refine v_icmp_ne (tgt := 405) C dX10_opens_389 (by decide) (fun c_389 => ?_) (fun c_389 => ?_)
            · skip
              refine v_aload_n C dX10_opens_405 rfl ?_
              refine v_iload C dX10_opens_406 rfl ?_
              refine v_callV (As := [_]) (n := 1) C (rt_X10_fails l m0 ad _ _ K0 (f + 1) o nn) rfl hk.1 (by decide) rfl ⟨wd854, wd855, wd856, wd5, wd857⟩ ⟨rfl, hy_X10_fails⟩ rfl ⟨Nat.le_of_ble_eq_true rfl, Nat.le_of_ble_eq_true rfl⟩ (Nat.le_of_ble_eq_true rfl) ⟨Nat.le_of_ble_eq_true rfl, Nat.le_of_ble_eq_true rfl⟩ dX10_opens_408 ⟨rfl, hk, n1, n4, (by omega)⟩ (fun r_408 S10_408 h_408 => ?_)
              obtain ⟨v408, K408, rfl, hk', x_408, p_v408⟩ := h_408
              have E0 := exm_tr E0 x_408
              have hk := hk'
              clear hk'
              obtain ⟨d', o', e1, e2, e3, e4⟩ := p_v408
              refine v_iret C hr (Nat.le_of_ble_eq_true rfl) (Nat.le_of_ble_eq_true rfl) dX10_opens_411 ?_
              exact ⟨_, _, rfl, hk, E0, (⟨_, _, e1, e2, by omega⟩)⟩
            · skip
              refine v_aload_n C dX10_opens_392 rfl ?_
              refine v_ldc2 (v := (-10)) C wd858 dX10_opens_393 ?_
              refine v_iload C dX10_opens_396 rfl ?_
              refine v_i2l C dX10_opens_398 ?_
              refine v_lsub C dX10_opens_399 ?_
              refine w10_262 C hk dX10_opens_400 (fun S10_400 hk' x_400 => ?_)
              have E0 := exm_tr E0 x_400
              have hk := hk'
              clear hk'
              refine v_iconst (v := nI 0) C dX10_opens_403 (by decide) ?_
              refine v_iret C hr (Nat.le_of_ble_eq_true rfl) (Nat.le_of_ble_eq_true rfl) dX10_opens_404 ?_
              exact ⟨_, _, rfl, hk, E0, (then_q ⟨_, _, n1, n4, by omega⟩ (quiet_wJ quiet_rfl (by decide)))⟩
          · skip
            omega
        · skip
          subst c_120
          have hcj := bw2 rfl
          rw [chooseF_pk j1.1] at hcj
          have hfin := push_L (L := 0) j1 hO2 hu0 hj hcj (Nat.zero_le _) hP2
          refine v_aload_n C dX10_opens_123 rfl ?_
          refine v_iload C dX10_opens_124 rfl ?_
          refine v_iload_n C dX10_opens_126 rfl ?_
          refine v_iconst (v := nI 0) C dX10_opens_127 (by decide) ?_
          refine v_iconst (v := nI 1) C dX10_opens_128 (by decide) ?_
          refine v_callV (As := [_, _, _, _]) (n := 4) C (rt_X10_pushLayer l m0 ad _ _ _ _ true (f + 1)) rfl hk.1 (by decide) rfl ⟨wd838, wd839, wd840, wd5, wd841⟩ ⟨rfl, hy_X10_pushLayer⟩ rfl ⟨Nat.le_of_ble_eq_true rfl, Nat.le_of_ble_eq_true rfl⟩ (Nat.le_of_ble_eq_true rfl) ⟨Nat.le_of_ble_eq_true rfl, Nat.le_of_ble_eq_true rfl⟩ dX10_opens_129 ⟨rfl, hk, ⟨k42, hf2⟩⟩ (fun r_129 S6_129 h_129 => ?_)
          obtain ⟨K129, rfl, hk', x_129, p_v129⟩ := h_129
          have E0 := exm_tr E0 x_129
          have hk := hk'
          clear hk'
          subst p_v129
          refine v_aload_n C dX10_opens_132 rfl ?_
          refine q10_127 C hk dX10_opens_133 ?_
          refine v_aload_n C dX10_opens_136 rfl ?_
          refine q10_236 C hk dX10_opens_137 ?_
          refine v_val (y := nI (f + 1 + 1)) rfl ?_
          refine v_iconst (v := nI 1) C dX10_opens_140 (by decide) ?_
          refine n_isub C (by omega) dX10_opens_141 ?_
          refine v_val (y := nI (f + 1)) rfl ?_
          refine v_iload_n C dX10_opens_142 rfl ?_
          refine v_bipush (v := nI 10) C dX10_opens_143 (by decide) ?_
          refine v_icmp_ne (tgt := 152) C dX10_opens_145 (by decide) (fun c_145 => ?_) (fun c_145 => ?_)
          · skip
            refine v_iconst (v := nI 0) C dX10_opens_152 (by decide) ?_
            refine n_zast C hk (show (41, 13, 2000) ∈ mTab by decide +kernel) hf2 (by first | rfl | exact vp_bI _) dX10_opens_153 (fun S8_153 hk' x_153 => ?_)
            have E0 := exm_tr E0 x_153
            have hk := hk'
            clear hk'
            refine v_goto (tgt := 369) C dX10_opens_154 (by decide) ?_
            refine v_iload C dX10_opens_369 rfl ?_
            refine n_if_ne (tgt := 376) C (by omega) dX10_opens_371 (by decide) (fun c_371 => ?_) (fun c_371 => ?_)
            · skip
              exact absurd c_371 (Nat.lt_irrefl _)
            · skip
              refine v_iconst (v := nI 0) C dX10_opens_374 (by decide) ?_
              refine v_iret C hr (Nat.le_of_ble_eq_true rfl) (Nat.le_of_ble_eq_true rfl) dX10_opens_375 ?_
              exact ⟨_, _, rfl, hk, E0, (then_q hfin (quiet_wA quiet_rfl (by decide) (by decide)))⟩
          · skip
            refine v_iconst (v := nI 1) C dX10_opens_148 (by decide) ?_
            refine v_goto (tgt := 153) C dX10_opens_149 (by decide) ?_
            refine n_zast C hk (show (41, 13, 2000) ∈ mTab by decide +kernel) hf2 (by first | rfl | exact vp_bI _) dX10_opens_153 (fun S8_153 hk' x_153 => ?_)
            have E0 := exm_tr E0 x_153
            have hk := hk'
            clear hk'
            refine v_goto (tgt := 369) C dX10_opens_154 (by decide) ?_
            refine v_iload C dX10_opens_369 rfl ?_
            refine n_if_ne (tgt := 376) C (by omega) dX10_opens_371 (by decide) (fun c_371 => ?_) (fun c_371 => ?_)
            · skip
              exact absurd c_371 (Nat.lt_irrefl _)
            · skip
              refine v_iconst (v := nI 0) C dX10_opens_374 (by decide) ?_
              refine v_iret C hr (Nat.le_of_ble_eq_true rfl) (Nat.le_of_ble_eq_true rfl) dX10_opens_375 ?_
              exact ⟨_, _, rfl, hk, E0, (then_q hfin (quiet_wA quiet_rfl (by decide) (by decide)))⟩
      by_cases k_6 : kd = 6
      · skip
        refine v_tableIn (off := 86) (tgt := 157) C dX10_opens_71 (by rw [k_6]; decide) (by rw [k_6]; decide) (by rw [k_6]; rfl) (by decide) ?_
        refine v_aload_n C dX10_opens_157 rfl ?_
        refine v_iload C dX10_opens_158 rfl ?_
        refine v_aload_n C dX10_opens_160 rfl ?_
        refine v_iload_n C dX10_opens_161 rfl ?_
        refine v_callV (As := [_]) (n := 1) C (rt_X10_isGuard l m0 ad _ _) rfl hk.1 (by decide) rfl ⟨wd863, wd864, wd865, wd5, wd866⟩ ⟨rfl, hy_X10_isGuard⟩ rfl ⟨Nat.le_of_ble_eq_true rfl, Nat.le_of_ble_eq_true rfl⟩ (Nat.le_of_ble_eq_true rfl) ⟨Nat.le_of_ble_eq_true rfl, Nat.le_of_ble_eq_true rfl⟩ dX10_opens_162 ⟨rfl, hk, (by omega)⟩ (fun r_162 S4_162 h_162 => ?_)
        obtain ⟨v162, rfl, p_v162, q_v162⟩ := h_162
        obtain rfl := q_v162.symm
        refine b_if_eq (tgt := 179) C dX10_opens_165 (by decide) (fun c_165 => ?_) (fun c_165 => ?_)
        · skip
          refine v_aload_n C dX10_opens_179 rfl ?_
          refine q10_112 C hk dX10_opens_180 ?_
          refine v_iload_n C dX10_opens_183 rfl ?_
          refine n_iald C hk (show (36, 11, 2000) ∈ mTab by decide +kernel) (by omega) dX10_opens_184 ?_
          refine v_val ((kA 36 f).trans a36) ?_
          refine v_iconst (v := nI 1) C dX10_opens_185 (by decide) ?_
          refine n_iadd C dX10_opens_186 ?_
          refine v_iload C dX10_opens_187 rfl ?_
          refine v_callV (As := [_, _, _]) (n := 3) C (rt_X10_firstFrom l m0 ad _ _ _ _) rfl hk.1 (by decide) rfl ⟨wd601, wd602, wd603, wd5, wd604⟩ ⟨rfl, hy_X10_firstFrom⟩ rfl ⟨Nat.le_of_ble_eq_true rfl, Nat.le_of_ble_eq_true rfl⟩ (Nat.le_of_ble_eq_true rfl) ⟨Nat.le_of_ble_eq_true rfl, Nat.le_of_ble_eq_true rfl⟩ dX10_opens_189 ⟨rfl, hk, rv2, (by omega), (by omega), (by omega)⟩ (fun r_189 S6_189 h_189 => ?_)
          obtain ⟨v189, rfl, p_v189, b_v189, q_v189⟩ := h_189
          obtain rfl := q_v189.symm
          rw [firstF_pk j1.1] at p_v189
          rw [kN 8 u] at b_v189
          refine v_istore C dX10_opens_192 (by decide) rfl ?_
          refine v_iload C dX10_opens_194 rfl ?_
          refine v_iconst (v := -1) C dX10_opens_196 (by decide) ?_
          refine o_icmp_ne (tgt := 204) C (fun k z => by have := b_v189 k z; omega) dX10_opens_197 (by decide) (fun k197 c_197 => ?_) (fun c_197 => ?_)
          · skip
            have b_k197 := b_v189 k197 c_197
            subst c_197
            obtain ⟨w1, w2, w3⟩ := firstF_some p_v189.symm
            obtain ⟨kc, hkc, _⟩ := offP_some w3
            refine v_iconst (v := nI 0) C dX10_opens_204 (by decide) ?_
            refine v_istore C dX10_opens_205 (by decide) rfl ?_
            refine v_iload C dX10_opens_207 rfl ?_
            refine v_if_ne (tgt := 369) C dX10_opens_209 (by decide) (fun c_209 => ?_) (fun c_209 => ?_)
            · skip
              exact absurd c_209 (by decide)
            · skip
              refine v_aload_n C dX10_opens_212 rfl ?_
              refine v_iload C dX10_opens_213 rfl ?_
              refine v_iload C dX10_opens_215 rfl ?_
              refine v_aload_n C dX10_opens_217 rfl ?_
              refine v_iload C dX10_opens_218 rfl ?_
              refine v_iload C dX10_opens_220 rfl ?_
              refine v_iload C dX10_opens_222 rfl ?_
              refine v_callV (As := [_, _, _]) (n := 3) C (rt_X10_offers l m0 ad _ _ _ _) rfl hk.1 (by decide) rfl ⟨wd593, wd594, wd595, wd5, wd596⟩ ⟨rfl, hy_X10_offers⟩ rfl ⟨Nat.le_of_ble_eq_true rfl, Nat.le_of_ble_eq_true rfl⟩ (Nat.le_of_ble_eq_true rfl) ⟨Nat.le_of_ble_eq_true rfl, Nat.le_of_ble_eq_true rfl⟩ dX10_opens_224 ⟨rfl, hk, rv2, (by omega), (by omega), (by rw [kN]; omega)⟩ (fun r_224 S10_224 h_224 => ?_)
              obtain ⟨v224, rfl, p_v224, b_v224, q_v224⟩ := h_224
              obtain rfl := q_v224.symm
              rw [offersF_pk j1.1] at p_v224
              obtain rfl : v224 = some kc := p_v224.trans hkc
              have bkc := b_v224 kc rfl
              have hfin := push_O j1 hO2 hu0 hn hc bkc (show k197 ≤ rN K0 8 u by omega) hP2
              refine v_iload C dX10_opens_227 rfl ?_
              refine v_iconst (v := -1) C dX10_opens_229 (by decide) ?_
              refine v_iconst (v := nI 1) C dX10_opens_230 (by decide) ?_
              refine v_callV (As := [_, _, _, _, _, _]) (n := 6) C (rt_X10_pushOps l m0 ad _ _ _ _ _ none true (f + 1)) rfl hk.1 (by decide) rfl ⟨wd871, wd872, wd873, wd5, wd874⟩ ⟨rfl, hy_X10_pushOps⟩ rfl ⟨Nat.le_of_ble_eq_true rfl, Nat.le_of_ble_eq_true rfl⟩ (Nat.le_of_ble_eq_true rfl) ⟨Nat.le_of_ble_eq_true rfl, Nat.le_of_ble_eq_true rfl⟩ dX10_opens_231 ⟨rfl, hk, ⟨k42, hf2⟩⟩ (fun r_231 S10_231 h_231 => ?_)
              obtain ⟨K231, rfl, hk', x_231, p_v231⟩ := h_231
              have E0 := exm_tr E0 x_231
              have hk := hk'
              clear hk'
              subst p_v231
              refine v_goto (tgt := 369) C dX10_opens_234 (by decide) ?_
              refine v_iload C dX10_opens_369 rfl ?_
              refine v_if_ne (tgt := 376) C dX10_opens_371 (by decide) (fun c_371 => ?_) (fun c_371 => ?_)
              · skip
                exact absurd c_371 (by decide)
              · skip
                refine v_iconst (v := nI 0) C dX10_opens_374 (by decide) ?_
                refine v_iret C hr (Nat.le_of_ble_eq_true rfl) (Nat.le_of_ble_eq_true rfl) dX10_opens_375 ?_
                exact ⟨_, _, rfl, hk, E0, (hfin)⟩
          · skip
            subst c_197
            refine v_iconst (v := nI 4) C dX10_opens_200 (by decide) ?_
            refine v_goto (tgt := 205) C dX10_opens_201 (by decide) ?_
            refine v_istore C dX10_opens_205 (by decide) rfl ?_
            refine v_iload C dX10_opens_207 rfl ?_
            refine v_if_ne (tgt := 369) C dX10_opens_209 (by decide) (fun c_209 => ?_) (fun c_209 => ?_)
            · skip
              refine v_iload C dX10_opens_369 rfl ?_
              refine v_if_ne (tgt := 376) C dX10_opens_371 (by decide) (fun c_371 => ?_) (fun c_371 => ?_)
              · skip
                refine v_aload_n C dX10_opens_376 rfl ?_
                refine v_dup C dX10_opens_377 rfl ?_
                refine q10_243 C hk dX10_opens_378 ?_
                refine v_val k47 ?_
                refine v_iconst (v := nI 1) C dX10_opens_381 (by decide) ?_
                refine n_isub C (by omega) dX10_opens_382 ?_
                refine v_val (y := nI o) rfl ?_
                refine w10_243 C hk dX10_opens_383 (fun S12_383 hk' x_383 => ?_)
                have E0 := exm_tr E0 x_383
                have hk := hk'
                clear hk'
                obtain ⟨n1, n2, n3⟩ := PI_open j1 (o' := o) ho4
                have n4 := n2.trans (j2.trans (i2.trans hO))
                refine v_iload_n C dX10_opens_386 rfl ?_
                refine v_bipush (v := nI 10) C dX10_opens_387 (by decide) ?_
                refine v_icmp_ne (tgt := 405) C dX10_opens_389 (by decide) (fun c_389 => ?_) (fun c_389 => ?_)
                · skip
                  refine v_aload_n C dX10_opens_405 rfl ?_
                  refine v_iload C dX10_opens_406 rfl ?_
                  refine v_callV (As := [_]) (n := 1) C (rt_X10_fails l m0 ad _ _ K0 (f + 1) o nn) rfl hk.1 (by decide) rfl ⟨wd854, wd855, wd856, wd5, wd857⟩ ⟨rfl, hy_X10_fails⟩ rfl ⟨Nat.le_of_ble_eq_true rfl, Nat.le_of_ble_eq_true rfl⟩ (Nat.le_of_ble_eq_true rfl) ⟨Nat.le_of_ble_eq_true rfl, Nat.le_of_ble_eq_true rfl⟩ dX10_opens_408 ⟨rfl, hk, n1, n4, (by omega)⟩ (fun r_408 S14_408 h_408 => ?_)
                  obtain ⟨v408, K408, rfl, hk', x_408, p_v408⟩ := h_408
                  have E0 := exm_tr E0 x_408
                  have hk := hk'
                  clear hk'
                  obtain ⟨d', o', e1, e2, e3, e4⟩ := p_v408
                  refine v_iret C hr (Nat.le_of_ble_eq_true rfl) (Nat.le_of_ble_eq_true rfl) dX10_opens_411 ?_
                  exact ⟨_, _, rfl, hk, E0, (⟨_, _, e1, e2, by omega⟩)⟩
                · skip
                  refine v_aload_n C dX10_opens_392 rfl ?_
                  refine v_ldc2 (v := (-10)) C wd858 dX10_opens_393 ?_
                  refine v_iload C dX10_opens_396 rfl ?_
                  refine v_i2l C dX10_opens_398 ?_
                  refine v_lsub C dX10_opens_399 ?_
                  refine w10_262 C hk dX10_opens_400 (fun S14_400 hk' x_400 => ?_)
                  have E0 := exm_tr E0 x_400
                  have hk := hk'
                  clear hk'
                  refine v_iconst (v := nI 0) C dX10_opens_403 (by decide) ?_
                  refine v_iret C hr (Nat.le_of_ble_eq_true rfl) (Nat.le_of_ble_eq_true rfl) dX10_opens_404 ?_
                  exact ⟨_, _, rfl, hk, E0, (then_q ⟨_, _, n1, n4, by omega⟩ (quiet_wJ quiet_rfl (by decide)))⟩
              · skip
                exact absurd c_371 (by decide)
            · skip
              exact absurd c_209 (by decide)
        · skip
          refine v_aload_n C dX10_opens_168 rfl ?_
          refine v_iload C dX10_opens_169 rfl ?_
          refine v_iload C dX10_opens_171 rfl ?_
          refine v_callV (As := [_, _]) (n := 2) C (rt_X10_choose l m0 ad _ _ _) rfl hk.1 (by decide) rfl ⟨wd589, wd590, wd591, wd5, wd592⟩ ⟨rfl, hy_X10_choose⟩ rfl ⟨Nat.le_of_ble_eq_true rfl, Nat.le_of_ble_eq_true rfl⟩ (Nat.le_of_ble_eq_true rfl) ⟨Nat.le_of_ble_eq_true rfl, Nat.le_of_ble_eq_true rfl⟩ dX10_opens_173 ⟨rfl, hk, rv2, (by omega), (by omega)⟩ (fun r_173 S6_173 h_173 => ?_)
          obtain ⟨v173, rfl, p_v173, b_v173, q_v173⟩ := h_173
          obtain rfl := q_v173.symm
          rw [chooseF_pk j1.1] at p_v173
          obtain ⟨q, hq⟩ := Option.isSome_iff_exists.mp hc
          obtain rfl : v173 = some q := p_v173.trans hq
          have bq := b_v173 q rfl
          rw [kN] at bq
          refine v_goto (tgt := 185) C dX10_opens_176 (by decide) ?_
          refine v_iconst (v := nI 1) C dX10_opens_185 (by decide) ?_
          refine n_iadd C dX10_opens_186 ?_
          refine v_iload C dX10_opens_187 rfl ?_
          refine v_callV (As := [_, _, _]) (n := 3) C (rt_X10_firstFrom l m0 ad _ _ _ _) rfl hk.1 (by decide) rfl ⟨wd601, wd602, wd603, wd5, wd604⟩ ⟨rfl, hy_X10_firstFrom⟩ rfl ⟨Nat.le_of_ble_eq_true rfl, Nat.le_of_ble_eq_true rfl⟩ (Nat.le_of_ble_eq_true rfl) ⟨Nat.le_of_ble_eq_true rfl, Nat.le_of_ble_eq_true rfl⟩ dX10_opens_189 ⟨rfl, hk, rv2, (by omega), (by omega), (by omega)⟩ (fun r_189 S6_189 h_189 => ?_)
          obtain ⟨v189, rfl, p_v189, b_v189, q_v189⟩ := h_189
          obtain rfl := q_v189.symm
          rw [firstF_pk j1.1] at p_v189
          rw [kN 8 u] at b_v189
          refine v_istore C dX10_opens_192 (by decide) rfl ?_
          refine v_iload C dX10_opens_194 rfl ?_
          refine v_iconst (v := -1) C dX10_opens_196 (by decide) ?_
          refine o_icmp_ne (tgt := 204) C (fun k z => by have := b_v189 k z; omega) dX10_opens_197 (by decide) (fun k197 c_197 => ?_) (fun c_197 => ?_)
          · skip
            have b_k197 := b_v189 k197 c_197
            subst c_197
            obtain ⟨w1, w2, w3⟩ := firstF_some p_v189.symm
            obtain ⟨kc, hkc, _⟩ := offP_some w3
            refine v_iconst (v := nI 0) C dX10_opens_204 (by decide) ?_
            refine v_istore C dX10_opens_205 (by decide) rfl ?_
            refine v_iload C dX10_opens_207 rfl ?_
            refine v_if_ne (tgt := 369) C dX10_opens_209 (by decide) (fun c_209 => ?_) (fun c_209 => ?_)
            · skip
              exact absurd c_209 (by decide)
            · skip
              refine v_aload_n C dX10_opens_212 rfl ?_
              refine v_iload C dX10_opens_213 rfl ?_
              refine v_iload C dX10_opens_215 rfl ?_
              refine v_aload_n C dX10_opens_217 rfl ?_
              refine v_iload C dX10_opens_218 rfl ?_
              refine v_iload C dX10_opens_220 rfl ?_
              refine v_iload C dX10_opens_222 rfl ?_
              refine v_callV (As := [_, _, _]) (n := 3) C (rt_X10_offers l m0 ad _ _ _ _) rfl hk.1 (by decide) rfl ⟨wd593, wd594, wd595, wd5, wd596⟩ ⟨rfl, hy_X10_offers⟩ rfl ⟨Nat.le_of_ble_eq_true rfl, Nat.le_of_ble_eq_true rfl⟩ (Nat.le_of_ble_eq_true rfl) ⟨Nat.le_of_ble_eq_true rfl, Nat.le_of_ble_eq_true rfl⟩ dX10_opens_224 ⟨rfl, hk, rv2, (by omega), (by omega), (by rw [kN]; omega)⟩ (fun r_224 S10_224 h_224 => ?_)
              obtain ⟨v224, rfl, p_v224, b_v224, q_v224⟩ := h_224
              obtain rfl := q_v224.symm
              rw [offersF_pk j1.1] at p_v224
              obtain rfl : v224 = some kc := p_v224.trans hkc
              have bkc := b_v224 kc rfl
              have hfin := push_O j1 hO2 hu0 hn hc bkc (show k197 ≤ rN K0 8 u by omega) hP2
              refine v_iload C dX10_opens_227 rfl ?_
              refine v_iconst (v := -1) C dX10_opens_229 (by decide) ?_
              refine v_iconst (v := nI 1) C dX10_opens_230 (by decide) ?_
              refine v_callV (As := [_, _, _, _, _, _]) (n := 6) C (rt_X10_pushOps l m0 ad _ _ _ _ _ none true (f + 1)) rfl hk.1 (by decide) rfl ⟨wd871, wd872, wd873, wd5, wd874⟩ ⟨rfl, hy_X10_pushOps⟩ rfl ⟨Nat.le_of_ble_eq_true rfl, Nat.le_of_ble_eq_true rfl⟩ (Nat.le_of_ble_eq_true rfl) ⟨Nat.le_of_ble_eq_true rfl, Nat.le_of_ble_eq_true rfl⟩ dX10_opens_231 ⟨rfl, hk, ⟨k42, hf2⟩⟩ (fun r_231 S10_231 h_231 => ?_)
              obtain ⟨K231, rfl, hk', x_231, p_v231⟩ := h_231
              have E0 := exm_tr E0 x_231
              have hk := hk'
              clear hk'
              subst p_v231
              refine v_goto (tgt := 369) C dX10_opens_234 (by decide) ?_
              refine v_iload C dX10_opens_369 rfl ?_
              refine v_if_ne (tgt := 376) C dX10_opens_371 (by decide) (fun c_371 => ?_) (fun c_371 => ?_)
              · skip
                exact absurd c_371 (by decide)
              · skip
                refine v_iconst (v := nI 0) C dX10_opens_374 (by decide) ?_
                refine v_iret C hr (Nat.le_of_ble_eq_true rfl) (Nat.le_of_ble_eq_true rfl) dX10_opens_375 ?_
                exact ⟨_, _, rfl, hk, E0, (hfin)⟩
          · skip
            subst c_197
            refine v_iconst (v := nI 4) C dX10_opens_200 (by decide) ?_
            refine v_goto (tgt := 205) C dX10_opens_201 (by decide) ?_
            refine v_istore C dX10_opens_205 (by decide) rfl ?_
            refine v_iload C dX10_opens_207 rfl ?_
            refine v_if_ne (tgt := 369) C dX10_opens_209 (by decide) (fun c_209 => ?_) (fun c_209 => ?_)
            · skip
              refine v_iload C dX10_opens_369 rfl ?_
              refine v_if_ne (tgt := 376) C dX10_opens_371 (by decide) (fun c_371 => ?_) (fun c_371 => ?_)
              · skip
                refine v_aload_n C dX10_opens_376 rfl ?_
                refine v_dup C dX10_opens_377 rfl ?_
                refine q10_243 C hk dX10_opens_378 ?_
                refine v_val k47 ?_
                refine v_iconst (v := nI 1) C dX10_opens_381 (by decide) ?_
                refine n_isub C (by omega) dX10_opens_382 ?_
                refine v_val (y := nI o) rfl ?_
                refine w10_243 C hk dX10_opens_383 (fun S12_383 hk' x_383 => ?_)
                have E0 := exm_tr E0 x_383
                have hk := hk'
                clear hk'
                obtain ⟨n1, n2, n3⟩ := PI_open j1 (o' := o) ho4
                have n4 := n2.trans (j2.trans (i2.trans hO))
                refine v_iload_n C dX10_opens_386 rfl ?_
                refine v_bipush (v := nI 10) C dX10_opens_387 (by decide) ?_
                refine v_icmp_ne (tgt := 405) C dX10_opens_389 (by decide) (fun c_389 => ?_) (fun c_389 => ?_)
                · skip
                  refine v_aload_n C dX10_opens_405 rfl ?_
                  refine v_iload C dX10_opens_406 rfl ?_
                  refine v_callV (As := [_]) (n := 1) C (rt_X10_fails l m0 ad _ _ K0 (f + 1) o nn) rfl hk.1 (by decide) rfl ⟨wd854, wd855, wd856, wd5, wd857⟩ ⟨rfl, hy_X10_fails⟩ rfl ⟨Nat.le_of_ble_eq_true rfl, Nat.le_of_ble_eq_true rfl⟩ (Nat.le_of_ble_eq_true rfl) ⟨Nat.le_of_ble_eq_true rfl, Nat.le_of_ble_eq_true rfl⟩ dX10_opens_408 ⟨rfl, hk, n1, n4, (by omega)⟩ (fun r_408 S14_408 h_408 => ?_)
                  obtain ⟨v408, K408, rfl, hk', x_408, p_v408⟩ := h_408
                  have E0 := exm_tr E0 x_408
                  have hk := hk'
                  clear hk'
                  obtain ⟨d', o', e1, e2, e3, e4⟩ := p_v408
                  refine v_iret C hr (Nat.le_of_ble_eq_true rfl) (Nat.le_of_ble_eq_true rfl) dX10_opens_411 ?_
                  exact ⟨_, _, rfl, hk, E0, (⟨_, _, e1, e2, by omega⟩)⟩
                · skip
                  refine v_aload_n C dX10_opens_392 rfl ?_
                  refine v_ldc2 (v := (-10)) C wd858 dX10_opens_393 ?_
                  refine v_iload C dX10_opens_396 rfl ?_
                  refine v_i2l C dX10_opens_398 ?_
                  refine v_lsub C dX10_opens_399 ?_
                  refine w10_262 C hk dX10_opens_400 (fun S14_400 hk' x_400 => ?_)
                  have E0 := exm_tr E0 x_400
                  have hk := hk'
                  clear hk'
                  refine v_iconst (v := nI 0) C dX10_opens_403 (by decide) ?_
                  refine v_iret C hr (Nat.le_of_ble_eq_true rfl) (Nat.le_of_ble_eq_true rfl) dX10_opens_404 ?_
                  exact ⟨_, _, rfl, hk, E0, (then_q ⟨_, _, n1, n4, by omega⟩ (quiet_wJ quiet_rfl (by decide)))⟩
              · skip
                exact absurd c_371 (by decide)
            · skip
              exact absurd c_209 (by decide)
      by_cases k_7 : kd = 7
      · skip
        refine v_tableIn (off := 166) (tgt := 237) C dX10_opens_71 (by rw [k_7]; decide) (by rw [k_7]; decide) (by rw [k_7]; rfl) (by decide) ?_
        refine v_aload_n C dX10_opens_237 rfl ?_
        refine v_iload C dX10_opens_238 rfl ?_
        refine v_iload_n C dX10_opens_240 rfl ?_
        refine v_callV (As := [_, _]) (n := 2) C (rt_X10_placeIn l m0 ad _ _ _) rfl hk.1 (by decide) rfl ⟨wd597, wd598, wd599, wd5, wd600⟩ ⟨rfl, hy_X10_placeIn⟩ rfl ⟨Nat.le_of_ble_eq_true rfl, Nat.le_of_ble_eq_true rfl⟩ (Nat.le_of_ble_eq_true rfl) ⟨Nat.le_of_ble_eq_true rfl, Nat.le_of_ble_eq_true rfl⟩ dX10_opens_241 ⟨rfl, hk, rv2, (by omega)⟩ (fun r_241 S4_241 h_241 => ?_)
        obtain ⟨v241, rfl, p_v241, b_v241, q_v241⟩ := h_241
        obtain rfl := q_v241.symm
        rw [kN] at b_v241
        refine v_istore C dX10_opens_244 (by decide) rfl ?_
        refine v_iload C dX10_opens_246 rfl ?_
        refine n_if_ne (tgt := 255) C (by omega) dX10_opens_248 (by decide) (fun c_248 => ?_) (fun c_248 => ?_)
        · skip
          refine v_aload_n C dX10_opens_255 rfl ?_
          refine v_iload C dX10_opens_256 rfl ?_
          refine v_iload C dX10_opens_258 rfl ?_
          refine v_iload C dX10_opens_260 rfl ?_
          refine v_callV (As := [_, _, _]) (n := 3) C (rt_X10_offers l m0 ad _ _ _ _) rfl hk.1 (by decide) rfl ⟨wd593, wd594, wd595, wd5, wd596⟩ ⟨rfl, hy_X10_offers⟩ rfl ⟨Nat.le_of_ble_eq_true rfl, Nat.le_of_ble_eq_true rfl⟩ (Nat.le_of_ble_eq_true rfl) ⟨Nat.le_of_ble_eq_true rfl, Nat.le_of_ble_eq_true rfl⟩ dX10_opens_262 ⟨rfl, hk, rv2, (by omega), (by omega), (by rw [kN]; omega)⟩ (fun r_262 S6_262 h_262 => ?_)
          obtain ⟨v262, rfl, p_v262, b_v262, q_v262⟩ := h_262
          obtain rfl := q_v262.symm
          refine v_istore C dX10_opens_265 (by decide) rfl ?_
          refine v_iload C dX10_opens_267 rfl ?_
          refine v_iconst (v := -1) C dX10_opens_269 (by decide) ?_
          refine o_icmp_eq (tgt := 283) C (fun k z => by have := b_v262 k z; omega) dX10_opens_270 (by decide) (fun c_270 => ?_) (fun k270 c_270 => ?_)
          · skip
            subst c_270
            refine v_iconst (v := nI 4) C dX10_opens_283 (by decide) ?_
            refine v_goto (tgt := 288) C dX10_opens_284 (by decide) ?_
            refine v_istore C dX10_opens_288 (by decide) rfl ?_
            refine v_iload C dX10_opens_290 rfl ?_
            refine v_if_ne (tgt := 369) C dX10_opens_292 (by decide) (fun c_292 => ?_) (fun c_292 => ?_)
            · skip
              refine v_iload C dX10_opens_369 rfl ?_
              refine v_if_ne (tgt := 376) C dX10_opens_371 (by decide) (fun c_371 => ?_) (fun c_371 => ?_)
              · skip
                refine v_aload_n C dX10_opens_376 rfl ?_
                refine v_dup C dX10_opens_377 rfl ?_
                refine q10_243 C hk dX10_opens_378 ?_
                refine v_val k47 ?_
                refine v_iconst (v := nI 1) C dX10_opens_381 (by decide) ?_
                refine n_isub C (by omega) dX10_opens_382 ?_
                refine v_val (y := nI o) rfl ?_
                refine w10_243 C hk dX10_opens_383 (fun S12_383 hk' x_383 => ?_)
                have E0 := exm_tr E0 x_383
                have hk := hk'
                clear hk'
                obtain ⟨n1, n2, n3⟩ := PI_open j1 (o' := o) ho4
                have n4 := n2.trans (j2.trans (i2.trans hO))
                refine v_iload_n C dX10_opens_386 rfl ?_
                refine v_bipush (v := nI 10) C dX10_opens_387 (by decide) ?_
                refine v_icmp_ne (tgt := 405) C dX10_opens_389 (by decide) (fun c_389 => ?_) (fun c_389 => ?_)
                · skip
                  refine v_aload_n C dX10_opens_405 rfl ?_
                  refine v_iload C dX10_opens_406 rfl ?_
                  refine v_callV (As := [_]) (n := 1) C (rt_X10_fails l m0 ad _ _ K0 (f + 1) o nn) rfl hk.1 (by decide) rfl ⟨wd854, wd855, wd856, wd5, wd857⟩ ⟨rfl, hy_X10_fails⟩ rfl ⟨Nat.le_of_ble_eq_true rfl, Nat.le_of_ble_eq_true rfl⟩ (Nat.le_of_ble_eq_true rfl) ⟨Nat.le_of_ble_eq_true rfl, Nat.le_of_ble_eq_true rfl⟩ dX10_opens_408 ⟨rfl, hk, n1, n4, (by omega)⟩ (fun r_408 S14_408 h_408 => ?_)
                  obtain ⟨v408, K408, rfl, hk', x_408, p_v408⟩ := h_408
                  have E0 := exm_tr E0 x_408
                  have hk := hk'
                  clear hk'
                  obtain ⟨d', o', e1, e2, e3, e4⟩ := p_v408
                  refine v_iret C hr (Nat.le_of_ble_eq_true rfl) (Nat.le_of_ble_eq_true rfl) dX10_opens_411 ?_
                  exact ⟨_, _, rfl, hk, E0, (⟨_, _, e1, e2, by omega⟩)⟩
                · skip
                  refine v_aload_n C dX10_opens_392 rfl ?_
                  refine v_ldc2 (v := (-10)) C wd858 dX10_opens_393 ?_
                  refine v_iload C dX10_opens_396 rfl ?_
                  refine v_i2l C dX10_opens_398 ?_
                  refine v_lsub C dX10_opens_399 ?_
                  refine w10_262 C hk dX10_opens_400 (fun S14_400 hk' x_400 => ?_)
                  have E0 := exm_tr E0 x_400
                  have hk := hk'
                  clear hk'
                  refine v_iconst (v := nI 0) C dX10_opens_403 (by decide) ?_
                  refine v_iret C hr (Nat.le_of_ble_eq_true rfl) (Nat.le_of_ble_eq_true rfl) dX10_opens_404 ?_
                  exact ⟨_, _, rfl, hk, E0, (then_q ⟨_, _, n1, n4, by omega⟩ (quiet_wJ quiet_rfl (by decide)))⟩
              · skip
                exact absurd c_371 (by decide)
            · skip
              exact absurd c_292 (by decide)
          · skip
            have b_k270 := b_v262 k270 c_270
            subst c_270
            refine v_aload_n C dX10_opens_273 rfl ?_
            refine q10_39 C hk dX10_opens_274 ?_
            refine v_iload C dX10_opens_277 rfl ?_
            refine n_zald C hk (show (11, 13, 624) ∈ mTab by decide +kernel) (by omega) dX10_opens_279 ?_
            refine v_if_eq (tgt := 287) C dX10_opens_280 (by decide) (fun c_280 => ?_) (fun c_280 => ?_)
            · skip
              refine v_iconst (v := nI 0) C dX10_opens_287 (by decide) ?_
              refine v_istore C dX10_opens_288 (by decide) rfl ?_
              refine v_iload C dX10_opens_290 rfl ?_
              refine v_if_ne (tgt := 369) C dX10_opens_292 (by decide) (fun c_292 => ?_) (fun c_292 => ?_)
              · skip
                exact absurd c_292 (by decide)
              · skip
                refine v_aload_n C dX10_opens_295 rfl ?_
                refine v_iload C dX10_opens_296 rfl ?_
                refine v_iload C dX10_opens_298 rfl ?_
                refine v_iload C dX10_opens_300 rfl ?_
                refine v_iload C dX10_opens_302 rfl ?_
                refine v_iconst (v := -1) C dX10_opens_304 (by decide) ?_
                refine v_iconst (v := nI 1) C dX10_opens_305 (by decide) ?_
                have hfin := push_O j1 hO2 hu0 hn hc b_k270 (show v241 ≤ rN K0 8 u by omega) hP2
                refine v_callV (As := [_, _, _, _, _, _]) (n := 6) C (rt_X10_pushOps l m0 ad _ _ _ _ _ none true (f + 1)) rfl hk.1 (by decide) rfl ⟨wd871, wd872, wd873, wd5, wd874⟩ ⟨rfl, hy_X10_pushOps⟩ rfl ⟨Nat.le_of_ble_eq_true rfl, Nat.le_of_ble_eq_true rfl⟩ (Nat.le_of_ble_eq_true rfl) ⟨Nat.le_of_ble_eq_true rfl, Nat.le_of_ble_eq_true rfl⟩ dX10_opens_306 ⟨rfl, hk, ⟨k42, hf2⟩⟩ (fun r_306 S12_306 h_306 => ?_)
                obtain ⟨K306, rfl, hk', x_306, p_v306⟩ := h_306
                have E0 := exm_tr E0 x_306
                have hk := hk'
                clear hk'
                subst p_v306
                refine v_goto (tgt := 369) C dX10_opens_309 (by decide) ?_
                refine v_iload C dX10_opens_369 rfl ?_
                refine v_if_ne (tgt := 376) C dX10_opens_371 (by decide) (fun c_371 => ?_) (fun c_371 => ?_)
                · skip
                  exact absurd c_371 (by decide)
                · skip
                  refine v_iconst (v := nI 0) C dX10_opens_374 (by decide) ?_
                  refine v_iret C hr (Nat.le_of_ble_eq_true rfl) (Nat.le_of_ble_eq_true rfl) dX10_opens_375 ?_
                  exact ⟨_, _, rfl, hk, E0, (hfin)⟩
            · skip
              refine v_iconst (v := nI 4) C dX10_opens_283 (by decide) ?_
              refine v_goto (tgt := 288) C dX10_opens_284 (by decide) ?_
              refine v_istore C dX10_opens_288 (by decide) rfl ?_
              refine v_iload C dX10_opens_290 rfl ?_
              refine v_if_ne (tgt := 369) C dX10_opens_292 (by decide) (fun c_292 => ?_) (fun c_292 => ?_)
              · skip
                refine v_iload C dX10_opens_369 rfl ?_
                refine v_if_ne (tgt := 376) C dX10_opens_371 (by decide) (fun c_371 => ?_) (fun c_371 => ?_)
                · skip
                  refine v_aload_n C dX10_opens_376 rfl ?_
                  refine v_dup C dX10_opens_377 rfl ?_
                  refine q10_243 C hk dX10_opens_378 ?_
                  refine v_val k47 ?_
                  refine v_iconst (v := nI 1) C dX10_opens_381 (by decide) ?_
                  refine n_isub C (by omega) dX10_opens_382 ?_
                  refine v_val (y := nI o) rfl ?_
                  refine w10_243 C hk dX10_opens_383 (fun S14_383 hk' x_383 => ?_)
                  have E0 := exm_tr E0 x_383
                  have hk := hk'
                  clear hk'
                  obtain ⟨n1, n2, n3⟩ := PI_open j1 (o' := o) ho4
                  have n4 := n2.trans (j2.trans (i2.trans hO))
                  refine v_iload_n C dX10_opens_386 rfl ?_
                  refine v_bipush (v := nI 10) C dX10_opens_387 (by decide) ?_
                  refine v_icmp_ne (tgt := 405) C dX10_opens_389 (by decide) (fun c_389 => ?_) (fun c_389 => ?_)
                  · skip
                    refine v_aload_n C dX10_opens_405 rfl ?_
                    refine v_iload C dX10_opens_406 rfl ?_
                    refine v_callV (As := [_]) (n := 1) C (rt_X10_fails l m0 ad _ _ K0 (f + 1) o nn) rfl hk.1 (by decide) rfl ⟨wd854, wd855, wd856, wd5, wd857⟩ ⟨rfl, hy_X10_fails⟩ rfl ⟨Nat.le_of_ble_eq_true rfl, Nat.le_of_ble_eq_true rfl⟩ (Nat.le_of_ble_eq_true rfl) ⟨Nat.le_of_ble_eq_true rfl, Nat.le_of_ble_eq_true rfl⟩ dX10_opens_408 ⟨rfl, hk, n1, n4, (by omega)⟩ (fun r_408 S16_408 h_408 => ?_)
                    obtain ⟨v408, K408, rfl, hk', x_408, p_v408⟩ := h_408
                    have E0 := exm_tr E0 x_408
                    have hk := hk'
                    clear hk'
                    obtain ⟨d', o', e1, e2, e3, e4⟩ := p_v408
                    refine v_iret C hr (Nat.le_of_ble_eq_true rfl) (Nat.le_of_ble_eq_true rfl) dX10_opens_411 ?_
                    exact ⟨_, _, rfl, hk, E0, (⟨_, _, e1, e2, by omega⟩)⟩
                  · skip
                    refine v_aload_n C dX10_opens_392 rfl ?_
                    refine v_ldc2 (v := (-10)) C wd858 dX10_opens_393 ?_
                    refine v_iload C dX10_opens_396 rfl ?_
                    refine v_i2l C dX10_opens_398 ?_
                    refine v_lsub C dX10_opens_399 ?_
                    refine w10_262 C hk dX10_opens_400 (fun S16_400 hk' x_400 => ?_)
                    have E0 := exm_tr E0 x_400
                    have hk := hk'
                    clear hk'
                    refine v_iconst (v := nI 0) C dX10_opens_403 (by decide) ?_
                    refine v_iret C hr (Nat.le_of_ble_eq_true rfl) (Nat.le_of_ble_eq_true rfl) dX10_opens_404 ?_
                    exact ⟨_, _, rfl, hk, E0, (then_q ⟨_, _, n1, n4, by omega⟩ (quiet_wJ quiet_rfl (by decide)))⟩
                · skip
                  exact absurd c_371 (by decide)
              · skip
                exact absurd c_292 (by decide)
        · skip
          refine v_iconst (v := -1) C dX10_opens_251 (by decide) ?_
          refine v_goto (tgt := 265) C dX10_opens_252 (by decide) ?_
          refine v_istore C dX10_opens_265 (by decide) rfl ?_
          refine v_iload C dX10_opens_267 rfl ?_
          refine v_iconst (v := -1) C dX10_opens_269 (by decide) ?_
          refine v_icmp_eq (tgt := 283) C dX10_opens_270 (by decide) (fun c_270 => ?_) (fun c_270 => ?_)
          · skip
            refine v_iconst (v := nI 4) C dX10_opens_283 (by decide) ?_
            refine v_goto (tgt := 288) C dX10_opens_284 (by decide) ?_
            refine v_istore C dX10_opens_288 (by decide) rfl ?_
            refine v_iload C dX10_opens_290 rfl ?_
            refine v_if_ne (tgt := 369) C dX10_opens_292 (by decide) (fun c_292 => ?_) (fun c_292 => ?_)
            · skip
              refine v_iload C dX10_opens_369 rfl ?_
              refine v_if_ne (tgt := 376) C dX10_opens_371 (by decide) (fun c_371 => ?_) (fun c_371 => ?_)
              · skip
                refine v_aload_n C dX10_opens_376 rfl ?_
                refine v_dup C dX10_opens_377 rfl ?_
                refine q10_243 C hk dX10_opens_378 ?_
                refine v_val k47 ?_
                refine v_iconst (v := nI 1) C dX10_opens_381 (by decide) ?_
                refine n_isub C (by omega) dX10_opens_382 ?_
                refine v_val (y := nI o) rfl ?_
                refine w10_243 C hk dX10_opens_383 (fun S12_383 hk' x_383 => ?_)
                have E0 := exm_tr E0 x_383
                have hk := hk'
                clear hk'
                obtain ⟨n1, n2, n3⟩ := PI_open j1 (o' := o) ho4
                have n4 := n2.trans (j2.trans (i2.trans hO))
                refine v_iload_n C dX10_opens_386 rfl ?_
                refine v_bipush (v := nI 10) C dX10_opens_387 (by decide) ?_
                refine v_icmp_ne (tgt := 405) C dX10_opens_389 (by decide) (fun c_389 => ?_) (fun c_389 => ?_)
                · skip
                  refine v_aload_n C dX10_opens_405 rfl ?_
                  refine v_iload C dX10_opens_406 rfl ?_
                  refine v_callV (As := [_]) (n := 1) C (rt_X10_fails l m0 ad _ _ K0 (f + 1) o nn) rfl hk.1 (by decide) rfl ⟨wd854, wd855, wd856, wd5, wd857⟩ ⟨rfl, hy_X10_fails⟩ rfl ⟨Nat.le_of_ble_eq_true rfl, Nat.le_of_ble_eq_true rfl⟩ (Nat.le_of_ble_eq_true rfl) ⟨Nat.le_of_ble_eq_true rfl, Nat.le_of_ble_eq_true rfl⟩ dX10_opens_408 ⟨rfl, hk, n1, n4, (by omega)⟩ (fun r_408 S14_408 h_408 => ?_)
                  obtain ⟨v408, K408, rfl, hk', x_408, p_v408⟩ := h_408
                  have E0 := exm_tr E0 x_408
                  have hk := hk'
                  clear hk'
                  obtain ⟨d', o', e1, e2, e3, e4⟩ := p_v408
                  refine v_iret C hr (Nat.le_of_ble_eq_true rfl) (Nat.le_of_ble_eq_true rfl) dX10_opens_411 ?_
                  exact ⟨_, _, rfl, hk, E0, (⟨_, _, e1, e2, by omega⟩)⟩
                · skip
                  refine v_aload_n C dX10_opens_392 rfl ?_
                  refine v_ldc2 (v := (-10)) C wd858 dX10_opens_393 ?_
                  refine v_iload C dX10_opens_396 rfl ?_
                  refine v_i2l C dX10_opens_398 ?_
                  refine v_lsub C dX10_opens_399 ?_
                  refine w10_262 C hk dX10_opens_400 (fun S14_400 hk' x_400 => ?_)
                  have E0 := exm_tr E0 x_400
                  have hk := hk'
                  clear hk'
                  refine v_iconst (v := nI 0) C dX10_opens_403 (by decide) ?_
                  refine v_iret C hr (Nat.le_of_ble_eq_true rfl) (Nat.le_of_ble_eq_true rfl) dX10_opens_404 ?_
                  exact ⟨_, _, rfl, hk, E0, (then_q ⟨_, _, n1, n4, by omega⟩ (quiet_wJ quiet_rfl (by decide)))⟩
              · skip
                exact absurd c_371 (by decide)
            · skip
              exact absurd c_292 (by decide)
          · skip
            exact absurd c_270 (by decide)
      by_cases k_8 : kd = 8
      · skip
        refine v_tableIn (off := 241) (tgt := 312) C dX10_opens_71 (by rw [k_8]; decide) (by rw [k_8]; decide) (by rw [k_8]; rfl) (by decide) ?_
        obtain ⟨j, hj, rfl⟩ := hb k_8
        refine v_aload_n C dX10_opens_312 rfl ?_
        refine v_iload_n C dX10_opens_313 rfl ?_
        refine v_callV (As := [_]) (n := 1) C (rt_X10_isCharacter l m0 ad _ _) rfl hk.1 (by decide) rfl ⟨wd334, wd335, wd336, wd5, wd337⟩ ⟨rfl, hy_X10_isCharacter⟩ rfl ⟨Nat.le_of_ble_eq_true rfl, Nat.le_of_ble_eq_true rfl⟩ (Nat.le_of_ble_eq_true rfl) ⟨Nat.le_of_ble_eq_true rfl, Nat.le_of_ble_eq_true rfl⟩ dX10_opens_314 ⟨rfl, hk, rv2⟩ (fun r_314 S4_314 h_314 => ?_)
        obtain ⟨v314, rfl, p_v314, q_v314⟩ := h_314
        obtain rfl := q_v314.symm
        refine b_if_eq (tgt := 332) C dX10_opens_317 (by decide) (fun c_317 => ?_) (fun c_317 => ?_)
        · skip
          refine v_iconst (v := nI 4) C dX10_opens_332 (by decide) ?_
          refine v_istore C dX10_opens_333 (by decide) rfl ?_
          refine v_iload C dX10_opens_335 rfl ?_
          refine v_if_ne (tgt := 369) C dX10_opens_337 (by decide) (fun c_337 => ?_) (fun c_337 => ?_)
          · skip
            refine v_iload C dX10_opens_369 rfl ?_
            refine v_if_ne (tgt := 376) C dX10_opens_371 (by decide) (fun c_371 => ?_) (fun c_371 => ?_)
            · skip
              refine v_aload_n C dX10_opens_376 rfl ?_
              refine v_dup C dX10_opens_377 rfl ?_
              refine q10_243 C hk dX10_opens_378 ?_
              refine v_val k47 ?_
              refine v_iconst (v := nI 1) C dX10_opens_381 (by decide) ?_
              refine n_isub C (by omega) dX10_opens_382 ?_
              refine v_val (y := nI o) rfl ?_
              refine w10_243 C hk dX10_opens_383 (fun S10_383 hk' x_383 => ?_)
              have E0 := exm_tr E0 x_383
              have hk := hk'
              clear hk'
              obtain ⟨n1, n2, n3⟩ := PI_open j1 (o' := o) ho4
              have n4 := n2.trans (j2.trans (i2.trans hO))
              refine v_iload_n C dX10_opens_386 rfl ?_
              refine v_bipush (v := nI 10) C dX10_opens_387 (by decide) ?_
              refine v_icmp_ne (tgt := 405) C dX10_opens_389 (by decide) (fun c_389 => ?_) (fun c_389 => ?_)
              · skip
                refine v_aload_n C dX10_opens_405 rfl ?_
                refine v_iload C dX10_opens_406 rfl ?_
                refine v_callV (As := [_]) (n := 1) C (rt_X10_fails l m0 ad _ _ K0 (f + 1) o nn) rfl hk.1 (by decide) rfl ⟨wd854, wd855, wd856, wd5, wd857⟩ ⟨rfl, hy_X10_fails⟩ rfl ⟨Nat.le_of_ble_eq_true rfl, Nat.le_of_ble_eq_true rfl⟩ (Nat.le_of_ble_eq_true rfl) ⟨Nat.le_of_ble_eq_true rfl, Nat.le_of_ble_eq_true rfl⟩ dX10_opens_408 ⟨rfl, hk, n1, n4, (by omega)⟩ (fun r_408 S12_408 h_408 => ?_)
                obtain ⟨v408, K408, rfl, hk', x_408, p_v408⟩ := h_408
                have E0 := exm_tr E0 x_408
                have hk := hk'
                clear hk'
                obtain ⟨d', o', e1, e2, e3, e4⟩ := p_v408
                refine v_iret C hr (Nat.le_of_ble_eq_true rfl) (Nat.le_of_ble_eq_true rfl) dX10_opens_411 ?_
                exact ⟨_, _, rfl, hk, E0, (⟨_, _, e1, e2, by omega⟩)⟩
              · skip
                refine v_aload_n C dX10_opens_392 rfl ?_
                refine v_ldc2 (v := (-10)) C wd858 dX10_opens_393 ?_
                refine v_iload C dX10_opens_396 rfl ?_
                refine v_i2l C dX10_opens_398 ?_
                refine v_lsub C dX10_opens_399 ?_
                refine w10_262 C hk dX10_opens_400 (fun S12_400 hk' x_400 => ?_)
                have E0 := exm_tr E0 x_400
                have hk := hk'
                clear hk'
                refine v_iconst (v := nI 0) C dX10_opens_403 (by decide) ?_
                refine v_iret C hr (Nat.le_of_ble_eq_true rfl) (Nat.le_of_ble_eq_true rfl) dX10_opens_404 ?_
                exact ⟨_, _, rfl, hk, E0, (then_q ⟨_, _, n1, n4, by omega⟩ (quiet_wJ quiet_rfl (by decide)))⟩
            · skip
              exact absurd c_371 (by decide)
          · skip
            exact absurd c_337 (by decide)
        · skip
          obtain ⟨w, hw0, rfl⟩ := below_some (p_v314.symm.trans c_317)
          have hw : w < 12 := by have := rv.p2.2; omega
          refine v_aload_n C dX10_opens_320 rfl ?_
          refine v_iload_n C dX10_opens_321 rfl ?_
          refine v_iload C dX10_opens_322 rfl ?_
          refine v_iload C dX10_opens_324 rfl ?_
          refine v_callV (As := [_, _, _]) (n := 3) C (rt_X10_against l m0 ad _ _ _ _) rfl hk.1 (by decide) rfl ⟨wd834, wd835, wd836, wd5, wd837⟩ ⟨rfl, hy_X10_against⟩ rfl ⟨Nat.le_of_ble_eq_true rfl, Nat.le_of_ble_eq_true rfl⟩ (Nat.le_of_ble_eq_true rfl) ⟨Nat.le_of_ble_eq_true rfl, Nat.le_of_ble_eq_true rfl⟩ dX10_opens_326 ⟨rfl, hk, rv2, hw, hj, (Or.inr ⟨u, hu, rfl⟩)⟩ (fun r_326 S6_326 h_326 => ?_)
          obtain ⟨v326, rfl, p_v326, b_v326, q_v326⟩ := h_326
          obtain rfl := q_v326.symm
          obtain ⟨bw1, bw2⟩ := b_v326
          refine v_goto (tgt := 333) C dX10_opens_329 (by decide) ?_
          refine v_istore C dX10_opens_333 (by decide) rfl ?_
          refine v_iload C dX10_opens_335 rfl ?_
          refine n_if_ne (tgt := 369) C (by omega) dX10_opens_337 (by decide) (fun c_337 => ?_) (fun c_337 => ?_)
          · skip
            refine v_iload C dX10_opens_369 rfl ?_
            refine n_if_ne (tgt := 376) C (by omega) dX10_opens_371 (by decide) (fun c_371 => ?_) (fun c_371 => ?_)
            · skip
              refine v_aload_n C dX10_opens_376 rfl ?_
              refine v_dup C dX10_opens_377 rfl ?_
              refine q10_243 C hk dX10_opens_378 ?_
              refine v_val k47 ?_
              refine v_iconst (v := nI 1) C dX10_opens_381 (by decide) ?_
              refine n_isub C (by omega) dX10_opens_382 ?_
              refine v_val (y := nI o) rfl ?_
              refine w10_243 C hk dX10_opens_383 (fun S10_383 hk' x_383 => ?_)
              have E0 := exm_tr E0 x_383
              have hk := hk'
              clear hk'
              obtain ⟨n1, n2, n3⟩ := PI_open j1 (o' := o) ho4
              have n4 := n2.trans (j2.trans (i2.trans hO))
              refine v_iload_n C dX10_opens_386 rfl ?_
              refine v_bipush (v := nI 10) C dX10_opens_387 (by decide) ?_
              refine v_icmp_ne (tgt := 405) C dX10_opens_389 (by decide) (fun c_389 => ?_) (fun c_389 => ?_)
              · skip
                refine v_aload_n C dX10_opens_405 rfl ?_
                refine v_iload C dX10_opens_406 rfl ?_
                refine v_callV (As := [_]) (n := 1) C (rt_X10_fails l m0 ad _ _ K0 (f + 1) o nn) rfl hk.1 (by decide) rfl ⟨wd854, wd855, wd856, wd5, wd857⟩ ⟨rfl, hy_X10_fails⟩ rfl ⟨Nat.le_of_ble_eq_true rfl, Nat.le_of_ble_eq_true rfl⟩ (Nat.le_of_ble_eq_true rfl) ⟨Nat.le_of_ble_eq_true rfl, Nat.le_of_ble_eq_true rfl⟩ dX10_opens_408 ⟨rfl, hk, n1, n4, (by omega)⟩ (fun r_408 S12_408 h_408 => ?_)
                obtain ⟨v408, K408, rfl, hk', x_408, p_v408⟩ := h_408
                have E0 := exm_tr E0 x_408
                have hk := hk'
                clear hk'
                obtain ⟨d', o', e1, e2, e3, e4⟩ := p_v408
                refine v_iret C hr (Nat.le_of_ble_eq_true rfl) (Nat.le_of_ble_eq_true rfl) dX10_opens_411 ?_
                exact ⟨_, _, rfl, hk, E0, (⟨_, _, e1, e2, by omega⟩)⟩
              · skip
                refine v_aload_n C dX10_opens_392 rfl ?_
                refine v_ldc2 (v := (-10)) C wd858 dX10_opens_393 ?_
                refine v_iload C dX10_opens_396 rfl ?_
                refine v_i2l C dX10_opens_398 ?_
                refine v_lsub C dX10_opens_399 ?_
                refine w10_262 C hk dX10_opens_400 (fun S12_400 hk' x_400 => ?_)
                have E0 := exm_tr E0 x_400
                have hk := hk'
                clear hk'
                refine v_iconst (v := nI 0) C dX10_opens_403 (by decide) ?_
                refine v_iret C hr (Nat.le_of_ble_eq_true rfl) (Nat.le_of_ble_eq_true rfl) dX10_opens_404 ?_
                exact ⟨_, _, rfl, hk, E0, (then_q ⟨_, _, n1, n4, by omega⟩ (quiet_wJ quiet_rfl (by decide)))⟩
            · skip
              omega
          · skip
            subst c_337
            have hcj := bw2 rfl
            rw [chooseF_pk j1.1] at hcj
            have hfin := push_L (L := 0) j1 hO2 (show w < fN K0 3 by omega) hj hcj (Nat.zero_le _) hP2
            refine v_aload_n C dX10_opens_340 rfl ?_
            refine v_iload_n C dX10_opens_341 rfl ?_
            refine v_iload C dX10_opens_342 rfl ?_
            refine v_iconst (v := nI 0) C dX10_opens_344 (by decide) ?_
            refine v_iconst (v := nI 1) C dX10_opens_345 (by decide) ?_
            refine v_callV (As := [_, _, _, _]) (n := 4) C (rt_X10_pushLayer l m0 ad _ _ _ _ true (f + 1)) rfl hk.1 (by decide) rfl ⟨wd838, wd839, wd840, wd5, wd841⟩ ⟨rfl, hy_X10_pushLayer⟩ rfl ⟨Nat.le_of_ble_eq_true rfl, Nat.le_of_ble_eq_true rfl⟩ (Nat.le_of_ble_eq_true rfl) ⟨Nat.le_of_ble_eq_true rfl, Nat.le_of_ble_eq_true rfl⟩ dX10_opens_346 ⟨rfl, hk, ⟨k42, hf2⟩⟩ (fun r_346 S8_346 h_346 => ?_)
            obtain ⟨K346, rfl, hk', x_346, p_v346⟩ := h_346
            have E0 := exm_tr E0 x_346
            have hk := hk'
            clear hk'
            subst p_v346
            refine v_goto (tgt := 369) C dX10_opens_349 (by decide) ?_
            refine v_iload C dX10_opens_369 rfl ?_
            refine n_if_ne (tgt := 376) C (by omega) dX10_opens_371 (by decide) (fun c_371 => ?_) (fun c_371 => ?_)
            · skip
              exact absurd c_371 (Nat.lt_irrefl _)
            · skip
              refine v_iconst (v := nI 0) C dX10_opens_374 (by decide) ?_
              refine v_iret C hr (Nat.le_of_ble_eq_true rfl) (Nat.le_of_ble_eq_true rfl) dX10_opens_375 ?_
              exact ⟨_, _, rfl, hk, E0, (hfin)⟩
      by_cases k_9 : kd = 9
      · skip
        refine v_tableIn (off := 281) (tgt := 352) C dX10_opens_71 (by rw [k_9]; decide) (by rw [k_9]; decide) (by rw [k_9]; rfl) (by decide) ?_
        refine v_aload_n C dX10_opens_352 rfl ?_
        refine v_iload C dX10_opens_353 rfl ?_
        refine v_iload C dX10_opens_355 rfl ?_
        refine v_aload_n C dX10_opens_357 rfl ?_
        refine q10_118 C hk dX10_opens_358 ?_
        refine v_iload_n C dX10_opens_361 rfl ?_
        refine n_iald C hk (show (38, 11, 2000) ∈ mTab by decide +kernel) (by omega) dX10_opens_362 ?_
        refine v_val (y := oI lo) ((kA 38 f).trans a38) ?_
        refine v_iconst (v := nI 1) C dX10_opens_363 (by decide) ?_
        refine v_iadd C dX10_opens_364 ?_
        refine v_val (y := nI (nxl lo)) (oI_inc lo) ?_
        refine v_iconst (v := nI 1) C dX10_opens_365 (by decide) ?_
        have hx20 : nxl lo ≤ 20 := nxl_le hlo (by omega)
        have hfin := push_L (L := nxl lo) j1 hO2 hu0 hn hc hx20 hP2
        refine v_callV (As := [_, _, _, _]) (n := 4) C (rt_X10_pushLayer l m0 ad _ _ _ _ true (f + 1)) rfl hk.1 (by decide) rfl ⟨wd838, wd839, wd840, wd5, wd841⟩ ⟨rfl, hy_X10_pushLayer⟩ rfl ⟨Nat.le_of_ble_eq_true rfl, Nat.le_of_ble_eq_true rfl⟩ (Nat.le_of_ble_eq_true rfl) ⟨Nat.le_of_ble_eq_true rfl, Nat.le_of_ble_eq_true rfl⟩ dX10_opens_366 ⟨rfl, hk, ⟨k42, hf2⟩⟩ (fun r_366 S4_366 h_366 => ?_)
        obtain ⟨K366, rfl, hk', x_366, p_v366⟩ := h_366
        have E0 := exm_tr E0 x_366
        have hk := hk'
        clear hk'
        subst p_v366
        refine v_iload C dX10_opens_369 rfl ?_
        refine v_if_ne (tgt := 376) C dX10_opens_371 (by decide) (fun c_371 => ?_) (fun c_371 => ?_)
        · skip
          exact absurd c_371 (by decide)
        · skip
          refine v_iconst (v := nI 0) C dX10_opens_374 (by decide) ?_
          refine v_iret C hr (Nat.le_of_ble_eq_true rfl) (Nat.le_of_ble_eq_true rfl) dX10_opens_375 ?_
          exact ⟨_, _, rfl, hk, E0, (hfin)⟩
      by_cases k_10 : kd = 10
      · skip
        refine v_tableIn (off := 37) (tgt := 108) C dX10_opens_71 (by rw [k_10]; decide) (by rw [k_10]; decide) (by rw [k_10]; rfl) (by decide) ?_
        obtain ⟨j, hj, rfl⟩ := ha (Or.inr k_10)
        refine v_aload_n C dX10_opens_108 rfl ?_
        refine v_iload C dX10_opens_109 rfl ?_
        refine v_iload_n C dX10_opens_111 rfl ?_
        refine v_iconst (v := -1) C dX10_opens_112 (by decide) ?_
        refine v_callV (As := [_, _, _]) (n := 3) C (rt_X10_against l m0 ad _ _ _ _) rfl hk.1 (by decide) rfl ⟨wd834, wd835, wd836, wd5, wd837⟩ ⟨rfl, hy_X10_against⟩ rfl ⟨Nat.le_of_ble_eq_true rfl, Nat.le_of_ble_eq_true rfl⟩ (Nat.le_of_ble_eq_true rfl) ⟨Nat.le_of_ble_eq_true rfl, Nat.le_of_ble_eq_true rfl⟩ dX10_opens_113 ⟨rfl, hk, rv2, hu, hj, (Or.inl rfl)⟩ (fun r_113 S4_113 h_113 => ?_)
        obtain ⟨v113, rfl, p_v113, b_v113, q_v113⟩ := h_113
        obtain rfl := q_v113.symm
        obtain ⟨bw1, bw2⟩ := b_v113
        refine v_istore C dX10_opens_116 (by decide) rfl ?_
        refine v_iload C dX10_opens_118 rfl ?_
        refine n_if_ne (tgt := 369) C (by omega) dX10_opens_120 (by decide) (fun c_120 => ?_) (fun c_120 => ?_)
        · skip
          refine v_iload C dX10_opens_369 rfl ?_
          refine n_if_ne (tgt := 376) C (by omega) dX10_opens_371 (by decide) (fun c_371 => ?_) (fun c_371 => ?_)
          · skip
            refine v_aload_n C dX10_opens_376 rfl ?_
            refine v_dup C dX10_opens_377 rfl ?_
            refine q10_243 C hk dX10_opens_378 ?_
            refine v_val k47 ?_
            refine v_iconst (v := nI 1) C dX10_opens_381 (by decide) ?_
            refine n_isub C (by omega) dX10_opens_382 ?_
            refine v_val (y := nI o) rfl ?_
            refine w10_243 C hk dX10_opens_383 (fun S8_383 hk' x_383 => ?_)
            have E0 := exm_tr E0 x_383
            have hk := hk'
            clear hk'
            obtain ⟨n1, n2, n3⟩ := PI_open j1 (o' := o) ho4
            have n4 := n2.trans (j2.trans (i2.trans hO))
            refine v_iload_n C dX10_opens_386 rfl ?_
            refine v_bipush (v := nI 10) C dX10_opens_387 (by decide) ?_
            refine v_icmp_ne (tgt := 405) C dX10_opens_389 (by decide) (fun c_389 => ?_) (fun c_389 => ?_)
            · skip
              refine v_aload_n C dX10_opens_405 rfl ?_
              refine v_iload C dX10_opens_406 rfl ?_
              refine v_callV (As := [_]) (n := 1) C (rt_X10_fails l m0 ad _ _ K0 (f + 1) o nn) rfl hk.1 (by decide) rfl ⟨wd854, wd855, wd856, wd5, wd857⟩ ⟨rfl, hy_X10_fails⟩ rfl ⟨Nat.le_of_ble_eq_true rfl, Nat.le_of_ble_eq_true rfl⟩ (Nat.le_of_ble_eq_true rfl) ⟨Nat.le_of_ble_eq_true rfl, Nat.le_of_ble_eq_true rfl⟩ dX10_opens_408 ⟨rfl, hk, n1, n4, (by omega)⟩ (fun r_408 S10_408 h_408 => ?_)
              obtain ⟨v408, K408, rfl, hk', x_408, p_v408⟩ := h_408
              have E0 := exm_tr E0 x_408
              have hk := hk'
              clear hk'
              obtain ⟨d', o', e1, e2, e3, e4⟩ := p_v408
              refine v_iret C hr (Nat.le_of_ble_eq_true rfl) (Nat.le_of_ble_eq_true rfl) dX10_opens_411 ?_
              exact ⟨_, _, rfl, hk, E0, (⟨_, _, e1, e2, by omega⟩)⟩
            · skip
              refine v_aload_n C dX10_opens_392 rfl ?_
              refine v_ldc2 (v := (-10)) C wd858 dX10_opens_393 ?_
              refine v_iload C dX10_opens_396 rfl ?_
              refine v_i2l C dX10_opens_398 ?_
              refine v_lsub C dX10_opens_399 ?_
              refine w10_262 C hk dX10_opens_400 (fun S10_400 hk' x_400 => ?_)
              have E0 := exm_tr E0 x_400
              have hk := hk'
              clear hk'
              refine v_iconst (v := nI 0) C dX10_opens_403 (by decide) ?_
              refine v_iret C hr (Nat.le_of_ble_eq_true rfl) (Nat.le_of_ble_eq_true rfl) dX10_opens_404 ?_
              exact ⟨_, _, rfl, hk, E0, (then_q ⟨_, _, n1, n4, by omega⟩ (quiet_wJ quiet_rfl (by decide)))⟩
          · skip
            omega
        · skip
          subst c_120
          have hcj := bw2 rfl
          rw [chooseF_pk j1.1] at hcj
          have hfin := push_L (L := 0) j1 hO2 hu0 hj hcj (Nat.zero_le _) hP2
          refine v_aload_n C dX10_opens_123 rfl ?_
          refine v_iload C dX10_opens_124 rfl ?_
          refine v_iload_n C dX10_opens_126 rfl ?_
          refine v_iconst (v := nI 0) C dX10_opens_127 (by decide) ?_
          refine v_iconst (v := nI 1) C dX10_opens_128 (by decide) ?_
          refine v_callV (As := [_, _, _, _]) (n := 4) C (rt_X10_pushLayer l m0 ad _ _ _ _ true (f + 1)) rfl hk.1 (by decide) rfl ⟨wd838, wd839, wd840, wd5, wd841⟩ ⟨rfl, hy_X10_pushLayer⟩ rfl ⟨Nat.le_of_ble_eq_true rfl, Nat.le_of_ble_eq_true rfl⟩ (Nat.le_of_ble_eq_true rfl) ⟨Nat.le_of_ble_eq_true rfl, Nat.le_of_ble_eq_true rfl⟩ dX10_opens_129 ⟨rfl, hk, ⟨k42, hf2⟩⟩ (fun r_129 S6_129 h_129 => ?_)
          obtain ⟨K129, rfl, hk', x_129, p_v129⟩ := h_129
          have E0 := exm_tr E0 x_129
          have hk := hk'
          clear hk'
          subst p_v129
          refine v_aload_n C dX10_opens_132 rfl ?_
          refine q10_127 C hk dX10_opens_133 ?_
          refine v_aload_n C dX10_opens_136 rfl ?_
          refine q10_236 C hk dX10_opens_137 ?_
          refine v_val (y := nI (f + 1 + 1)) rfl ?_
          refine v_iconst (v := nI 1) C dX10_opens_140 (by decide) ?_
          refine n_isub C (by omega) dX10_opens_141 ?_
          refine v_val (y := nI (f + 1)) rfl ?_
          refine v_iload_n C dX10_opens_142 rfl ?_
          refine v_bipush (v := nI 10) C dX10_opens_143 (by decide) ?_
          refine v_icmp_ne (tgt := 152) C dX10_opens_145 (by decide) (fun c_145 => ?_) (fun c_145 => ?_)
          · skip
            refine v_iconst (v := nI 0) C dX10_opens_152 (by decide) ?_
            refine n_zast C hk (show (41, 13, 2000) ∈ mTab by decide +kernel) hf2 (by first | rfl | exact vp_bI _) dX10_opens_153 (fun S8_153 hk' x_153 => ?_)
            have E0 := exm_tr E0 x_153
            have hk := hk'
            clear hk'
            refine v_goto (tgt := 369) C dX10_opens_154 (by decide) ?_
            refine v_iload C dX10_opens_369 rfl ?_
            refine n_if_ne (tgt := 376) C (by omega) dX10_opens_371 (by decide) (fun c_371 => ?_) (fun c_371 => ?_)
            · skip
              exact absurd c_371 (Nat.lt_irrefl _)
            · skip
              refine v_iconst (v := nI 0) C dX10_opens_374 (by decide) ?_
              refine v_iret C hr (Nat.le_of_ble_eq_true rfl) (Nat.le_of_ble_eq_true rfl) dX10_opens_375 ?_
              exact ⟨_, _, rfl, hk, E0, (then_q hfin (quiet_wA quiet_rfl (by decide) (by decide)))⟩
          · skip
            refine v_iconst (v := nI 1) C dX10_opens_148 (by decide) ?_
            refine v_goto (tgt := 153) C dX10_opens_149 (by decide) ?_
            refine n_zast C hk (show (41, 13, 2000) ∈ mTab by decide +kernel) hf2 (by first | rfl | exact vp_bI _) dX10_opens_153 (fun S8_153 hk' x_153 => ?_)
            have E0 := exm_tr E0 x_153
            have hk := hk'
            clear hk'
            refine v_goto (tgt := 369) C dX10_opens_154 (by decide) ?_
            refine v_iload C dX10_opens_369 rfl ?_
            refine n_if_ne (tgt := 376) C (by omega) dX10_opens_371 (by decide) (fun c_371 => ?_) (fun c_371 => ?_)
            · skip
              exact absurd c_371 (Nat.lt_irrefl _)
            · skip
              refine v_iconst (v := nI 0) C dX10_opens_374 (by decide) ?_
              refine v_iret C hr (Nat.le_of_ble_eq_true rfl) (Nat.le_of_ble_eq_true rfl) dX10_opens_375 ?_
              exact ⟨_, _, rfl, hk, E0, (then_q hfin (quiet_wA quiet_rfl (by decide) (by decide)))⟩
      refine v_tableOut (tgt := 352) C dX10_opens_71 (by have q5 := lv_neT k_5 (a := 5) rfl ; have q6 := lv_neT k_6 (a := 6) rfl ; have q7 := lv_neT k_7 (a := 7) rfl ; have q8 := lv_neT k_8 (a := 8) rfl ; have q9 := lv_neT k_9 (a := 9) rfl ; have q10 := lv_neT k_10 (a := 10) rfl ; omega) (by decide) ?_
      refine v_aload_n C dX10_opens_352 rfl ?_
      refine v_iload C dX10_opens_353 rfl ?_
      refine v_iload C dX10_opens_355 rfl ?_
      refine v_aload_n C dX10_opens_357 rfl ?_
      refine q10_118 C hk dX10_opens_358 ?_
      refine v_iload_n C dX10_opens_361 rfl ?_
      refine n_iald C hk (show (38, 11, 2000) ∈ mTab by decide +kernel) (by omega) dX10_opens_362 ?_
      refine v_val (y := oI lo) ((kA 38 f).trans a38) ?_
      refine v_iconst (v := nI 1) C dX10_opens_363 (by decide) ?_
      refine v_iadd C dX10_opens_364 ?_
      refine v_val (y := nI (nxl lo)) (oI_inc lo) ?_
      refine v_iconst (v := nI 1) C dX10_opens_365 (by decide) ?_
      have hx20 : nxl lo ≤ 20 := nxl_le hlo (by omega)
      have hfin := push_L (L := nxl lo) j1 hO2 hu0 hn hc hx20 hP2
      refine v_callV (As := [_, _, _, _]) (n := 4) C (rt_X10_pushLayer l m0 ad _ _ _ _ true (f + 1)) rfl hk.1 (by decide) rfl ⟨wd838, wd839, wd840, wd5, wd841⟩ ⟨rfl, hy_X10_pushLayer⟩ rfl ⟨Nat.le_of_ble_eq_true rfl, Nat.le_of_ble_eq_true rfl⟩ (Nat.le_of_ble_eq_true rfl) ⟨Nat.le_of_ble_eq_true rfl, Nat.le_of_ble_eq_true rfl⟩ dX10_opens_366 ⟨rfl, hk, ⟨k42, hf2⟩⟩ (fun r_366 S2_366 h_366 => ?_)
      obtain ⟨K366, rfl, hk', x_366, p_v366⟩ := h_366
      have E0 := exm_tr E0 x_366
      have hk := hk'
      clear hk'
      subst p_v366
      refine v_iload C dX10_opens_369 rfl ?_
      refine v_if_ne (tgt := 376) C dX10_opens_371 (by decide) (fun c_371 => ?_) (fun c_371 => ?_)
      · skip
        exact absurd c_371 (by decide)
      · skip
        refine v_iconst (v := nI 0) C dX10_opens_374 (by decide) ?_
        refine v_iret C hr (Nat.le_of_ble_eq_true rfl) (Nat.le_of_ble_eq_true rfl) dX10_opens_375 ?_
        exact ⟨_, _, rfl, hk, E0, (hfin)⟩
    · skip
      refine v_aload_n C dX10_opens_41 rfl ?_
      refine v_aload_n C dX10_opens_42 rfl ?_
      refine q10_243 C hk dX10_opens_43 ?_
      refine v_val (y := nI (o + 1)) rfl ?_
      refine v_aload_n C dX10_opens_46 rfl ?_
      refine q10_272 C hk dX10_opens_47 ?_
      refine v_icmp_le (tgt := 60) C dX10_opens_50 (by decide) (fun c_50 => ?_) (fun c_50 => ?_)
      · skip
        refine v_aload_n C dX10_opens_60 rfl ?_
        refine q10_272 C hk dX10_opens_61 ?_
        exact k64 _
      · skip
        refine v_aload_n C dX10_opens_53 rfl ?_
        refine q10_243 C hk dX10_opens_54 ?_
        refine v_goto (tgt := 64) C dX10_opens_57 (by decide) ?_
        exact k64 _
  · skip
    refine v_aload_n C dX10_opens_25 rfl ?_
    refine v_iconst (v := nI 2) C dX10_opens_26 (by decide) ?_
    refine v_callV (As := [_]) (n := 1) C (rt_X10_fails l m0 ad _ _ K0 (f + 1) o nn) rfl hk.1 (by decide) rfl ⟨wd854, wd855, wd856, wd5, wd857⟩ ⟨rfl, hy_X10_fails⟩ rfl ⟨Nat.le_of_ble_eq_true rfl, Nat.le_of_ble_eq_true rfl⟩ (Nat.le_of_ble_eq_true rfl) ⟨Nat.le_of_ble_eq_true rfl, Nat.le_of_ble_eq_true rfl⟩ dX10_opens_27 ⟨rfl, hk, hp, hO, (by decide)⟩ (fun r_27 S4_27 h_27 => ?_)
    obtain ⟨v27, K27, rfl, hk', x_27, p_v27⟩ := h_27
    have E0 := exm_tr E0 x_27
    have hk := hk'
    clear hk'
    obtain ⟨d', o', e1, e2, e3, e4⟩ := p_v27
    have hfin : ∃ d' o', PI K0 K27 d' o' nn ∧ opO K27 d' = o' ∧ potS K27 d' ≤ potS K (f + 1) + 250 := ⟨_, _, e1, e2, by omega⟩
    refine v_iret C hr (Nat.le_of_ble_eq_true rfl) (Nat.le_of_ble_eq_true rfl) dX10_opens_30 ?_
    exact ⟨_, _, rfl, hk, E0, (hfin)⟩
