theorem does_end {K0 K1 K' : RS} {d1 o1 nn nn1 P : Nat} (h : PI K0 K1 d1 o1 nn1) (hO : opO K1 d1 = o1) (hS : 300 * (600 - nn1) + potS K1 d1 < 300 * (600 - nn) + P) (q : quiet K1 K') : ∃ d' o' n', PI K0 K' d' o' n' ∧ opO K' d' = o' ∧ 300 * (600 - n') + potS K' d' < 300 * (600 - nn) + P := by
  obtain ⟨e1, e2, e3⟩ := PI_quiet h q
  exact ⟨_, _, _, e1, e2.trans hO, by omega⟩
theorem dX10_does_0 : decode cX10_does 0 = .ok (.aload_n 0, 1) := by decide +kernel
theorem dX10_does_1 : decode cX10_does 1 = .ok (.getfield 115, 3) := by decide +kernel
theorem dX10_does_4 : decode cX10_does 4 = .ok (.iload_n 1, 1) := by decide +kernel
theorem dX10_does_5 : decode cX10_does 5 = .ok (.iaload, 1) := by decide +kernel
theorem dX10_does_6 : decode cX10_does 6 = .ok (.aload_n 0, 1) := by decide +kernel
theorem dX10_does_7 : decode cX10_does 7 = .ok (.getfield 51, 3) := by decide +kernel
theorem dX10_does_10 : decode cX10_does 10 = .ok (.aload_n 0, 1) := by decide +kernel
theorem dX10_does_11 : decode cX10_does 11 = .ok (.getfield 109, 3) := by decide +kernel
theorem dX10_does_14 : decode cX10_does 14 = .ok (.iload_n 1, 1) := by decide +kernel
theorem dX10_does_15 : decode cX10_does 15 = .ok (.iaload, 1) := by decide +kernel
theorem dX10_does_16 : decode cX10_does 16 = .ok (.iaload, 1) := by decide +kernel
theorem dX10_does_17 : decode cX10_does 17 = .ok (.if_icmp .lt 9, 3) := by decide +kernel
theorem dX10_does_20 : decode cX10_does 20 = .ok (.aload_n 0, 1) := by decide +kernel
theorem dX10_does_21 : decode cX10_does 21 = .ok (.invokevirtual 246, 3) := by decide +kernel
theorem dX10_does_24 : decode cX10_does 24 = .ok (.iconst 0, 1) := by decide +kernel
theorem dX10_does_25 : decode cX10_does 25 = .ok (.ireturn, 1) := by decide +kernel
theorem dX10_does_26 : decode cX10_does 26 = .ok (.aload_n 0, 1) := by decide +kernel
theorem dX10_does_27 : decode cX10_does 27 = .ok (.getfield 281, 3) := by decide +kernel
theorem dX10_does_30 : decode cX10_does 30 = .ok (.sipush 600, 3) := by decide +kernel
theorem dX10_does_33 : decode cX10_does 33 = .ok (.if_icmp .ne 10, 3) := by decide +kernel
theorem dX10_does_36 : decode cX10_does 36 = .ok (.aload_n 0, 1) := by decide +kernel
theorem dX10_does_37 : decode cX10_does 37 = .ok (.bipush 6, 2) := by decide +kernel
theorem dX10_does_39 : decode cX10_does 39 = .ok (.invokevirtual 269, 3) := by decide +kernel
theorem dX10_does_42 : decode cX10_does 42 = .ok (.ireturn, 1) := by decide +kernel
theorem dX10_does_43 : decode cX10_does 43 = .ok (.bipush 8, 2) := by decide +kernel
theorem dX10_does_45 : decode cX10_does 45 = .ok (.aload_n 0, 1) := by decide +kernel
theorem dX10_does_46 : decode cX10_does 46 = .ok (.getfield 109, 3) := by decide +kernel
theorem dX10_does_49 : decode cX10_does 49 = .ok (.iload_n 1, 1) := by decide +kernel
theorem dX10_does_50 : decode cX10_does 50 = .ok (.iaload, 1) := by decide +kernel
theorem dX10_does_51 : decode cX10_does 51 = .ok (.imul, 1) := by decide +kernel
theorem dX10_does_52 : decode cX10_does 52 = .ok (.aload_n 0, 1) := by decide +kernel
theorem dX10_does_53 : decode cX10_does 53 = .ok (.getfield 115, 3) := by decide +kernel
theorem dX10_does_56 : decode cX10_does 56 = .ok (.iload_n 1, 1) := by decide +kernel
theorem dX10_does_57 : decode cX10_does 57 = .ok (.iaload, 1) := by decide +kernel
theorem dX10_does_58 : decode cX10_does 58 = .ok (.iadd, 1) := by decide +kernel
theorem dX10_does_59 : decode cX10_does 59 = .ok (.istore_n 2, 1) := by decide +kernel
theorem dX10_does_60 : decode cX10_does 60 = .ok (.aload_n 0, 1) := by decide +kernel
theorem dX10_does_61 : decode cX10_does 61 = .ok (.getfield 115, 3) := by decide +kernel
theorem dX10_does_64 : decode cX10_does 64 = .ok (.iload_n 1, 1) := by decide +kernel
theorem dX10_does_65 : decode cX10_does 65 = .ok (.dup2, 1) := by decide +kernel
theorem dX10_does_66 : decode cX10_does 66 = .ok (.iaload, 1) := by decide +kernel
theorem dX10_does_67 : decode cX10_does 67 = .ok (.iconst 1, 1) := by decide +kernel
theorem dX10_does_68 : decode cX10_does 68 = .ok (.iadd, 1) := by decide +kernel
theorem dX10_does_69 : decode cX10_does 69 = .ok (.iastore, 1) := by decide +kernel
theorem dX10_does_70 : decode cX10_does 70 = .ok (.aload_n 0, 1) := by decide +kernel
theorem dX10_does_71 : decode cX10_does 71 = .ok (.dup, 1) := by decide +kernel
theorem dX10_does_72 : decode cX10_does 72 = .ok (.getfield 281, 3) := by decide +kernel
theorem dX10_does_75 : decode cX10_does 75 = .ok (.iconst 1, 1) := by decide +kernel
theorem dX10_does_76 : decode cX10_does 76 = .ok (.iadd, 1) := by decide +kernel
theorem dX10_does_77 : decode cX10_does 77 = .ok (.putfield 281, 3) := by decide +kernel
theorem dX10_does_80 : decode cX10_does 80 = .ok (.aload_n 0, 1) := by decide +kernel
theorem dX10_does_81 : decode cX10_does 81 = .ok (.getfield 57, 3) := by decide +kernel
theorem dX10_does_84 : decode cX10_does 84 = .ok (.iload_n 2, 1) := by decide +kernel
theorem dX10_does_85 : decode cX10_does 85 = .ok (.iaload, 1) := by decide +kernel
theorem dX10_does_86 : decode cX10_does 86 = .ok (.istore_n 3, 1) := by decide +kernel
theorem dX10_does_87 : decode cX10_does 87 = .ok (.iconst 4, 1) := by decide +kernel
theorem dX10_does_88 : decode cX10_does 88 = .ok (.aload_n 0, 1) := by decide +kernel
theorem dX10_does_89 : decode cX10_does 89 = .ok (.getfield 103, 3) := by decide +kernel
theorem dX10_does_92 : decode cX10_does 92 = .ok (.iload_n 1, 1) := by decide +kernel
theorem dX10_does_93 : decode cX10_does 93 = .ok (.iaload, 1) := by decide +kernel
theorem dX10_does_94 : decode cX10_does 94 = .ok (.imul, 1) := by decide +kernel
theorem dX10_does_95 : decode cX10_does 95 = .ok (.iload_n 3, 1) := by decide +kernel
theorem dX10_does_96 : decode cX10_does 96 = .ok (.iconst 0, 1) := by decide +kernel
theorem dX10_does_97 : decode cX10_does 97 = .ok (.iconst 3, 1) := by decide +kernel
theorem dX10_does_98 : decode cX10_does 98 = .ok (.invokestatic 148, 3) := by decide +kernel
theorem dX10_does_101 : decode cX10_does 101 = .ok (.ifCond .eq 7, 3) := by decide +kernel
theorem dX10_does_104 : decode cX10_does 104 = .ok (.iload_n 3, 1) := by decide +kernel
theorem dX10_does_105 : decode cX10_does 105 = .ok (.goto 4, 3) := by decide +kernel
theorem dX10_does_108 : decode cX10_does 108 = .ok (.iconst 0, 1) := by decide +kernel
theorem dX10_does_109 : decode cX10_does 109 = .ok (.iadd, 1) := by decide +kernel
theorem dX10_does_110 : decode cX10_does 110 = .ok (.istore 4, 2) := by decide +kernel
theorem dX10_does_112 : decode cX10_does 112 = .ok (.aload_n 0, 1) := by decide +kernel
theorem dX10_does_113 : decode cX10_does 113 = .ok (.getfield 54, 3) := by decide +kernel
theorem dX10_does_116 : decode cX10_does 116 = .ok (.iload_n 2, 1) := by decide +kernel
theorem dX10_does_117 : decode cX10_does 117 = .ok (.iaload, 1) := by decide +kernel
theorem dX10_does_118 : decode cX10_does 118 = .ok (.tableswitch 209 0 12 #[66, 74, 87, 100, 118, 209, 209, 209, 209, 131, 209, 142, 167], 66) := by decide +kernel
theorem dX10_does_184 : decode cX10_does 184 = .ok (.aload_n 0, 1) := by decide +kernel
theorem dX10_does_185 : decode cX10_does 185 = .ok (.iload_n 1, 1) := by decide +kernel
theorem dX10_does_186 : decode cX10_does 186 = .ok (.iload_n 3, 1) := by decide +kernel
theorem dX10_does_187 : decode cX10_does 187 = .ok (.invokevirtual 284, 3) := by decide +kernel
theorem dX10_does_190 : decode cX10_does 190 = .ok (.iconst 0, 1) := by decide +kernel
theorem dX10_does_191 : decode cX10_does 191 = .ok (.ireturn, 1) := by decide +kernel
theorem dX10_does_192 : decode cX10_does 192 = .ok (.aload_n 0, 1) := by decide +kernel
theorem dX10_does_193 : decode cX10_does 193 = .ok (.getfield 31, 3) := by decide +kernel
theorem dX10_does_196 : decode cX10_does 196 = .ok (.iload 4, 2) := by decide +kernel
theorem dX10_does_198 : decode cX10_does 198 = .ok (.aload_n 0, 1) := by decide +kernel
theorem dX10_does_199 : decode cX10_does 199 = .ok (.getfield 262, 3) := by decide +kernel
theorem dX10_does_202 : decode cX10_does 202 = .ok (.lastore, 1) := by decide +kernel
theorem dX10_does_203 : decode cX10_does 203 = .ok (.iconst 0, 1) := by decide +kernel
theorem dX10_does_204 : decode cX10_does 204 = .ok (.ireturn, 1) := by decide +kernel
theorem dX10_does_205 : decode cX10_does 205 = .ok (.aload_n 0, 1) := by decide +kernel
theorem dX10_does_206 : decode cX10_does 206 = .ok (.aload_n 0, 1) := by decide +kernel
theorem dX10_does_207 : decode cX10_does 207 = .ok (.getfield 31, 3) := by decide +kernel
theorem dX10_does_210 : decode cX10_does 210 = .ok (.iload 4, 2) := by decide +kernel
theorem dX10_does_212 : decode cX10_does 212 = .ok (.laload, 1) := by decide +kernel
theorem dX10_does_213 : decode cX10_does 213 = .ok (.putfield 262, 3) := by decide +kernel
theorem dX10_does_216 : decode cX10_does 216 = .ok (.iconst 0, 1) := by decide +kernel
theorem dX10_does_217 : decode cX10_does 217 = .ok (.ireturn, 1) := by decide +kernel
theorem dX10_does_218 : decode cX10_does 218 = .ok (.aload_n 0, 1) := by decide +kernel
theorem dX10_does_219 : decode cX10_does 219 = .ok (.dup, 1) := by decide +kernel
theorem dX10_does_220 : decode cX10_does 220 = .ok (.getfield 262, 3) := by decide +kernel
theorem dX10_does_223 : decode cX10_does 223 = .ok (.aload_n 0, 1) := by decide +kernel
theorem dX10_does_224 : decode cX10_does 224 = .ok (.getfield 31, 3) := by decide +kernel
theorem dX10_does_227 : decode cX10_does 227 = .ok (.iload 4, 2) := by decide +kernel
theorem dX10_does_229 : decode cX10_does 229 = .ok (.laload, 1) := by decide +kernel
theorem dX10_does_230 : decode cX10_does 230 = .ok (.ladd, 1) := by decide +kernel
theorem dX10_does_231 : decode cX10_does 231 = .ok (.putfield 262, 3) := by decide +kernel
theorem dX10_does_234 : decode cX10_does 234 = .ok (.iconst 0, 1) := by decide +kernel
theorem dX10_does_235 : decode cX10_does 235 = .ok (.ireturn, 1) := by decide +kernel
theorem dX10_does_236 : decode cX10_does 236 = .ok (.aload_n 0, 1) := by decide +kernel
theorem dX10_does_237 : decode cX10_does 237 = .ok (.dup, 1) := by decide +kernel
theorem dX10_does_238 : decode cX10_does 238 = .ok (.getfield 262, 3) := by decide +kernel
theorem dX10_does_241 : decode cX10_does 241 = .ok (.iload_n 3, 1) := by decide +kernel
theorem dX10_does_242 : decode cX10_does 242 = .ok (.i2l, 1) := by decide +kernel
theorem dX10_does_243 : decode cX10_does 243 = .ok (.ladd, 1) := by decide +kernel
theorem dX10_does_244 : decode cX10_does 244 = .ok (.putfield 262, 3) := by decide +kernel
theorem dX10_does_247 : decode cX10_does 247 = .ok (.iconst 0, 1) := by decide +kernel
theorem dX10_does_248 : decode cX10_does 248 = .ok (.ireturn, 1) := by decide +kernel
theorem dX10_does_249 : decode cX10_does 249 = .ok (.aload_n 0, 1) := by decide +kernel
theorem dX10_does_250 : decode cX10_does 250 = .ok (.iload_n 3, 1) := by decide +kernel
theorem dX10_does_251 : decode cX10_does 251 = .ok (.putfield 257, 3) := by decide +kernel
theorem dX10_does_254 : decode cX10_does 254 = .ok (.aload_n 0, 1) := by decide +kernel
theorem dX10_does_255 : decode cX10_does 255 = .ok (.iconst 1, 1) := by decide +kernel
theorem dX10_does_256 : decode cX10_does 256 = .ok (.invokevirtual 269, 3) := by decide +kernel
theorem dX10_does_259 : decode cX10_does 259 = .ok (.ireturn, 1) := by decide +kernel
theorem dX10_does_260 : decode cX10_does 260 = .ok (.aload_n 0, 1) := by decide +kernel
theorem dX10_does_261 : decode cX10_does 261 = .ok (.getfield 115, 3) := by decide +kernel
theorem dX10_does_264 : decode cX10_does 264 = .ok (.iload_n 1, 1) := by decide +kernel
theorem dX10_does_265 : decode cX10_does 265 = .ok (.dup2, 1) := by decide +kernel
theorem dX10_does_266 : decode cX10_does 266 = .ok (.iaload, 1) := by decide +kernel
theorem dX10_does_267 : decode cX10_does 267 = .ok (.aload_n 0, 1) := by decide +kernel
theorem dX10_does_268 : decode cX10_does 268 = .ok (.getfield 262, 3) := by decide +kernel
theorem dX10_does_271 : decode cX10_does 271 = .ok (.lconst 1, 1) := by decide +kernel
theorem dX10_does_272 : decode cX10_does 272 = .ok (.lcmp, 1) := by decide +kernel
theorem dX10_does_273 : decode cX10_does 273 = .ok (.ifCond .ge 7, 3) := by decide +kernel
theorem dX10_does_276 : decode cX10_does 276 = .ok (.iconst 1, 1) := by decide +kernel
theorem dX10_does_277 : decode cX10_does 277 = .ok (.goto 4, 3) := by decide +kernel
theorem dX10_does_280 : decode cX10_does 280 = .ok (.iconst 0, 1) := by decide +kernel
theorem dX10_does_281 : decode cX10_does 281 = .ok (.iadd, 1) := by decide +kernel
theorem dX10_does_282 : decode cX10_does 282 = .ok (.iastore, 1) := by decide +kernel
theorem dX10_does_283 : decode cX10_does 283 = .ok (.iconst 0, 1) := by decide +kernel
theorem dX10_does_284 : decode cX10_does 284 = .ok (.ireturn, 1) := by decide +kernel
theorem dX10_does_285 : decode cX10_does 285 = .ok (.aload_n 0, 1) := by decide +kernel
theorem dX10_does_286 : decode cX10_does 286 = .ok (.iload_n 1, 1) := by decide +kernel
theorem dX10_does_287 : decode cX10_does 287 = .ok (.invokevirtual 278, 3) := by decide +kernel
theorem dX10_does_290 : decode cX10_does 290 = .ok (.ifCond .eq 35, 3) := by decide +kernel
theorem dX10_does_293 : decode cX10_does 293 = .ok (.aload_n 0, 1) := by decide +kernel
theorem dX10_does_294 : decode cX10_does 294 = .ok (.getfield 48, 3) := by decide +kernel
theorem dX10_does_297 : decode cX10_does 297 = .ok (.aload_n 0, 1) := by decide +kernel
theorem dX10_does_298 : decode cX10_does 298 = .ok (.getfield 109, 3) := by decide +kernel
theorem dX10_does_301 : decode cX10_does 301 = .ok (.iload_n 1, 1) := by decide +kernel
theorem dX10_does_302 : decode cX10_does 302 = .ok (.iaload, 1) := by decide +kernel
theorem dX10_does_303 : decode cX10_does 303 = .ok (.iaload, 1) := by decide +kernel
theorem dX10_does_304 : decode cX10_does 304 = .ok (.iconst 1, 1) := by decide +kernel
theorem dX10_does_305 : decode cX10_does 305 = .ok (.if_icmp .ne 20, 3) := by decide +kernel
theorem dX10_does_308 : decode cX10_does 308 = .ok (.aload_n 0, 1) := by decide +kernel
theorem dX10_does_309 : decode cX10_does 309 = .ok (.iload_n 1, 1) := by decide +kernel
theorem dX10_does_310 : decode cX10_does 310 = .ok (.bipush 12, 2) := by decide +kernel
theorem dX10_does_312 : decode cX10_does 312 = .ok (.iload_n 3, 1) := by decide +kernel
theorem dX10_does_313 : decode cX10_does 313 = .ok (.aload_n 0, 1) := by decide +kernel
theorem dX10_does_314 : decode cX10_does 314 = .ok (.getfield 60, 3) := by decide +kernel
theorem dX10_does_317 : decode cX10_does 317 = .ok (.iload_n 2, 1) := by decide +kernel
theorem dX10_does_318 : decode cX10_does 318 = .ok (.iaload, 1) := by decide +kernel
theorem dX10_does_319 : decode cX10_does 319 = .ok (.invokevirtual 288, 3) := by decide +kernel
theorem dX10_does_322 : decode cX10_does 322 = .ok (.goto 4, 3) := by decide +kernel
theorem dX10_does_325 : decode cX10_does 325 = .ok (.iconst 0, 1) := by decide +kernel
theorem dX10_does_326 : decode cX10_does 326 = .ok (.ireturn, 1) := by decide +kernel
theorem dX10_does_327 : decode cX10_does 327 = .ok (.aload_n 0, 1) := by decide +kernel
theorem dX10_does_328 : decode cX10_does 328 = .ok (.iload_n 1, 1) := by decide +kernel
theorem dX10_does_329 : decode cX10_does 329 = .ok (.aload_n 0, 1) := by decide +kernel
theorem dX10_does_330 : decode cX10_does 330 = .ok (.getfield 54, 3) := by decide +kernel
theorem dX10_does_333 : decode cX10_does 333 = .ok (.iload_n 2, 1) := by decide +kernel
theorem dX10_does_334 : decode cX10_does 334 = .ok (.iaload, 1) := by decide +kernel
theorem dX10_does_335 : decode cX10_does 335 = .ok (.iload_n 3, 1) := by decide +kernel
theorem dX10_does_336 : decode cX10_does 336 = .ok (.aload_n 0, 1) := by decide +kernel
theorem dX10_does_337 : decode cX10_does 337 = .ok (.getfield 60, 3) := by decide +kernel
theorem dX10_does_340 : decode cX10_does 340 = .ok (.iload_n 2, 1) := by decide +kernel
theorem dX10_does_341 : decode cX10_does 341 = .ok (.iaload, 1) := by decide +kernel
theorem dX10_does_342 : decode cX10_does 342 = .ok (.invokevirtual 288, 3) := by decide +kernel
theorem dX10_does_345 : decode cX10_does 345 = .ok (.ireturn, 1) := by decide +kernel
set_option maxRecDepth 100000 in
set_option maxHeartbeats 4000000 in
theorem rt_X10_does (l : Launch) (m0 : Nat) (ad : Nat → Nat) (K : RS) (f : Nat) (K0 : RS) (o nn : Nat) : Ct l yX10_does cX10_does 5 (some .int) 7 0 0 179 (fun S av => av = [.ref m0, .int (nI f)] ∧ mdR S m0 ad K ∧ RV K ∧ (PI K0 K (f + 1) o nn) ∧ (opO K (f + 1) = o) ∧ (¬ rA K 32 f = 0)) (fun S _ r S' => ∃ (v : Int32) (K' : RS), r = some (.int v) ∧ mdR S' m0 ad K' ∧ exm S S' m0 ad ∧ ∃ d' o' n', PI K0 K' d' o' n' ∧ opO K' d' = o' ∧ 300 * (600 - n') + potS K' d' < 300 * (600 - nn) + potS K (f + 1)) := by
  refine ct_of (by decide) (fun S av h => by obtain ⟨rfl, hk, rv, hp, hO, h32⟩ := h; exact Nat.le_of_ble_eq_true rfl) ?_
  intro p e s m args below meth c D G bs S av C hr hin hpre
  obtain ⟨rfl, hk, rv, hp, hO, h32⟩ := hpre
  have E0 : exm S S m0 ad := exm_rfl
  obtain ⟨u, n, cd, pl, nx, lo, hu0, hn, a33, a34, hc, hcd, hpl, hnx, a35, a36, a37, a38, hlo, h1⟩ := PI_topO hp h32
  have hdd := PI_deep hp
  have ho4 := hp.2.2.2.2.2.2.2
  have hf2 : f + 1 < 2000 := by omega
  have c3 : fN K 3 = fN K0 3 := keep_fN hp.1 (by decide)
  have hu : u < 12 := by have := rv.p2.2; omega
  obtain ⟨z1, z2⟩ := rv.p5 u hu
  have b8 : rN K 8 u = rN K0 8 u := keep_rN hp.1 (by decide) u
  have v0 := hp.2.1
  have hn6 := hp.2.2.2.1
  obtain ⟨om1, om2⟩ := rv.p12 cd hcd
  refine v_aload_n C dX10_does_0 rfl ?_
  refine q10_115 C hk dX10_does_1 ?_
  refine v_iload_n C dX10_does_4 rfl ?_
  refine n_iald C hk (show (37, 11, 2000) ∈ mTab by decide +kernel) (by omega) dX10_does_5 ?_
  refine v_val a37 ?_
  refine v_aload_n C dX10_does_6 rfl ?_
  refine q10_51 C hk dX10_does_7 ?_
  refine v_aload_n C dX10_does_10 rfl ?_
  refine q10_109 C hk dX10_does_11 ?_
  refine v_iload_n C dX10_does_14 rfl ?_
  refine n_iald C hk (show (35, 11, 2000) ∈ mTab by decide +kernel) (by omega) dX10_does_15 ?_
  refine v_val a35 ?_
  refine n_iald C hk (show (15, 11, 624) ∈ mTab by decide +kernel) (by omega) dX10_does_16 ?_
  refine v_val om1 ?_
  refine n_icmp_lt (tgt := 26) C (by omega) (by omega) dX10_does_17 (by decide) (fun c_17 => ?_) (fun c_17 => ?_)
  · skip
    refine v_aload_n C dX10_does_26 rfl ?_
    refine q10_281 C hk dX10_does_27 ?_
    refine v_val hp.2.2.1 ?_
    refine v_sipush (v := nI 600) C dX10_does_30 (by decide) ?_
    refine n_icmp_ne (tgt := 43) C (by omega) (by omega) dX10_does_33 (by decide) (fun c_33 => ?_) (fun c_33 => ?_)
    · skip
      refine v_bipush (v := nI 8) C dX10_does_43 (by decide) ?_
      refine v_aload_n C dX10_does_45 rfl ?_
      refine q10_109 C hk dX10_does_46 ?_
      refine v_iload_n C dX10_does_49 rfl ?_
      refine n_iald C hk (show (35, 11, 2000) ∈ mTab by decide +kernel) (by omega) dX10_does_50 ?_
      refine v_val a35 ?_
      refine n_imul C dX10_does_51 ?_
      refine v_aload_n C dX10_does_52 rfl ?_
      refine q10_115 C hk dX10_does_53 ?_
      refine v_iload_n C dX10_does_56 rfl ?_
      refine n_iald C hk (show (37, 11, 2000) ∈ mTab by decide +kernel) (by omega) dX10_does_57 ?_
      refine v_val a37 ?_
      refine n_iadd C dX10_does_58 ?_
      refine v_istore_n C dX10_does_59 (by decide) rfl ?_
      refine v_aload_n C dX10_does_60 rfl ?_
      refine q10_115 C hk dX10_does_61 ?_
      refine v_iload_n C dX10_does_64 rfl ?_
      refine v_dup2 C dX10_does_65 rfl rfl ?_
      refine n_iald C hk (show (37, 11, 2000) ∈ mTab by decide +kernel) (by omega) dX10_does_66 ?_
      refine v_val a37 ?_
      refine v_iconst (v := nI 1) C dX10_does_67 (by decide) ?_
      refine n_iadd C dX10_does_68 ?_
      refine n_iast C hk (show (37, 11, 2000) ∈ mTab by decide +kernel) (by omega) dX10_does_69 (fun S6_69 hk' x_69 => ?_)
      have E0 := exm_tr E0 x_69
      have hk := hk'
      clear hk'
      refine v_aload_n C dX10_does_70 rfl ?_
      refine v_dup C dX10_does_71 rfl ?_
      refine q10_281 C hk dX10_does_72 ?_
      refine v_val hp.2.2.1 ?_
      refine v_iconst (v := nI 1) C dX10_does_75 (by decide) ?_
      refine n_iadd C dX10_does_76 ?_
      refine w10_281 C hk dX10_does_77 (fun S6_77 hk' x_77 => ?_)
      have E0 := exm_tr E0 x_77
      have hk := hk'
      clear hk'
      obtain ⟨s1, s2, s3⟩ := PI_next (x := nx + 1) hp h32 a33 a34 hu0 hn hc hcd hpl (by omega) a35 a36 a38 hlo
      obtain ⟨t1, t2, t3⟩ := PI_did s1 (show nn + 1 ≤ 600 by omega)
      generalize hK2 : wF (wA K 37 f (nI (nx + 1))) 46 (nI (nn + 1)) = K2 at hk t1 t2 t3
      have hO2 : opO K2 (f + 1) = o := by omega
      have hP2 : potS K2 (f + 1) = potS K (f + 1) := by omega
      have rv2 : RV K2 := by rw [← hK2]; exact RV_play rv (keep_wF (keep_wA keep_rfl (by decide)) (by decide)) rv.p16
      have kA : ∀ g i, g ≠ 37 → rA K2 g i = rA K g i := fun g i hg => by rw [← hK2, rA_wF, rA_wA, if_neg (fun z => hg z.1)]
      have kN : ∀ g i, g ≠ 37 → rN K2 g i = rN K g i := fun g i hg => by unfold rN; rw [kA g i hg]
      have k37 : rA K2 37 f = nI (nx + 1) := by rw [← hK2, rA_wF, rA_wA, if_pos ⟨rfl, rfl⟩]
      have b33 := (kA 33 f (by decide)).trans a33
      have b34 := (kA 34 f (by decide)).trans a34
      have b35 := (kA 35 f (by decide)).trans a35
      have b36 := (kA 36 f (by decide)).trans a36
      have b38 := (kA 38 f (by decide)).trans a38
      have b32 : ¬ rA K2 32 f = 0 := fun z => h32 ((kA 32 f (by decide)).symm.trans z)
      have hk49 : 8 * cd + nx < 4992 := by omega
      refine v_aload_n C dX10_does_80 rfl ?_
      refine q10_57 C hk dX10_does_81 ?_
      refine v_iload_n C dX10_does_84 rfl ?_
      refine n_iald C hk (show (17, 11, 4992) ∈ mTab by decide +kernel) (by omega) dX10_does_85 ?_
      refine v_istore_n C dX10_does_86 (by decide) rfl ?_
      refine V.lits (lv' := [some (.ref m0), some (.int (nI f)), some (.int (nI (8 * cd + nx))), some (.int (rA K2 17 (8 * cd + nx))), none]) rfl ?_
      refine v_cutN 48 110 [some (.ref m0), some (.int (nI f)), some (.int (nI (8 * cd + nx))), some (.int (rA K2 17 (8 * cd + nx))), none] [] (fun X hX => ?_) (fun k110 => ?_)
      · skip
        refine v_istore C dX10_does_110 (by decide) rfl ?_
        refine v_aload_n C dX10_does_112 rfl ?_
        refine q10_54 C hk dX10_does_113 ?_
        refine v_iload_n C dX10_does_116 rfl ?_
        refine n_iald C hk (show (16, 11, 4992) ∈ mTab by decide +kernel) (by omega) dX10_does_117 ?_
        refine v_topi (fun k118 ek118 => ?_)
        by_cases k_0 : k118 = 0
        · skip
          refine v_tableIn (off := 66) (tgt := 184) C dX10_does_118 (by rw [k_0]; decide) (by rw [k_0]; decide) (by rw [k_0]; rfl) (by decide) ?_
          refine v_aload_n C dX10_does_184 rfl ?_
          refine v_iload_n C dX10_does_185 rfl ?_
          refine v_iload_n C dX10_does_186 rfl ?_
          refine v_callV (As := [_, _]) (n := 2) C (rt_X10_lays l m0 ad _ _ _ u pl) rfl hk.1 (by decide) rfl ⟨wd859, wd860, wd861, wd5, wd862⟩ ⟨rfl, hy_X10_lays⟩ rfl ⟨Nat.le_of_ble_eq_true rfl, Nat.le_of_ble_eq_true rfl⟩ (Nat.le_of_ble_eq_true rfl) ⟨Nat.le_of_ble_eq_true rfl, Nat.le_of_ble_eq_true rfl⟩ dX10_does_187 ⟨rfl, hk, rv2, (by omega), ⟨b33, hu⟩, ⟨b36, by rw [kN 8 u (by decide)]; omega⟩⟩ (fun r_187 S4_187 h_187 => ?_)
          obtain ⟨K187, rfl, hk', x_187, p_v187⟩ := h_187
          have E0 := exm_tr E0 x_187
          have hk := hk'
          clear hk'
          refine v_iconst (v := nI 0) C dX10_does_190 (by decide) ?_
          refine v_iret C hr (Nat.le_of_ble_eq_true rfl) (Nat.le_of_ble_eq_true rfl) dX10_does_191 ?_
          exact ⟨_, _, rfl, hk, E0, (does_end t1 hO2 (by omega) p_v187)⟩
        by_cases k_1 : k118 = 1
        · skip
          refine v_tableIn (off := 74) (tgt := 192) C dX10_does_118 (by rw [k_1]; decide) (by rw [k_1]; decide) (by rw [k_1]; rfl) (by decide) ?_
          refine v_aload_n C dX10_does_192 rfl ?_
          refine q10_31 C hk dX10_does_193 ?_
          refine v_iload C dX10_does_196 rfl ?_
          refine v_aload_n C dX10_does_198 rfl ?_
          refine q10_262 C hk dX10_does_199 ?_
          refine n_last C hk (show (9, 12, 48) ∈ mTab by decide +kernel) (by omega) dX10_does_202 (fun S4_202 hk' x_202 => ?_)
          have E0 := exm_tr E0 x_202
          have hk := hk'
          clear hk'
          refine v_iconst (v := nI 0) C dX10_does_203 (by decide) ?_
          refine v_iret C hr (Nat.le_of_ble_eq_true rfl) (Nat.le_of_ble_eq_true rfl) dX10_does_204 ?_
          exact ⟨_, _, rfl, hk, E0, (does_end t1 hO2 (by omega) (quiet_wQ quiet_rfl (by decide)))⟩
        by_cases k_2 : k118 = 2
        · skip
          refine v_tableIn (off := 87) (tgt := 205) C dX10_does_118 (by rw [k_2]; decide) (by rw [k_2]; decide) (by rw [k_2]; rfl) (by decide) ?_
          refine v_aload_n C dX10_does_205 rfl ?_
          refine v_aload_n C dX10_does_206 rfl ?_
          refine q10_31 C hk dX10_does_207 ?_
          refine v_iload C dX10_does_210 rfl ?_
          refine n_lald C hk (show (9, 12, 48) ∈ mTab by decide +kernel) (by omega) dX10_does_212 ?_
          refine w10_262 C hk dX10_does_213 (fun S4_213 hk' x_213 => ?_)
          have E0 := exm_tr E0 x_213
          have hk := hk'
          clear hk'
          refine v_iconst (v := nI 0) C dX10_does_216 (by decide) ?_
          refine v_iret C hr (Nat.le_of_ble_eq_true rfl) (Nat.le_of_ble_eq_true rfl) dX10_does_217 ?_
          exact ⟨_, _, rfl, hk, E0, (does_end t1 hO2 (by omega) (quiet_wJ quiet_rfl (by decide)))⟩
        by_cases k_3 : k118 = 3
        · skip
          refine v_tableIn (off := 100) (tgt := 218) C dX10_does_118 (by rw [k_3]; decide) (by rw [k_3]; decide) (by rw [k_3]; rfl) (by decide) ?_
          refine v_aload_n C dX10_does_218 rfl ?_
          refine v_dup C dX10_does_219 rfl ?_
          refine q10_262 C hk dX10_does_220 ?_
          refine v_aload_n C dX10_does_223 rfl ?_
          refine q10_31 C hk dX10_does_224 ?_
          refine v_iload C dX10_does_227 rfl ?_
          refine n_lald C hk (show (9, 12, 48) ∈ mTab by decide +kernel) (by omega) dX10_does_229 ?_
          refine v_ladd C dX10_does_230 ?_
          refine w10_262 C hk dX10_does_231 (fun S4_231 hk' x_231 => ?_)
          have E0 := exm_tr E0 x_231
          have hk := hk'
          clear hk'
          refine v_iconst (v := nI 0) C dX10_does_234 (by decide) ?_
          refine v_iret C hr (Nat.le_of_ble_eq_true rfl) (Nat.le_of_ble_eq_true rfl) dX10_does_235 ?_
          exact ⟨_, _, rfl, hk, E0, (does_end t1 hO2 (by omega) (quiet_wJ quiet_rfl (by decide)))⟩
        by_cases k_4 : k118 = 4
        · skip
          refine v_tableIn (off := 118) (tgt := 236) C dX10_does_118 (by rw [k_4]; decide) (by rw [k_4]; decide) (by rw [k_4]; rfl) (by decide) ?_
          refine v_aload_n C dX10_does_236 rfl ?_
          refine v_dup C dX10_does_237 rfl ?_
          refine q10_262 C hk dX10_does_238 ?_
          refine v_iload_n C dX10_does_241 rfl ?_
          refine v_i2l C dX10_does_242 ?_
          refine v_ladd C dX10_does_243 ?_
          refine w10_262 C hk dX10_does_244 (fun S4_244 hk' x_244 => ?_)
          have E0 := exm_tr E0 x_244
          have hk := hk'
          clear hk'
          refine v_iconst (v := nI 0) C dX10_does_247 (by decide) ?_
          refine v_iret C hr (Nat.le_of_ble_eq_true rfl) (Nat.le_of_ble_eq_true rfl) dX10_does_248 ?_
          exact ⟨_, _, rfl, hk, E0, (does_end t1 hO2 (by omega) (quiet_wJ quiet_rfl (by decide)))⟩
        by_cases k_5 : k118 = 5
        · skip
          refine v_tableIn (off := 209) (tgt := 327) C dX10_does_118 (by rw [k_5]; decide) (by rw [k_5]; decide) (by rw [k_5]; rfl) (by decide) ?_
          refine v_aload_n C dX10_does_327 rfl ?_
          refine v_iload_n C dX10_does_328 rfl ?_
          refine v_aload_n C dX10_does_329 rfl ?_
          refine q10_54 C hk dX10_does_330 ?_
          refine v_iload_n C dX10_does_333 rfl ?_
          refine n_iald C hk (show (16, 11, 4992) ∈ mTab by decide +kernel) (by omega) dX10_does_334 ?_
          refine v_iload_n C dX10_does_335 rfl ?_
          refine v_aload_n C dX10_does_336 rfl ?_
          refine q10_60 C hk dX10_does_337 ?_
          refine v_iload_n C dX10_does_340 rfl ?_
          refine n_iald C hk (show (18, 11, 4992) ∈ mTab by decide +kernel) (by omega) dX10_does_341 ?_
          refine v_callV (As := [_, _, _, _]) (n := 4) C (rt_X10_opens l m0 ad _ _ _ _ _ K0 o (nn + 1)) rfl hk.1 (by decide) rfl ⟨wd867, wd868, wd869, wd5, wd870⟩ ⟨rfl, hy_X10_opens⟩ rfl ⟨Nat.le_of_ble_eq_true rfl, Nat.le_of_ble_eq_true rfl⟩ (Nat.le_of_ble_eq_true rfl) ⟨Nat.le_of_ble_eq_true rfl, Nat.le_of_ble_eq_true rfl⟩ dX10_does_342 ⟨rfl, hk, rv2, t1, hO2, b32, (rv2.p15 _ hk49).1, (rv2.p15 _ hk49).2⟩ (fun r_342 S4_342 h_342 => ?_)
          obtain ⟨v342, K342, rfl, hk', x_342, p_v342⟩ := h_342
          have E0 := exm_tr E0 x_342
          have hk := hk'
          clear hk'
          obtain ⟨d', o', e1, e2, e3⟩ := p_v342
          refine v_iret C hr (Nat.le_of_ble_eq_true rfl) (Nat.le_of_ble_eq_true rfl) dX10_does_345 ?_
          exact ⟨_, _, rfl, hk, E0, (does_end e1 e2 (by omega) quiet_rfl)⟩
        by_cases k_6 : k118 = 6
        · skip
          refine v_tableIn (off := 209) (tgt := 327) C dX10_does_118 (by rw [k_6]; decide) (by rw [k_6]; decide) (by rw [k_6]; rfl) (by decide) ?_
          refine v_aload_n C dX10_does_327 rfl ?_
          refine v_iload_n C dX10_does_328 rfl ?_
          refine v_aload_n C dX10_does_329 rfl ?_
          refine q10_54 C hk dX10_does_330 ?_
          refine v_iload_n C dX10_does_333 rfl ?_
          refine n_iald C hk (show (16, 11, 4992) ∈ mTab by decide +kernel) (by omega) dX10_does_334 ?_
          refine v_iload_n C dX10_does_335 rfl ?_
          refine v_aload_n C dX10_does_336 rfl ?_
          refine q10_60 C hk dX10_does_337 ?_
          refine v_iload_n C dX10_does_340 rfl ?_
          refine n_iald C hk (show (18, 11, 4992) ∈ mTab by decide +kernel) (by omega) dX10_does_341 ?_
          refine v_callV (As := [_, _, _, _]) (n := 4) C (rt_X10_opens l m0 ad _ _ _ _ _ K0 o (nn + 1)) rfl hk.1 (by decide) rfl ⟨wd867, wd868, wd869, wd5, wd870⟩ ⟨rfl, hy_X10_opens⟩ rfl ⟨Nat.le_of_ble_eq_true rfl, Nat.le_of_ble_eq_true rfl⟩ (Nat.le_of_ble_eq_true rfl) ⟨Nat.le_of_ble_eq_true rfl, Nat.le_of_ble_eq_true rfl⟩ dX10_does_342 ⟨rfl, hk, rv2, t1, hO2, b32, (rv2.p15 _ hk49).1, (rv2.p15 _ hk49).2⟩ (fun r_342 S4_342 h_342 => ?_)
          obtain ⟨v342, K342, rfl, hk', x_342, p_v342⟩ := h_342
          have E0 := exm_tr E0 x_342
          have hk := hk'
          clear hk'
          obtain ⟨d', o', e1, e2, e3⟩ := p_v342
          refine v_iret C hr (Nat.le_of_ble_eq_true rfl) (Nat.le_of_ble_eq_true rfl) dX10_does_345 ?_
          exact ⟨_, _, rfl, hk, E0, (does_end e1 e2 (by omega) quiet_rfl)⟩
        by_cases k_7 : k118 = 7
        · skip
          refine v_tableIn (off := 209) (tgt := 327) C dX10_does_118 (by rw [k_7]; decide) (by rw [k_7]; decide) (by rw [k_7]; rfl) (by decide) ?_
          refine v_aload_n C dX10_does_327 rfl ?_
          refine v_iload_n C dX10_does_328 rfl ?_
          refine v_aload_n C dX10_does_329 rfl ?_
          refine q10_54 C hk dX10_does_330 ?_
          refine v_iload_n C dX10_does_333 rfl ?_
          refine n_iald C hk (show (16, 11, 4992) ∈ mTab by decide +kernel) (by omega) dX10_does_334 ?_
          refine v_iload_n C dX10_does_335 rfl ?_
          refine v_aload_n C dX10_does_336 rfl ?_
          refine q10_60 C hk dX10_does_337 ?_
          refine v_iload_n C dX10_does_340 rfl ?_
          refine n_iald C hk (show (18, 11, 4992) ∈ mTab by decide +kernel) (by omega) dX10_does_341 ?_
          refine v_callV (As := [_, _, _, _]) (n := 4) C (rt_X10_opens l m0 ad _ _ _ _ _ K0 o (nn + 1)) rfl hk.1 (by decide) rfl ⟨wd867, wd868, wd869, wd5, wd870⟩ ⟨rfl, hy_X10_opens⟩ rfl ⟨Nat.le_of_ble_eq_true rfl, Nat.le_of_ble_eq_true rfl⟩ (Nat.le_of_ble_eq_true rfl) ⟨Nat.le_of_ble_eq_true rfl, Nat.le_of_ble_eq_true rfl⟩ dX10_does_342 ⟨rfl, hk, rv2, t1, hO2, b32, (rv2.p15 _ hk49).1, (rv2.p15 _ hk49).2⟩ (fun r_342 S4_342 h_342 => ?_)
          obtain ⟨v342, K342, rfl, hk', x_342, p_v342⟩ := h_342
          have E0 := exm_tr E0 x_342
          have hk := hk'
          clear hk'
          obtain ⟨d', o', e1, e2, e3⟩ := p_v342
          refine v_iret C hr (Nat.le_of_ble_eq_true rfl) (Nat.le_of_ble_eq_true rfl) dX10_does_345 ?_
          exact ⟨_, _, rfl, hk, E0, (does_end e1 e2 (by omega) quiet_rfl)⟩
        by_cases k_8 : k118 = 8
        · skip
          refine v_tableIn (off := 209) (tgt := 327) C dX10_does_118 (by rw [k_8]; decide) (by rw [k_8]; decide) (by rw [k_8]; rfl) (by decide) ?_
          refine v_aload_n C dX10_does_327 rfl ?_
          refine v_iload_n C dX10_does_328 rfl ?_
          refine v_aload_n C dX10_does_329 rfl ?_
          refine q10_54 C hk dX10_does_330 ?_
          refine v_iload_n C dX10_does_333 rfl ?_
          refine n_iald C hk (show (16, 11, 4992) ∈ mTab by decide +kernel) (by omega) dX10_does_334 ?_
          refine v_iload_n C dX10_does_335 rfl ?_
          refine v_aload_n C dX10_does_336 rfl ?_
          refine q10_60 C hk dX10_does_337 ?_
          refine v_iload_n C dX10_does_340 rfl ?_
          refine n_iald C hk (show (18, 11, 4992) ∈ mTab by decide +kernel) (by omega) dX10_does_341 ?_
          refine v_callV (As := [_, _, _, _]) (n := 4) C (rt_X10_opens l m0 ad _ _ _ _ _ K0 o (nn + 1)) rfl hk.1 (by decide) rfl ⟨wd867, wd868, wd869, wd5, wd870⟩ ⟨rfl, hy_X10_opens⟩ rfl ⟨Nat.le_of_ble_eq_true rfl, Nat.le_of_ble_eq_true rfl⟩ (Nat.le_of_ble_eq_true rfl) ⟨Nat.le_of_ble_eq_true rfl, Nat.le_of_ble_eq_true rfl⟩ dX10_does_342 ⟨rfl, hk, rv2, t1, hO2, b32, (rv2.p15 _ hk49).1, (rv2.p15 _ hk49).2⟩ (fun r_342 S4_342 h_342 => ?_)
          obtain ⟨v342, K342, rfl, hk', x_342, p_v342⟩ := h_342
          have E0 := exm_tr E0 x_342
          have hk := hk'
          clear hk'
          obtain ⟨d', o', e1, e2, e3⟩ := p_v342
          refine v_iret C hr (Nat.le_of_ble_eq_true rfl) (Nat.le_of_ble_eq_true rfl) dX10_does_345 ?_
          exact ⟨_, _, rfl, hk, E0, (does_end e1 e2 (by omega) quiet_rfl)⟩
        by_cases k_9 : k118 = 9
        · skip
          refine v_tableIn (off := 131) (tgt := 249) C dX10_does_118 (by rw [k_9]; decide) (by rw [k_9]; decide) (by rw [k_9]; rfl) (by decide) ?_
          refine v_aload_n C dX10_does_249 rfl ?_
          refine v_iload_n C dX10_does_250 rfl ?_
          refine w10_257 C hk dX10_does_251 (fun S4_251 hk' x_251 => ?_)
          have E0 := exm_tr E0 x_251
          have hk := hk'
          clear hk'
          obtain ⟨q1, q2, q3⟩ := PI_quiet t1 (quiet_wF (g := 45) (v := rA K2 17 (8 * cd + nx)) quiet_rfl (Or.inl rfl))
          refine v_aload_n C dX10_does_254 rfl ?_
          refine v_iconst (v := nI 1) C dX10_does_255 (by decide) ?_
          refine v_callV (As := [_]) (n := 1) C (rt_X10_fails l m0 ad _ _ K0 (f + 1) o (nn + 1)) rfl hk.1 (by decide) rfl ⟨wd854, wd855, wd856, wd5, wd857⟩ ⟨rfl, hy_X10_fails⟩ rfl ⟨Nat.le_of_ble_eq_true rfl, Nat.le_of_ble_eq_true rfl⟩ (Nat.le_of_ble_eq_true rfl) ⟨Nat.le_of_ble_eq_true rfl, Nat.le_of_ble_eq_true rfl⟩ dX10_does_256 ⟨rfl, hk, q1, (q2.trans hO2), (by decide)⟩ (fun r_256 S4_256 h_256 => ?_)
          obtain ⟨v256, K256, rfl, hk', x_256, p_v256⟩ := h_256
          have E0 := exm_tr E0 x_256
          have hk := hk'
          clear hk'
          obtain ⟨d', o', e1, e2, e3, e4⟩ := p_v256
          have e5 := e4 (by omega)
          refine v_iret C hr (Nat.le_of_ble_eq_true rfl) (Nat.le_of_ble_eq_true rfl) dX10_does_259 ?_
          exact ⟨_, _, rfl, hk, E0, (does_end e1 e2 (by omega) quiet_rfl)⟩
        by_cases k_10 : k118 = 10
        · skip
          refine v_tableIn (off := 209) (tgt := 327) C dX10_does_118 (by rw [k_10]; decide) (by rw [k_10]; decide) (by rw [k_10]; rfl) (by decide) ?_
          refine v_aload_n C dX10_does_327 rfl ?_
          refine v_iload_n C dX10_does_328 rfl ?_
          refine v_aload_n C dX10_does_329 rfl ?_
          refine q10_54 C hk dX10_does_330 ?_
          refine v_iload_n C dX10_does_333 rfl ?_
          refine n_iald C hk (show (16, 11, 4992) ∈ mTab by decide +kernel) (by omega) dX10_does_334 ?_
          refine v_iload_n C dX10_does_335 rfl ?_
          refine v_aload_n C dX10_does_336 rfl ?_
          refine q10_60 C hk dX10_does_337 ?_
          refine v_iload_n C dX10_does_340 rfl ?_
          refine n_iald C hk (show (18, 11, 4992) ∈ mTab by decide +kernel) (by omega) dX10_does_341 ?_
          refine v_callV (As := [_, _, _, _]) (n := 4) C (rt_X10_opens l m0 ad _ _ _ _ _ K0 o (nn + 1)) rfl hk.1 (by decide) rfl ⟨wd867, wd868, wd869, wd5, wd870⟩ ⟨rfl, hy_X10_opens⟩ rfl ⟨Nat.le_of_ble_eq_true rfl, Nat.le_of_ble_eq_true rfl⟩ (Nat.le_of_ble_eq_true rfl) ⟨Nat.le_of_ble_eq_true rfl, Nat.le_of_ble_eq_true rfl⟩ dX10_does_342 ⟨rfl, hk, rv2, t1, hO2, b32, (rv2.p15 _ hk49).1, (rv2.p15 _ hk49).2⟩ (fun r_342 S4_342 h_342 => ?_)
          obtain ⟨v342, K342, rfl, hk', x_342, p_v342⟩ := h_342
          have E0 := exm_tr E0 x_342
          have hk := hk'
          clear hk'
          obtain ⟨d', o', e1, e2, e3⟩ := p_v342
          refine v_iret C hr (Nat.le_of_ble_eq_true rfl) (Nat.le_of_ble_eq_true rfl) dX10_does_345 ?_
          exact ⟨_, _, rfl, hk, E0, (does_end e1 e2 (by omega) quiet_rfl)⟩
        by_cases k_11 : k118 = 11
        · skip
          refine v_tableIn (off := 142) (tgt := 260) C dX10_does_118 (by rw [k_11]; decide) (by rw [k_11]; decide) (by rw [k_11]; rfl) (by decide) ?_
          refine v_aload_n C dX10_does_260 rfl ?_
          refine q10_115 C hk dX10_does_261 ?_
          refine v_iload_n C dX10_does_264 rfl ?_
          refine v_dup2 C dX10_does_265 rfl rfl ?_
          refine n_iald C hk (show (37, 11, 2000) ∈ mTab by decide +kernel) (by omega) dX10_does_266 ?_
          refine v_val k37 ?_
          refine v_aload_n C dX10_does_267 rfl ?_
          refine q10_262 C hk dX10_does_268 ?_
          refine v_lconst (v := 1) C dX10_does_271 (by decide) ?_
          refine v_lcmp C dX10_does_272 ?_
          refine v_if_ge (tgt := 280) C dX10_does_273 (by decide) (fun c_273 => ?_) (fun c_273 => ?_)
          · skip
            obtain ⟨q1, q2, q3⟩ := PI_next (x := nx + 1 + 0) t1 b32 b33 b34 hu0 hn hc hcd hpl (by omega) b35 b36 b38 hlo
            refine v_iconst (v := nI 0) C dX10_does_280 (by decide) ?_
            refine n_iadd C dX10_does_281 ?_
            refine n_iast C hk (show (37, 11, 2000) ∈ mTab by decide +kernel) (by omega) dX10_does_282 (fun S6_282 hk' x_282 => ?_)
            have E0 := exm_tr E0 x_282
            have hk := hk'
            clear hk'
            refine v_iconst (v := nI 0) C dX10_does_283 (by decide) ?_
            refine v_iret C hr (Nat.le_of_ble_eq_true rfl) (Nat.le_of_ble_eq_true rfl) dX10_does_284 ?_
            exact ⟨_, _, rfl, hk, E0, (does_end q1 (q2.trans hO2) (by omega) quiet_rfl)⟩
          · skip
            obtain ⟨q1, q2, q3⟩ := PI_next (x := nx + 1 + 1) t1 b32 b33 b34 hu0 hn hc hcd hpl (by omega) b35 b36 b38 hlo
            refine v_iconst (v := nI 1) C dX10_does_276 (by decide) ?_
            refine v_goto (tgt := 281) C dX10_does_277 (by decide) ?_
            refine n_iadd C dX10_does_281 ?_
            refine n_iast C hk (show (37, 11, 2000) ∈ mTab by decide +kernel) (by omega) dX10_does_282 (fun S6_282 hk' x_282 => ?_)
            have E0 := exm_tr E0 x_282
            have hk := hk'
            clear hk'
            refine v_iconst (v := nI 0) C dX10_does_283 (by decide) ?_
            refine v_iret C hr (Nat.le_of_ble_eq_true rfl) (Nat.le_of_ble_eq_true rfl) dX10_does_284 ?_
            exact ⟨_, _, rfl, hk, E0, (does_end q1 (q2.trans hO2) (by omega) quiet_rfl)⟩
        by_cases k_12 : k118 = 12
        · skip
          refine v_tableIn (off := 167) (tgt := 285) C dX10_does_118 (by rw [k_12]; decide) (by rw [k_12]; decide) (by rw [k_12]; rfl) (by decide) ?_
          refine v_aload_n C dX10_does_285 rfl ?_
          refine v_iload_n C dX10_does_286 rfl ?_
          refine v_callV (As := [_]) (n := 1) C (rt_X10_isGuard l m0 ad _ _) rfl hk.1 (by decide) rfl ⟨wd863, wd864, wd865, wd5, wd866⟩ ⟨rfl, hy_X10_isGuard⟩ rfl ⟨Nat.le_of_ble_eq_true rfl, Nat.le_of_ble_eq_true rfl⟩ (Nat.le_of_ble_eq_true rfl) ⟨Nat.le_of_ble_eq_true rfl, Nat.le_of_ble_eq_true rfl⟩ dX10_does_287 ⟨rfl, hk, (by omega)⟩ (fun r_287 S4_287 h_287 => ?_)
          obtain ⟨v287, rfl, p_v287, q_v287⟩ := h_287
          obtain rfl := q_v287.symm
          refine b_if_eq (tgt := 325) C dX10_does_290 (by decide) (fun c_290 => ?_) (fun c_290 => ?_)
          · skip
            refine v_iconst (v := nI 0) C dX10_does_325 (by decide) ?_
            refine v_iret C hr (Nat.le_of_ble_eq_true rfl) (Nat.le_of_ble_eq_true rfl) dX10_does_326 ?_
            exact ⟨_, _, rfl, hk, E0, (does_end t1 hO2 (by omega) quiet_rfl)⟩
          · skip
            refine v_aload_n C dX10_does_293 rfl ?_
            refine q10_48 C hk dX10_does_294 ?_
            refine v_aload_n C dX10_does_297 rfl ?_
            refine q10_109 C hk dX10_does_298 ?_
            refine v_iload_n C dX10_does_301 rfl ?_
            refine n_iald C hk (show (35, 11, 2000) ∈ mTab by decide +kernel) (by omega) dX10_does_302 ?_
            refine v_val b35 ?_
            refine n_iald C hk (show (14, 11, 624) ∈ mTab by decide +kernel) (by omega) dX10_does_303 ?_
            refine v_iconst (v := nI 1) C dX10_does_304 (by decide) ?_
            refine v_icmp_ne (tgt := 325) C dX10_does_305 (by decide) (fun c_305 => ?_) (fun c_305 => ?_)
            · skip
              refine v_iconst (v := nI 0) C dX10_does_325 (by decide) ?_
              refine v_iret C hr (Nat.le_of_ble_eq_true rfl) (Nat.le_of_ble_eq_true rfl) dX10_does_326 ?_
              exact ⟨_, _, rfl, hk, E0, (does_end t1 hO2 (by omega) quiet_rfl)⟩
            · skip
              refine v_aload_n C dX10_does_308 rfl ?_
              refine v_iload_n C dX10_does_309 rfl ?_
              refine v_bipush (v := nI 12) C dX10_does_310 (by decide) ?_
              refine v_iload_n C dX10_does_312 rfl ?_
              refine v_aload_n C dX10_does_313 rfl ?_
              refine q10_60 C hk dX10_does_314 ?_
              refine v_iload_n C dX10_does_317 rfl ?_
              refine n_iald C hk (show (18, 11, 4992) ∈ mTab by decide +kernel) (by omega) dX10_does_318 ?_
              refine v_callV (As := [_, _, _, _]) (n := 4) C (rt_X10_opens l m0 ad _ _ (nI 12) _ _ K0 o (nn + 1)) rfl hk.1 (by decide) rfl ⟨wd867, wd868, wd869, wd5, wd870⟩ ⟨rfl, hy_X10_opens⟩ rfl ⟨Nat.le_of_ble_eq_true rfl, Nat.le_of_ble_eq_true rfl⟩ (Nat.le_of_ble_eq_true rfl) ⟨Nat.le_of_ble_eq_true rfl, Nat.le_of_ble_eq_true rfl⟩ dX10_does_319 ⟨rfl, hk, rv2, t1, hO2, b32, (fun z => absurd z (by decide)), (fun z => absurd z (by decide))⟩ (fun r_319 S8_319 h_319 => ?_)
              obtain ⟨v319, K319, rfl, hk', x_319, p_v319⟩ := h_319
              have E0 := exm_tr E0 x_319
              have hk := hk'
              clear hk'
              obtain ⟨d', o', e1, e2, e3⟩ := p_v319
              refine v_goto (tgt := 326) C dX10_does_322 (by decide) ?_
              refine v_iret C hr (Nat.le_of_ble_eq_true rfl) (Nat.le_of_ble_eq_true rfl) dX10_does_326 ?_
              exact ⟨_, _, rfl, hk, E0, (does_end e1 e2 (by omega) quiet_rfl)⟩
        refine v_tableOut (tgt := 327) C dX10_does_118 (by have q0 := lv_neT k_0 (a := 0) rfl ; have q1 := lv_neT k_1 (a := 1) rfl ; have q2 := lv_neT k_2 (a := 2) rfl ; have q3 := lv_neT k_3 (a := 3) rfl ; have q4 := lv_neT k_4 (a := 4) rfl ; have q5 := lv_neT k_5 (a := 5) rfl ; have q6 := lv_neT k_6 (a := 6) rfl ; have q7 := lv_neT k_7 (a := 7) rfl ; have q8 := lv_neT k_8 (a := 8) rfl ; have q9 := lv_neT k_9 (a := 9) rfl ; have q10 := lv_neT k_10 (a := 10) rfl ; have q11 := lv_neT k_11 (a := 11) rfl ; have q12 := lv_neT k_12 (a := 12) rfl ; omega) (by decide) ?_
        refine v_aload_n C dX10_does_327 rfl ?_
        refine v_iload_n C dX10_does_328 rfl ?_
        refine v_aload_n C dX10_does_329 rfl ?_
        refine q10_54 C hk dX10_does_330 ?_
        refine v_iload_n C dX10_does_333 rfl ?_
        refine n_iald C hk (show (16, 11, 4992) ∈ mTab by decide +kernel) (by omega) dX10_does_334 ?_
        refine v_iload_n C dX10_does_335 rfl ?_
        refine v_aload_n C dX10_does_336 rfl ?_
        refine q10_60 C hk dX10_does_337 ?_
        refine v_iload_n C dX10_does_340 rfl ?_
        refine n_iald C hk (show (18, 11, 4992) ∈ mTab by decide +kernel) (by omega) dX10_does_341 ?_
        refine v_callV (As := [_, _, _, _]) (n := 4) C (rt_X10_opens l m0 ad _ _ _ _ _ K0 o (nn + 1)) rfl hk.1 (by decide) rfl ⟨wd867, wd868, wd869, wd5, wd870⟩ ⟨rfl, hy_X10_opens⟩ rfl ⟨Nat.le_of_ble_eq_true rfl, Nat.le_of_ble_eq_true rfl⟩ (Nat.le_of_ble_eq_true rfl) ⟨Nat.le_of_ble_eq_true rfl, Nat.le_of_ble_eq_true rfl⟩ dX10_does_342 ⟨rfl, hk, rv2, t1, hO2, b32, (rv2.p15 _ hk49).1, (rv2.p15 _ hk49).2⟩ (fun r_342 S2_342 h_342 => ?_)
        obtain ⟨v342, K342, rfl, hk', x_342, p_v342⟩ := h_342
        have E0 := exm_tr E0 x_342
        have hk := hk'
        clear hk'
        obtain ⟨d', o', e1, e2, e3⟩ := p_v342
        refine v_iret C hr (Nat.le_of_ble_eq_true rfl) (Nat.le_of_ble_eq_true rfl) dX10_does_345 ?_
        exact ⟨_, _, rfl, hk, E0, (does_end e1 e2 (by omega) quiet_rfl)⟩
      · skip
        refine v_iconst (v := nI 4) C dX10_does_87 (by decide) ?_
        refine v_aload_n C dX10_does_88 rfl ?_
        refine q10_103 C hk dX10_does_89 ?_
        refine v_iload_n C dX10_does_92 rfl ?_
        refine n_iald C hk (show (33, 11, 2000) ∈ mTab by decide +kernel) (by omega) dX10_does_93 ?_
        refine v_val b33 ?_
        refine n_imul C dX10_does_94 ?_
        refine v_iload_n C dX10_does_95 rfl ?_
        refine v_iconst (v := nI 0) C dX10_does_96 (by decide) ?_
        refine v_iconst (v := nI 3) C dX10_does_97 (by decide) ?_
        refine v_callS (As := [_, _, _]) (n := 3) C (rt_X10_in l _ _ _) rfl ⟨wd244, wd245, wd5, wd246⟩ hy_X10_in rfl ⟨Nat.le_of_ble_eq_true rfl, Nat.le_of_ble_eq_true rfl⟩ (Nat.le_of_ble_eq_true rfl) ⟨Nat.le_of_ble_eq_true rfl, Nat.le_of_ble_eq_true rfl⟩ dX10_does_98 rfl (fun r_98 S2_98 h_98 => ?_)
        obtain ⟨v98, rfl, p_v98, q_v98⟩ := h_98
        obtain rfl := q_v98.symm
        rw [inB_below _ (n := 4) rfl] at p_v98
        refine b_if_eq (tgt := 108) C dX10_does_101 (by decide) (fun c_101 => ?_) (fun c_101 => ?_)
        · skip
          refine v_iconst (v := nI 0) C dX10_does_108 (by decide) ?_
          refine n_iadd C dX10_does_109 ?_
          exact k110 _ (by omega)
        · skip
          obtain ⟨j, hj, hj2⟩ := below_some (p_v98.symm.trans c_101)
          refine v_iload_n C dX10_does_104 rfl ?_
          refine v_val (y := nI j) hj2 ?_
          refine v_goto (tgt := 109) C dX10_does_105 (by decide) ?_
          refine n_iadd C dX10_does_109 ?_
          exact k110 _ (by omega)
    · skip
      refine v_aload_n C dX10_does_36 rfl ?_
      refine v_bipush (v := nI 6) C dX10_does_37 (by decide) ?_
      refine v_callV (As := [_]) (n := 1) C (rt_X10_fails l m0 ad _ _ K0 (f + 1) o nn) rfl hk.1 (by decide) rfl ⟨wd854, wd855, wd856, wd5, wd857⟩ ⟨rfl, hy_X10_fails⟩ rfl ⟨Nat.le_of_ble_eq_true rfl, Nat.le_of_ble_eq_true rfl⟩ (Nat.le_of_ble_eq_true rfl) ⟨Nat.le_of_ble_eq_true rfl, Nat.le_of_ble_eq_true rfl⟩ dX10_does_39 ⟨rfl, hk, hp, hO, (by decide)⟩ (fun r_39 S6_39 h_39 => ?_)
      obtain ⟨v39, K39, rfl, hk', x_39, p_v39⟩ := h_39
      have E0 := exm_tr E0 x_39
      have hk := hk'
      clear hk'
      obtain ⟨d', o', e1, e2, e3, e4⟩ := p_v39
      have e5 := e4 (by omega)
      refine v_iret C hr (Nat.le_of_ble_eq_true rfl) (Nat.le_of_ble_eq_true rfl) dX10_does_42 ?_
      exact ⟨_, _, rfl, hk, E0, (does_end e1 e2 (by omega) quiet_rfl)⟩
  · skip
    refine v_aload_n C dX10_does_20 rfl ?_
    refine v_callV (As := []) (n := 0) C (rt_X10_pops l m0 ad _ f o) rfl hk.1 (by decide) rfl ⟨wd850, wd851, wd852, wd5, wd853⟩ ⟨rfl, hy_X10_pops⟩ rfl ⟨Nat.le_of_ble_eq_true rfl, Nat.le_of_ble_eq_true rfl⟩ (Nat.le_of_ble_eq_true rfl) ⟨Nat.le_of_ble_eq_true rfl, Nat.le_of_ble_eq_true rfl⟩ dX10_does_21 ⟨rfl, hk, ⟨v0, by omega⟩, ⟨hp.2.2.2.2.2.2.1, by rw [← hO, opO]; omega, by omega⟩⟩ (fun r_21 S4_21 h_21 => ?_)
    obtain ⟨K21, rfl, hk', x_21, p_v21⟩ := h_21
    have E0 := exm_tr E0 x_21
    have hk := hk'
    clear hk'
    subst p_v21
    obtain ⟨g1, g2, g3⟩ := popK_PI hp hO
    refine v_iconst (v := nI 0) C dX10_does_24 (by decide) ?_
    refine v_iret C hr (Nat.le_of_ble_eq_true rfl) (Nat.le_of_ble_eq_true rfl) dX10_does_25 ?_
    exact ⟨_, _, rfl, hk, E0, (does_end g1 g2 (by omega) quiet_rfl)⟩
theorem dX10_play_0 : decode cX10_play 0 = .ok (.aload_n 0, 1) := by decide +kernel
theorem dX10_play_1 : decode cX10_play 1 = .ok (.iload_n 1, 1) := by decide +kernel
theorem dX10_play_2 : decode cX10_play 2 = .ok (.invokevirtual 176, 3) := by decide +kernel
theorem dX10_play_5 : decode cX10_play 5 = .ok (.ifCond .eq 10, 3) := by decide +kernel
theorem dX10_play_8 : decode cX10_play 8 = .ok (.iload_n 2, 1) := by decide +kernel
theorem dX10_play_9 : decode cX10_play 9 = .ok (.invokestatic 179, 3) := by decide +kernel
theorem dX10_play_12 : decode cX10_play 12 = .ok (.ifCond .ne 6, 3) := by decide +kernel
theorem dX10_play_15 : decode cX10_play 15 = .ok (.bipush (-2), 2) := by decide +kernel
theorem dX10_play_17 : decode cX10_play 17 = .ok (.ireturn, 1) := by decide +kernel
theorem dX10_play_18 : decode cX10_play 18 = .ok (.aload_n 0, 1) := by decide +kernel
theorem dX10_play_19 : decode cX10_play 19 = .ok (.iconst 0, 1) := by decide +kernel
theorem dX10_play_20 : decode cX10_play 20 = .ok (.putfield 266, 3) := by decide +kernel
theorem dX10_play_23 : decode cX10_play 23 = .ok (.aload_n 0, 1) := by decide +kernel
theorem dX10_play_24 : decode cX10_play 24 = .ok (.iconst 0, 1) := by decide +kernel
theorem dX10_play_25 : decode cX10_play 25 = .ok (.putfield 281, 3) := by decide +kernel
theorem dX10_play_28 : decode cX10_play 28 = .ok (.aload_n 0, 1) := by decide +kernel
theorem dX10_play_29 : decode cX10_play 29 = .ok (.iconst 1, 1) := by decide +kernel
theorem dX10_play_30 : decode cX10_play 30 = .ok (.putfield 243, 3) := by decide +kernel
theorem dX10_play_33 : decode cX10_play 33 = .ok (.aload_n 0, 1) := by decide +kernel
theorem dX10_play_34 : decode cX10_play 34 = .ok (.iconst 1, 1) := by decide +kernel
theorem dX10_play_35 : decode cX10_play 35 = .ok (.putfield 272, 3) := by decide +kernel
theorem dX10_play_38 : decode cX10_play 38 = .ok (.aload_n 0, 1) := by decide +kernel
theorem dX10_play_39 : decode cX10_play 39 = .ok (.iconst 0, 1) := by decide +kernel
theorem dX10_play_40 : decode cX10_play 40 = .ok (.putfield 236, 3) := by decide +kernel
theorem dX10_play_43 : decode cX10_play 43 = .ok (.aload_n 0, 1) := by decide +kernel
theorem dX10_play_44 : decode cX10_play 44 = .ok (.lconst 0, 1) := by decide +kernel
theorem dX10_play_45 : decode cX10_play 45 = .ok (.putfield 292, 3) := by decide +kernel
theorem dX10_play_48 : decode cX10_play 48 = .ok (.aload_n 0, 1) := by decide +kernel
theorem dX10_play_49 : decode cX10_play 49 = .ok (.iconst 0, 1) := by decide +kernel
theorem dX10_play_50 : decode cX10_play 50 = .ok (.putfield 257, 3) := by decide +kernel
theorem dX10_play_53 : decode cX10_play 53 = .ok (.aload_n 0, 1) := by decide +kernel
theorem dX10_play_54 : decode cX10_play 54 = .ok (.lload_n 3, 1) := by decide +kernel
theorem dX10_play_55 : decode cX10_play 55 = .ok (.putfield 262, 3) := by decide +kernel
theorem dX10_play_58 : decode cX10_play 58 = .ok (.aload_n 0, 1) := by decide +kernel
theorem dX10_play_59 : decode cX10_play 59 = .ok (.iload_n 1, 1) := by decide +kernel
theorem dX10_play_60 : decode cX10_play 60 = .ok (.iload_n 2, 1) := by decide +kernel
theorem dX10_play_61 : decode cX10_play 61 = .ok (.iconst (-1), 1) := by decide +kernel
theorem dX10_play_62 : decode cX10_play 62 = .ok (.invokevirtual 275, 3) := by decide +kernel
theorem dX10_play_65 : decode cX10_play 65 = .ok (.istore 5, 2) := by decide +kernel
theorem dX10_play_67 : decode cX10_play 67 = .ok (.iload 5, 2) := by decide +kernel
theorem dX10_play_69 : decode cX10_play 69 = .ok (.ifCond .ne 11, 3) := by decide +kernel
theorem dX10_play_72 : decode cX10_play 72 = .ok (.aload_n 0, 1) := by decide +kernel
theorem dX10_play_73 : decode cX10_play 73 = .ok (.iload_n 1, 1) := by decide +kernel
theorem dX10_play_74 : decode cX10_play 74 = .ok (.iload_n 2, 1) := by decide +kernel
theorem dX10_play_75 : decode cX10_play 75 = .ok (.iconst 0, 1) := by decide +kernel
theorem dX10_play_76 : decode cX10_play 76 = .ok (.iconst 1, 1) := by decide +kernel
theorem dX10_play_77 : decode cX10_play 77 = .ok (.invokevirtual 253, 3) := by decide +kernel
theorem dX10_play_80 : decode cX10_play 80 = .ok (.aload_n 0, 1) := by decide +kernel
theorem dX10_play_81 : decode cX10_play 81 = .ok (.getfield 236, 3) := by decide +kernel
theorem dX10_play_84 : decode cX10_play 84 = .ok (.ifCond .le 46, 3) := by decide +kernel
theorem dX10_play_87 : decode cX10_play 87 = .ok (.iload 5, 2) := by decide +kernel
theorem dX10_play_89 : decode cX10_play 89 = .ok (.ifCond .ne 41, 3) := by decide +kernel
theorem dX10_play_92 : decode cX10_play 92 = .ok (.aload_n 0, 1) := by decide +kernel
theorem dX10_play_93 : decode cX10_play 93 = .ok (.getfield 236, 3) := by decide +kernel
theorem dX10_play_96 : decode cX10_play 96 = .ok (.iconst 1, 1) := by decide +kernel
theorem dX10_play_97 : decode cX10_play 97 = .ok (.isub, 1) := by decide +kernel
theorem dX10_play_98 : decode cX10_play 98 = .ok (.istore 6, 2) := by decide +kernel
theorem dX10_play_100 : decode cX10_play 100 = .ok (.aload_n 0, 1) := by decide +kernel
theorem dX10_play_101 : decode cX10_play 101 = .ok (.getfield 100, 3) := by decide +kernel
theorem dX10_play_104 : decode cX10_play 104 = .ok (.iload 6, 2) := by decide +kernel
theorem dX10_play_106 : decode cX10_play 106 = .ok (.baload, 1) := by decide +kernel
theorem dX10_play_107 : decode cX10_play 107 = .ok (.ifCond .eq 14, 3) := by decide +kernel
theorem dX10_play_110 : decode cX10_play 110 = .ok (.aload_n 0, 1) := by decide +kernel
theorem dX10_play_111 : decode cX10_play 111 = .ok (.iload 6, 2) := by decide +kernel
theorem dX10_play_113 : decode cX10_play 113 = .ok (.invokevirtual 295, 3) := by decide +kernel
theorem dX10_play_116 : decode cX10_play 116 = .ok (.istore 5, 2) := by decide +kernel
theorem dX10_play_118 : decode cX10_play 118 = .ok (.goto 9, 3) := by decide +kernel
theorem dX10_play_121 : decode cX10_play 121 = .ok (.aload_n 0, 1) := by decide +kernel
theorem dX10_play_122 : decode cX10_play 122 = .ok (.iload 6, 2) := by decide +kernel
theorem dX10_play_124 : decode cX10_play 124 = .ok (.invokevirtual 298, 3) := by decide +kernel
theorem dX10_play_127 : decode cX10_play 127 = .ok (.goto (-47), 3) := by decide +kernel
theorem dX10_play_130 : decode cX10_play 130 = .ok (.aload_n 0, 1) := by decide +kernel
theorem dX10_play_131 : decode cX10_play 131 = .ok (.iload 5, 2) := by decide +kernel
theorem dX10_play_133 : decode cX10_play 133 = .ok (.iconst 1, 1) := by decide +kernel
theorem dX10_play_134 : decode cX10_play 134 = .ok (.if_icmp .ne 10, 3) := by decide +kernel
theorem dX10_play_137 : decode cX10_play 137 = .ok (.aload_n 0, 1) := by decide +kernel
theorem dX10_play_138 : decode cX10_play 138 = .ok (.getfield 257, 3) := by decide +kernel
theorem dX10_play_141 : decode cX10_play 141 = .ok (.goto 4, 3) := by decide +kernel
theorem dX10_play_144 : decode cX10_play 144 = .ok (.iconst 0, 1) := by decide +kernel
theorem dX10_play_145 : decode cX10_play 145 = .ok (.putfield 257, 3) := by decide +kernel
theorem dX10_play_148 : decode cX10_play 148 = .ok (.aload_n 0, 1) := by decide +kernel
theorem dX10_play_149 : decode cX10_play 149 = .ok (.iload 5, 2) := by decide +kernel
theorem dX10_play_151 : decode cX10_play 151 = .ok (.ifCond .ne 10, 3) := by decide +kernel
theorem dX10_play_154 : decode cX10_play 154 = .ok (.aload_n 0, 1) := by decide +kernel
theorem dX10_play_155 : decode cX10_play 155 = .ok (.getfield 262, 3) := by decide +kernel
theorem dX10_play_158 : decode cX10_play 158 = .ok (.goto 4, 3) := by decide +kernel
theorem dX10_play_161 : decode cX10_play 161 = .ok (.lconst 0, 1) := by decide +kernel
theorem dX10_play_162 : decode cX10_play 162 = .ok (.putfield 292, 3) := by decide +kernel
theorem dX10_play_165 : decode cX10_play 165 = .ok (.iload 5, 2) := by decide +kernel
theorem dX10_play_167 : decode cX10_play 167 = .ok (.ireturn, 1) := by decide +kernel
set_option maxRecDepth 100000 in
set_option maxHeartbeats 4000000 in
theorem rt_X10_play (l : Launch) (m0 : Nat) (ad : Nat → Nat) (K : RS) (x0 : Int32) (x1 : Int32) (x2 : Int64) : Ct l yX10_play cX10_play 7 (some .int) 8 0 0 203 (fun S av => av = [.ref m0, .int x0, .int x1, .long x2] ∧ mdR S m0 ad K ∧ RV K) (fun S _ r S' => ∃ (v : Int32) (K' : RS), r = some (.int v) ∧ mdR S' m0 ad K' ∧ exm S S' m0 ad ∧ pkeep K K' ∧ P16 K') := by
  refine ct_of (by decide) (fun S av h => by obtain ⟨rfl, hk, rv⟩ := h; exact Nat.le_of_ble_eq_true rfl) ?_
  intro p e s m args below meth c D G bs S av C hr hin hpre
  obtain ⟨rfl, hk, rv⟩ := hpre
  have E0 : exm S S m0 ad := exm_rfl
  refine v_aload_n C dX10_play_0 rfl ?_
  refine v_iload_n C dX10_play_1 rfl ?_
  refine v_callV (As := [_]) (n := 1) C (rt_X10_isCharacter l m0 ad _ _) rfl hk.1 (by decide) rfl ⟨wd334, wd335, wd336, wd5, wd337⟩ ⟨rfl, hy_X10_isCharacter⟩ rfl ⟨Nat.le_of_ble_eq_true rfl, Nat.le_of_ble_eq_true rfl⟩ (Nat.le_of_ble_eq_true rfl) ⟨Nat.le_of_ble_eq_true rfl, Nat.le_of_ble_eq_true rfl⟩ dX10_play_2 ⟨rfl, hk, rv⟩ (fun r_2 S2_2 h_2 => ?_)
  obtain ⟨v2, rfl, p_v2, q_v2⟩ := h_2
  obtain rfl := q_v2.symm
  refine b_if_eq (tgt := 15) C dX10_play_5 (by decide) (fun c_5 => ?_) (fun c_5 => ?_)
  · skip
    refine v_bipush (v := -2) C dX10_play_15 (by decide) ?_
    refine v_iret C hr (Nat.le_of_ble_eq_true rfl) (Nat.le_of_ble_eq_true rfl) dX10_play_17 ?_
    exact ⟨_, _, rfl, hk, E0, (⟨keep_rfl, rv.p16⟩)⟩
  · skip
    obtain ⟨u, h0u, rfl⟩ := below_some (p_v2.symm.trans c_5)
    have hu : u < 12 := by have := rv.p2.2; omega
    have e_u := nI_clamp (show u < 2 ^ 31 by omega)
    refine v_iload_n C dX10_play_8 rfl ?_
    refine v_callS (As := [_]) (n := 1) C (rt_X10_isAct l _) rfl ⟨wd368, wd369, wd5, wd370⟩ hy_X10_isAct rfl ⟨Nat.le_of_ble_eq_true rfl, Nat.le_of_ble_eq_true rfl⟩ (Nat.le_of_ble_eq_true rfl) ⟨Nat.le_of_ble_eq_true rfl, Nat.le_of_ble_eq_true rfl⟩ dX10_play_9 rfl (fun r_9 S4_9 h_9 => ?_)
    obtain ⟨v9, rfl, p_v9, q_v9⟩ := h_9
    obtain rfl := q_v9.symm
    refine b_if_ne (tgt := 18) C dX10_play_12 (by decide) (fun c_12 => ?_) (fun c_12 => ?_)
    · skip
      obtain ⟨n, hn, rfl⟩ := below_some (p_v9.symm.trans c_12)
      have e_n := nI_clamp (show n < 2 ^ 31 by omega)
      refine v_aload_n C dX10_play_18 rfl ?_
      refine v_iconst (v := nI 0) C dX10_play_19 (by decide) ?_
      refine w10_266 C hk dX10_play_20 (fun S6_20 hk' x_20 => ?_)
      have E0 := exm_tr E0 x_20
      have hk := hk'
      clear hk'
      refine v_aload_n C dX10_play_23 rfl ?_
      refine v_iconst (v := nI 0) C dX10_play_24 (by decide) ?_
      refine w10_281 C hk dX10_play_25 (fun S6_25 hk' x_25 => ?_)
      have E0 := exm_tr E0 x_25
      have hk := hk'
      clear hk'
      refine v_aload_n C dX10_play_28 rfl ?_
      refine v_iconst (v := nI 1) C dX10_play_29 (by decide) ?_
      refine w10_243 C hk dX10_play_30 (fun S6_30 hk' x_30 => ?_)
      have E0 := exm_tr E0 x_30
      have hk := hk'
      clear hk'
      refine v_aload_n C dX10_play_33 rfl ?_
      refine v_iconst (v := nI 1) C dX10_play_34 (by decide) ?_
      refine w10_272 C hk dX10_play_35 (fun S6_35 hk' x_35 => ?_)
      have E0 := exm_tr E0 x_35
      have hk := hk'
      clear hk'
      refine v_aload_n C dX10_play_38 rfl ?_
      refine v_iconst (v := nI 0) C dX10_play_39 (by decide) ?_
      refine w10_236 C hk dX10_play_40 (fun S6_40 hk' x_40 => ?_)
      have E0 := exm_tr E0 x_40
      have hk := hk'
      clear hk'
      refine v_aload_n C dX10_play_43 rfl ?_
      refine v_lconst (v := 0) C dX10_play_44 (by decide) ?_
      refine w10_292 C hk dX10_play_45 (fun S6_45 hk' x_45 => ?_)
      have E0 := exm_tr E0 x_45
      have hk := hk'
      clear hk'
      refine v_aload_n C dX10_play_48 rfl ?_
      refine v_iconst (v := nI 0) C dX10_play_49 (by decide) ?_
      refine w10_257 C hk dX10_play_50 (fun S6_50 hk' x_50 => ?_)
      have E0 := exm_tr E0 x_50
      have hk := hk'
      clear hk'
      refine v_aload_n C dX10_play_53 rfl ?_
      refine v_lload_n C dX10_play_54 rfl ?_
      refine w10_262 C hk dX10_play_55 (fun S6_55 hk' x_55 => ?_)
      have E0 := exm_tr E0 x_55
      have hk := hk'
      clear hk'
      have i1 : PI K (wJ (wF (wJ (wF (wF (wF (wF (wF K 49 (nI 0)) 46 (nI 0)) 47 (nI 1)) 48 (nI 1)) 42 (nI 0)) 44 0) 45 (nI 0)) 43 x2) 0 1 0 := ⟨keep_wJ (keep_wF (keep_wJ (keep_wF (keep_wF (keep_wF (keep_wF (keep_wF keep_rfl (by decide)) (by decide)) (by decide)) (by decide)) (by decide)) (by decide)) (by decide)) (by decide), rfl, rfl, Nat.zero_le _, ⟨rfl, Nat.zero_le _⟩, fun k hk => absurd hk (Nat.not_lt_zero k), rfl, by decide⟩
      generalize hK1 : wJ (wF (wJ (wF (wF (wF (wF (wF K 49 (nI 0)) 46 (nI 0)) 47 (nI 1)) 48 (nI 1)) 42 (nI 0)) 44 0) 45 (nI 0)) 43 x2 = K1 at hk i1
      have rv1 := PI_RV rv i1
      refine v_aload_n C dX10_play_58 rfl ?_
      refine v_iload_n C dX10_play_59 rfl ?_
      refine v_iload_n C dX10_play_60 rfl ?_
      refine v_iconst (v := -1) C dX10_play_61 (by decide) ?_
      refine v_callV (As := [_, _, _]) (n := 3) C (rt_X10_against l m0 ad _ _ _ _) rfl hk.1 (by decide) rfl ⟨wd834, wd835, wd836, wd5, wd837⟩ ⟨rfl, hy_X10_against⟩ rfl ⟨Nat.le_of_ble_eq_true rfl, Nat.le_of_ble_eq_true rfl⟩ (Nat.le_of_ble_eq_true rfl) ⟨Nat.le_of_ble_eq_true rfl, Nat.le_of_ble_eq_true rfl⟩ dX10_play_62 ⟨rfl, hk, rv1, hu, hn, (Or.inl rfl)⟩ (fun r_62 S6_62 h_62 => ?_)
      obtain ⟨v62, rfl, p_v62, b_v62, q_v62⟩ := h_62
      obtain rfl := q_v62.symm
      obtain ⟨bw1, bw2⟩ := b_v62
      refine v_istore C dX10_play_65 (by decide) rfl ?_
      refine v_iload C dX10_play_67 rfl ?_
      refine n_if_ne (tgt := 80) C (by omega) dX10_play_69 (by decide) (fun c_69 => ?_) (fun c_69 => ?_)
      · skip
        refine V.lits (lv' := [_, _, _, _, _, _, _]) rfl ?_
        refine v_loop (fun (tt : (Int32) × (Nat) × (Nat) × (Nat) × (RS)) lv0 => (lv0.set 5 (some (.int tt.1)))) (fun (S1 : Mem) (tt : (Int32) × (Nat) × (Nat) × (Nat) × (RS)) => mdR S1 m0 ad tt.2.2.2.2 ∧ exm S S1 m0 ad ∧ (PI K tt.2.2.2.2 tt.2.1 tt.2.2.1 tt.2.2.2.1) ∧ (tt.2.1 = 0 ∨ opO tt.2.2.2.2 tt.2.1 = tt.2.2.1)) (fun (S1 : Mem) (tt : (Int32) × (Nat) × (Nat) × (Nat) × (RS)) => 300 * (600 - tt.2.2.2.1) + potS tt.2.2.2.2 tt.2.1) (t := (nI v62, 0, 1, 0, _)) rfl ⟨hk, E0, i1, (Or.inl rfl)⟩ ?_
        intro L80 tt h_80 ih_80
        obtain ⟨y, d, o, nn, K2⟩ := tt
        obtain ⟨hk, E0, hP, hO⟩ := h_80
        try dsimp only at *
        refine v_aload_n C dX10_play_80 rfl ?_
        have hdd := PI_deep hP
        have ho4 := hP.2.2.2.2.2.2.2
        have hd9 : d < 2000 := by rcases hO with z | z <;> omega
        have rv2 := PI_RV rv hP
        refine q10_236 C hk dX10_play_81 ?_
        refine v_val hP.2.1 ?_
        refine n_if_le (tgt := 130) C (by omega) dX10_play_84 (by decide) (fun c_84 => ?_) (fun c_84 => ?_)
        · skip
          refine v_aload_n C dX10_play_130 rfl ?_
          refine v_iload C dX10_play_131 rfl ?_
          refine v_iconst (v := nI 1) C dX10_play_133 (by decide) ?_
          refine v_icmp_ne (tgt := 144) C dX10_play_134 (by decide) (fun c_134 => ?_) (fun c_134 => ?_)
          · skip
            refine v_iconst (v := nI 0) C dX10_play_144 (by decide) ?_
            refine w10_257 C hk dX10_play_145 (fun S4_145 hk' x_145 => ?_)
            have E0 := exm_tr E0 x_145
            have hk := hk'
            clear hk'
            refine v_aload_n C dX10_play_148 rfl ?_
            refine v_iload C dX10_play_149 rfl ?_
            refine v_if_ne (tgt := 161) C dX10_play_151 (by decide) (fun c_151 => ?_) (fun c_151 => ?_)
            · skip
              refine v_lconst (v := 0) C dX10_play_161 (by decide) ?_
              refine w10_292 C hk dX10_play_162 (fun S6_162 hk' x_162 => ?_)
              have E0 := exm_tr E0 x_162
              have hk := hk'
              clear hk'
              refine v_iload C dX10_play_165 rfl ?_
              refine v_iret C hr (Nat.le_of_ble_eq_true rfl) (Nat.le_of_ble_eq_true rfl) dX10_play_167 ?_
              exact ⟨_, _, rfl, hk, E0, (⟨keep_wJ (keep_wF hP.1 (by decide)) (by decide), hP.2.2.2.2.1⟩)⟩
            · skip
              refine v_aload_n C dX10_play_154 rfl ?_
              refine q10_262 C hk dX10_play_155 ?_
              refine v_goto (tgt := 162) C dX10_play_158 (by decide) ?_
              refine w10_292 C hk dX10_play_162 (fun S6_162 hk' x_162 => ?_)
              have E0 := exm_tr E0 x_162
              have hk := hk'
              clear hk'
              refine v_iload C dX10_play_165 rfl ?_
              refine v_iret C hr (Nat.le_of_ble_eq_true rfl) (Nat.le_of_ble_eq_true rfl) dX10_play_167 ?_
              exact ⟨_, _, rfl, hk, E0, (⟨keep_wJ (keep_wF hP.1 (by decide)) (by decide), hP.2.2.2.2.1⟩)⟩
          · skip
            refine v_aload_n C dX10_play_137 rfl ?_
            refine q10_257 C hk dX10_play_138 ?_
            refine v_goto (tgt := 145) C dX10_play_141 (by decide) ?_
            refine w10_257 C hk dX10_play_145 (fun S4_145 hk' x_145 => ?_)
            have E0 := exm_tr E0 x_145
            have hk := hk'
            clear hk'
            refine v_aload_n C dX10_play_148 rfl ?_
            refine v_iload C dX10_play_149 rfl ?_
            refine v_if_ne (tgt := 161) C dX10_play_151 (by decide) (fun c_151 => ?_) (fun c_151 => ?_)
            · skip
              refine v_lconst (v := 0) C dX10_play_161 (by decide) ?_
              refine w10_292 C hk dX10_play_162 (fun S6_162 hk' x_162 => ?_)
              have E0 := exm_tr E0 x_162
              have hk := hk'
              clear hk'
              refine v_iload C dX10_play_165 rfl ?_
              refine v_iret C hr (Nat.le_of_ble_eq_true rfl) (Nat.le_of_ble_eq_true rfl) dX10_play_167 ?_
              exact ⟨_, _, rfl, hk, E0, (⟨keep_wJ (keep_wF hP.1 (by decide)) (by decide), hP.2.2.2.2.1⟩)⟩
            · skip
              refine v_aload_n C dX10_play_154 rfl ?_
              refine q10_262 C hk dX10_play_155 ?_
              refine v_goto (tgt := 162) C dX10_play_158 (by decide) ?_
              refine w10_292 C hk dX10_play_162 (fun S6_162 hk' x_162 => ?_)
              have E0 := exm_tr E0 x_162
              have hk := hk'
              clear hk'
              refine v_iload C dX10_play_165 rfl ?_
              refine v_iret C hr (Nat.le_of_ble_eq_true rfl) (Nat.le_of_ble_eq_true rfl) dX10_play_167 ?_
              exact ⟨_, _, rfl, hk, E0, (⟨keep_wJ (keep_wF hP.1 (by decide)) (by decide), hP.2.2.2.2.1⟩)⟩
        · skip
          obtain ⟨f, rfl⟩ : ∃ f, d = f + 1 := ⟨d - 1, by omega⟩
          have hO2 := hO.resolve_left (by omega)
          refine v_iload C dX10_play_87 rfl ?_
          refine v_if_ne (tgt := 130) C dX10_play_89 (by decide) (fun c_89 => ?_) (fun c_89 => ?_)
          · skip
            refine v_aload_n C dX10_play_130 rfl ?_
            refine v_iload C dX10_play_131 rfl ?_
            refine v_iconst (v := nI 1) C dX10_play_133 (by decide) ?_
            refine v_icmp_ne (tgt := 144) C dX10_play_134 (by decide) (fun c_134 => ?_) (fun c_134 => ?_)
            · skip
              refine v_iconst (v := nI 0) C dX10_play_144 (by decide) ?_
              refine w10_257 C hk dX10_play_145 (fun S6_145 hk' x_145 => ?_)
              have E0 := exm_tr E0 x_145
              have hk := hk'
              clear hk'
              refine v_aload_n C dX10_play_148 rfl ?_
              refine v_iload C dX10_play_149 rfl ?_
              refine v_if_ne (tgt := 161) C dX10_play_151 (by decide) (fun c_151 => ?_) (fun c_151 => ?_)
              · skip
                refine v_lconst (v := 0) C dX10_play_161 (by decide) ?_
                refine w10_292 C hk dX10_play_162 (fun S8_162 hk' x_162 => ?_)
                have E0 := exm_tr E0 x_162
                have hk := hk'
                clear hk'
                refine v_iload C dX10_play_165 rfl ?_
                refine v_iret C hr (Nat.le_of_ble_eq_true rfl) (Nat.le_of_ble_eq_true rfl) dX10_play_167 ?_
                exact ⟨_, _, rfl, hk, E0, (⟨keep_wJ (keep_wF hP.1 (by decide)) (by decide), hP.2.2.2.2.1⟩)⟩
              · skip
                refine v_aload_n C dX10_play_154 rfl ?_
                refine q10_262 C hk dX10_play_155 ?_
                refine v_goto (tgt := 162) C dX10_play_158 (by decide) ?_
                refine w10_292 C hk dX10_play_162 (fun S8_162 hk' x_162 => ?_)
                have E0 := exm_tr E0 x_162
                have hk := hk'
                clear hk'
                refine v_iload C dX10_play_165 rfl ?_
                refine v_iret C hr (Nat.le_of_ble_eq_true rfl) (Nat.le_of_ble_eq_true rfl) dX10_play_167 ?_
                exact ⟨_, _, rfl, hk, E0, (⟨keep_wJ (keep_wF hP.1 (by decide)) (by decide), hP.2.2.2.2.1⟩)⟩
            · skip
              refine v_aload_n C dX10_play_137 rfl ?_
              refine q10_257 C hk dX10_play_138 ?_
              refine v_goto (tgt := 145) C dX10_play_141 (by decide) ?_
              refine w10_257 C hk dX10_play_145 (fun S6_145 hk' x_145 => ?_)
              have E0 := exm_tr E0 x_145
              have hk := hk'
              clear hk'
              refine v_aload_n C dX10_play_148 rfl ?_
              refine v_iload C dX10_play_149 rfl ?_
              refine v_if_ne (tgt := 161) C dX10_play_151 (by decide) (fun c_151 => ?_) (fun c_151 => ?_)
              · skip
                refine v_lconst (v := 0) C dX10_play_161 (by decide) ?_
                refine w10_292 C hk dX10_play_162 (fun S8_162 hk' x_162 => ?_)
                have E0 := exm_tr E0 x_162
                have hk := hk'
                clear hk'
                refine v_iload C dX10_play_165 rfl ?_
                refine v_iret C hr (Nat.le_of_ble_eq_true rfl) (Nat.le_of_ble_eq_true rfl) dX10_play_167 ?_
                exact ⟨_, _, rfl, hk, E0, (⟨keep_wJ (keep_wF hP.1 (by decide)) (by decide), hP.2.2.2.2.1⟩)⟩
              · skip
                refine v_aload_n C dX10_play_154 rfl ?_
                refine q10_262 C hk dX10_play_155 ?_
                refine v_goto (tgt := 162) C dX10_play_158 (by decide) ?_
                refine w10_292 C hk dX10_play_162 (fun S8_162 hk' x_162 => ?_)
                have E0 := exm_tr E0 x_162
                have hk := hk'
                clear hk'
                refine v_iload C dX10_play_165 rfl ?_
                refine v_iret C hr (Nat.le_of_ble_eq_true rfl) (Nat.le_of_ble_eq_true rfl) dX10_play_167 ?_
                exact ⟨_, _, rfl, hk, E0, (⟨keep_wJ (keep_wF hP.1 (by decide)) (by decide), hP.2.2.2.2.1⟩)⟩
          · skip
            refine v_aload_n C dX10_play_92 rfl ?_
            refine q10_236 C hk dX10_play_93 ?_
            refine v_val hP.2.1 ?_
            refine v_iconst (v := nI 1) C dX10_play_96 (by decide) ?_
            refine n_isub C (by omega) dX10_play_97 ?_
            refine v_val (y := nI f) rfl ?_
            refine v_istore C dX10_play_98 (by decide) rfl ?_
            refine v_aload_n C dX10_play_100 rfl ?_
            refine q10_100 C hk dX10_play_101 ?_
            refine v_iload C dX10_play_104 rfl ?_
            refine n_zald C hk (show (32, 13, 2000) ∈ mTab by decide +kernel) (by omega) dX10_play_106 ?_
            refine v_if_eq (tgt := 121) C dX10_play_107 (by decide) (fun c_107 => ?_) (fun c_107 => ?_)
            · skip
              refine v_aload_n C dX10_play_121 rfl ?_
              refine v_iload C dX10_play_122 rfl ?_
              refine v_callV (As := [_]) (n := 1) C (rt_X10_around l m0 ad _ _ K o nn) rfl hk.1 (by decide) rfl ⟨wd875, wd876, wd877, wd5, wd878⟩ ⟨rfl, hy_X10_around⟩ rfl ⟨Nat.le_of_ble_eq_true rfl, Nat.le_of_ble_eq_true rfl⟩ (Nat.le_of_ble_eq_true rfl) ⟨Nat.le_of_ble_eq_true rfl, Nat.le_of_ble_eq_true rfl⟩ dX10_play_124 ⟨rfl, hk, rv2, hP, hO2, c_107⟩ (fun r_124 S6_124 h_124 => ?_)
              obtain ⟨K124, rfl, hk', x_124, p_v124⟩ := h_124
              have E0 := exm_tr E0 x_124
              have hk := hk'
              clear hk'
              obtain ⟨d', o', e1, e2, e3⟩ := p_v124
              obtain ⟨n', hn'⟩ : ∃ n', n' = nn := ⟨_, rfl⟩
              rw [← hn'] at e1
              refine v_goto (tgt := 80) C dX10_play_127 (by decide) ?_
              refine V.drop 6 ?_
              refine V.lits (lv' := [_, _, _, _, _, _, _]) rfl ?_
              exact ih_80 _ (_, d', o', n', _) (by first | omega | (dsimp only; omega)) ⟨hk, E0, e1, (Or.inr e2)⟩
            · skip
              refine v_aload_n C dX10_play_110 rfl ?_
              refine v_iload C dX10_play_111 rfl ?_
              refine v_callV (As := [_]) (n := 1) C (rt_X10_does l m0 ad _ _ K o nn) rfl hk.1 (by decide) rfl ⟨wd846, wd847, wd848, wd5, wd849⟩ ⟨rfl, hy_X10_does⟩ rfl ⟨Nat.le_of_ble_eq_true rfl, Nat.le_of_ble_eq_true rfl⟩ (Nat.le_of_ble_eq_true rfl) ⟨Nat.le_of_ble_eq_true rfl, Nat.le_of_ble_eq_true rfl⟩ dX10_play_113 ⟨rfl, hk, rv2, hP, hO2, c_107⟩ (fun r_113 S6_113 h_113 => ?_)
              obtain ⟨v113, K113, rfl, hk', x_113, p_v113⟩ := h_113
              have E0 := exm_tr E0 x_113
              have hk := hk'
              clear hk'
              obtain ⟨d', o', n', e1, e2, e3⟩ := p_v113
              refine v_istore C dX10_play_116 (by decide) rfl ?_
              refine v_goto (tgt := 127) C dX10_play_118 (by decide) ?_
              refine v_goto (tgt := 80) C dX10_play_127 (by decide) ?_
              refine V.drop 6 ?_
              refine V.lits (lv' := [_, _, _, _, _, _, _]) rfl ?_
              exact ih_80 _ (_, d', o', n', _) (by first | omega | (dsimp only; omega)) ⟨hk, E0, e1, (Or.inr e2)⟩
      · skip
        subst c_69
        have hcj := bw2 rfl
        rw [chooseF_pk i1.1] at hcj
        obtain ⟨t1, t2, t3⟩ := pushL_PI (L := 0) (op := true) i1 rfl h0u hn hcj (Nat.zero_le _) (by decide) (by decide)
        refine v_aload_n C dX10_play_72 rfl ?_
        refine v_iload_n C dX10_play_73 rfl ?_
        refine v_iload_n C dX10_play_74 rfl ?_
        refine v_iconst (v := nI 0) C dX10_play_75 (by decide) ?_
        refine v_iconst (v := nI 1) C dX10_play_76 (by decide) ?_
        refine v_callV (As := [_, _, _, _]) (n := 4) C (rt_X10_pushLayer l m0 ad _ _ _ _ true 0) rfl hk.1 (by decide) rfl ⟨wd838, wd839, wd840, wd5, wd841⟩ ⟨rfl, hy_X10_pushLayer⟩ rfl ⟨Nat.le_of_ble_eq_true rfl, Nat.le_of_ble_eq_true rfl⟩ (Nat.le_of_ble_eq_true rfl) ⟨Nat.le_of_ble_eq_true rfl, Nat.le_of_ble_eq_true rfl⟩ dX10_play_77 ⟨rfl, hk, ⟨i1.2.1, by decide⟩⟩ (fun r_77 S8_77 h_77 => ?_)
        obtain ⟨K77, rfl, hk', x_77, p_v77⟩ := h_77
        have E0 := exm_tr E0 x_77
        have hk := hk'
        clear hk'
        subst p_v77
        refine V.lits (lv' := [_, _, _, _, _, _, _]) rfl ?_
        refine v_loop (fun (tt : (Int32) × (Nat) × (Nat) × (Nat) × (RS)) lv0 => (lv0.set 5 (some (.int tt.1)))) (fun (S1 : Mem) (tt : (Int32) × (Nat) × (Nat) × (Nat) × (RS)) => mdR S1 m0 ad tt.2.2.2.2 ∧ exm S S1 m0 ad ∧ (PI K tt.2.2.2.2 tt.2.1 tt.2.2.1 tt.2.2.2.1) ∧ (tt.2.1 = 0 ∨ opO tt.2.2.2.2 tt.2.1 = tt.2.2.1)) (fun (S1 : Mem) (tt : (Int32) × (Nat) × (Nat) × (Nat) × (RS)) => 300 * (600 - tt.2.2.2.1) + potS tt.2.2.2.2 tt.2.1) (t := (nI 0, (0 + 1), 1, 0, _)) rfl ⟨hk, E0, t1, (Or.inr t2)⟩ ?_
        intro L80 tt h_80 ih_80
        obtain ⟨y, d, o, nn, K2⟩ := tt
        obtain ⟨hk, E0, hP, hO⟩ := h_80
        try dsimp only at *
        refine v_aload_n C dX10_play_80 rfl ?_
        have hdd := PI_deep hP
        have ho4 := hP.2.2.2.2.2.2.2
        have hd9 : d < 2000 := by rcases hO with z | z <;> omega
        have rv2 := PI_RV rv hP
        refine q10_236 C hk dX10_play_81 ?_
        refine v_val hP.2.1 ?_
        refine n_if_le (tgt := 130) C (by omega) dX10_play_84 (by decide) (fun c_84 => ?_) (fun c_84 => ?_)
        · skip
          refine v_aload_n C dX10_play_130 rfl ?_
          refine v_iload C dX10_play_131 rfl ?_
          refine v_iconst (v := nI 1) C dX10_play_133 (by decide) ?_
          refine v_icmp_ne (tgt := 144) C dX10_play_134 (by decide) (fun c_134 => ?_) (fun c_134 => ?_)
          · skip
            refine v_iconst (v := nI 0) C dX10_play_144 (by decide) ?_
            refine w10_257 C hk dX10_play_145 (fun S4_145 hk' x_145 => ?_)
            have E0 := exm_tr E0 x_145
            have hk := hk'
            clear hk'
            refine v_aload_n C dX10_play_148 rfl ?_
            refine v_iload C dX10_play_149 rfl ?_
            refine v_if_ne (tgt := 161) C dX10_play_151 (by decide) (fun c_151 => ?_) (fun c_151 => ?_)
            · skip
              refine v_lconst (v := 0) C dX10_play_161 (by decide) ?_
              refine w10_292 C hk dX10_play_162 (fun S6_162 hk' x_162 => ?_)
              have E0 := exm_tr E0 x_162
              have hk := hk'
              clear hk'
              refine v_iload C dX10_play_165 rfl ?_
              refine v_iret C hr (Nat.le_of_ble_eq_true rfl) (Nat.le_of_ble_eq_true rfl) dX10_play_167 ?_
              exact ⟨_, _, rfl, hk, E0, (⟨keep_wJ (keep_wF hP.1 (by decide)) (by decide), hP.2.2.2.2.1⟩)⟩
            · skip
              refine v_aload_n C dX10_play_154 rfl ?_
              refine q10_262 C hk dX10_play_155 ?_
              refine v_goto (tgt := 162) C dX10_play_158 (by decide) ?_
              refine w10_292 C hk dX10_play_162 (fun S6_162 hk' x_162 => ?_)
              have E0 := exm_tr E0 x_162
              have hk := hk'
              clear hk'
              refine v_iload C dX10_play_165 rfl ?_
              refine v_iret C hr (Nat.le_of_ble_eq_true rfl) (Nat.le_of_ble_eq_true rfl) dX10_play_167 ?_
              exact ⟨_, _, rfl, hk, E0, (⟨keep_wJ (keep_wF hP.1 (by decide)) (by decide), hP.2.2.2.2.1⟩)⟩
          · skip
            refine v_aload_n C dX10_play_137 rfl ?_
            refine q10_257 C hk dX10_play_138 ?_
            refine v_goto (tgt := 145) C dX10_play_141 (by decide) ?_
            refine w10_257 C hk dX10_play_145 (fun S4_145 hk' x_145 => ?_)
            have E0 := exm_tr E0 x_145
            have hk := hk'
            clear hk'
            refine v_aload_n C dX10_play_148 rfl ?_
            refine v_iload C dX10_play_149 rfl ?_
            refine v_if_ne (tgt := 161) C dX10_play_151 (by decide) (fun c_151 => ?_) (fun c_151 => ?_)
            · skip
              refine v_lconst (v := 0) C dX10_play_161 (by decide) ?_
              refine w10_292 C hk dX10_play_162 (fun S6_162 hk' x_162 => ?_)
              have E0 := exm_tr E0 x_162
              have hk := hk'
              clear hk'
              refine v_iload C dX10_play_165 rfl ?_
              refine v_iret C hr (Nat.le_of_ble_eq_true rfl) (Nat.le_of_ble_eq_true rfl) dX10_play_167 ?_
              exact ⟨_, _, rfl, hk, E0, (⟨keep_wJ (keep_wF hP.1 (by decide)) (by decide), hP.2.2.2.2.1⟩)⟩
            · skip
              refine v_aload_n C dX10_play_154 rfl ?_
              refine q10_262 C hk dX10_play_155 ?_
              refine v_goto (tgt := 162) C dX10_play_158 (by decide) ?_
              refine w10_292 C hk dX10_play_162 (fun S6_162 hk' x_162 => ?_)
              have E0 := exm_tr E0 x_162
              have hk := hk'
              clear hk'
              refine v_iload C dX10_play_165 rfl ?_
              refine v_iret C hr (Nat.le_of_ble_eq_true rfl) (Nat.le_of_ble_eq_true rfl) dX10_play_167 ?_
              exact ⟨_, _, rfl, hk, E0, (⟨keep_wJ (keep_wF hP.1 (by decide)) (by decide), hP.2.2.2.2.1⟩)⟩
        · skip
          obtain ⟨f, rfl⟩ : ∃ f, d = f + 1 := ⟨d - 1, by omega⟩
          have hO2 := hO.resolve_left (by omega)
          refine v_iload C dX10_play_87 rfl ?_
          refine v_if_ne (tgt := 130) C dX10_play_89 (by decide) (fun c_89 => ?_) (fun c_89 => ?_)
          · skip
            refine v_aload_n C dX10_play_130 rfl ?_
            refine v_iload C dX10_play_131 rfl ?_
            refine v_iconst (v := nI 1) C dX10_play_133 (by decide) ?_
            refine v_icmp_ne (tgt := 144) C dX10_play_134 (by decide) (fun c_134 => ?_) (fun c_134 => ?_)
            · skip
              refine v_iconst (v := nI 0) C dX10_play_144 (by decide) ?_
              refine w10_257 C hk dX10_play_145 (fun S6_145 hk' x_145 => ?_)
              have E0 := exm_tr E0 x_145
              have hk := hk'
              clear hk'
              refine v_aload_n C dX10_play_148 rfl ?_
              refine v_iload C dX10_play_149 rfl ?_
              refine v_if_ne (tgt := 161) C dX10_play_151 (by decide) (fun c_151 => ?_) (fun c_151 => ?_)
              · skip
                refine v_lconst (v := 0) C dX10_play_161 (by decide) ?_
                refine w10_292 C hk dX10_play_162 (fun S8_162 hk' x_162 => ?_)
                have E0 := exm_tr E0 x_162
                have hk := hk'
                clear hk'
                refine v_iload C dX10_play_165 rfl ?_
                refine v_iret C hr (Nat.le_of_ble_eq_true rfl) (Nat.le_of_ble_eq_true rfl) dX10_play_167 ?_
                exact ⟨_, _, rfl, hk, E0, (⟨keep_wJ (keep_wF hP.1 (by decide)) (by decide), hP.2.2.2.2.1⟩)⟩
              · skip
                refine v_aload_n C dX10_play_154 rfl ?_
                refine q10_262 C hk dX10_play_155 ?_
                refine v_goto (tgt := 162) C dX10_play_158 (by decide) ?_
                refine w10_292 C hk dX10_play_162 (fun S8_162 hk' x_162 => ?_)
                have E0 := exm_tr E0 x_162
                have hk := hk'
                clear hk'
                refine v_iload C dX10_play_165 rfl ?_
                refine v_iret C hr (Nat.le_of_ble_eq_true rfl) (Nat.le_of_ble_eq_true rfl) dX10_play_167 ?_
                exact ⟨_, _, rfl, hk, E0, (⟨keep_wJ (keep_wF hP.1 (by decide)) (by decide), hP.2.2.2.2.1⟩)⟩
            · skip
              refine v_aload_n C dX10_play_137 rfl ?_
              refine q10_257 C hk dX10_play_138 ?_
              refine v_goto (tgt := 145) C dX10_play_141 (by decide) ?_
              refine w10_257 C hk dX10_play_145 (fun S6_145 hk' x_145 => ?_)
              have E0 := exm_tr E0 x_145
              have hk := hk'
              clear hk'
              refine v_aload_n C dX10_play_148 rfl ?_
              refine v_iload C dX10_play_149 rfl ?_
              refine v_if_ne (tgt := 161) C dX10_play_151 (by decide) (fun c_151 => ?_) (fun c_151 => ?_)
              · skip
                refine v_lconst (v := 0) C dX10_play_161 (by decide) ?_
                refine w10_292 C hk dX10_play_162 (fun S8_162 hk' x_162 => ?_)
                have E0 := exm_tr E0 x_162
                have hk := hk'
                clear hk'
                refine v_iload C dX10_play_165 rfl ?_
                refine v_iret C hr (Nat.le_of_ble_eq_true rfl) (Nat.le_of_ble_eq_true rfl) dX10_play_167 ?_
                exact ⟨_, _, rfl, hk, E0, (⟨keep_wJ (keep_wF hP.1 (by decide)) (by decide), hP.2.2.2.2.1⟩)⟩
              · skip
                refine v_aload_n C dX10_play_154 rfl ?_
                refine q10_262 C hk dX10_play_155 ?_
                refine v_goto (tgt := 162) C dX10_play_158 (by decide) ?_
                refine w10_292 C hk dX10_play_162 (fun S8_162 hk' x_162 => ?_)
                have E0 := exm_tr E0 x_162
                have hk := hk'
                clear hk'
                refine v_iload C dX10_play_165 rfl ?_
                refine v_iret C hr (Nat.le_of_ble_eq_true rfl) (Nat.le_of_ble_eq_true rfl) dX10_play_167 ?_
                exact ⟨_, _, rfl, hk, E0, (⟨keep_wJ (keep_wF hP.1 (by decide)) (by decide), hP.2.2.2.2.1⟩)⟩
          · skip
            refine v_aload_n C dX10_play_92 rfl ?_
            refine q10_236 C hk dX10_play_93 ?_
            refine v_val hP.2.1 ?_
            refine v_iconst (v := nI 1) C dX10_play_96 (by decide) ?_
            refine n_isub C (by omega) dX10_play_97 ?_
            refine v_val (y := nI f) rfl ?_
            refine v_istore C dX10_play_98 (by decide) rfl ?_
            refine v_aload_n C dX10_play_100 rfl ?_
            refine q10_100 C hk dX10_play_101 ?_
            refine v_iload C dX10_play_104 rfl ?_
            refine n_zald C hk (show (32, 13, 2000) ∈ mTab by decide +kernel) (by omega) dX10_play_106 ?_
            refine v_if_eq (tgt := 121) C dX10_play_107 (by decide) (fun c_107 => ?_) (fun c_107 => ?_)
            · skip
              refine v_aload_n C dX10_play_121 rfl ?_
              refine v_iload C dX10_play_122 rfl ?_
              refine v_callV (As := [_]) (n := 1) C (rt_X10_around l m0 ad _ _ K o nn) rfl hk.1 (by decide) rfl ⟨wd875, wd876, wd877, wd5, wd878⟩ ⟨rfl, hy_X10_around⟩ rfl ⟨Nat.le_of_ble_eq_true rfl, Nat.le_of_ble_eq_true rfl⟩ (Nat.le_of_ble_eq_true rfl) ⟨Nat.le_of_ble_eq_true rfl, Nat.le_of_ble_eq_true rfl⟩ dX10_play_124 ⟨rfl, hk, rv2, hP, hO2, c_107⟩ (fun r_124 S6_124 h_124 => ?_)
              obtain ⟨K124, rfl, hk', x_124, p_v124⟩ := h_124
              have E0 := exm_tr E0 x_124
              have hk := hk'
              clear hk'
              obtain ⟨d', o', e1, e2, e3⟩ := p_v124
              obtain ⟨n', hn'⟩ : ∃ n', n' = nn := ⟨_, rfl⟩
              rw [← hn'] at e1
              refine v_goto (tgt := 80) C dX10_play_127 (by decide) ?_
              refine V.drop 6 ?_
              refine V.lits (lv' := [_, _, _, _, _, _, _]) rfl ?_
              exact ih_80 _ (_, d', o', n', _) (by first | omega | (dsimp only; omega)) ⟨hk, E0, e1, (Or.inr e2)⟩
            · skip
              refine v_aload_n C dX10_play_110 rfl ?_
              refine v_iload C dX10_play_111 rfl ?_
              refine v_callV (As := [_]) (n := 1) C (rt_X10_does l m0 ad _ _ K o nn) rfl hk.1 (by decide) rfl ⟨wd846, wd847, wd848, wd5, wd849⟩ ⟨rfl, hy_X10_does⟩ rfl ⟨Nat.le_of_ble_eq_true rfl, Nat.le_of_ble_eq_true rfl⟩ (Nat.le_of_ble_eq_true rfl) ⟨Nat.le_of_ble_eq_true rfl, Nat.le_of_ble_eq_true rfl⟩ dX10_play_113 ⟨rfl, hk, rv2, hP, hO2, c_107⟩ (fun r_113 S6_113 h_113 => ?_)
              obtain ⟨v113, K113, rfl, hk', x_113, p_v113⟩ := h_113
              have E0 := exm_tr E0 x_113
              have hk := hk'
              clear hk'
              obtain ⟨d', o', n', e1, e2, e3⟩ := p_v113
              refine v_istore C dX10_play_116 (by decide) rfl ?_
              refine v_goto (tgt := 127) C dX10_play_118 (by decide) ?_
              refine v_goto (tgt := 80) C dX10_play_127 (by decide) ?_
              refine V.drop 6 ?_
              refine V.lits (lv' := [_, _, _, _, _, _, _]) rfl ?_
              exact ih_80 _ (_, d', o', n', _) (by first | omega | (dsimp only; omega)) ⟨hk, E0, e1, (Or.inr e2)⟩
    · skip
      refine v_bipush (v := -2) C dX10_play_15 (by decide) ?_
      refine v_iret C hr (Nat.le_of_ble_eq_true rfl) (Nat.le_of_ble_eq_true rfl) dX10_play_17 ?_
      exact ⟨_, _, rfl, hk, E0, (⟨keep_rfl, rv.p16⟩)⟩
