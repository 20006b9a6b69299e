def same (S S' : Mem) : Prop := mL S' = mL S ∧ mK S' = mK S ∧ mN S' = mN S ∧ mO S' = mO S
theorem same_tr {S S1 S2 : Mem} (h : same S S1) (k : same S1 S2) : same S S2 := ⟨k.1.trans h.1, k.2.1.trans h.2.1, k.2.2.1.trans h.2.2.1, k.2.2.2.trans h.2.2.2⟩
theorem is_same {S S' : Mem} {a k : Nat} (h : same S S') (x : is S a k) : is S' a k := ⟨by rw [h.1]; exact x.1, by rw [h.2.1]; exact x.2⟩
theorem isA_same {S S' : Mem} {a k n : Nat} (h : same S S') (x : isA S a k n) : isA S' a k n := ⟨by rw [h.1]; exact x.1, by rw [h.2.1]; exact x.2.1, by rw [h.2.2.1]; exact x.2.2⟩
theorem same_sI (S : Mem) (g a : Nat) (v : Int32) : same S (sI S g a v) := ⟨mL_sI .., mK_sI .., mN_sI .., mO_sI ..⟩
theorem same_sA (S : Mem) (a i : Nat) (v : Int32) : same S (sA S a i v) := ⟨mL_sA .., mK_sA .., mN_sA .., mO_sA ..⟩
/-- the reference's arrays: slot, kind, length -/
def mTab : List (Nat × Nat × Nat) := [(54, 12, 200), (53, 11, 200), (52, 11, 200), (51, 11, 200), (50, 11, 200), (41, 13, 2000), (40, 13, 2000), (39, 11, 2000), (38, 11, 2000), (37, 11, 2000), (36, 11, 2000), (35, 11, 2000), (34, 11, 2000), (33, 11, 2000), (32, 13, 2000), (31, 11, 20), (30, 11, 7), (28, 11, 6), (27, 11, 144), (26, 11, 96), (25, 11, 96), (24, 11, 96), (23, 11, 12), (22, 11, 96), (21, 11, 96), (20, 11, 12), (18, 11, 4992), (17, 11, 4992), (16, 11, 4992), (15, 11, 624), (14, 11, 624), (13, 11, 624), (12, 11, 624), (11, 13, 624), (10, 13, 624), (9, 12, 48), (8, 11, 12), (7, 11, 240), (6, 11, 12), (5, 11, 60), (4, 11, 12), (2, 11, 20), (1, 11, 400)]
def mPre (S0 S : Mem) (m : Nat) (T : List (Nat × Nat × Nat)) (ad : Nat → Nat) : Prop :=
  is S m 10 ∧ ext S0 S (fun a => a = m) ∧ (∀ q ∈ T, mO S (640 + q.1) m = some (ad q.1) ∧ isA S (ad q.1) q.2.1 q.2.2 ∧ ad q.1 ∉ mL S0 ∧ (∀ i, mA S (ad q.1) i = 0) ∧ ∀ i, mQ S (ad q.1) i = 0) ∧ (∀ q ∈ T, ∀ q' ∈ T, ad q.1 = ad q'.1 → q.1 = q'.1) ∧ (∀ g, g ≠ 659 → mI S g m = mI S0 g m) ∧ ∀ g, mJ S g m = mJ S0 g m
theorem mPre_0 {S : Mem} {m : Nat} (h : is S m 10) : mPre S S m [] (fun _ => 0) := ⟨h, ext_rfl, fun q hq => absurd hq List.not_mem_nil, fun q hq => absurd hq List.not_mem_nil, fun _ _ => rfl, fun _ => rfl⟩
theorem mPre_step {S0 S S1 S2 : Mem} {m a k kd n : Nat} {T : List (Nat × Nat × Nat)} {ad : Nat → Nat} (h : mPre S0 S m T ad) (hn : a ∉ mL S) (e1 : S1 = sArr S a kd n) (e2 : S2 = sO S1 (640 + k) m (some a)) (hk : ∀ q ∈ T, q.1 ≠ k) : ∃ ad', mPre S0 S2 m ((k, kd, n) :: T) ad' := by
  obtain ⟨h1, h2, h3, h4, h5, h6⟩ := h
  have x1 := x_sArr e1 hn
  have x2 := x_sO e2
  have w : ∀ j, j ≠ k → va_up ad k a j = ad j := fun j hj => va_up_ne _ _ hj
  have w0 : va_up ad k a k = a := va_up_self _ _ _
  have hne : ∀ q ∈ T, ad q.1 ≠ a := fun q hq => ne_of_isA hn (h3 q hq).2.1
  refine ⟨va_up ad k a, is_ext x2 (is_ext x1 h1), ?_, ?_, ?_, ?_, ?_⟩
  · subst e1; subst e2; exact ext_sO (ext_sArr h2 hn) (Or.inl rfl)
  · intro q hq
    rcases List.mem_cons.mp hq with rfl | hq
    · refine ⟨?_, ?_, ?_, fun i => ?_, fun i => ?_⟩
      · rw [e2, mO_sO, if_pos ⟨rfl, rfl⟩, w0]
      · simp only [w0]; exact isA_ext x2 (isA_sArrE e1 hn)
      · simp only [w0]; exact nm_ext h2 hn
      · simp only [w0]; rw [e2, mA_sO, e1, mA_sArr, if_pos rfl]
      · simp only [w0]; rw [e2, mQ_sO, e1, mQ_sArr, if_pos rfl]
    · obtain ⟨g1, g2, g3, g4, g5⟩ := h3 q hq
      have e := w q.1 (hk q hq)
      refine ⟨?_, ?_, ?_, fun i => ?_, fun i => ?_⟩
      · rw [e, e2, mO_sO, if_neg (fun z => hk q hq (by omega)), e1, mO_sArr]; exact g1
      · rw [e]; exact isA_ext x2 (isA_ext x1 g2)
      · rw [e]; exact g3
      · rw [e, e2, mA_sO, e1, mA_sArr, if_neg (hne q hq)]; exact g4 i
      · rw [e, e2, mQ_sO, e1, mQ_sArr, if_neg (hne q hq)]; exact g5 i
  · intro q hq q' hq'
    rcases List.mem_cons.mp hq with rfl | hq <;> rcases List.mem_cons.mp hq' with rfl | hq'
    · exact fun _ => rfl
    · rw [w0, w _ (hk q' hq')]; exact fun z => absurd z.symm (hne q' hq')
    · rw [w0, w _ (hk q hq)]; exact fun z => absurd z (hne q hq)
    · rw [w _ (hk q hq), w _ (hk q' hq')]; exact h4 q hq q' hq'
  · intro g hg; rw [e2, mI_sO, e1, mI_sArr]; exact h5 g hg
  · intro g; rw [e2, mJ_sO, e1, mJ_sArr]; exact h6 g
theorem mPre_lat {S0 S S1 : Mem} {m : Nat} {v : Int32} {T : List (Nat × Nat × Nat)} {ad : Nat → Nat} (h : mPre S0 S m T ad) (e : S1 = sI S 659 m v) : mPre S0 S1 m T ad := by
  obtain ⟨h1, h2, h3, h4, h5, h6⟩ := h
  have sm : same S S1 := by rw [e]; exact same_sI ..
  refine ⟨is_same sm h1, by rw [e]; exact ext_sI h2 (Or.inl rfl), fun q hq => ?_, h4, fun g hg => ?_, fun g => ?_⟩
  · obtain ⟨g1, g2, g3, g4, g5⟩ := h3 q hq
    exact ⟨by rw [sm.2.2.2]; exact g1, isA_same sm g2, g3, fun i => by rw [e, mA_sI]; exact g4 i, fun i => by rw [e, mQ_sI]; exact g5 i⟩
  · rw [e, mI_sI, if_neg (fun z => hg z.1)]; exact h5 g hg
  · rw [e, mJ_sI]; exact h6 g
theorem dX10_init_0 : decode cX10_init 0 = .ok (.aload_n 0, 1) := by decide +kernel
theorem dX10_init_1 : decode cX10_init 1 = .ok (.invokespecial 1, 3) := by decide +kernel
theorem dX10_init_4 : decode cX10_init 4 = .ok (.aload_n 0, 1) := by decide +kernel
theorem dX10_init_5 : decode cX10_init 5 = .ok (.sipush 400, 3) := by decide +kernel
theorem dX10_init_8 : decode cX10_init 8 = .ok (.newarray .int, 2) := by decide +kernel
theorem dX10_init_10 : decode cX10_init 10 = .ok (.putfield 7, 3) := by decide +kernel
theorem dX10_init_13 : decode cX10_init 13 = .ok (.aload_n 0, 1) := by decide +kernel
theorem dX10_init_14 : decode cX10_init 14 = .ok (.bipush 20, 2) := by decide +kernel
theorem dX10_init_16 : decode cX10_init 16 = .ok (.newarray .int, 2) := by decide +kernel
theorem dX10_init_18 : decode cX10_init 18 = .ok (.putfield 13, 3) := by decide +kernel
theorem dX10_init_21 : decode cX10_init 21 = .ok (.aload_n 0, 1) := by decide +kernel
theorem dX10_init_22 : decode cX10_init 22 = .ok (.bipush 12, 2) := by decide +kernel
theorem dX10_init_24 : decode cX10_init 24 = .ok (.newarray .int, 2) := by decide +kernel
theorem dX10_init_26 : decode cX10_init 26 = .ok (.putfield 16, 3) := by decide +kernel
theorem dX10_init_29 : decode cX10_init 29 = .ok (.aload_n 0, 1) := by decide +kernel
theorem dX10_init_30 : decode cX10_init 30 = .ok (.bipush 60, 2) := by decide +kernel
theorem dX10_init_32 : decode cX10_init 32 = .ok (.newarray .int, 2) := by decide +kernel
theorem dX10_init_34 : decode cX10_init 34 = .ok (.putfield 19, 3) := by decide +kernel
theorem dX10_init_37 : decode cX10_init 37 = .ok (.aload_n 0, 1) := by decide +kernel
theorem dX10_init_38 : decode cX10_init 38 = .ok (.bipush 12, 2) := by decide +kernel
theorem dX10_init_40 : decode cX10_init 40 = .ok (.newarray .int, 2) := by decide +kernel
theorem dX10_init_42 : decode cX10_init 42 = .ok (.putfield 22, 3) := by decide +kernel
theorem dX10_init_45 : decode cX10_init 45 = .ok (.aload_n 0, 1) := by decide +kernel
theorem dX10_init_46 : decode cX10_init 46 = .ok (.sipush 240, 3) := by decide +kernel
theorem dX10_init_49 : decode cX10_init 49 = .ok (.newarray .int, 2) := by decide +kernel
theorem dX10_init_51 : decode cX10_init 51 = .ok (.putfield 25, 3) := by decide +kernel
theorem dX10_init_54 : decode cX10_init 54 = .ok (.aload_n 0, 1) := by decide +kernel
theorem dX10_init_55 : decode cX10_init 55 = .ok (.bipush 12, 2) := by decide +kernel
theorem dX10_init_57 : decode cX10_init 57 = .ok (.newarray .int, 2) := by decide +kernel
theorem dX10_init_59 : decode cX10_init 59 = .ok (.putfield 28, 3) := by decide +kernel
theorem dX10_init_62 : decode cX10_init 62 = .ok (.aload_n 0, 1) := by decide +kernel
theorem dX10_init_63 : decode cX10_init 63 = .ok (.bipush 48, 2) := by decide +kernel
theorem dX10_init_65 : decode cX10_init 65 = .ok (.newarray .long, 2) := by decide +kernel
theorem dX10_init_67 : decode cX10_init 67 = .ok (.putfield 31, 3) := by decide +kernel
theorem dX10_init_70 : decode cX10_init 70 = .ok (.aload_n 0, 1) := by decide +kernel
theorem dX10_init_71 : decode cX10_init 71 = .ok (.sipush 624, 3) := by decide +kernel
theorem dX10_init_74 : decode cX10_init 74 = .ok (.newarray .boolean, 2) := by decide +kernel
theorem dX10_init_76 : decode cX10_init 76 = .ok (.putfield 35, 3) := by decide +kernel
theorem dX10_init_79 : decode cX10_init 79 = .ok (.aload_n 0, 1) := by decide +kernel
theorem dX10_init_80 : decode cX10_init 80 = .ok (.sipush 624, 3) := by decide +kernel
theorem dX10_init_83 : decode cX10_init 83 = .ok (.newarray .boolean, 2) := by decide +kernel
theorem dX10_init_85 : decode cX10_init 85 = .ok (.putfield 39, 3) := by decide +kernel
theorem dX10_init_88 : decode cX10_init 88 = .ok (.aload_n 0, 1) := by decide +kernel
theorem dX10_init_89 : decode cX10_init 89 = .ok (.sipush 624, 3) := by decide +kernel
theorem dX10_init_92 : decode cX10_init 92 = .ok (.newarray .int, 2) := by decide +kernel
theorem dX10_init_94 : decode cX10_init 94 = .ok (.putfield 42, 3) := by decide +kernel
theorem dX10_init_97 : decode cX10_init 97 = .ok (.aload_n 0, 1) := by decide +kernel
theorem dX10_init_98 : decode cX10_init 98 = .ok (.sipush 624, 3) := by decide +kernel
theorem dX10_init_101 : decode cX10_init 101 = .ok (.newarray .int, 2) := by decide +kernel
theorem dX10_init_103 : decode cX10_init 103 = .ok (.putfield 45, 3) := by decide +kernel
theorem dX10_init_106 : decode cX10_init 106 = .ok (.aload_n 0, 1) := by decide +kernel
theorem dX10_init_107 : decode cX10_init 107 = .ok (.sipush 624, 3) := by decide +kernel
theorem dX10_init_110 : decode cX10_init 110 = .ok (.newarray .int, 2) := by decide +kernel
theorem dX10_init_112 : decode cX10_init 112 = .ok (.putfield 48, 3) := by decide +kernel
theorem dX10_init_115 : decode cX10_init 115 = .ok (.aload_n 0, 1) := by decide +kernel
theorem dX10_init_116 : decode cX10_init 116 = .ok (.sipush 624, 3) := by decide +kernel
theorem dX10_init_119 : decode cX10_init 119 = .ok (.newarray .int, 2) := by decide +kernel
theorem dX10_init_121 : decode cX10_init 121 = .ok (.putfield 51, 3) := by decide +kernel
theorem dX10_init_124 : decode cX10_init 124 = .ok (.aload_n 0, 1) := by decide +kernel
theorem dX10_init_125 : decode cX10_init 125 = .ok (.sipush 4992, 3) := by decide +kernel
theorem dX10_init_128 : decode cX10_init 128 = .ok (.newarray .int, 2) := by decide +kernel
theorem dX10_init_130 : decode cX10_init 130 = .ok (.putfield 54, 3) := by decide +kernel
theorem dX10_init_133 : decode cX10_init 133 = .ok (.aload_n 0, 1) := by decide +kernel
theorem dX10_init_134 : decode cX10_init 134 = .ok (.sipush 4992, 3) := by decide +kernel
theorem dX10_init_137 : decode cX10_init 137 = .ok (.newarray .int, 2) := by decide +kernel
theorem dX10_init_139 : decode cX10_init 139 = .ok (.putfield 57, 3) := by decide +kernel
theorem dX10_init_142 : decode cX10_init 142 = .ok (.aload_n 0, 1) := by decide +kernel
theorem dX10_init_143 : decode cX10_init 143 = .ok (.sipush 4992, 3) := by decide +kernel
theorem dX10_init_146 : decode cX10_init 146 = .ok (.newarray .int, 2) := by decide +kernel
theorem dX10_init_148 : decode cX10_init 148 = .ok (.putfield 60, 3) := by decide +kernel
theorem dX10_init_151 : decode cX10_init 151 = .ok (.aload_n 0, 1) := by decide +kernel
theorem dX10_init_152 : decode cX10_init 152 = .ok (.iconst (-1), 1) := by decide +kernel
theorem dX10_init_153 : decode cX10_init 153 = .ok (.putfield 63, 3) := by decide +kernel
theorem dX10_init_156 : decode cX10_init 156 = .ok (.aload_n 0, 1) := by decide +kernel
theorem dX10_init_157 : decode cX10_init 157 = .ok (.bipush 12, 2) := by decide +kernel
theorem dX10_init_159 : decode cX10_init 159 = .ok (.newarray .int, 2) := by decide +kernel
theorem dX10_init_161 : decode cX10_init 161 = .ok (.putfield 67, 3) := by decide +kernel
theorem dX10_init_164 : decode cX10_init 164 = .ok (.aload_n 0, 1) := by decide +kernel
theorem dX10_init_165 : decode cX10_init 165 = .ok (.bipush 96, 2) := by decide +kernel
theorem dX10_init_167 : decode cX10_init 167 = .ok (.newarray .int, 2) := by decide +kernel
theorem dX10_init_169 : decode cX10_init 169 = .ok (.putfield 70, 3) := by decide +kernel
theorem dX10_init_172 : decode cX10_init 172 = .ok (.aload_n 0, 1) := by decide +kernel
theorem dX10_init_173 : decode cX10_init 173 = .ok (.bipush 96, 2) := by decide +kernel
theorem dX10_init_175 : decode cX10_init 175 = .ok (.newarray .int, 2) := by decide +kernel
theorem dX10_init_177 : decode cX10_init 177 = .ok (.putfield 73, 3) := by decide +kernel
theorem dX10_init_180 : decode cX10_init 180 = .ok (.aload_n 0, 1) := by decide +kernel
theorem dX10_init_181 : decode cX10_init 181 = .ok (.bipush 12, 2) := by decide +kernel
theorem dX10_init_183 : decode cX10_init 183 = .ok (.newarray .int, 2) := by decide +kernel
theorem dX10_init_185 : decode cX10_init 185 = .ok (.putfield 76, 3) := by decide +kernel
theorem dX10_init_188 : decode cX10_init 188 = .ok (.aload_n 0, 1) := by decide +kernel
theorem dX10_init_189 : decode cX10_init 189 = .ok (.bipush 96, 2) := by decide +kernel
theorem dX10_init_191 : decode cX10_init 191 = .ok (.newarray .int, 2) := by decide +kernel
theorem dX10_init_193 : decode cX10_init 193 = .ok (.putfield 79, 3) := by decide +kernel
theorem dX10_init_196 : decode cX10_init 196 = .ok (.aload_n 0, 1) := by decide +kernel
theorem dX10_init_197 : decode cX10_init 197 = .ok (.bipush 96, 2) := by decide +kernel
theorem dX10_init_199 : decode cX10_init 199 = .ok (.newarray .int, 2) := by decide +kernel
theorem dX10_init_201 : decode cX10_init 201 = .ok (.putfield 82, 3) := by decide +kernel
theorem dX10_init_204 : decode cX10_init 204 = .ok (.aload_n 0, 1) := by decide +kernel
theorem dX10_init_205 : decode cX10_init 205 = .ok (.bipush 96, 2) := by decide +kernel
theorem dX10_init_207 : decode cX10_init 207 = .ok (.newarray .int, 2) := by decide +kernel
theorem dX10_init_209 : decode cX10_init 209 = .ok (.putfield 85, 3) := by decide +kernel
theorem dX10_init_212 : decode cX10_init 212 = .ok (.aload_n 0, 1) := by decide +kernel
theorem dX10_init_213 : decode cX10_init 213 = .ok (.sipush 144, 3) := by decide +kernel
theorem dX10_init_216 : decode cX10_init 216 = .ok (.newarray .int, 2) := by decide +kernel
theorem dX10_init_218 : decode cX10_init 218 = .ok (.putfield 88, 3) := by decide +kernel
theorem dX10_init_221 : decode cX10_init 221 = .ok (.aload_n 0, 1) := by decide +kernel
theorem dX10_init_222 : decode cX10_init 222 = .ok (.bipush 6, 2) := by decide +kernel
theorem dX10_init_224 : decode cX10_init 224 = .ok (.newarray .int, 2) := by decide +kernel
theorem dX10_init_226 : decode cX10_init 226 = .ok (.putfield 91, 3) := by decide +kernel
theorem dX10_init_229 : decode cX10_init 229 = .ok (.aload_n 0, 1) := by decide +kernel
theorem dX10_init_230 : decode cX10_init 230 = .ok (.bipush 7, 2) := by decide +kernel
theorem dX10_init_232 : decode cX10_init 232 = .ok (.newarray .int, 2) := by decide +kernel
theorem dX10_init_234 : decode cX10_init 234 = .ok (.putfield 94, 3) := by decide +kernel
theorem dX10_init_237 : decode cX10_init 237 = .ok (.aload_n 0, 1) := by decide +kernel
theorem dX10_init_238 : decode cX10_init 238 = .ok (.bipush 20, 2) := by decide +kernel
theorem dX10_init_240 : decode cX10_init 240 = .ok (.newarray .int, 2) := by decide +kernel
theorem dX10_init_242 : decode cX10_init 242 = .ok (.putfield 97, 3) := by decide +kernel
theorem dX10_init_245 : decode cX10_init 245 = .ok (.aload_n 0, 1) := by decide +kernel
theorem dX10_init_246 : decode cX10_init 246 = .ok (.sipush 2000, 3) := by decide +kernel
theorem dX10_init_249 : decode cX10_init 249 = .ok (.newarray .boolean, 2) := by decide +kernel
theorem dX10_init_251 : decode cX10_init 251 = .ok (.putfield 100, 3) := by decide +kernel
theorem dX10_init_254 : decode cX10_init 254 = .ok (.aload_n 0, 1) := by decide +kernel
theorem dX10_init_255 : decode cX10_init 255 = .ok (.sipush 2000, 3) := by decide +kernel
theorem dX10_init_258 : decode cX10_init 258 = .ok (.newarray .int, 2) := by decide +kernel
theorem dX10_init_260 : decode cX10_init 260 = .ok (.putfield 103, 3) := by decide +kernel
theorem dX10_init_263 : decode cX10_init 263 = .ok (.aload_n 0, 1) := by decide +kernel
theorem dX10_init_264 : decode cX10_init 264 = .ok (.sipush 2000, 3) := by decide +kernel
theorem dX10_init_267 : decode cX10_init 267 = .ok (.newarray .int, 2) := by decide +kernel
theorem dX10_init_269 : decode cX10_init 269 = .ok (.putfield 106, 3) := by decide +kernel
theorem dX10_init_272 : decode cX10_init 272 = .ok (.aload_n 0, 1) := by decide +kernel
theorem dX10_init_273 : decode cX10_init 273 = .ok (.sipush 2000, 3) := by decide +kernel
theorem dX10_init_276 : decode cX10_init 276 = .ok (.newarray .int, 2) := by decide +kernel
theorem dX10_init_278 : decode cX10_init 278 = .ok (.putfield 109, 3) := by decide +kernel
theorem dX10_init_281 : decode cX10_init 281 = .ok (.aload_n 0, 1) := by decide +kernel
theorem dX10_init_282 : decode cX10_init 282 = .ok (.sipush 2000, 3) := by decide +kernel
theorem dX10_init_285 : decode cX10_init 285 = .ok (.newarray .int, 2) := by decide +kernel
theorem dX10_init_287 : decode cX10_init 287 = .ok (.putfield 112, 3) := by decide +kernel
theorem dX10_init_290 : decode cX10_init 290 = .ok (.aload_n 0, 1) := by decide +kernel
theorem dX10_init_291 : decode cX10_init 291 = .ok (.sipush 2000, 3) := by decide +kernel
theorem dX10_init_294 : decode cX10_init 294 = .ok (.newarray .int, 2) := by decide +kernel
theorem dX10_init_296 : decode cX10_init 296 = .ok (.putfield 115, 3) := by decide +kernel
theorem dX10_init_299 : decode cX10_init 299 = .ok (.aload_n 0, 1) := by decide +kernel
theorem dX10_init_300 : decode cX10_init 300 = .ok (.sipush 2000, 3) := by decide +kernel
theorem dX10_init_303 : decode cX10_init 303 = .ok (.newarray .int, 2) := by decide +kernel
theorem dX10_init_305 : decode cX10_init 305 = .ok (.putfield 118, 3) := by decide +kernel
theorem dX10_init_308 : decode cX10_init 308 = .ok (.aload_n 0, 1) := by decide +kernel
theorem dX10_init_309 : decode cX10_init 309 = .ok (.sipush 2000, 3) := by decide +kernel
theorem dX10_init_312 : decode cX10_init 312 = .ok (.newarray .int, 2) := by decide +kernel
theorem dX10_init_314 : decode cX10_init 314 = .ok (.putfield 121, 3) := by decide +kernel
theorem dX10_init_317 : decode cX10_init 317 = .ok (.aload_n 0, 1) := by decide +kernel
theorem dX10_init_318 : decode cX10_init 318 = .ok (.sipush 2000, 3) := by decide +kernel
theorem dX10_init_321 : decode cX10_init 321 = .ok (.newarray .boolean, 2) := by decide +kernel
theorem dX10_init_323 : decode cX10_init 323 = .ok (.putfield 124, 3) := by decide +kernel
theorem dX10_init_326 : decode cX10_init 326 = .ok (.aload_n 0, 1) := by decide +kernel
theorem dX10_init_327 : decode cX10_init 327 = .ok (.sipush 2000, 3) := by decide +kernel
theorem dX10_init_330 : decode cX10_init 330 = .ok (.newarray .boolean, 2) := by decide +kernel
theorem dX10_init_332 : decode cX10_init 332 = .ok (.putfield 127, 3) := by decide +kernel
theorem dX10_init_335 : decode cX10_init 335 = .ok (.aload_n 0, 1) := by decide +kernel
theorem dX10_init_336 : decode cX10_init 336 = .ok (.sipush 200, 3) := by decide +kernel
theorem dX10_init_339 : decode cX10_init 339 = .ok (.newarray .int, 2) := by decide +kernel
theorem dX10_init_341 : decode cX10_init 341 = .ok (.putfield 130, 3) := by decide +kernel
theorem dX10_init_344 : decode cX10_init 344 = .ok (.aload_n 0, 1) := by decide +kernel
theorem dX10_init_345 : decode cX10_init 345 = .ok (.sipush 200, 3) := by decide +kernel
theorem dX10_init_348 : decode cX10_init 348 = .ok (.newarray .int, 2) := by decide +kernel
theorem dX10_init_350 : decode cX10_init 350 = .ok (.putfield 133, 3) := by decide +kernel
theorem dX10_init_353 : decode cX10_init 353 = .ok (.aload_n 0, 1) := by decide +kernel
theorem dX10_init_354 : decode cX10_init 354 = .ok (.sipush 200, 3) := by decide +kernel
theorem dX10_init_357 : decode cX10_init 357 = .ok (.newarray .int, 2) := by decide +kernel
theorem dX10_init_359 : decode cX10_init 359 = .ok (.putfield 136, 3) := by decide +kernel
theorem dX10_init_362 : decode cX10_init 362 = .ok (.aload_n 0, 1) := by decide +kernel
theorem dX10_init_363 : decode cX10_init 363 = .ok (.sipush 200, 3) := by decide +kernel
theorem dX10_init_366 : decode cX10_init 366 = .ok (.newarray .int, 2) := by decide +kernel
theorem dX10_init_368 : decode cX10_init 368 = .ok (.putfield 139, 3) := by decide +kernel
theorem dX10_init_371 : decode cX10_init 371 = .ok (.aload_n 0, 1) := by decide +kernel
theorem dX10_init_372 : decode cX10_init 372 = .ok (.sipush 200, 3) := by decide +kernel
theorem dX10_init_375 : decode cX10_init 375 = .ok (.newarray .long, 2) := by decide +kernel
theorem dX10_init_377 : decode cX10_init 377 = .ok (.putfield 142, 3) := by decide +kernel
theorem dX10_init_380 : decode cX10_init 380 = .ok (.return_, 1) := by decide +kernel
set_option maxRecDepth 100000 in
set_option maxHeartbeats 4000000 in
theorem ct_X10_init (l : Launch) (h : Nat) : Ct l yX10_init cX10_init 1 none 1 43 41205 12 (fun S av => av = [.ref h] ∧ is S h 10) (fun S _ r0 S' => r0 = none ∧ ∃ ad, mPre S S' h mTab ad ∧ mI S' 659 h = -1) := by
  refine ct_of (by decide) (fun S av h => by obtain ⟨rfl, hh⟩ := h; exact Nat.le_of_ble_eq_true rfl) ?_
  intro p e s m args below meth c D G bs S av C hr hin hpre
  obtain ⟨rfl, hh⟩ := hpre
  have P0 := mPre_0 hh
  refine v_aload_n C dX10_init_0 rfl ?_
  refine v_objInit C wd78 wd11 wd12 dX10_init_1 (Nat.le_of_ble_eq_true rfl) (Nat.le_of_ble_eq_true rfl) ?_
  refine v_aload_n C dX10_init_4 rfl ?_
  refine v_sipush (v := 400) C dX10_init_5 (by decide) ?_
  refine v_newarr C (kd := 11) (N := 400) wd42 rfl (t0 := 0) rfl (by decide) (fun _ => cell_newI (Or.inl rfl)) (fun _ => vp_cell_i _ _ _) (by decide) (by decide) (Nat.le_of_ble_eq_true rfl) (Nat.le_of_ble_eq_true rfl) (Nat.le_of_ble_eq_true rfl) dX10_init_8 (fun v1 n_v1 => ?_)
  have z_hh_v1 := ne_of_is n_v1 hh
  refine V.gen (fun S_8 e_8 => ?_)
  have x_8 := x_sArr e_8 n_v1
  have hh := is_ext x_8 hh
  have i_v1 := isA_sArrE (kd := 11) (n := 400) e_8 n_v1
  refine p10_7 (v := some _) C hh (hin rfl) dX10_init_10 ?_
  refine V.gen (fun S_10 e_10 => ?_)
  have x_10 := x_sO e_10
  have hh := is_ext x_10 hh
  have i_v1 := isA_ext x_10 i_v1
  obtain ⟨ad1, P1⟩ := mPre_step (k := 1) P0 n_v1 e_8 e_10 (by decide)
  refine v_aload_n C dX10_init_13 rfl ?_
  refine v_bipush (v := 20) C dX10_init_14 (by decide) ?_
  refine v_newarr C (kd := 11) (N := 20) wd42 rfl (t0 := 0) rfl (by decide) (fun _ => cell_newI (Or.inl rfl)) (fun _ => vp_cell_i _ _ _) (by decide) (by decide) (Nat.le_of_ble_eq_true rfl) (Nat.le_of_ble_eq_true rfl) (Nat.le_of_ble_eq_true rfl) dX10_init_16 (fun v2 n_v2 => ?_)
  have z_hh_v2 := ne_of_is n_v2 hh
  refine V.gen (fun S_16 e_16 => ?_)
  have x_16 := x_sArr e_16 n_v2
  have hh := is_ext x_16 hh
  have i_v2 := isA_sArrE (kd := 11) (n := 20) e_16 n_v2
  refine p10_13 (v := some _) C hh (hin rfl) dX10_init_18 ?_
  refine V.gen (fun S_18 e_18 => ?_)
  have x_18 := x_sO e_18
  have hh := is_ext x_18 hh
  have i_v2 := isA_ext x_18 i_v2
  obtain ⟨ad2, P2⟩ := mPre_step (k := 2) P1 n_v2 e_16 e_18 (by decide)
  refine v_aload_n C dX10_init_21 rfl ?_
  refine v_bipush (v := 12) C dX10_init_22 (by decide) ?_
  refine v_newarr C (kd := 11) (N := 12) wd42 rfl (t0 := 0) rfl (by decide) (fun _ => cell_newI (Or.inl rfl)) (fun _ => vp_cell_i _ _ _) (by decide) (by decide) (Nat.le_of_ble_eq_true rfl) (Nat.le_of_ble_eq_true rfl) (Nat.le_of_ble_eq_true rfl) dX10_init_24 (fun v4 n_v4 => ?_)
  have z_hh_v4 := ne_of_is n_v4 hh
  refine V.gen (fun S_24 e_24 => ?_)
  have x_24 := x_sArr e_24 n_v4
  have hh := is_ext x_24 hh
  have i_v4 := isA_sArrE (kd := 11) (n := 12) e_24 n_v4
  refine p10_16 (v := some _) C hh (hin rfl) dX10_init_26 ?_
  refine V.gen (fun S_26 e_26 => ?_)
  have x_26 := x_sO e_26
  have hh := is_ext x_26 hh
  have i_v4 := isA_ext x_26 i_v4
  obtain ⟨ad3, P3⟩ := mPre_step (k := 4) P2 n_v4 e_24 e_26 (by decide)
  refine v_aload_n C dX10_init_29 rfl ?_
  refine v_bipush (v := 60) C dX10_init_30 (by decide) ?_
  refine v_newarr C (kd := 11) (N := 60) wd42 rfl (t0 := 0) rfl (by decide) (fun _ => cell_newI (Or.inl rfl)) (fun _ => vp_cell_i _ _ _) (by decide) (by decide) (Nat.le_of_ble_eq_true rfl) (Nat.le_of_ble_eq_true rfl) (Nat.le_of_ble_eq_true rfl) dX10_init_32 (fun v5 n_v5 => ?_)
  have z_hh_v5 := ne_of_is n_v5 hh
  refine V.gen (fun S_32 e_32 => ?_)
  have x_32 := x_sArr e_32 n_v5
  have hh := is_ext x_32 hh
  have i_v5 := isA_sArrE (kd := 11) (n := 60) e_32 n_v5
  refine p10_19 (v := some _) C hh (hin rfl) dX10_init_34 ?_
  refine V.gen (fun S_34 e_34 => ?_)
  have x_34 := x_sO e_34
  have hh := is_ext x_34 hh
  have i_v5 := isA_ext x_34 i_v5
  obtain ⟨ad4, P4⟩ := mPre_step (k := 5) P3 n_v5 e_32 e_34 (by decide)
  refine v_aload_n C dX10_init_37 rfl ?_
  refine v_bipush (v := 12) C dX10_init_38 (by decide) ?_
  refine v_newarr C (kd := 11) (N := 12) wd42 rfl (t0 := 0) rfl (by decide) (fun _ => cell_newI (Or.inl rfl)) (fun _ => vp_cell_i _ _ _) (by decide) (by decide) (Nat.le_of_ble_eq_true rfl) (Nat.le_of_ble_eq_true rfl) (Nat.le_of_ble_eq_true rfl) dX10_init_40 (fun v6 n_v6 => ?_)
  have z_hh_v6 := ne_of_is n_v6 hh
  refine V.gen (fun S_40 e_40 => ?_)
  have x_40 := x_sArr e_40 n_v6
  have hh := is_ext x_40 hh
  have i_v6 := isA_sArrE (kd := 11) (n := 12) e_40 n_v6
  refine p10_22 (v := some _) C hh (hin rfl) dX10_init_42 ?_
  refine V.gen (fun S_42 e_42 => ?_)
  have x_42 := x_sO e_42
  have hh := is_ext x_42 hh
  have i_v6 := isA_ext x_42 i_v6
  obtain ⟨ad5, P5⟩ := mPre_step (k := 6) P4 n_v6 e_40 e_42 (by decide)
  refine v_aload_n C dX10_init_45 rfl ?_
  refine v_sipush (v := 240) C dX10_init_46 (by decide) ?_
  refine v_newarr C (kd := 11) (N := 240) wd42 rfl (t0 := 0) rfl (by decide) (fun _ => cell_newI (Or.inl rfl)) (fun _ => vp_cell_i _ _ _) (by decide) (by decide) (Nat.le_of_ble_eq_true rfl) (Nat.le_of_ble_eq_true rfl) (Nat.le_of_ble_eq_true rfl) dX10_init_49 (fun v7 n_v7 => ?_)
  have z_hh_v7 := ne_of_is n_v7 hh
  refine V.gen (fun S_49 e_49 => ?_)
  have x_49 := x_sArr e_49 n_v7
  have hh := is_ext x_49 hh
  have i_v7 := isA_sArrE (kd := 11) (n := 240) e_49 n_v7
  refine p10_25 (v := some _) C hh (hin rfl) dX10_init_51 ?_
  refine V.gen (fun S_51 e_51 => ?_)
  have x_51 := x_sO e_51
  have hh := is_ext x_51 hh
  have i_v7 := isA_ext x_51 i_v7
  obtain ⟨ad6, P6⟩ := mPre_step (k := 7) P5 n_v7 e_49 e_51 (by decide)
  refine v_aload_n C dX10_init_54 rfl ?_
  refine v_bipush (v := 12) C dX10_init_55 (by decide) ?_
  refine v_newarr C (kd := 11) (N := 12) wd42 rfl (t0 := 0) rfl (by decide) (fun _ => cell_newI (Or.inl rfl)) (fun _ => vp_cell_i _ _ _) (by decide) (by decide) (Nat.le_of_ble_eq_true rfl) (Nat.le_of_ble_eq_true rfl) (Nat.le_of_ble_eq_true rfl) dX10_init_57 (fun v8 n_v8 => ?_)
  have z_hh_v8 := ne_of_is n_v8 hh
  refine V.gen (fun S_57 e_57 => ?_)
  have x_57 := x_sArr e_57 n_v8
  have hh := is_ext x_57 hh
  have i_v8 := isA_sArrE (kd := 11) (n := 12) e_57 n_v8
  refine p10_28 (v := some _) C hh (hin rfl) dX10_init_59 ?_
  refine V.gen (fun S_59 e_59 => ?_)
  have x_59 := x_sO e_59
  have hh := is_ext x_59 hh
  have i_v8 := isA_ext x_59 i_v8
  obtain ⟨ad7, P7⟩ := mPre_step (k := 8) P6 n_v8 e_57 e_59 (by decide)
  refine v_aload_n C dX10_init_62 rfl ?_
  refine v_bipush (v := 48) C dX10_init_63 (by decide) ?_
  refine v_newarr C (kd := 12) (N := 48) wd73 rfl (t0 := 1) rfl (by decide) (fun _ => cell_newJ) (fun _ => vp_cell_l _ _ _) (by decide) (by decide) (Nat.le_of_ble_eq_true rfl) (Nat.le_of_ble_eq_true rfl) (Nat.le_of_ble_eq_true rfl) dX10_init_65 (fun v9 n_v9 => ?_)
  have z_hh_v9 := ne_of_is n_v9 hh
  refine V.gen (fun S_65 e_65 => ?_)
  have x_65 := x_sArr e_65 n_v9
  have hh := is_ext x_65 hh
  have i_v9 := isA_sArrE (kd := 12) (n := 48) e_65 n_v9
  refine p10_31 (v := some _) C hh (hin rfl) dX10_init_67 ?_
  refine V.gen (fun S_67 e_67 => ?_)
  have x_67 := x_sO e_67
  have hh := is_ext x_67 hh
  have i_v9 := isA_ext x_67 i_v9
  obtain ⟨ad8, P8⟩ := mPre_step (k := 9) P7 n_v9 e_65 e_67 (by decide)
  refine v_aload_n C dX10_init_70 rfl ?_
  refine v_sipush (v := 624) C dX10_init_71 (by decide) ?_
  refine v_newarr C (kd := 13) (N := 624) wd87 rfl (t0 := 2) rfl (by decide) (fun _ => cell_newI (Or.inr rfl)) (fun _ => vp_cell_i _ _ _) (by decide) (by decide) (Nat.le_of_ble_eq_true rfl) (Nat.le_of_ble_eq_true rfl) (Nat.le_of_ble_eq_true rfl) dX10_init_74 (fun v10 n_v10 => ?_)
  have z_hh_v10 := ne_of_is n_v10 hh
  refine V.gen (fun S_74 e_74 => ?_)
  have x_74 := x_sArr e_74 n_v10
  have hh := is_ext x_74 hh
  have i_v10 := isA_sArrE (kd := 13) (n := 624) e_74 n_v10
  refine p10_35 (v := some _) C hh (hin rfl) dX10_init_76 ?_
  refine V.gen (fun S_76 e_76 => ?_)
  have x_76 := x_sO e_76
  have hh := is_ext x_76 hh
  have i_v10 := isA_ext x_76 i_v10
  obtain ⟨ad9, P9⟩ := mPre_step (k := 10) P8 n_v10 e_74 e_76 (by decide)
  refine v_aload_n C dX10_init_79 rfl ?_
  refine v_sipush (v := 624) C dX10_init_80 (by decide) ?_
  refine v_newarr C (kd := 13) (N := 624) wd87 rfl (t0 := 2) rfl (by decide) (fun _ => cell_newI (Or.inr rfl)) (fun _ => vp_cell_i _ _ _) (by decide) (by decide) (Nat.le_of_ble_eq_true rfl) (Nat.le_of_ble_eq_true rfl) (Nat.le_of_ble_eq_true rfl) dX10_init_83 (fun v11 n_v11 => ?_)
  have z_hh_v11 := ne_of_is n_v11 hh
  refine V.gen (fun S_83 e_83 => ?_)
  have x_83 := x_sArr e_83 n_v11
  have hh := is_ext x_83 hh
  have i_v11 := isA_sArrE (kd := 13) (n := 624) e_83 n_v11
  refine p10_39 (v := some _) C hh (hin rfl) dX10_init_85 ?_
  refine V.gen (fun S_85 e_85 => ?_)
  have x_85 := x_sO e_85
  have hh := is_ext x_85 hh
  have i_v11 := isA_ext x_85 i_v11
  obtain ⟨ad10, P10⟩ := mPre_step (k := 11) P9 n_v11 e_83 e_85 (by decide)
  refine v_aload_n C dX10_init_88 rfl ?_
  refine v_sipush (v := 624) C dX10_init_89 (by decide) ?_
  refine v_newarr C (kd := 11) (N := 624) wd42 rfl (t0 := 0) rfl (by decide) (fun _ => cell_newI (Or.inl rfl)) (fun _ => vp_cell_i _ _ _) (by decide) (by decide) (Nat.le_of_ble_eq_true rfl) (Nat.le_of_ble_eq_true rfl) (Nat.le_of_ble_eq_true rfl) dX10_init_92 (fun v12 n_v12 => ?_)
  have z_hh_v12 := ne_of_is n_v12 hh
  refine V.gen (fun S_92 e_92 => ?_)
  have x_92 := x_sArr e_92 n_v12
  have hh := is_ext x_92 hh
  have i_v12 := isA_sArrE (kd := 11) (n := 624) e_92 n_v12
  refine p10_42 (v := some _) C hh (hin rfl) dX10_init_94 ?_
  refine V.gen (fun S_94 e_94 => ?_)
  have x_94 := x_sO e_94
  have hh := is_ext x_94 hh
  have i_v12 := isA_ext x_94 i_v12
  obtain ⟨ad11, P11⟩ := mPre_step (k := 12) P10 n_v12 e_92 e_94 (by decide)
  refine v_aload_n C dX10_init_97 rfl ?_
  refine v_sipush (v := 624) C dX10_init_98 (by decide) ?_
  refine v_newarr C (kd := 11) (N := 624) wd42 rfl (t0 := 0) rfl (by decide) (fun _ => cell_newI (Or.inl rfl)) (fun _ => vp_cell_i _ _ _) (by decide) (by decide) (Nat.le_of_ble_eq_true rfl) (Nat.le_of_ble_eq_true rfl) (Nat.le_of_ble_eq_true rfl) dX10_init_101 (fun v13 n_v13 => ?_)
  have z_hh_v13 := ne_of_is n_v13 hh
  refine V.gen (fun S_101 e_101 => ?_)
  have x_101 := x_sArr e_101 n_v13
  have hh := is_ext x_101 hh
  have i_v13 := isA_sArrE (kd := 11) (n := 624) e_101 n_v13
  refine p10_45 (v := some _) C hh (hin rfl) dX10_init_103 ?_
  refine V.gen (fun S_103 e_103 => ?_)
  have x_103 := x_sO e_103
  have hh := is_ext x_103 hh
  have i_v13 := isA_ext x_103 i_v13
  obtain ⟨ad12, P12⟩ := mPre_step (k := 13) P11 n_v13 e_101 e_103 (by decide)
  refine v_aload_n C dX10_init_106 rfl ?_
  refine v_sipush (v := 624) C dX10_init_107 (by decide) ?_
  refine v_newarr C (kd := 11) (N := 624) wd42 rfl (t0 := 0) rfl (by decide) (fun _ => cell_newI (Or.inl rfl)) (fun _ => vp_cell_i _ _ _) (by decide) (by decide) (Nat.le_of_ble_eq_true rfl) (Nat.le_of_ble_eq_true rfl) (Nat.le_of_ble_eq_true rfl) dX10_init_110 (fun v14 n_v14 => ?_)
  have z_hh_v14 := ne_of_is n_v14 hh
  refine V.gen (fun S_110 e_110 => ?_)
  have x_110 := x_sArr e_110 n_v14
  have hh := is_ext x_110 hh
  have i_v14 := isA_sArrE (kd := 11) (n := 624) e_110 n_v14
  refine p10_48 (v := some _) C hh (hin rfl) dX10_init_112 ?_
  refine V.gen (fun S_112 e_112 => ?_)
  have x_112 := x_sO e_112
  have hh := is_ext x_112 hh
  have i_v14 := isA_ext x_112 i_v14
  obtain ⟨ad13, P13⟩ := mPre_step (k := 14) P12 n_v14 e_110 e_112 (by decide)
  refine v_aload_n C dX10_init_115 rfl ?_
  refine v_sipush (v := 624) C dX10_init_116 (by decide) ?_
  refine v_newarr C (kd := 11) (N := 624) wd42 rfl (t0 := 0) rfl (by decide) (fun _ => cell_newI (Or.inl rfl)) (fun _ => vp_cell_i _ _ _) (by decide) (by decide) (Nat.le_of_ble_eq_true rfl) (Nat.le_of_ble_eq_true rfl) (Nat.le_of_ble_eq_true rfl) dX10_init_119 (fun v15 n_v15 => ?_)
  have z_hh_v15 := ne_of_is n_v15 hh
  refine V.gen (fun S_119 e_119 => ?_)
  have x_119 := x_sArr e_119 n_v15
  have hh := is_ext x_119 hh
  have i_v15 := isA_sArrE (kd := 11) (n := 624) e_119 n_v15
  refine p10_51 (v := some _) C hh (hin rfl) dX10_init_121 ?_
  refine V.gen (fun S_121 e_121 => ?_)
  have x_121 := x_sO e_121
  have hh := is_ext x_121 hh
  have i_v15 := isA_ext x_121 i_v15
  obtain ⟨ad14, P14⟩ := mPre_step (k := 15) P13 n_v15 e_119 e_121 (by decide)
  refine v_aload_n C dX10_init_124 rfl ?_
  refine v_sipush (v := 4992) C dX10_init_125 (by decide) ?_
  refine v_newarr C (kd := 11) (N := 4992) wd42 rfl (t0 := 0) rfl (by decide) (fun _ => cell_newI (Or.inl rfl)) (fun _ => vp_cell_i _ _ _) (by decide) (by decide) (Nat.le_of_ble_eq_true rfl) (Nat.le_of_ble_eq_true rfl) (Nat.le_of_ble_eq_true rfl) dX10_init_128 (fun v16 n_v16 => ?_)
  have z_hh_v16 := ne_of_is n_v16 hh
  refine V.gen (fun S_128 e_128 => ?_)
  have x_128 := x_sArr e_128 n_v16
  have hh := is_ext x_128 hh
  have i_v16 := isA_sArrE (kd := 11) (n := 4992) e_128 n_v16
  refine p10_54 (v := some _) C hh (hin rfl) dX10_init_130 ?_
  refine V.gen (fun S_130 e_130 => ?_)
  have x_130 := x_sO e_130
  have hh := is_ext x_130 hh
  have i_v16 := isA_ext x_130 i_v16
  obtain ⟨ad15, P15⟩ := mPre_step (k := 16) P14 n_v16 e_128 e_130 (by decide)
  refine v_aload_n C dX10_init_133 rfl ?_
  refine v_sipush (v := 4992) C dX10_init_134 (by decide) ?_
  refine v_newarr C (kd := 11) (N := 4992) wd42 rfl (t0 := 0) rfl (by decide) (fun _ => cell_newI (Or.inl rfl)) (fun _ => vp_cell_i _ _ _) (by decide) (by decide) (Nat.le_of_ble_eq_true rfl) (Nat.le_of_ble_eq_true rfl) (Nat.le_of_ble_eq_true rfl) dX10_init_137 (fun v17 n_v17 => ?_)
  have z_hh_v17 := ne_of_is n_v17 hh
  refine V.gen (fun S_137 e_137 => ?_)
  have x_137 := x_sArr e_137 n_v17
  have hh := is_ext x_137 hh
  have i_v17 := isA_sArrE (kd := 11) (n := 4992) e_137 n_v17
  refine p10_57 (v := some _) C hh (hin rfl) dX10_init_139 ?_
  refine V.gen (fun S_139 e_139 => ?_)
  have x_139 := x_sO e_139
  have hh := is_ext x_139 hh
  have i_v17 := isA_ext x_139 i_v17
  obtain ⟨ad16, P16⟩ := mPre_step (k := 17) P15 n_v17 e_137 e_139 (by decide)
  refine v_aload_n C dX10_init_142 rfl ?_
  refine v_sipush (v := 4992) C dX10_init_143 (by decide) ?_
  refine v_newarr C (kd := 11) (N := 4992) wd42 rfl (t0 := 0) rfl (by decide) (fun _ => cell_newI (Or.inl rfl)) (fun _ => vp_cell_i _ _ _) (by decide) (by decide) (Nat.le_of_ble_eq_true rfl) (Nat.le_of_ble_eq_true rfl) (Nat.le_of_ble_eq_true rfl) dX10_init_146 (fun v18 n_v18 => ?_)
  have z_hh_v18 := ne_of_is n_v18 hh
  refine V.gen (fun S_146 e_146 => ?_)
  have x_146 := x_sArr e_146 n_v18
  have hh := is_ext x_146 hh
  have i_v18 := isA_sArrE (kd := 11) (n := 4992) e_146 n_v18
  refine p10_60 (v := some _) C hh (hin rfl) dX10_init_148 ?_
  refine V.gen (fun S_148 e_148 => ?_)
  have x_148 := x_sO e_148
  have hh := is_ext x_148 hh
  have i_v18 := isA_ext x_148 i_v18
  obtain ⟨ad17, P17⟩ := mPre_step (k := 18) P16 n_v18 e_146 e_148 (by decide)
  refine v_aload_n C dX10_init_151 rfl ?_
  refine v_iconst (v := -1) C dX10_init_152 (by decide) ?_
  refine p10_63 C hh dX10_init_153 ?_
  refine V.gen (fun S_153 e_153 => ?_)
  have x_153 := x_sI e_153
  have hh := is_ext x_153 hh
  have P18 := mPre_lat P17 e_153
  have e_lat : mI S_153 659 h = -1 := by rw [e_153, mI_sI, if_pos ⟨rfl, rfl⟩]
  refine v_aload_n C dX10_init_156 rfl ?_
  refine v_bipush (v := 12) C dX10_init_157 (by decide) ?_
  refine v_newarr C (kd := 11) (N := 12) wd42 rfl (t0 := 0) rfl (by decide) (fun _ => cell_newI (Or.inl rfl)) (fun _ => vp_cell_i _ _ _) (by decide) (by decide) (Nat.le_of_ble_eq_true rfl) (Nat.le_of_ble_eq_true rfl) (Nat.le_of_ble_eq_true rfl) dX10_init_159 (fun v20 n_v20 => ?_)
  have z_hh_v20 := ne_of_is n_v20 hh
  refine V.gen (fun S_159 e_159 => ?_)
  have x_159 := x_sArr e_159 n_v20
  have hh := is_ext x_159 hh
  have i_v20 := isA_sArrE (kd := 11) (n := 12) e_159 n_v20
  refine p10_67 (v := some _) C hh (hin rfl) dX10_init_161 ?_
  refine V.gen (fun S_161 e_161 => ?_)
  have x_161 := x_sO e_161
  have hh := is_ext x_161 hh
  have i_v20 := isA_ext x_161 i_v20
  obtain ⟨ad19, P19⟩ := mPre_step (k := 20) P18 n_v20 e_159 e_161 (by decide)
  have e_lat : mI S_161 659 h = -1 := by rw [e_161, mI_sO, e_159, mI_sArr]; exact e_lat
  refine v_aload_n C dX10_init_164 rfl ?_
  refine v_bipush (v := 96) C dX10_init_165 (by decide) ?_
  refine v_newarr C (kd := 11) (N := 96) wd42 rfl (t0 := 0) rfl (by decide) (fun _ => cell_newI (Or.inl rfl)) (fun _ => vp_cell_i _ _ _) (by decide) (by decide) (Nat.le_of_ble_eq_true rfl) (Nat.le_of_ble_eq_true rfl) (Nat.le_of_ble_eq_true rfl) dX10_init_167 (fun v21 n_v21 => ?_)
  have z_hh_v21 := ne_of_is n_v21 hh
  refine V.gen (fun S_167 e_167 => ?_)
  have x_167 := x_sArr e_167 n_v21
  have hh := is_ext x_167 hh
  have i_v21 := isA_sArrE (kd := 11) (n := 96) e_167 n_v21
  refine p10_70 (v := some _) C hh (hin rfl) dX10_init_169 ?_
  refine V.gen (fun S_169 e_169 => ?_)
  have x_169 := x_sO e_169
  have hh := is_ext x_169 hh
  have i_v21 := isA_ext x_169 i_v21
  obtain ⟨ad20, P20⟩ := mPre_step (k := 21) P19 n_v21 e_167 e_169 (by decide)
  have e_lat : mI S_169 659 h = -1 := by rw [e_169, mI_sO, e_167, mI_sArr]; exact e_lat
  refine v_aload_n C dX10_init_172 rfl ?_
  refine v_bipush (v := 96) C dX10_init_173 (by decide) ?_
  refine v_newarr C (kd := 11) (N := 96) wd42 rfl (t0 := 0) rfl (by decide) (fun _ => cell_newI (Or.inl rfl)) (fun _ => vp_cell_i _ _ _) (by decide) (by decide) (Nat.le_of_ble_eq_true rfl) (Nat.le_of_ble_eq_true rfl) (Nat.le_of_ble_eq_true rfl) dX10_init_175 (fun v22 n_v22 => ?_)
  have z_hh_v22 := ne_of_is n_v22 hh
  refine V.gen (fun S_175 e_175 => ?_)
  have x_175 := x_sArr e_175 n_v22
  have hh := is_ext x_175 hh
  have i_v22 := isA_sArrE (kd := 11) (n := 96) e_175 n_v22
  refine p10_73 (v := some _) C hh (hin rfl) dX10_init_177 ?_
  refine V.gen (fun S_177 e_177 => ?_)
  have x_177 := x_sO e_177
  have hh := is_ext x_177 hh
  have i_v22 := isA_ext x_177 i_v22
  obtain ⟨ad21, P21⟩ := mPre_step (k := 22) P20 n_v22 e_175 e_177 (by decide)
  have e_lat : mI S_177 659 h = -1 := by rw [e_177, mI_sO, e_175, mI_sArr]; exact e_lat
  refine v_aload_n C dX10_init_180 rfl ?_
  refine v_bipush (v := 12) C dX10_init_181 (by decide) ?_
  refine v_newarr C (kd := 11) (N := 12) wd42 rfl (t0 := 0) rfl (by decide) (fun _ => cell_newI (Or.inl rfl)) (fun _ => vp_cell_i _ _ _) (by decide) (by decide) (Nat.le_of_ble_eq_true rfl) (Nat.le_of_ble_eq_true rfl) (Nat.le_of_ble_eq_true rfl) dX10_init_183 (fun v23 n_v23 => ?_)
  have z_hh_v23 := ne_of_is n_v23 hh
  refine V.gen (fun S_183 e_183 => ?_)
  have x_183 := x_sArr e_183 n_v23
  have hh := is_ext x_183 hh
  have i_v23 := isA_sArrE (kd := 11) (n := 12) e_183 n_v23
  refine p10_76 (v := some _) C hh (hin rfl) dX10_init_185 ?_
  refine V.gen (fun S_185 e_185 => ?_)
  have x_185 := x_sO e_185
  have hh := is_ext x_185 hh
  have i_v23 := isA_ext x_185 i_v23
  obtain ⟨ad22, P22⟩ := mPre_step (k := 23) P21 n_v23 e_183 e_185 (by decide)
  have e_lat : mI S_185 659 h = -1 := by rw [e_185, mI_sO, e_183, mI_sArr]; exact e_lat
  refine v_aload_n C dX10_init_188 rfl ?_
  refine v_bipush (v := 96) C dX10_init_189 (by decide) ?_
  refine v_newarr C (kd := 11) (N := 96) wd42 rfl (t0 := 0) rfl (by decide) (fun _ => cell_newI (Or.inl rfl)) (fun _ => vp_cell_i _ _ _) (by decide) (by decide) (Nat.le_of_ble_eq_true rfl) (Nat.le_of_ble_eq_true rfl) (Nat.le_of_ble_eq_true rfl) dX10_init_191 (fun v24 n_v24 => ?_)
  have z_hh_v24 := ne_of_is n_v24 hh
  refine V.gen (fun S_191 e_191 => ?_)
  have x_191 := x_sArr e_191 n_v24
  have hh := is_ext x_191 hh
  have i_v24 := isA_sArrE (kd := 11) (n := 96) e_191 n_v24
  refine p10_79 (v := some _) C hh (hin rfl) dX10_init_193 ?_
  refine V.gen (fun S_193 e_193 => ?_)
  have x_193 := x_sO e_193
  have hh := is_ext x_193 hh
  have i_v24 := isA_ext x_193 i_v24
  obtain ⟨ad23, P23⟩ := mPre_step (k := 24) P22 n_v24 e_191 e_193 (by decide)
  have e_lat : mI S_193 659 h = -1 := by rw [e_193, mI_sO, e_191, mI_sArr]; exact e_lat
  refine v_aload_n C dX10_init_196 rfl ?_
  refine v_bipush (v := 96) C dX10_init_197 (by decide) ?_
  refine v_newarr C (kd := 11) (N := 96) wd42 rfl (t0 := 0) rfl (by decide) (fun _ => cell_newI (Or.inl rfl)) (fun _ => vp_cell_i _ _ _) (by decide) (by decide) (Nat.le_of_ble_eq_true rfl) (Nat.le_of_ble_eq_true rfl) (Nat.le_of_ble_eq_true rfl) dX10_init_199 (fun v25 n_v25 => ?_)
  have z_hh_v25 := ne_of_is n_v25 hh
  refine V.gen (fun S_199 e_199 => ?_)
  have x_199 := x_sArr e_199 n_v25
  have hh := is_ext x_199 hh
  have i_v25 := isA_sArrE (kd := 11) (n := 96) e_199 n_v25
  refine p10_82 (v := some _) C hh (hin rfl) dX10_init_201 ?_
  refine V.gen (fun S_201 e_201 => ?_)
  have x_201 := x_sO e_201
  have hh := is_ext x_201 hh
  have i_v25 := isA_ext x_201 i_v25
  obtain ⟨ad24, P24⟩ := mPre_step (k := 25) P23 n_v25 e_199 e_201 (by decide)
  have e_lat : mI S_201 659 h = -1 := by rw [e_201, mI_sO, e_199, mI_sArr]; exact e_lat
  refine v_aload_n C dX10_init_204 rfl ?_
  refine v_bipush (v := 96) C dX10_init_205 (by decide) ?_
  refine v_newarr C (kd := 11) (N := 96) wd42 rfl (t0 := 0) rfl (by decide) (fun _ => cell_newI (Or.inl rfl)) (fun _ => vp_cell_i _ _ _) (by decide) (by decide) (Nat.le_of_ble_eq_true rfl) (Nat.le_of_ble_eq_true rfl) (Nat.le_of_ble_eq_true rfl) dX10_init_207 (fun v26 n_v26 => ?_)
  have z_hh_v26 := ne_of_is n_v26 hh
  refine V.gen (fun S_207 e_207 => ?_)
  have x_207 := x_sArr e_207 n_v26
  have hh := is_ext x_207 hh
  have i_v26 := isA_sArrE (kd := 11) (n := 96) e_207 n_v26
  refine p10_85 (v := some _) C hh (hin rfl) dX10_init_209 ?_
  refine V.gen (fun S_209 e_209 => ?_)
  have x_209 := x_sO e_209
  have hh := is_ext x_209 hh
  have i_v26 := isA_ext x_209 i_v26
  obtain ⟨ad25, P25⟩ := mPre_step (k := 26) P24 n_v26 e_207 e_209 (by decide)
  have e_lat : mI S_209 659 h = -1 := by rw [e_209, mI_sO, e_207, mI_sArr]; exact e_lat
  refine v_aload_n C dX10_init_212 rfl ?_
  refine v_sipush (v := 144) C dX10_init_213 (by decide) ?_
  refine v_newarr C (kd := 11) (N := 144) wd42 rfl (t0 := 0) rfl (by decide) (fun _ => cell_newI (Or.inl rfl)) (fun _ => vp_cell_i _ _ _) (by decide) (by decide) (Nat.le_of_ble_eq_true rfl) (Nat.le_of_ble_eq_true rfl) (Nat.le_of_ble_eq_true rfl) dX10_init_216 (fun v27 n_v27 => ?_)
  have z_hh_v27 := ne_of_is n_v27 hh
  refine V.gen (fun S_216 e_216 => ?_)
  have x_216 := x_sArr e_216 n_v27
  have hh := is_ext x_216 hh
  have i_v27 := isA_sArrE (kd := 11) (n := 144) e_216 n_v27
  refine p10_88 (v := some _) C hh (hin rfl) dX10_init_218 ?_
  refine V.gen (fun S_218 e_218 => ?_)
  have x_218 := x_sO e_218
  have hh := is_ext x_218 hh
  have i_v27 := isA_ext x_218 i_v27
  obtain ⟨ad26, P26⟩ := mPre_step (k := 27) P25 n_v27 e_216 e_218 (by decide)
  have e_lat : mI S_218 659 h = -1 := by rw [e_218, mI_sO, e_216, mI_sArr]; exact e_lat
  refine v_aload_n C dX10_init_221 rfl ?_
  refine v_bipush (v := 6) C dX10_init_222 (by decide) ?_
  refine v_newarr C (kd := 11) (N := 6) wd42 rfl (t0 := 0) rfl (by decide) (fun _ => cell_newI (Or.inl rfl)) (fun _ => vp_cell_i _ _ _) (by decide) (by decide) (Nat.le_of_ble_eq_true rfl) (Nat.le_of_ble_eq_true rfl) (Nat.le_of_ble_eq_true rfl) dX10_init_224 (fun v28 n_v28 => ?_)
  have z_hh_v28 := ne_of_is n_v28 hh
  refine V.gen (fun S_224 e_224 => ?_)
  have x_224 := x_sArr e_224 n_v28
  have hh := is_ext x_224 hh
  have i_v28 := isA_sArrE (kd := 11) (n := 6) e_224 n_v28
  refine p10_91 (v := some _) C hh (hin rfl) dX10_init_226 ?_
  refine V.gen (fun S_226 e_226 => ?_)
  have x_226 := x_sO e_226
  have hh := is_ext x_226 hh
  have i_v28 := isA_ext x_226 i_v28
  obtain ⟨ad27, P27⟩ := mPre_step (k := 28) P26 n_v28 e_224 e_226 (by decide)
  have e_lat : mI S_226 659 h = -1 := by rw [e_226, mI_sO, e_224, mI_sArr]; exact e_lat
  refine v_aload_n C dX10_init_229 rfl ?_
  refine v_bipush (v := 7) C dX10_init_230 (by decide) ?_
  refine v_newarr C (kd := 11) (N := 7) wd42 rfl (t0 := 0) rfl (by decide) (fun _ => cell_newI (Or.inl rfl)) (fun _ => vp_cell_i _ _ _) (by decide) (by decide) (Nat.le_of_ble_eq_true rfl) (Nat.le_of_ble_eq_true rfl) (Nat.le_of_ble_eq_true rfl) dX10_init_232 (fun v30 n_v30 => ?_)
  have z_hh_v30 := ne_of_is n_v30 hh
  refine V.gen (fun S_232 e_232 => ?_)
  have x_232 := x_sArr e_232 n_v30
  have hh := is_ext x_232 hh
  have i_v30 := isA_sArrE (kd := 11) (n := 7) e_232 n_v30
  refine p10_94 (v := some _) C hh (hin rfl) dX10_init_234 ?_
  refine V.gen (fun S_234 e_234 => ?_)
  have x_234 := x_sO e_234
  have hh := is_ext x_234 hh
  have i_v30 := isA_ext x_234 i_v30
  obtain ⟨ad28, P28⟩ := mPre_step (k := 30) P27 n_v30 e_232 e_234 (by decide)
  have e_lat : mI S_234 659 h = -1 := by rw [e_234, mI_sO, e_232, mI_sArr]; exact e_lat
  refine v_aload_n C dX10_init_237 rfl ?_
  refine v_bipush (v := 20) C dX10_init_238 (by decide) ?_
  refine v_newarr C (kd := 11) (N := 20) wd42 rfl (t0 := 0) rfl (by decide) (fun _ => cell_newI (Or.inl rfl)) (fun _ => vp_cell_i _ _ _) (by decide) (by decide) (Nat.le_of_ble_eq_true rfl) (Nat.le_of_ble_eq_true rfl) (Nat.le_of_ble_eq_true rfl) dX10_init_240 (fun v31 n_v31 => ?_)
  have z_hh_v31 := ne_of_is n_v31 hh
  refine V.gen (fun S_240 e_240 => ?_)
  have x_240 := x_sArr e_240 n_v31
  have hh := is_ext x_240 hh
  have i_v31 := isA_sArrE (kd := 11) (n := 20) e_240 n_v31
  refine p10_97 (v := some _) C hh (hin rfl) dX10_init_242 ?_
  refine V.gen (fun S_242 e_242 => ?_)
  have x_242 := x_sO e_242
  have hh := is_ext x_242 hh
  have i_v31 := isA_ext x_242 i_v31
  obtain ⟨ad29, P29⟩ := mPre_step (k := 31) P28 n_v31 e_240 e_242 (by decide)
  have e_lat : mI S_242 659 h = -1 := by rw [e_242, mI_sO, e_240, mI_sArr]; exact e_lat
  refine v_aload_n C dX10_init_245 rfl ?_
  refine v_sipush (v := 2000) C dX10_init_246 (by decide) ?_
  refine v_newarr C (kd := 13) (N := 2000) wd87 rfl (t0 := 2) rfl (by decide) (fun _ => cell_newI (Or.inr rfl)) (fun _ => vp_cell_i _ _ _) (by decide) (by decide) (Nat.le_of_ble_eq_true rfl) (Nat.le_of_ble_eq_true rfl) (Nat.le_of_ble_eq_true rfl) dX10_init_249 (fun v32 n_v32 => ?_)
  have z_hh_v32 := ne_of_is n_v32 hh
  refine V.gen (fun S_249 e_249 => ?_)
  have x_249 := x_sArr e_249 n_v32
  have hh := is_ext x_249 hh
  have i_v32 := isA_sArrE (kd := 13) (n := 2000) e_249 n_v32
  refine p10_100 (v := some _) C hh (hin rfl) dX10_init_251 ?_
  refine V.gen (fun S_251 e_251 => ?_)
  have x_251 := x_sO e_251
  have hh := is_ext x_251 hh
  have i_v32 := isA_ext x_251 i_v32
  obtain ⟨ad30, P30⟩ := mPre_step (k := 32) P29 n_v32 e_249 e_251 (by decide)
  have e_lat : mI S_251 659 h = -1 := by rw [e_251, mI_sO, e_249, mI_sArr]; exact e_lat
  refine v_aload_n C dX10_init_254 rfl ?_
  refine v_sipush (v := 2000) C dX10_init_255 (by decide) ?_
  refine v_newarr C (kd := 11) (N := 2000) wd42 rfl (t0 := 0) rfl (by decide) (fun _ => cell_newI (Or.inl rfl)) (fun _ => vp_cell_i _ _ _) (by decide) (by decide) (Nat.le_of_ble_eq_true rfl) (Nat.le_of_ble_eq_true rfl) (Nat.le_of_ble_eq_true rfl) dX10_init_258 (fun v33 n_v33 => ?_)
  have z_hh_v33 := ne_of_is n_v33 hh
  refine V.gen (fun S_258 e_258 => ?_)
  have x_258 := x_sArr e_258 n_v33
  have hh := is_ext x_258 hh
  have i_v33 := isA_sArrE (kd := 11) (n := 2000) e_258 n_v33
  refine p10_103 (v := some _) C hh (hin rfl) dX10_init_260 ?_
  refine V.gen (fun S_260 e_260 => ?_)
  have x_260 := x_sO e_260
  have hh := is_ext x_260 hh
  have i_v33 := isA_ext x_260 i_v33
  obtain ⟨ad31, P31⟩ := mPre_step (k := 33) P30 n_v33 e_258 e_260 (by decide)
  have e_lat : mI S_260 659 h = -1 := by rw [e_260, mI_sO, e_258, mI_sArr]; exact e_lat
  refine v_aload_n C dX10_init_263 rfl ?_
  refine v_sipush (v := 2000) C dX10_init_264 (by decide) ?_
  refine v_newarr C (kd := 11) (N := 2000) wd42 rfl (t0 := 0) rfl (by decide) (fun _ => cell_newI (Or.inl rfl)) (fun _ => vp_cell_i _ _ _) (by decide) (by decide) (Nat.le_of_ble_eq_true rfl) (Nat.le_of_ble_eq_true rfl) (Nat.le_of_ble_eq_true rfl) dX10_init_267 (fun v34 n_v34 => ?_)
  have z_hh_v34 := ne_of_is n_v34 hh
  refine V.gen (fun S_267 e_267 => ?_)
  have x_267 := x_sArr e_267 n_v34
  have hh := is_ext x_267 hh
  have i_v34 := isA_sArrE (kd := 11) (n := 2000) e_267 n_v34
  refine p10_106 (v := some _) C hh (hin rfl) dX10_init_269 ?_
  refine V.gen (fun S_269 e_269 => ?_)
  have x_269 := x_sO e_269
  have hh := is_ext x_269 hh
  have i_v34 := isA_ext x_269 i_v34
  obtain ⟨ad32, P32⟩ := mPre_step (k := 34) P31 n_v34 e_267 e_269 (by decide)
  have e_lat : mI S_269 659 h = -1 := by rw [e_269, mI_sO, e_267, mI_sArr]; exact e_lat
  refine v_aload_n C dX10_init_272 rfl ?_
  refine v_sipush (v := 2000) C dX10_init_273 (by decide) ?_
  refine v_newarr C (kd := 11) (N := 2000) wd42 rfl (t0 := 0) rfl (by decide) (fun _ => cell_newI (Or.inl rfl)) (fun _ => vp_cell_i _ _ _) (by decide) (by decide) (Nat.le_of_ble_eq_true rfl) (Nat.le_of_ble_eq_true rfl) (Nat.le_of_ble_eq_true rfl) dX10_init_276 (fun v35 n_v35 => ?_)
  have z_hh_v35 := ne_of_is n_v35 hh
  refine V.gen (fun S_276 e_276 => ?_)
  have x_276 := x_sArr e_276 n_v35
  have hh := is_ext x_276 hh
  have i_v35 := isA_sArrE (kd := 11) (n := 2000) e_276 n_v35
  refine p10_109 (v := some _) C hh (hin rfl) dX10_init_278 ?_
  refine V.gen (fun S_278 e_278 => ?_)
  have x_278 := x_sO e_278
  have hh := is_ext x_278 hh
  have i_v35 := isA_ext x_278 i_v35
  obtain ⟨ad33, P33⟩ := mPre_step (k := 35) P32 n_v35 e_276 e_278 (by decide)
  have e_lat : mI S_278 659 h = -1 := by rw [e_278, mI_sO, e_276, mI_sArr]; exact e_lat
  refine v_aload_n C dX10_init_281 rfl ?_
  refine v_sipush (v := 2000) C dX10_init_282 (by decide) ?_
  refine v_newarr C (kd := 11) (N := 2000) wd42 rfl (t0 := 0) rfl (by decide) (fun _ => cell_newI (Or.inl rfl)) (fun _ => vp_cell_i _ _ _) (by decide) (by decide) (Nat.le_of_ble_eq_true rfl) (Nat.le_of_ble_eq_true rfl) (Nat.le_of_ble_eq_true rfl) dX10_init_285 (fun v36 n_v36 => ?_)
  have z_hh_v36 := ne_of_is n_v36 hh
  refine V.gen (fun S_285 e_285 => ?_)
  have x_285 := x_sArr e_285 n_v36
  have hh := is_ext x_285 hh
  have i_v36 := isA_sArrE (kd := 11) (n := 2000) e_285 n_v36
  refine p10_112 (v := some _) C hh (hin rfl) dX10_init_287 ?_
  refine V.gen (fun S_287 e_287 => ?_)
  have x_287 := x_sO e_287
  have hh := is_ext x_287 hh
  have i_v36 := isA_ext x_287 i_v36
  obtain ⟨ad34, P34⟩ := mPre_step (k := 36) P33 n_v36 e_285 e_287 (by decide)
  have e_lat : mI S_287 659 h = -1 := by rw [e_287, mI_sO, e_285, mI_sArr]; exact e_lat
  refine v_aload_n C dX10_init_290 rfl ?_
  refine v_sipush (v := 2000) C dX10_init_291 (by decide) ?_
  refine v_newarr C (kd := 11) (N := 2000) wd42 rfl (t0 := 0) rfl (by decide) (fun _ => cell_newI (Or.inl rfl)) (fun _ => vp_cell_i _ _ _) (by decide) (by decide) (Nat.le_of_ble_eq_true rfl) (Nat.le_of_ble_eq_true rfl) (Nat.le_of_ble_eq_true rfl) dX10_init_294 (fun v37 n_v37 => ?_)
  have z_hh_v37 := ne_of_is n_v37 hh
  refine V.gen (fun S_294 e_294 => ?_)
  have x_294 := x_sArr e_294 n_v37
  have hh := is_ext x_294 hh
  have i_v37 := isA_sArrE (kd := 11) (n := 2000) e_294 n_v37
  refine p10_115 (v := some _) C hh (hin rfl) dX10_init_296 ?_
  refine V.gen (fun S_296 e_296 => ?_)
  have x_296 := x_sO e_296
  have hh := is_ext x_296 hh
  have i_v37 := isA_ext x_296 i_v37
  obtain ⟨ad35, P35⟩ := mPre_step (k := 37) P34 n_v37 e_294 e_296 (by decide)
  have e_lat : mI S_296 659 h = -1 := by rw [e_296, mI_sO, e_294, mI_sArr]; exact e_lat
  refine v_aload_n C dX10_init_299 rfl ?_
  refine v_sipush (v := 2000) C dX10_init_300 (by decide) ?_
  refine v_newarr C (kd := 11) (N := 2000) wd42 rfl (t0 := 0) rfl (by decide) (fun _ => cell_newI (Or.inl rfl)) (fun _ => vp_cell_i _ _ _) (by decide) (by decide) (Nat.le_of_ble_eq_true rfl) (Nat.le_of_ble_eq_true rfl) (Nat.le_of_ble_eq_true rfl) dX10_init_303 (fun v38 n_v38 => ?_)
  have z_hh_v38 := ne_of_is n_v38 hh
  refine V.gen (fun S_303 e_303 => ?_)
  have x_303 := x_sArr e_303 n_v38
  have hh := is_ext x_303 hh
  have i_v38 := isA_sArrE (kd := 11) (n := 2000) e_303 n_v38
  refine p10_118 (v := some _) C hh (hin rfl) dX10_init_305 ?_
  refine V.gen (fun S_305 e_305 => ?_)
  have x_305 := x_sO e_305
  have hh := is_ext x_305 hh
  have i_v38 := isA_ext x_305 i_v38
  obtain ⟨ad36, P36⟩ := mPre_step (k := 38) P35 n_v38 e_303 e_305 (by decide)
  have e_lat : mI S_305 659 h = -1 := by rw [e_305, mI_sO, e_303, mI_sArr]; exact e_lat
  refine v_aload_n C dX10_init_308 rfl ?_
  refine v_sipush (v := 2000) C dX10_init_309 (by decide) ?_
  refine v_newarr C (kd := 11) (N := 2000) wd42 rfl (t0 := 0) rfl (by decide) (fun _ => cell_newI (Or.inl rfl)) (fun _ => vp_cell_i _ _ _) (by decide) (by decide) (Nat.le_of_ble_eq_true rfl) (Nat.le_of_ble_eq_true rfl) (Nat.le_of_ble_eq_true rfl) dX10_init_312 (fun v39 n_v39 => ?_)
  have z_hh_v39 := ne_of_is n_v39 hh
  refine V.gen (fun S_312 e_312 => ?_)
  have x_312 := x_sArr e_312 n_v39
  have hh := is_ext x_312 hh
  have i_v39 := isA_sArrE (kd := 11) (n := 2000) e_312 n_v39
  refine p10_121 (v := some _) C hh (hin rfl) dX10_init_314 ?_
  refine V.gen (fun S_314 e_314 => ?_)
  have x_314 := x_sO e_314
  have hh := is_ext x_314 hh
  have i_v39 := isA_ext x_314 i_v39
  obtain ⟨ad37, P37⟩ := mPre_step (k := 39) P36 n_v39 e_312 e_314 (by decide)
  have e_lat : mI S_314 659 h = -1 := by rw [e_314, mI_sO, e_312, mI_sArr]; exact e_lat
  refine v_aload_n C dX10_init_317 rfl ?_
  refine v_sipush (v := 2000) C dX10_init_318 (by decide) ?_
  refine v_newarr C (kd := 13) (N := 2000) wd87 rfl (t0 := 2) rfl (by decide) (fun _ => cell_newI (Or.inr rfl)) (fun _ => vp_cell_i _ _ _) (by decide) (by decide) (Nat.le_of_ble_eq_true rfl) (Nat.le_of_ble_eq_true rfl) (Nat.le_of_ble_eq_true rfl) dX10_init_321 (fun v40 n_v40 => ?_)
  have z_hh_v40 := ne_of_is n_v40 hh
  refine V.gen (fun S_321 e_321 => ?_)
  have x_321 := x_sArr e_321 n_v40
  have hh := is_ext x_321 hh
  have i_v40 := isA_sArrE (kd := 13) (n := 2000) e_321 n_v40
  refine p10_124 (v := some _) C hh (hin rfl) dX10_init_323 ?_
  refine V.gen (fun S_323 e_323 => ?_)
  have x_323 := x_sO e_323
  have hh := is_ext x_323 hh
  have i_v40 := isA_ext x_323 i_v40
  obtain ⟨ad38, P38⟩ := mPre_step (k := 40) P37 n_v40 e_321 e_323 (by decide)
  have e_lat : mI S_323 659 h = -1 := by rw [e_323, mI_sO, e_321, mI_sArr]; exact e_lat
  refine v_aload_n C dX10_init_326 rfl ?_
  refine v_sipush (v := 2000) C dX10_init_327 (by decide) ?_
  refine v_newarr C (kd := 13) (N := 2000) wd87 rfl (t0 := 2) rfl (by decide) (fun _ => cell_newI (Or.inr rfl)) (fun _ => vp_cell_i _ _ _) (by decide) (by decide) (Nat.le_of_ble_eq_true rfl) (Nat.le_of_ble_eq_true rfl) (Nat.le_of_ble_eq_true rfl) dX10_init_330 (fun v41 n_v41 => ?_)
  have z_hh_v41 := ne_of_is n_v41 hh
  refine V.gen (fun S_330 e_330 => ?_)
  have x_330 := x_sArr e_330 n_v41
  have hh := is_ext x_330 hh
  have i_v41 := isA_sArrE (kd := 13) (n := 2000) e_330 n_v41
  refine p10_127 (v := some _) C hh (hin rfl) dX10_init_332 ?_
  refine V.gen (fun S_332 e_332 => ?_)
  have x_332 := x_sO e_332
  have hh := is_ext x_332 hh
  have i_v41 := isA_ext x_332 i_v41
  obtain ⟨ad39, P39⟩ := mPre_step (k := 41) P38 n_v41 e_330 e_332 (by decide)
  have e_lat : mI S_332 659 h = -1 := by rw [e_332, mI_sO, e_330, mI_sArr]; exact e_lat
  refine v_aload_n C dX10_init_335 rfl ?_
  refine v_sipush (v := 200) C dX10_init_336 (by decide) ?_
  refine v_newarr C (kd := 11) (N := 200) wd42 rfl (t0 := 0) rfl (by decide) (fun _ => cell_newI (Or.inl rfl)) (fun _ => vp_cell_i _ _ _) (by decide) (by decide) (Nat.le_of_ble_eq_true rfl) (Nat.le_of_ble_eq_true rfl) (Nat.le_of_ble_eq_true rfl) dX10_init_339 (fun v50 n_v50 => ?_)
  have z_hh_v50 := ne_of_is n_v50 hh
  refine V.gen (fun S_339 e_339 => ?_)
  have x_339 := x_sArr e_339 n_v50
  have hh := is_ext x_339 hh
  have i_v50 := isA_sArrE (kd := 11) (n := 200) e_339 n_v50
  refine p10_130 (v := some _) C hh (hin rfl) dX10_init_341 ?_
  refine V.gen (fun S_341 e_341 => ?_)
  have x_341 := x_sO e_341
  have hh := is_ext x_341 hh
  have i_v50 := isA_ext x_341 i_v50
  obtain ⟨ad40, P40⟩ := mPre_step (k := 50) P39 n_v50 e_339 e_341 (by decide)
  have e_lat : mI S_341 659 h = -1 := by rw [e_341, mI_sO, e_339, mI_sArr]; exact e_lat
  refine v_aload_n C dX10_init_344 rfl ?_
  refine v_sipush (v := 200) C dX10_init_345 (by decide) ?_
  refine v_newarr C (kd := 11) (N := 200) wd42 rfl (t0 := 0) rfl (by decide) (fun _ => cell_newI (Or.inl rfl)) (fun _ => vp_cell_i _ _ _) (by decide) (by decide) (Nat.le_of_ble_eq_true rfl) (Nat.le_of_ble_eq_true rfl) (Nat.le_of_ble_eq_true rfl) dX10_init_348 (fun v51 n_v51 => ?_)
  have z_hh_v51 := ne_of_is n_v51 hh
  refine V.gen (fun S_348 e_348 => ?_)
  have x_348 := x_sArr e_348 n_v51
  have hh := is_ext x_348 hh
  have i_v51 := isA_sArrE (kd := 11) (n := 200) e_348 n_v51
  refine p10_133 (v := some _) C hh (hin rfl) dX10_init_350 ?_
  refine V.gen (fun S_350 e_350 => ?_)
  have x_350 := x_sO e_350
  have hh := is_ext x_350 hh
  have i_v51 := isA_ext x_350 i_v51
  obtain ⟨ad41, P41⟩ := mPre_step (k := 51) P40 n_v51 e_348 e_350 (by decide)
  have e_lat : mI S_350 659 h = -1 := by rw [e_350, mI_sO, e_348, mI_sArr]; exact e_lat
  refine v_aload_n C dX10_init_353 rfl ?_
  refine v_sipush (v := 200) C dX10_init_354 (by decide) ?_
  refine v_newarr C (kd := 11) (N := 200) wd42 rfl (t0 := 0) rfl (by decide) (fun _ => cell_newI (Or.inl rfl)) (fun _ => vp_cell_i _ _ _) (by decide) (by decide) (Nat.le_of_ble_eq_true rfl) (Nat.le_of_ble_eq_true rfl) (Nat.le_of_ble_eq_true rfl) dX10_init_357 (fun v52 n_v52 => ?_)
  have z_hh_v52 := ne_of_is n_v52 hh
  refine V.gen (fun S_357 e_357 => ?_)
  have x_357 := x_sArr e_357 n_v52
  have hh := is_ext x_357 hh
  have i_v52 := isA_sArrE (kd := 11) (n := 200) e_357 n_v52
  refine p10_136 (v := some _) C hh (hin rfl) dX10_init_359 ?_
  refine V.gen (fun S_359 e_359 => ?_)
  have x_359 := x_sO e_359
  have hh := is_ext x_359 hh
  have i_v52 := isA_ext x_359 i_v52
  obtain ⟨ad42, P42⟩ := mPre_step (k := 52) P41 n_v52 e_357 e_359 (by decide)
  have e_lat : mI S_359 659 h = -1 := by rw [e_359, mI_sO, e_357, mI_sArr]; exact e_lat
  refine v_aload_n C dX10_init_362 rfl ?_
  refine v_sipush (v := 200) C dX10_init_363 (by decide) ?_
  refine v_newarr C (kd := 11) (N := 200) wd42 rfl (t0 := 0) rfl (by decide) (fun _ => cell_newI (Or.inl rfl)) (fun _ => vp_cell_i _ _ _) (by decide) (by decide) (Nat.le_of_ble_eq_true rfl) (Nat.le_of_ble_eq_true rfl) (Nat.le_of_ble_eq_true rfl) dX10_init_366 (fun v53 n_v53 => ?_)
  have z_hh_v53 := ne_of_is n_v53 hh
  refine V.gen (fun S_366 e_366 => ?_)
  have x_366 := x_sArr e_366 n_v53
  have hh := is_ext x_366 hh
  have i_v53 := isA_sArrE (kd := 11) (n := 200) e_366 n_v53
  refine p10_139 (v := some _) C hh (hin rfl) dX10_init_368 ?_
  refine V.gen (fun S_368 e_368 => ?_)
  have x_368 := x_sO e_368
  have hh := is_ext x_368 hh
  have i_v53 := isA_ext x_368 i_v53
  obtain ⟨ad43, P43⟩ := mPre_step (k := 53) P42 n_v53 e_366 e_368 (by decide)
  have e_lat : mI S_368 659 h = -1 := by rw [e_368, mI_sO, e_366, mI_sArr]; exact e_lat
  refine v_aload_n C dX10_init_371 rfl ?_
  refine v_sipush (v := 200) C dX10_init_372 (by decide) ?_
  refine v_newarr C (kd := 12) (N := 200) wd73 rfl (t0 := 1) rfl (by decide) (fun _ => cell_newJ) (fun _ => vp_cell_l _ _ _) (by decide) (by decide) (Nat.le_of_ble_eq_true rfl) (Nat.le_of_ble_eq_true rfl) (Nat.le_of_ble_eq_true rfl) dX10_init_375 (fun v54 n_v54 => ?_)
  have z_hh_v54 := ne_of_is n_v54 hh
  refine V.gen (fun S_375 e_375 => ?_)
  have x_375 := x_sArr e_375 n_v54
  have hh := is_ext x_375 hh
  have i_v54 := isA_sArrE (kd := 12) (n := 200) e_375 n_v54
  refine p10_142 (v := some _) C hh (hin rfl) dX10_init_377 ?_
  refine V.gen (fun S_377 e_377 => ?_)
  have x_377 := x_sO e_377
  have hh := is_ext x_377 hh
  have i_v54 := isA_ext x_377 i_v54
  obtain ⟨ad44, P44⟩ := mPre_step (k := 54) P43 n_v54 e_375 e_377 (by decide)
  have e_lat : mI S_377 659 h = -1 := by rw [e_377, mI_sO, e_375, mI_sArr]; exact e_lat
  refine v_vret C hr (Nat.le_of_ble_eq_true rfl) (Nat.le_of_ble_eq_true rfl) dX10_init_380 ?_
  exact ⟨rfl, ad44, P44, e_lat⟩
