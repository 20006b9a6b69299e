theorem dL_law_156 : decode cL_law 156 = .ok (.aload_n 1, 1) := by decide +kernel
theorem dL_law_157 : decode cL_law 157 = .ok (.aload_n 0, 1) := by decide +kernel
theorem dL_law_158 : decode cL_law 158 = .ok (.iload_n 3, 1) := by decide +kernel
theorem dL_law_159 : decode cL_law 159 = .ok (.iconst 1, 1) := by decide +kernel
theorem dL_law_160 : decode cL_law 160 = .ok (.iadd, 1) := by decide +kernel
theorem dL_law_161 : decode cL_law 161 = .ok (.iaload, 1) := by decide +kernel
theorem dL_law_162 : decode cL_law 162 = .ok (.aload_n 0, 1) := by decide +kernel
theorem dL_law_163 : decode cL_law 163 = .ok (.iload_n 3, 1) := by decide +kernel
theorem dL_law_164 : decode cL_law 164 = .ok (.iconst 2, 1) := by decide +kernel
theorem dL_law_165 : decode cL_law 165 = .ok (.iadd, 1) := by decide +kernel
theorem dL_law_166 : decode cL_law 166 = .ok (.iaload, 1) := by decide +kernel
theorem dL_law_167 : decode cL_law 167 = .ok (.aload_n 0, 1) := by decide +kernel
theorem dL_law_168 : decode cL_law 168 = .ok (.iload_n 3, 1) := by decide +kernel
theorem dL_law_169 : decode cL_law 169 = .ok (.iconst 3, 1) := by decide +kernel
theorem dL_law_170 : decode cL_law 170 = .ok (.iadd, 1) := by decide +kernel
theorem dL_law_171 : decode cL_law 171 = .ok (.iaload, 1) := by decide +kernel
theorem dL_law_172 : decode cL_law 172 = .ok (.invokevirtual 13, 3) := by decide +kernel
theorem dL_law_175 : decode cL_law 175 = .ok (.pop, 1) := by decide +kernel
theorem dL_law_176 : decode cL_law 176 = .ok (.aload_n 2, 1) := by decide +kernel
theorem dL_law_177 : decode cL_law 177 = .ok (.aload_n 0, 1) := by decide +kernel
theorem dL_law_178 : decode cL_law 178 = .ok (.iload_n 3, 1) := by decide +kernel
theorem dL_law_179 : decode cL_law 179 = .ok (.iconst 1, 1) := by decide +kernel
theorem dL_law_180 : decode cL_law 180 = .ok (.iadd, 1) := by decide +kernel
theorem dL_law_181 : decode cL_law 181 = .ok (.iaload, 1) := by decide +kernel
theorem dL_law_182 : decode cL_law 182 = .ok (.aload_n 0, 1) := by decide +kernel
theorem dL_law_183 : decode cL_law 183 = .ok (.iload_n 3, 1) := by decide +kernel
theorem dL_law_184 : decode cL_law 184 = .ok (.iconst 2, 1) := by decide +kernel
theorem dL_law_185 : decode cL_law 185 = .ok (.iadd, 1) := by decide +kernel
theorem dL_law_186 : decode cL_law 186 = .ok (.iaload, 1) := by decide +kernel
theorem dL_law_187 : decode cL_law 187 = .ok (.aload_n 0, 1) := by decide +kernel
theorem dL_law_188 : decode cL_law 188 = .ok (.iload_n 3, 1) := by decide +kernel
theorem dL_law_189 : decode cL_law 189 = .ok (.iconst 3, 1) := by decide +kernel
theorem dL_law_190 : decode cL_law 190 = .ok (.iadd, 1) := by decide +kernel
theorem dL_law_191 : decode cL_law 191 = .ok (.iaload, 1) := by decide +kernel
theorem dL_law_192 : decode cL_law 192 = .ok (.invokevirtual 17, 3) := by decide +kernel
theorem dL_law_195 : decode cL_law 195 = .ok (.pop, 1) := by decide +kernel
theorem dL_law_196 : decode cL_law 196 = .ok (.goto 1011, 3) := by decide +kernel
set_option maxRecDepth 100000 in
set_option maxHeartbeats 4000000 in
theorem law_c0 {p : Program} {l : Launch} {e : Env} {s : State} {m : MethodId} {below : List Frame} {meth : Method} {c : Code} {D : va_G} {G : Nat → ClassId} {bs : Nat} {Q : State → Prop} {b : Nat} {xs : Nat → Int32} {L i x m0 : Nat} {ad : Nat → Nat} {S : Mem} {K : RS} (C : Cx p s m #[Value.ref b] meth c D G bs code 4 RL) (hX : va_X b L xs s s.heap) (hbl : b < s.heap.size) (hbA : ¬ bs ≤ b) (hL : L ≤ 2560) (hi : i + 5 ≤ L) (hI : lawI S x m0 ad K) (hend : ∀ (S' : Mem) (K' : RS), lawI S' x m0 ad K' → V p l e room_1 s m #[Value.ref b] below meth c D G bs 4 Q (1000 + 20 * i + 100) (100000 + 1000 * i + 5000) S' 1207 [some (.ref b), some (.ref x), some (.ref m0), some (.int (nI i))] []) : V p l e room_1 s m #[Value.ref b] below meth c D G bs 4 Q (1000 + 20 * i) (100000 + 1000 * i) S 156 [some (.ref b), some (.ref x), some (.ref m0), some (.int (nI i))] [] := by
  refine v_aload_n C dL_law_156 rfl ?_
  refine v_aload_n C dL_law_157 rfl ?_
  refine v_iload_n C dL_law_158 rfl ?_
  refine v_iconst (v := nI 1) C dL_law_159 (by decide) ?_
  refine n_iadd C dL_law_160 ?_
  refine v_sld C hX hbl hbA (vp_in_nI (by omega) (by omega)) dL_law_161 ?_
  refine v_aload_n C dL_law_162 rfl ?_
  refine v_iload_n C dL_law_163 rfl ?_
  refine v_iconst (v := nI 2) C dL_law_164 (by decide) ?_
  refine n_iadd C dL_law_165 ?_
  refine v_sld C hX hbl hbA (vp_in_nI (by omega) (by omega)) dL_law_166 ?_
  refine v_aload_n C dL_law_167 rfl ?_
  refine v_iload_n C dL_law_168 rfl ?_
  refine v_iconst (v := nI 3) C dL_law_169 (by decide) ?_
  refine n_iadd C dL_law_170 ?_
  refine v_sld C hX hbl hbA (vp_in_nI (by omega) (by omega)) dL_law_171 ?_
  obtain ⟨W, pt, hr⟩ := hI.2.2.2
  obtain ⟨r1, r2, r3, r4, r5, r6, ⟨k1, k2, k3, k4, k5, k6, k7, k8⟩, r8, r9, r10⟩ := id hr
  refine v_callV (As := [_, _, _]) (n := 3) C (ft_X9_trait l (mX m0 ad) x _ _ _ (W 0) (fN K 0) (xA W) (aA W) (tlist K)) rfl r1.1 (by decide) rfl ⟨wd124, wd125, wd126, wd2, wd127⟩ ⟨rfl, hy_X9_trait⟩ rfl ⟨Nat.le_of_ble_eq_true rfl, Nat.le_of_ble_eq_true rfl⟩ (Nat.le_of_ble_eq_true rfl) ⟨(by show 1000 + 20 * i + _ ≤ 600000; omega), (by show 100000 + 1000 * i + _ ≤ 7302250; omega)⟩ dL_law_172 ⟨rfl, hI.1, r1.1, r1.2, r4, r5, inj_mdj r2, inj_tdj r2, tl_ok hI.2.2.1⟩ (fun r_172 S172 h_172 => ?_)
  obtain ⟨v172, rfl, iv1, ch1, rl1⟩ := h_172
  have hk1 := (mdR_trait (ta := 0) (tb := 0) (tc := 0) (v := 0) hr ch1 trivial hI.2.1)
  refine v_pop C dL_law_175 rfl ?_
  refine v_aload_n C dL_law_176 rfl ?_
  refine v_aload_n C dL_law_177 rfl ?_
  refine v_iload_n C dL_law_178 rfl ?_
  refine v_iconst (v := nI 1) C dL_law_179 (by decide) ?_
  refine n_iadd C dL_law_180 ?_
  refine v_sld C hX hbl hbA (vp_in_nI (by omega) (by omega)) dL_law_181 ?_
  refine v_aload_n C dL_law_182 rfl ?_
  refine v_iload_n C dL_law_183 rfl ?_
  refine v_iconst (v := nI 2) C dL_law_184 (by decide) ?_
  refine n_iadd C dL_law_185 ?_
  refine v_sld C hX hbl hbA (vp_in_nI (by omega) (by omega)) dL_law_186 ?_
  refine v_aload_n C dL_law_187 rfl ?_
  refine v_iload_n C dL_law_188 rfl ?_
  refine v_iconst (v := nI 3) C dL_law_189 (by decide) ?_
  refine n_iadd C dL_law_190 ?_
  refine v_sld C hX hbl hbA (vp_in_nI (by omega) (by omega)) dL_law_191 ?_
  refine v_callV (As := [_, _, _]) (n := 3) C (rt_X10_trait l m0 ad _ _ _ _) rfl hk1.1 (by decide) rfl ⟨wd230, wd231, wd232, wd5, wd233⟩ ⟨rfl, hy_X10_trait⟩ rfl ⟨Nat.le_of_ble_eq_true rfl, Nat.le_of_ble_eq_true rfl⟩ (Nat.le_of_ble_eq_true rfl) ⟨(by show 1000 + 20 * i + _ ≤ 600000; omega), (by show 100000 + 1000 * i + _ ≤ 7302250; omega)⟩ dL_law_192 ⟨rfl, hk1, hI.2.2.1⟩ (fun r_192 S192 h_192 => ?_)
  obtain ⟨v192, K192, rfl, hk_192, x_192, p_v192⟩ := h_192
  have rv_192 := RV_traitR hI.2.2.1 p_v192
  obtain ⟨he, W1, rp1⟩ := tie_trait2 hr hI.2.2.1 (fun a z => (hI.1.1 a z).1) ch1 rl1.1 rl1.2 p_v192
  have hI := lawI_fin iv1 rp1 hk_192 x_192 rv_192
  refine v_pop C dL_law_195 rfl ?_
  refine v_goto (tgt := 1207) C dL_law_196 (by decide) ?_
  refine V.widen (c2 := 1000 + 20 * i + 100) (s2 := 100000 + 1000 * i + 5000) (by omega) (by omega) ?_
  exact hend _ _ hI
theorem dL_law_199 : decode cL_law 199 = .ok (.aload_n 1, 1) := by decide +kernel
theorem dL_law_200 : decode cL_law 200 = .ok (.aload_n 0, 1) := by decide +kernel
theorem dL_law_201 : decode cL_law 201 = .ok (.iload_n 3, 1) := by decide +kernel
theorem dL_law_202 : decode cL_law 202 = .ok (.iconst 1, 1) := by decide +kernel
theorem dL_law_203 : decode cL_law 203 = .ok (.iadd, 1) := by decide +kernel
theorem dL_law_204 : decode cL_law 204 = .ok (.iaload, 1) := by decide +kernel
theorem dL_law_205 : decode cL_law 205 = .ok (.invokevirtual 18, 3) := by decide +kernel
theorem dL_law_208 : decode cL_law 208 = .ok (.pop, 1) := by decide +kernel
theorem dL_law_209 : decode cL_law 209 = .ok (.aload_n 2, 1) := by decide +kernel
theorem dL_law_210 : decode cL_law 210 = .ok (.aload_n 0, 1) := by decide +kernel
theorem dL_law_211 : decode cL_law 211 = .ok (.iload_n 3, 1) := by decide +kernel
theorem dL_law_212 : decode cL_law 212 = .ok (.iconst 1, 1) := by decide +kernel
theorem dL_law_213 : decode cL_law 213 = .ok (.iadd, 1) := by decide +kernel
theorem dL_law_214 : decode cL_law 214 = .ok (.iaload, 1) := by decide +kernel
theorem dL_law_215 : decode cL_law 215 = .ok (.invokevirtual 22, 3) := by decide +kernel
theorem dL_law_218 : decode cL_law 218 = .ok (.pop, 1) := by decide +kernel
theorem dL_law_219 : decode cL_law 219 = .ok (.goto 988, 3) := by decide +kernel
set_option maxRecDepth 100000 in
set_option maxHeartbeats 4000000 in
theorem law_c1 {p : Program} {l : Launch} {e : Env} {s : State} {m : MethodId} {below : List Frame} {meth : Method} {c : Code} {D : va_G} {G : Nat → ClassId} {bs : Nat} {Q : State → Prop} {b : Nat} {xs : Nat → Int32} {L i x m0 : Nat} {ad : Nat → Nat} {S : Mem} {K : RS} (C : Cx p s m #[Value.ref b] meth c D G bs code 4 RL) (hX : va_X b L xs s s.heap) (hbl : b < s.heap.size) (hbA : ¬ bs ≤ b) (hL : L ≤ 2560) (hi : i + 5 ≤ L) (hI : lawI S x m0 ad K) (hend : ∀ (S' : Mem) (K' : RS), lawI S' x m0 ad K' → V p l e room_1 s m #[Value.ref b] below meth c D G bs 4 Q (1000 + 20 * i + 100) (100000 + 1000 * i + 5000) S' 1207 [some (.ref b), some (.ref x), some (.ref m0), some (.int (nI i))] []) : V p l e room_1 s m #[Value.ref b] below meth c D G bs 4 Q (1000 + 20 * i) (100000 + 1000 * i) S 199 [some (.ref b), some (.ref x), some (.ref m0), some (.int (nI i))] [] := by
  refine v_aload_n C dL_law_199 rfl ?_
  refine v_aload_n C dL_law_200 rfl ?_
  refine v_iload_n C dL_law_201 rfl ?_
  refine v_iconst (v := nI 1) C dL_law_202 (by decide) ?_
  refine n_iadd C dL_law_203 ?_
  refine v_sld C hX hbl hbA (vp_in_nI (by omega) (by omega)) dL_law_204 ?_
  obtain ⟨W, pt, hr⟩ := hI.2.2.2
  obtain ⟨r1, r2, r3, r4, r5, r6, ⟨k1, k2, k3, k4, k5, k6, k7, k8⟩, r8, r9, r10⟩ := id hr
  refine v_callV (As := [_]) (n := 1) C (ft_X9_character l (mX m0 ad) x _ W (fN K 3)) rfl r1.1 (by decide) rfl ⟨wd259, wd260, wd261, wd2, wd262⟩ ⟨rfl, hy_X9_character⟩ rfl ⟨Nat.le_of_ble_eq_true rfl, Nat.le_of_ble_eq_true rfl⟩ (Nat.le_of_ble_eq_true rfl) ⟨(by show 1000 + 20 * i + _ ≤ 600000; omega), (by show 100000 + 1000 * i + _ ≤ 7302250; omega)⟩ dL_law_205 ⟨rfl, hI.1, r1.1, r1.2, r4.1, k1⟩ (fun r_205 S205 h_205 => ?_)
  obtain ⟨v205, rfl, iv1, ch1, rl1⟩ := h_205
  have hk1 := (mdR_chg ch1 (by simp) (by simp) (by simp) hI.2.1)
  refine v_pop C dL_law_208 rfl ?_
  refine v_aload_n C dL_law_209 rfl ?_
  refine v_aload_n C dL_law_210 rfl ?_
  refine v_iload_n C dL_law_211 rfl ?_
  refine v_iconst (v := nI 1) C dL_law_212 (by decide) ?_
  refine n_iadd C dL_law_213 ?_
  refine v_sld C hX hbl hbA (vp_in_nI (by omega) (by omega)) dL_law_214 ?_
  refine v_callV (As := [_]) (n := 1) C (rt_X10_character l m0 ad _ _) rfl hk1.1 (by decide) rfl ⟨wd290, wd291, wd292, wd5, wd293⟩ ⟨rfl, hy_X10_character⟩ rfl ⟨Nat.le_of_ble_eq_true rfl, Nat.le_of_ble_eq_true rfl⟩ (Nat.le_of_ble_eq_true rfl) ⟨(by show 1000 + 20 * i + _ ≤ 600000; omega), (by show 100000 + 1000 * i + _ ≤ 7302250; omega)⟩ dL_law_215 ⟨rfl, hk1, hI.2.2.1⟩ (fun r_215 S215 h_215 => ?_)
  obtain ⟨v215, K215, rfl, hk_215, x_215, p_v215⟩ := h_215
  have rv_215 := RV_charR hI.2.2.1 p_v215
  obtain ⟨he, W1, rp1⟩ := tie_character hr (fun a z => (hI.1.1 a z).1) ch1 rl1 p_v215
  have hI := lawI_fin iv1 rp1 hk_215 x_215 rv_215
  refine v_pop C dL_law_218 rfl ?_
  refine v_goto (tgt := 1207) C dL_law_219 (by decide) ?_
  refine V.widen (c2 := 1000 + 20 * i + 100) (s2 := 100000 + 1000 * i + 5000) (by omega) (by omega) ?_
  exact hend _ _ hI
theorem dL_law_222 : decode cL_law 222 = .ok (.aload_n 1, 1) := by decide +kernel
theorem dL_law_223 : decode cL_law 223 = .ok (.aload_n 0, 1) := by decide +kernel
theorem dL_law_224 : decode cL_law 224 = .ok (.iload_n 3, 1) := by decide +kernel
theorem dL_law_225 : decode cL_law 225 = .ok (.iconst 1, 1) := by decide +kernel
theorem dL_law_226 : decode cL_law 226 = .ok (.iadd, 1) := by decide +kernel
theorem dL_law_227 : decode cL_law 227 = .ok (.iaload, 1) := by decide +kernel
theorem dL_law_228 : decode cL_law 228 = .ok (.aload_n 0, 1) := by decide +kernel
theorem dL_law_229 : decode cL_law 229 = .ok (.iload_n 3, 1) := by decide +kernel
theorem dL_law_230 : decode cL_law 230 = .ok (.iconst 2, 1) := by decide +kernel
theorem dL_law_231 : decode cL_law 231 = .ok (.iadd, 1) := by decide +kernel
theorem dL_law_232 : decode cL_law 232 = .ok (.iaload, 1) := by decide +kernel
theorem dL_law_233 : decode cL_law 233 = .ok (.invokevirtual 23, 3) := by decide +kernel
theorem dL_law_236 : decode cL_law 236 = .ok (.pop, 1) := by decide +kernel
theorem dL_law_237 : decode cL_law 237 = .ok (.aload_n 2, 1) := by decide +kernel
theorem dL_law_238 : decode cL_law 238 = .ok (.aload_n 0, 1) := by decide +kernel
theorem dL_law_239 : decode cL_law 239 = .ok (.iload_n 3, 1) := by decide +kernel
theorem dL_law_240 : decode cL_law 240 = .ok (.iconst 1, 1) := by decide +kernel
theorem dL_law_241 : decode cL_law 241 = .ok (.iadd, 1) := by decide +kernel
theorem dL_law_242 : decode cL_law 242 = .ok (.iaload, 1) := by decide +kernel
theorem dL_law_243 : decode cL_law 243 = .ok (.aload_n 0, 1) := by decide +kernel
theorem dL_law_244 : decode cL_law 244 = .ok (.iload_n 3, 1) := by decide +kernel
theorem dL_law_245 : decode cL_law 245 = .ok (.iconst 2, 1) := by decide +kernel
theorem dL_law_246 : decode cL_law 246 = .ok (.iadd, 1) := by decide +kernel
theorem dL_law_247 : decode cL_law 247 = .ok (.iaload, 1) := by decide +kernel
theorem dL_law_248 : decode cL_law 248 = .ok (.invokevirtual 27, 3) := by decide +kernel
theorem dL_law_251 : decode cL_law 251 = .ok (.pop, 1) := by decide +kernel
theorem dL_law_252 : decode cL_law 252 = .ok (.goto 955, 3) := by decide +kernel
set_option maxRecDepth 100000 in
set_option maxHeartbeats 4000000 in
theorem law_c2 {p : Program} {l : Launch} {e : Env} {s : State} {m : MethodId} {below : List Frame} {meth : Method} {c : Code} {D : va_G} {G : Nat → ClassId} {bs : Nat} {Q : State → Prop} {b : Nat} {xs : Nat → Int32} {L i x m0 : Nat} {ad : Nat → Nat} {S : Mem} {K : RS} (C : Cx p s m #[Value.ref b] meth c D G bs code 4 RL) (hX : va_X b L xs s s.heap) (hbl : b < s.heap.size) (hbA : ¬ bs ≤ b) (hL : L ≤ 2560) (hi : i + 5 ≤ L) (hI : lawI S x m0 ad K) (hend : ∀ (S' : Mem) (K' : RS), lawI S' x m0 ad K' → V p l e room_1 s m #[Value.ref b] below meth c D G bs 4 Q (1000 + 20 * i + 100) (100000 + 1000 * i + 5000) S' 1207 [some (.ref b), some (.ref x), some (.ref m0), some (.int (nI i))] []) : V p l e room_1 s m #[Value.ref b] below meth c D G bs 4 Q (1000 + 20 * i) (100000 + 1000 * i) S 222 [some (.ref b), some (.ref x), some (.ref m0), some (.int (nI i))] [] := by
  refine v_aload_n C dL_law_222 rfl ?_
  refine v_aload_n C dL_law_223 rfl ?_
  refine v_iload_n C dL_law_224 rfl ?_
  refine v_iconst (v := nI 1) C dL_law_225 (by decide) ?_
  refine n_iadd C dL_law_226 ?_
  refine v_sld C hX hbl hbA (vp_in_nI (by omega) (by omega)) dL_law_227 ?_
  refine v_aload_n C dL_law_228 rfl ?_
  refine v_iload_n C dL_law_229 rfl ?_
  refine v_iconst (v := nI 2) C dL_law_230 (by decide) ?_
  refine n_iadd C dL_law_231 ?_
  refine v_sld C hX hbl hbA (vp_in_nI (by omega) (by omega)) dL_law_232 ?_
  obtain ⟨W, pt, hr⟩ := hI.2.2.2
  obtain ⟨r1, r2, r3, r4, r5, r6, ⟨k1, k2, k3, k4, k5, k6, k7, k8⟩, r8, r9, r10⟩ := id hr
  refine v_callV (As := [_, _]) (n := 2) C (ft_X9_takes l (mX m0 ad) x _ _ W (fN K 3) (fN K 0) (tlist K) K) rfl r1.1 (by decide) rfl ⟨wd295, wd296, wd297, wd2, wd298⟩ ⟨rfl, hy_X9_takes⟩ rfl ⟨Nat.le_of_ble_eq_true rfl, Nat.le_of_ble_eq_true rfl⟩ (Nat.le_of_ble_eq_true rfl) ⟨(by show 1000 + 20 * i + _ ≤ 600000; omega), (by show 100000 + 1000 * i + _ ≤ 7302250; omega)⟩ dL_law_233 ⟨rfl, hI.1, r1.1, r1.2, r4, k1, k2, r5, inj_mdj r2, inj_tdj r2, k3, (fun k hk => tk_ok hI.2.2.1 r10 (by have := k1.2.2.2.1; omega) (k2 k hk) (k4 k hk)), (fun k hk => inj_hd r4.2.2.2.2.1 r2 k hk)⟩ (fun r_233 S233 h_233 => ?_)
  obtain ⟨v233, rfl, iv1, ch1, rl1⟩ := h_233
  have hk1 := (mdR_takes hr ch1 rl1 hI.2.1)
  refine v_pop C dL_law_236 rfl ?_
  refine v_aload_n C dL_law_237 rfl ?_
  refine v_aload_n C dL_law_238 rfl ?_
  refine v_iload_n C dL_law_239 rfl ?_
  refine v_iconst (v := nI 1) C dL_law_240 (by decide) ?_
  refine n_iadd C dL_law_241 ?_
  refine v_sld C hX hbl hbA (vp_in_nI (by omega) (by omega)) dL_law_242 ?_
  refine v_aload_n C dL_law_243 rfl ?_
  refine v_iload_n C dL_law_244 rfl ?_
  refine v_iconst (v := nI 2) C dL_law_245 (by decide) ?_
  refine n_iadd C dL_law_246 ?_
  refine v_sld C hX hbl hbA (vp_in_nI (by omega) (by omega)) dL_law_247 ?_
  refine v_callV (As := [_, _]) (n := 2) C (rt_X10_takes l m0 ad _ _ _) rfl hk1.1 (by decide) rfl ⟨wd330, wd331, wd332, wd5, wd333⟩ ⟨rfl, hy_X10_takes⟩ rfl ⟨Nat.le_of_ble_eq_true rfl, Nat.le_of_ble_eq_true rfl⟩ (Nat.le_of_ble_eq_true rfl) ⟨(by show 1000 + 20 * i + _ ≤ 600000; omega), (by show 100000 + 1000 * i + _ ≤ 7302250; omega)⟩ dL_law_248 ⟨rfl, hk1, hI.2.2.1⟩ (fun r_248 S248 h_248 => ?_)
  obtain ⟨v248, K248, rfl, hk_248, x_248, p_v248⟩ := h_248
  have rv_248 := RV_takesR hI.2.2.1 p_v248
  obtain ⟨he, rp1⟩ := tie_takes hr hI.2.2.1 ch1 rl1 p_v248
  have hI := lawI_fin iv1 rp1 hk_248 x_248 rv_248
  refine v_pop C dL_law_251 rfl ?_
  refine v_goto (tgt := 1207) C dL_law_252 (by decide) ?_
  refine V.widen (c2 := 1000 + 20 * i + 100) (s2 := 100000 + 1000 * i + 5000) (by omega) (by omega) ?_
  exact hend _ _ hI
theorem dL_law_255 : decode cL_law 255 = .ok (.aload_n 1, 1) := by decide +kernel
theorem dL_law_256 : decode cL_law 256 = .ok (.aload_n 0, 1) := by decide +kernel
theorem dL_law_257 : decode cL_law 257 = .ok (.iload_n 3, 1) := by decide +kernel
theorem dL_law_258 : decode cL_law 258 = .ok (.iconst 1, 1) := by decide +kernel
theorem dL_law_259 : decode cL_law 259 = .ok (.iadd, 1) := by decide +kernel
theorem dL_law_260 : decode cL_law 260 = .ok (.iaload, 1) := by decide +kernel
theorem dL_law_261 : decode cL_law 261 = .ok (.aload_n 0, 1) := by decide +kernel
theorem dL_law_262 : decode cL_law 262 = .ok (.iload_n 3, 1) := by decide +kernel
theorem dL_law_263 : decode cL_law 263 = .ok (.iconst 2, 1) := by decide +kernel
theorem dL_law_264 : decode cL_law 264 = .ok (.iadd, 1) := by decide +kernel
theorem dL_law_265 : decode cL_law 265 = .ok (.iaload, 1) := by decide +kernel
theorem dL_law_266 : decode cL_law 266 = .ok (.aload_n 0, 1) := by decide +kernel
theorem dL_law_267 : decode cL_law 267 = .ok (.iload_n 3, 1) := by decide +kernel
theorem dL_law_268 : decode cL_law 268 = .ok (.iconst 3, 1) := by decide +kernel
theorem dL_law_269 : decode cL_law 269 = .ok (.iadd, 1) := by decide +kernel
theorem dL_law_270 : decode cL_law 270 = .ok (.iaload, 1) := by decide +kernel
theorem dL_law_271 : decode cL_law 271 = .ok (.aload_n 0, 1) := by decide +kernel
theorem dL_law_272 : decode cL_law 272 = .ok (.iload_n 3, 1) := by decide +kernel
theorem dL_law_273 : decode cL_law 273 = .ok (.iconst 4, 1) := by decide +kernel
theorem dL_law_274 : decode cL_law 274 = .ok (.iadd, 1) := by decide +kernel
theorem dL_law_275 : decode cL_law 275 = .ok (.iaload, 1) := by decide +kernel
theorem dL_law_276 : decode cL_law 276 = .ok (.invokevirtual 28, 3) := by decide +kernel
theorem dL_law_279 : decode cL_law 279 = .ok (.pop, 1) := by decide +kernel
theorem dL_law_280 : decode cL_law 280 = .ok (.aload_n 2, 1) := by decide +kernel
theorem dL_law_281 : decode cL_law 281 = .ok (.aload_n 0, 1) := by decide +kernel
theorem dL_law_282 : decode cL_law 282 = .ok (.iload_n 3, 1) := by decide +kernel
theorem dL_law_283 : decode cL_law 283 = .ok (.iconst 1, 1) := by decide +kernel
theorem dL_law_284 : decode cL_law 284 = .ok (.iadd, 1) := by decide +kernel
theorem dL_law_285 : decode cL_law 285 = .ok (.iaload, 1) := by decide +kernel
theorem dL_law_286 : decode cL_law 286 = .ok (.aload_n 0, 1) := by decide +kernel
theorem dL_law_287 : decode cL_law 287 = .ok (.iload_n 3, 1) := by decide +kernel
theorem dL_law_288 : decode cL_law 288 = .ok (.iconst 2, 1) := by decide +kernel
theorem dL_law_289 : decode cL_law 289 = .ok (.iadd, 1) := by decide +kernel
theorem dL_law_290 : decode cL_law 290 = .ok (.iaload, 1) := by decide +kernel
theorem dL_law_291 : decode cL_law 291 = .ok (.aload_n 0, 1) := by decide +kernel
theorem dL_law_292 : decode cL_law 292 = .ok (.iload_n 3, 1) := by decide +kernel
theorem dL_law_293 : decode cL_law 293 = .ok (.iconst 3, 1) := by decide +kernel
theorem dL_law_294 : decode cL_law 294 = .ok (.iadd, 1) := by decide +kernel
theorem dL_law_295 : decode cL_law 295 = .ok (.iaload, 1) := by decide +kernel
theorem dL_law_296 : decode cL_law 296 = .ok (.aload_n 0, 1) := by decide +kernel
theorem dL_law_297 : decode cL_law 297 = .ok (.iload_n 3, 1) := by decide +kernel
theorem dL_law_298 : decode cL_law 298 = .ok (.iconst 4, 1) := by decide +kernel
theorem dL_law_299 : decode cL_law 299 = .ok (.iadd, 1) := by decide +kernel
theorem dL_law_300 : decode cL_law 300 = .ok (.iaload, 1) := by decide +kernel
theorem dL_law_301 : decode cL_law 301 = .ok (.invokevirtual 32, 3) := by decide +kernel
theorem dL_law_304 : decode cL_law 304 = .ok (.pop, 1) := by decide +kernel
theorem dL_law_305 : decode cL_law 305 = .ok (.goto 902, 3) := by decide +kernel
set_option maxRecDepth 100000 in
set_option maxHeartbeats 4000000 in
theorem law_c3 {p : Program} {l : Launch} {e : Env} {s : State} {m : MethodId} {below : List Frame} {meth : Method} {c : Code} {D : va_G} {G : Nat → ClassId} {bs : Nat} {Q : State → Prop} {b : Nat} {xs : Nat → Int32} {L i x m0 : Nat} {ad : Nat → Nat} {S : Mem} {K : RS} (C : Cx p s m #[Value.ref b] meth c D G bs code 4 RL) (hX : va_X b L xs s s.heap) (hbl : b < s.heap.size) (hbA : ¬ bs ≤ b) (hL : L ≤ 2560) (hi : i + 5 ≤ L) (hI : lawI S x m0 ad K) (hend : ∀ (S' : Mem) (K' : RS), lawI S' x m0 ad K' → V p l e room_1 s m #[Value.ref b] below meth c D G bs 4 Q (1000 + 20 * i + 100) (100000 + 1000 * i + 5000) S' 1207 [some (.ref b), some (.ref x), some (.ref m0), some (.int (nI i))] []) : V p l e room_1 s m #[Value.ref b] below meth c D G bs 4 Q (1000 + 20 * i) (100000 + 1000 * i) S 255 [some (.ref b), some (.ref x), some (.ref m0), some (.int (nI i))] [] := by
  refine v_aload_n C dL_law_255 rfl ?_
  refine v_aload_n C dL_law_256 rfl ?_
  refine v_iload_n C dL_law_257 rfl ?_
  refine v_iconst (v := nI 1) C dL_law_258 (by decide) ?_
  refine n_iadd C dL_law_259 ?_
  refine v_sld C hX hbl hbA (vp_in_nI (by omega) (by omega)) dL_law_260 ?_
  refine v_aload_n C dL_law_261 rfl ?_
  refine v_iload_n C dL_law_262 rfl ?_
  refine v_iconst (v := nI 2) C dL_law_263 (by decide) ?_
  refine n_iadd C dL_law_264 ?_
  refine v_sld C hX hbl hbA (vp_in_nI (by omega) (by omega)) dL_law_265 ?_
  refine v_aload_n C dL_law_266 rfl ?_
  refine v_iload_n C dL_law_267 rfl ?_
  refine v_iconst (v := nI 3) C dL_law_268 (by decide) ?_
  refine n_iadd C dL_law_269 ?_
  refine v_sld C hX hbl hbA (vp_in_nI (by omega) (by omega)) dL_law_270 ?_
  refine v_aload_n C dL_law_271 rfl ?_
  refine v_iload_n C dL_law_272 rfl ?_
  refine v_iconst (v := nI 4) C dL_law_273 (by decide) ?_
  refine n_iadd C dL_law_274 ?_
  refine v_sld C hX hbl hbA (vp_in_nI (by omega) (by omega)) dL_law_275 ?_
  obtain ⟨W, pt, hr⟩ := hI.2.2.2
  obtain ⟨r1, r2, r3, r4, r5, r6, ⟨k1, k2, k3, k4, k5, k6, k7, k8⟩, r8, r9, r10⟩ := id hr
  refine v_callV (As := [_, _, _, _]) (n := 4) C (ft_X9_body l (mX m0 ad) x _ _ _ _ W (fN K 0) (tlist K) pt) rfl r1.1 (by decide) rfl ⟨wd338, wd339, wd340, wd2, wd341⟩ ⟨rfl, hy_X9_body⟩ rfl ⟨Nat.le_of_ble_eq_true rfl, Nat.le_of_ble_eq_true rfl⟩ (Nat.le_of_ble_eq_true rfl) ⟨(by show 1000 + 20 * i + _ ≤ 600000; omega), (by show 100000 + 1000 * i + _ ≤ 7302250; omega)⟩ dL_law_276 ⟨rfl, hI.1, r1.1, r1.2, r4, r6⟩ (fun r_276 S276 h_276 => ?_)
  obtain ⟨v276, rfl, iv1, ch1, rl1⟩ := h_276
  have hk1 := (mdR_chg ch1 (by simp) (by simp) (by simp) hI.2.1)
  refine v_pop C dL_law_279 rfl ?_
  refine v_aload_n C dL_law_280 rfl ?_
  refine v_aload_n C dL_law_281 rfl ?_
  refine v_iload_n C dL_law_282 rfl ?_
  refine v_iconst (v := nI 1) C dL_law_283 (by decide) ?_
  refine n_iadd C dL_law_284 ?_
  refine v_sld C hX hbl hbA (vp_in_nI (by omega) (by omega)) dL_law_285 ?_
  refine v_aload_n C dL_law_286 rfl ?_
  refine v_iload_n C dL_law_287 rfl ?_
  refine v_iconst (v := nI 2) C dL_law_288 (by decide) ?_
  refine n_iadd C dL_law_289 ?_
  refine v_sld C hX hbl hbA (vp_in_nI (by omega) (by omega)) dL_law_290 ?_
  refine v_aload_n C dL_law_291 rfl ?_
  refine v_iload_n C dL_law_292 rfl ?_
  refine v_iconst (v := nI 3) C dL_law_293 (by decide) ?_
  refine n_iadd C dL_law_294 ?_
  refine v_sld C hX hbl hbA (vp_in_nI (by omega) (by omega)) dL_law_295 ?_
  refine v_aload_n C dL_law_296 rfl ?_
  refine v_iload_n C dL_law_297 rfl ?_
  refine v_iconst (v := nI 4) C dL_law_298 (by decide) ?_
  refine n_iadd C dL_law_299 ?_
  refine v_sld C hX hbl hbA (vp_in_nI (by omega) (by omega)) dL_law_300 ?_
  refine v_callV (As := [_, _, _, _]) (n := 4) C (rt_X10_body l m0 ad _ _ _ _ _) rfl hk1.1 (by decide) rfl ⟨wd364, wd365, wd366, wd5, wd367⟩ ⟨rfl, hy_X10_body⟩ rfl ⟨Nat.le_of_ble_eq_true rfl, Nat.le_of_ble_eq_true rfl⟩ (Nat.le_of_ble_eq_true rfl) ⟨(by show 1000 + 20 * i + _ ≤ 600000; omega), (by show 100000 + 1000 * i + _ ≤ 7302250; omega)⟩ dL_law_301 ⟨rfl, hk1, hI.2.2.1⟩ (fun r_301 S301 h_301 => ?_)
  obtain ⟨v301, K301, rfl, hk_301, x_301, p_v301⟩ := h_301
  have rv_301 := (bodyP_s hI.2.2.1 p_v301).1
  obtain ⟨he, W1, rp1⟩ := tie_body hr hI.2.2.1 ch1 rl1 p_v301
  have hI := lawI_fin iv1 rp1 hk_301 x_301 rv_301
  refine v_pop C dL_law_304 rfl ?_
  refine v_goto (tgt := 1207) C dL_law_305 (by decide) ?_
  refine V.widen (c2 := 1000 + 20 * i + 100) (s2 := 100000 + 1000 * i + 5000) (by omega) (by omega) ?_
  exact hend _ _ hI
theorem dL_law_308 : decode cL_law 308 = .ok (.aload_n 1, 1) := by decide +kernel
theorem dL_law_309 : decode cL_law 309 = .ok (.aload_n 0, 1) := by decide +kernel
theorem dL_law_310 : decode cL_law 310 = .ok (.iload_n 3, 1) := by decide +kernel
theorem dL_law_311 : decode cL_law 311 = .ok (.iconst 1, 1) := by decide +kernel
theorem dL_law_312 : decode cL_law 312 = .ok (.iadd, 1) := by decide +kernel
theorem dL_law_313 : decode cL_law 313 = .ok (.iaload, 1) := by decide +kernel
theorem dL_law_314 : decode cL_law 314 = .ok (.aload_n 0, 1) := by decide +kernel
theorem dL_law_315 : decode cL_law 315 = .ok (.iload_n 3, 1) := by decide +kernel
theorem dL_law_316 : decode cL_law 316 = .ok (.iconst 2, 1) := by decide +kernel
theorem dL_law_317 : decode cL_law 317 = .ok (.iadd, 1) := by decide +kernel
theorem dL_law_318 : decode cL_law 318 = .ok (.iaload, 1) := by decide +kernel
theorem dL_law_319 : decode cL_law 319 = .ok (.aload_n 0, 1) := by decide +kernel
theorem dL_law_320 : decode cL_law 320 = .ok (.iload_n 3, 1) := by decide +kernel
theorem dL_law_321 : decode cL_law 321 = .ok (.iconst 3, 1) := by decide +kernel
theorem dL_law_322 : decode cL_law 322 = .ok (.iadd, 1) := by decide +kernel
theorem dL_law_323 : decode cL_law 323 = .ok (.iaload, 1) := by decide +kernel
theorem dL_law_324 : decode cL_law 324 = .ok (.invokevirtual 33, 3) := by decide +kernel
theorem dL_law_327 : decode cL_law 327 = .ok (.pop, 1) := by decide +kernel
theorem dL_law_328 : decode cL_law 328 = .ok (.aload_n 2, 1) := by decide +kernel
theorem dL_law_329 : decode cL_law 329 = .ok (.aload_n 0, 1) := by decide +kernel
theorem dL_law_330 : decode cL_law 330 = .ok (.iload_n 3, 1) := by decide +kernel
theorem dL_law_331 : decode cL_law 331 = .ok (.iconst 1, 1) := by decide +kernel
theorem dL_law_332 : decode cL_law 332 = .ok (.iadd, 1) := by decide +kernel
theorem dL_law_333 : decode cL_law 333 = .ok (.iaload, 1) := by decide +kernel
theorem dL_law_334 : decode cL_law 334 = .ok (.aload_n 0, 1) := by decide +kernel
theorem dL_law_335 : decode cL_law 335 = .ok (.iload_n 3, 1) := by decide +kernel
theorem dL_law_336 : decode cL_law 336 = .ok (.iconst 2, 1) := by decide +kernel
theorem dL_law_337 : decode cL_law 337 = .ok (.iadd, 1) := by decide +kernel
theorem dL_law_338 : decode cL_law 338 = .ok (.iaload, 1) := by decide +kernel
theorem dL_law_339 : decode cL_law 339 = .ok (.aload_n 0, 1) := by decide +kernel
theorem dL_law_340 : decode cL_law 340 = .ok (.iload_n 3, 1) := by decide +kernel
theorem dL_law_341 : decode cL_law 341 = .ok (.iconst 3, 1) := by decide +kernel
theorem dL_law_342 : decode cL_law 342 = .ok (.iadd, 1) := by decide +kernel
theorem dL_law_343 : decode cL_law 343 = .ok (.iaload, 1) := by decide +kernel
theorem dL_law_344 : decode cL_law 344 = .ok (.invokevirtual 36, 3) := by decide +kernel
theorem dL_law_347 : decode cL_law 347 = .ok (.pop, 1) := by decide +kernel
theorem dL_law_348 : decode cL_law 348 = .ok (.goto 859, 3) := by decide +kernel
set_option maxRecDepth 100000 in
set_option maxHeartbeats 4000000 in
theorem law_c4 {p : Program} {l : Launch} {e : Env} {s : State} {m : MethodId} {below : List Frame} {meth : Method} {c : Code} {D : va_G} {G : Nat → ClassId} {bs : Nat} {Q : State → Prop} {b : Nat} {xs : Nat → Int32} {L i x m0 : Nat} {ad : Nat → Nat} {S : Mem} {K : RS} (C : Cx p s m #[Value.ref b] meth c D G bs code 4 RL) (hX : va_X b L xs s s.heap) (hbl : b < s.heap.size) (hbA : ¬ bs ≤ b) (hL : L ≤ 2560) (hi : i + 5 ≤ L) (hI : lawI S x m0 ad K) (hend : ∀ (S' : Mem) (K' : RS), lawI S' x m0 ad K' → V p l e room_1 s m #[Value.ref b] below meth c D G bs 4 Q (1000 + 20 * i + 100) (100000 + 1000 * i + 5000) S' 1207 [some (.ref b), some (.ref x), some (.ref m0), some (.int (nI i))] []) : V p l e room_1 s m #[Value.ref b] below meth c D G bs 4 Q (1000 + 20 * i) (100000 + 1000 * i) S 308 [some (.ref b), some (.ref x), some (.ref m0), some (.int (nI i))] [] := by
  refine v_aload_n C dL_law_308 rfl ?_
  refine v_aload_n C dL_law_309 rfl ?_
  refine v_iload_n C dL_law_310 rfl ?_
  refine v_iconst (v := nI 1) C dL_law_311 (by decide) ?_
  refine n_iadd C dL_law_312 ?_
  refine v_sld C hX hbl hbA (vp_in_nI (by omega) (by omega)) dL_law_313 ?_
  refine v_aload_n C dL_law_314 rfl ?_
  refine v_iload_n C dL_law_315 rfl ?_
  refine v_iconst (v := nI 2) C dL_law_316 (by decide) ?_
  refine n_iadd C dL_law_317 ?_
  refine v_sld C hX hbl hbA (vp_in_nI (by omega) (by omega)) dL_law_318 ?_
  refine v_aload_n C dL_law_319 rfl ?_
  refine v_iload_n C dL_law_320 rfl ?_
  refine v_iconst (v := nI 3) C dL_law_321 (by decide) ?_
  refine n_iadd C dL_law_322 ?_
  refine v_sld C hX hbl hbA (vp_in_nI (by omega) (by omega)) dL_law_323 ?_
  obtain ⟨W, pt, hr⟩ := hI.2.2.2
  obtain ⟨r1, r2, r3, r4, r5, r6, ⟨k1, k2, k3, k4, k5, k6, k7, k8⟩, r8, r9, r10⟩ := id hr
  refine v_callV (As := [_, _, _]) (n := 3) C (ft_X9_need l (mX m0 ad) x _ _ _ W (fN K 0) (tlist K) pt) rfl r1.1 (by decide) rfl ⟨wd375, wd376, wd377, wd2, wd378⟩ ⟨rfl, hy_X9_need⟩ rfl ⟨Nat.le_of_ble_eq_true rfl, Nat.le_of_ble_eq_true rfl⟩ (Nat.le_of_ble_eq_true rfl) ⟨(by show 1000 + 20 * i + _ ≤ 600000; omega), (by show 100000 + 1000 * i + _ ≤ 7302250; omega)⟩ dL_law_324 ⟨rfl, hI.1, r1.1, r1.2, r4, r6⟩ (fun r_324 S324 h_324 => ?_)
  obtain ⟨v324, rfl, iv1, ch1, rl1⟩ := h_324
  have hk1 := (mdR_chg ch1 (by simp) (by simp) (by simp) hI.2.1)
  refine v_pop C dL_law_327 rfl ?_
  refine v_aload_n C dL_law_328 rfl ?_
  refine v_aload_n C dL_law_329 rfl ?_
  refine v_iload_n C dL_law_330 rfl ?_
  refine v_iconst (v := nI 1) C dL_law_331 (by decide) ?_
  refine n_iadd C dL_law_332 ?_
  refine v_sld C hX hbl hbA (vp_in_nI (by omega) (by omega)) dL_law_333 ?_
  refine v_aload_n C dL_law_334 rfl ?_
  refine v_iload_n C dL_law_335 rfl ?_
  refine v_iconst (v := nI 2) C dL_law_336 (by decide) ?_
  refine n_iadd C dL_law_337 ?_
  refine v_sld C hX hbl hbA (vp_in_nI (by omega) (by omega)) dL_law_338 ?_
  refine v_aload_n C dL_law_339 rfl ?_
  refine v_iload_n C dL_law_340 rfl ?_
  refine v_iconst (v := nI 3) C dL_law_341 (by decide) ?_
  refine n_iadd C dL_law_342 ?_
  refine v_sld C hX hbl hbA (vp_in_nI (by omega) (by omega)) dL_law_343 ?_
  refine v_callV (As := [_, _, _]) (n := 3) C (rt_X10_need l m0 ad _ _ _ _) rfl hk1.1 (by decide) rfl ⟨wd379, wd380, wd381, wd5, wd382⟩ ⟨rfl, hy_X10_need⟩ rfl ⟨Nat.le_of_ble_eq_true rfl, Nat.le_of_ble_eq_true rfl⟩ (Nat.le_of_ble_eq_true rfl) ⟨(by show 1000 + 20 * i + _ ≤ 600000; omega), (by show 100000 + 1000 * i + _ ≤ 7302250; omega)⟩ dL_law_344 ⟨rfl, hk1, hI.2.2.1⟩ (fun r_344 S344 h_344 => ?_)
  obtain ⟨v344, K344, rfl, hk_344, x_344, p_v344⟩ := h_344
  have rv_344 := (needP_s hI.2.2.1 p_v344).1
  obtain ⟨he, W1, rp1⟩ := tie_need hr hI.2.2.1 ch1 rl1 p_v344
  have hI := lawI_fin iv1 rp1 hk_344 x_344 rv_344
  refine v_pop C dL_law_347 rfl ?_
  refine v_goto (tgt := 1207) C dL_law_348 (by decide) ?_
  refine V.widen (c2 := 1000 + 20 * i + 100) (s2 := 100000 + 1000 * i + 5000) (by omega) (by omega) ?_
  exact hend _ _ hI
theorem dL_law_351 : decode cL_law 351 = .ok (.aload_n 1, 1) := by decide +kernel
theorem dL_law_352 : decode cL_law 352 = .ok (.aload_n 0, 1) := by decide +kernel
theorem dL_law_353 : decode cL_law 353 = .ok (.iload_n 3, 1) := by decide +kernel
theorem dL_law_354 : decode cL_law 354 = .ok (.iconst 1, 1) := by decide +kernel
theorem dL_law_355 : decode cL_law 355 = .ok (.iadd, 1) := by decide +kernel
theorem dL_law_356 : decode cL_law 356 = .ok (.iaload, 1) := by decide +kernel
theorem dL_law_357 : decode cL_law 357 = .ok (.aload_n 0, 1) := by decide +kernel
theorem dL_law_358 : decode cL_law 358 = .ok (.iload_n 3, 1) := by decide +kernel
theorem dL_law_359 : decode cL_law 359 = .ok (.iconst 2, 1) := by decide +kernel
theorem dL_law_360 : decode cL_law 360 = .ok (.iadd, 1) := by decide +kernel
theorem dL_law_361 : decode cL_law 361 = .ok (.iaload, 1) := by decide +kernel
theorem dL_law_362 : decode cL_law 362 = .ok (.aload_n 0, 1) := by decide +kernel
theorem dL_law_363 : decode cL_law 363 = .ok (.iload_n 3, 1) := by decide +kernel
theorem dL_law_364 : decode cL_law 364 = .ok (.iconst 3, 1) := by decide +kernel
theorem dL_law_365 : decode cL_law 365 = .ok (.iadd, 1) := by decide +kernel
theorem dL_law_366 : decode cL_law 366 = .ok (.iaload, 1) := by decide +kernel
theorem dL_law_367 : decode cL_law 367 = .ok (.invokevirtual 37, 3) := by decide +kernel
theorem dL_law_370 : decode cL_law 370 = .ok (.pop, 1) := by decide +kernel
theorem dL_law_371 : decode cL_law 371 = .ok (.aload_n 2, 1) := by decide +kernel
theorem dL_law_372 : decode cL_law 372 = .ok (.aload_n 0, 1) := by decide +kernel
theorem dL_law_373 : decode cL_law 373 = .ok (.iload_n 3, 1) := by decide +kernel
theorem dL_law_374 : decode cL_law 374 = .ok (.iconst 1, 1) := by decide +kernel
theorem dL_law_375 : decode cL_law 375 = .ok (.iadd, 1) := by decide +kernel
theorem dL_law_376 : decode cL_law 376 = .ok (.iaload, 1) := by decide +kernel
theorem dL_law_377 : decode cL_law 377 = .ok (.aload_n 0, 1) := by decide +kernel
theorem dL_law_378 : decode cL_law 378 = .ok (.iload_n 3, 1) := by decide +kernel
theorem dL_law_379 : decode cL_law 379 = .ok (.iconst 2, 1) := by decide +kernel
theorem dL_law_380 : decode cL_law 380 = .ok (.iadd, 1) := by decide +kernel
theorem dL_law_381 : decode cL_law 381 = .ok (.iaload, 1) := by decide +kernel
theorem dL_law_382 : decode cL_law 382 = .ok (.aload_n 0, 1) := by decide +kernel
theorem dL_law_383 : decode cL_law 383 = .ok (.iload_n 3, 1) := by decide +kernel
theorem dL_law_384 : decode cL_law 384 = .ok (.iconst 3, 1) := by decide +kernel
theorem dL_law_385 : decode cL_law 385 = .ok (.iadd, 1) := by decide +kernel
theorem dL_law_386 : decode cL_law 386 = .ok (.iaload, 1) := by decide +kernel
theorem dL_law_387 : decode cL_law 387 = .ok (.invokevirtual 40, 3) := by decide +kernel
theorem dL_law_390 : decode cL_law 390 = .ok (.pop, 1) := by decide +kernel
theorem dL_law_391 : decode cL_law 391 = .ok (.goto 816, 3) := by decide +kernel
set_option maxRecDepth 100000 in
set_option maxHeartbeats 4000000 in
theorem law_c5 {p : Program} {l : Launch} {e : Env} {s : State} {m : MethodId} {below : List Frame} {meth : Method} {c : Code} {D : va_G} {G : Nat → ClassId} {bs : Nat} {Q : State → Prop} {b : Nat} {xs : Nat → Int32} {L i x m0 : Nat} {ad : Nat → Nat} {S : Mem} {K : RS} (C : Cx p s m #[Value.ref b] meth c D G bs code 4 RL) (hX : va_X b L xs s s.heap) (hbl : b < s.heap.size) (hbA : ¬ bs ≤ b) (hL : L ≤ 2560) (hi : i + 5 ≤ L) (hI : lawI S x m0 ad K) (hend : ∀ (S' : Mem) (K' : RS), lawI S' x m0 ad K' → V p l e room_1 s m #[Value.ref b] below meth c D G bs 4 Q (1000 + 20 * i + 100) (100000 + 1000 * i + 5000) S' 1207 [some (.ref b), some (.ref x), some (.ref m0), some (.int (nI i))] []) : V p l e room_1 s m #[Value.ref b] below meth c D G bs 4 Q (1000 + 20 * i) (100000 + 1000 * i) S 351 [some (.ref b), some (.ref x), some (.ref m0), some (.int (nI i))] [] := by
  refine v_aload_n C dL_law_351 rfl ?_
  refine v_aload_n C dL_law_352 rfl ?_
  refine v_iload_n C dL_law_353 rfl ?_
  refine v_iconst (v := nI 1) C dL_law_354 (by decide) ?_
  refine n_iadd C dL_law_355 ?_
  refine v_sld C hX hbl hbA (vp_in_nI (by omega) (by omega)) dL_law_356 ?_
  refine v_aload_n C dL_law_357 rfl ?_
  refine v_iload_n C dL_law_358 rfl ?_
  refine v_iconst (v := nI 2) C dL_law_359 (by decide) ?_
  refine n_iadd C dL_law_360 ?_
  refine v_sld C hX hbl hbA (vp_in_nI (by omega) (by omega)) dL_law_361 ?_
  refine v_aload_n C dL_law_362 rfl ?_
  refine v_iload_n C dL_law_363 rfl ?_
  refine v_iconst (v := nI 3) C dL_law_364 (by decide) ?_
  refine n_iadd C dL_law_365 ?_
  refine v_sld C hX hbl hbA (vp_in_nI (by omega) (by omega)) dL_law_366 ?_
  obtain ⟨W, pt, hr⟩ := hI.2.2.2
  obtain ⟨r1, r2, r3, r4, r5, r6, ⟨k1, k2, k3, k4, k5, k6, k7, k8⟩, r8, r9, r10⟩ := id hr
  refine v_callV (As := [_, _, _]) (n := 3) C (ft_X9_guard l (mX m0 ad) x _ _ _ W (fN K 0) (tlist K) pt) rfl r1.1 (by decide) rfl ⟨wd383, wd384, wd385, wd2, wd386⟩ ⟨rfl, hy_X9_guard⟩ rfl ⟨Nat.le_of_ble_eq_true rfl, Nat.le_of_ble_eq_true rfl⟩ (Nat.le_of_ble_eq_true rfl) ⟨(by show 1000 + 20 * i + _ ≤ 600000; omega), (by show 100000 + 1000 * i + _ ≤ 7302250; omega)⟩ dL_law_367 ⟨rfl, hI.1, r1.1, r1.2, r4, r6⟩ (fun r_367 S367 h_367 => ?_)
  obtain ⟨v367, rfl, iv1, ch1, rl1⟩ := h_367
  have hk1 := (mdR_chg ch1 (by simp) (by simp) (by simp) hI.2.1)
  refine v_pop C dL_law_370 rfl ?_
  refine v_aload_n C dL_law_371 rfl ?_
  refine v_aload_n C dL_law_372 rfl ?_
  refine v_iload_n C dL_law_373 rfl ?_
  refine v_iconst (v := nI 1) C dL_law_374 (by decide) ?_
  refine n_iadd C dL_law_375 ?_
  refine v_sld C hX hbl hbA (vp_in_nI (by omega) (by omega)) dL_law_376 ?_
  refine v_aload_n C dL_law_377 rfl ?_
  refine v_iload_n C dL_law_378 rfl ?_
  refine v_iconst (v := nI 2) C dL_law_379 (by decide) ?_
  refine n_iadd C dL_law_380 ?_
  refine v_sld C hX hbl hbA (vp_in_nI (by omega) (by omega)) dL_law_381 ?_
  refine v_aload_n C dL_law_382 rfl ?_
  refine v_iload_n C dL_law_383 rfl ?_
  refine v_iconst (v := nI 3) C dL_law_384 (by decide) ?_
  refine n_iadd C dL_law_385 ?_
  refine v_sld C hX hbl hbA (vp_in_nI (by omega) (by omega)) dL_law_386 ?_
  refine v_callV (As := [_, _, _]) (n := 3) C (rt_X10_guard l m0 ad _ _ _ _) rfl hk1.1 (by decide) rfl ⟨wd391, wd392, wd393, wd5, wd394⟩ ⟨rfl, hy_X10_guard⟩ rfl ⟨Nat.le_of_ble_eq_true rfl, Nat.le_of_ble_eq_true rfl⟩ (Nat.le_of_ble_eq_true rfl) ⟨(by show 1000 + 20 * i + _ ≤ 600000; omega), (by show 100000 + 1000 * i + _ ≤ 7302250; omega)⟩ dL_law_387 ⟨rfl, hk1, hI.2.2.1⟩ (fun r_387 S387 h_387 => ?_)
  obtain ⟨v387, K387, rfl, hk_387, x_387, p_v387⟩ := h_387
  have rv_387 := (guardP_s hI.2.2.1 p_v387).1
  obtain ⟨he, W1, rp1⟩ := tie_guard hr hI.2.2.1 ch1 rl1 p_v387
  have hI := lawI_fin iv1 rp1 hk_387 x_387 rv_387
  refine v_pop C dL_law_390 rfl ?_
  refine v_goto (tgt := 1207) C dL_law_391 (by decide) ?_
  refine V.widen (c2 := 1000 + 20 * i + 100) (s2 := 100000 + 1000 * i + 5000) (by omega) (by omega) ?_
  exact hend _ _ hI
theorem dL_law_394 : decode cL_law 394 = .ok (.aload_n 1, 1) := by decide +kernel
theorem dL_law_395 : decode cL_law 395 = .ok (.aload_n 0, 1) := by decide +kernel
theorem dL_law_396 : decode cL_law 396 = .ok (.iload_n 3, 1) := by decide +kernel
theorem dL_law_397 : decode cL_law 397 = .ok (.iconst 1, 1) := by decide +kernel
theorem dL_law_398 : decode cL_law 398 = .ok (.iadd, 1) := by decide +kernel
theorem dL_law_399 : decode cL_law 399 = .ok (.iaload, 1) := by decide +kernel
theorem dL_law_400 : decode cL_law 400 = .ok (.aload_n 0, 1) := by decide +kernel
theorem dL_law_401 : decode cL_law 401 = .ok (.iload_n 3, 1) := by decide +kernel
theorem dL_law_402 : decode cL_law 402 = .ok (.iconst 2, 1) := by decide +kernel
theorem dL_law_403 : decode cL_law 403 = .ok (.iadd, 1) := by decide +kernel
theorem dL_law_404 : decode cL_law 404 = .ok (.iaload, 1) := by decide +kernel
theorem dL_law_405 : decode cL_law 405 = .ok (.aload_n 0, 1) := by decide +kernel
theorem dL_law_406 : decode cL_law 406 = .ok (.iload_n 3, 1) := by decide +kernel
theorem dL_law_407 : decode cL_law 407 = .ok (.iconst 3, 1) := by decide +kernel
theorem dL_law_408 : decode cL_law 408 = .ok (.iadd, 1) := by decide +kernel
theorem dL_law_409 : decode cL_law 409 = .ok (.iaload, 1) := by decide +kernel
theorem dL_law_410 : decode cL_law 410 = .ok (.aload_n 0, 1) := by decide +kernel
theorem dL_law_411 : decode cL_law 411 = .ok (.iload_n 3, 1) := by decide +kernel
theorem dL_law_412 : decode cL_law 412 = .ok (.iconst 4, 1) := by decide +kernel
theorem dL_law_413 : decode cL_law 413 = .ok (.iadd, 1) := by decide +kernel
theorem dL_law_414 : decode cL_law 414 = .ok (.iaload, 1) := by decide +kernel
theorem dL_law_415 : decode cL_law 415 = .ok (.invokevirtual 41, 3) := by decide +kernel
theorem dL_law_418 : decode cL_law 418 = .ok (.pop, 1) := by decide +kernel
theorem dL_law_419 : decode cL_law 419 = .ok (.aload_n 2, 1) := by decide +kernel
theorem dL_law_420 : decode cL_law 420 = .ok (.aload_n 0, 1) := by decide +kernel
theorem dL_law_421 : decode cL_law 421 = .ok (.iload_n 3, 1) := by decide +kernel
theorem dL_law_422 : decode cL_law 422 = .ok (.iconst 1, 1) := by decide +kernel
theorem dL_law_423 : decode cL_law 423 = .ok (.iadd, 1) := by decide +kernel
theorem dL_law_424 : decode cL_law 424 = .ok (.iaload, 1) := by decide +kernel
theorem dL_law_425 : decode cL_law 425 = .ok (.aload_n 0, 1) := by decide +kernel
theorem dL_law_426 : decode cL_law 426 = .ok (.iload_n 3, 1) := by decide +kernel
theorem dL_law_427 : decode cL_law 427 = .ok (.iconst 2, 1) := by decide +kernel
theorem dL_law_428 : decode cL_law 428 = .ok (.iadd, 1) := by decide +kernel
theorem dL_law_429 : decode cL_law 429 = .ok (.iaload, 1) := by decide +kernel
theorem dL_law_430 : decode cL_law 430 = .ok (.aload_n 0, 1) := by decide +kernel
theorem dL_law_431 : decode cL_law 431 = .ok (.iload_n 3, 1) := by decide +kernel
theorem dL_law_432 : decode cL_law 432 = .ok (.iconst 3, 1) := by decide +kernel
theorem dL_law_433 : decode cL_law 433 = .ok (.iadd, 1) := by decide +kernel
theorem dL_law_434 : decode cL_law 434 = .ok (.iaload, 1) := by decide +kernel
theorem dL_law_435 : decode cL_law 435 = .ok (.aload_n 0, 1) := by decide +kernel
theorem dL_law_436 : decode cL_law 436 = .ok (.iload_n 3, 1) := by decide +kernel
theorem dL_law_437 : decode cL_law 437 = .ok (.iconst 4, 1) := by decide +kernel
theorem dL_law_438 : decode cL_law 438 = .ok (.iadd, 1) := by decide +kernel
theorem dL_law_439 : decode cL_law 439 = .ok (.iaload, 1) := by decide +kernel
theorem dL_law_440 : decode cL_law 440 = .ok (.invokevirtual 44, 3) := by decide +kernel
theorem dL_law_443 : decode cL_law 443 = .ok (.pop, 1) := by decide +kernel
theorem dL_law_444 : decode cL_law 444 = .ok (.goto 763, 3) := by decide +kernel
set_option maxRecDepth 100000 in
set_option maxHeartbeats 4000000 in
theorem law_c6 {p : Program} {l : Launch} {e : Env} {s : State} {m : MethodId} {below : List Frame} {meth : Method} {c : Code} {D : va_G} {G : Nat → ClassId} {bs : Nat} {Q : State → Prop} {b : Nat} {xs : Nat → Int32} {L i x m0 : Nat} {ad : Nat → Nat} {S : Mem} {K : RS} (C : Cx p s m #[Value.ref b] meth c D G bs code 4 RL) (hX : va_X b L xs s s.heap) (hbl : b < s.heap.size) (hbA : ¬ bs ≤ b) (hL : L ≤ 2560) (hi : i + 5 ≤ L) (hI : lawI S x m0 ad K) (hend : ∀ (S' : Mem) (K' : RS), lawI S' x m0 ad K' → V p l e room_1 s m #[Value.ref b] below meth c D G bs 4 Q (1000 + 20 * i + 100) (100000 + 1000 * i + 5000) S' 1207 [some (.ref b), some (.ref x), some (.ref m0), some (.int (nI i))] []) : V p l e room_1 s m #[Value.ref b] below meth c D G bs 4 Q (1000 + 20 * i) (100000 + 1000 * i) S 394 [some (.ref b), some (.ref x), some (.ref m0), some (.int (nI i))] [] := by
  refine v_aload_n C dL_law_394 rfl ?_
  refine v_aload_n C dL_law_395 rfl ?_
  refine v_iload_n C dL_law_396 rfl ?_
  refine v_iconst (v := nI 1) C dL_law_397 (by decide) ?_
  refine n_iadd C dL_law_398 ?_
  refine v_sld C hX hbl hbA (vp_in_nI (by omega) (by omega)) dL_law_399 ?_
  refine v_aload_n C dL_law_400 rfl ?_
  refine v_iload_n C dL_law_401 rfl ?_
  refine v_iconst (v := nI 2) C dL_law_402 (by decide) ?_
  refine n_iadd C dL_law_403 ?_
  refine v_sld C hX hbl hbA (vp_in_nI (by omega) (by omega)) dL_law_404 ?_
  refine v_aload_n C dL_law_405 rfl ?_
  refine v_iload_n C dL_law_406 rfl ?_
  refine v_iconst (v := nI 3) C dL_law_407 (by decide) ?_
  refine n_iadd C dL_law_408 ?_
  refine v_sld C hX hbl hbA (vp_in_nI (by omega) (by omega)) dL_law_409 ?_
  refine v_aload_n C dL_law_410 rfl ?_
  refine v_iload_n C dL_law_411 rfl ?_
  refine v_iconst (v := nI 4) C dL_law_412 (by decide) ?_
  refine n_iadd C dL_law_413 ?_
  refine v_sld C hX hbl hbA (vp_in_nI (by omega) (by omega)) dL_law_414 ?_
  obtain ⟨W, pt, hr⟩ := hI.2.2.2
  obtain ⟨r1, r2, r3, r4, r5, r6, ⟨k1, k2, k3, k4, k5, k6, k7, k8⟩, r8, r9, r10⟩ := id hr
  refine v_callV (As := [_, _, _, _]) (n := 4) C (ft_X9_own l (mX m0 ad) x _ _ _ _ W (fN K 3)) rfl r1.1 (by decide) rfl ⟨wd395, wd396, wd397, wd2, wd398⟩ ⟨rfl, hy_X9_own⟩ rfl ⟨Nat.le_of_ble_eq_true rfl, Nat.le_of_ble_eq_true rfl⟩ (Nat.le_of_ble_eq_true rfl) ⟨(by show 1000 + 20 * i + _ ≤ 600000; omega), (by show 100000 + 1000 * i + _ ≤ 7302250; omega)⟩ dL_law_415 ⟨rfl, hI.1, r1.1, r1.2, r4.1, k1, k2⟩ (fun r_415 S415 h_415 => ?_)
  obtain ⟨v415, rfl, iv1, ch1, rl1⟩ := h_415
  have hk1 := (mdR_chg ch1 (by simp) (by simp) (by simp) hI.2.1)
  refine v_pop C dL_law_418 rfl ?_
  refine v_aload_n C dL_law_419 rfl ?_
  refine v_aload_n C dL_law_420 rfl ?_
  refine v_iload_n C dL_law_421 rfl ?_
  refine v_iconst (v := nI 1) C dL_law_422 (by decide) ?_
  refine n_iadd C dL_law_423 ?_
  refine v_sld C hX hbl hbA (vp_in_nI (by omega) (by omega)) dL_law_424 ?_
  refine v_aload_n C dL_law_425 rfl ?_
  refine v_iload_n C dL_law_426 rfl ?_
  refine v_iconst (v := nI 2) C dL_law_427 (by decide) ?_
  refine n_iadd C dL_law_428 ?_
  refine v_sld C hX hbl hbA (vp_in_nI (by omega) (by omega)) dL_law_429 ?_
  refine v_aload_n C dL_law_430 rfl ?_
  refine v_iload_n C dL_law_431 rfl ?_
  refine v_iconst (v := nI 3) C dL_law_432 (by decide) ?_
  refine n_iadd C dL_law_433 ?_
  refine v_sld C hX hbl hbA (vp_in_nI (by omega) (by omega)) dL_law_434 ?_
  refine v_aload_n C dL_law_435 rfl ?_
  refine v_iload_n C dL_law_436 rfl ?_
  refine v_iconst (v := nI 4) C dL_law_437 (by decide) ?_
  refine n_iadd C dL_law_438 ?_
  refine v_sld C hX hbl hbA (vp_in_nI (by omega) (by omega)) dL_law_439 ?_
  refine v_callV (As := [_, _, _, _]) (n := 4) C (rt_X10_own l m0 ad _ _ _ _ _) rfl hk1.1 (by decide) rfl ⟨wd403, wd404, wd405, wd5, wd406⟩ ⟨rfl, hy_X10_own⟩ rfl ⟨Nat.le_of_ble_eq_true rfl, Nat.le_of_ble_eq_true rfl⟩ (Nat.le_of_ble_eq_true rfl) ⟨(by show 1000 + 20 * i + _ ≤ 600000; omega), (by show 100000 + 1000 * i + _ ≤ 7302250; omega)⟩ dL_law_440 ⟨rfl, hk1, hI.2.2.1⟩ (fun r_440 S440 h_440 => ?_)
  obtain ⟨v440, K440, rfl, hk_440, x_440, p_v440⟩ := h_440
  have rv_440 := (ownP_s hI.2.2.1 p_v440).1
  obtain ⟨he, W1, rp1⟩ := tie_own hr hI.2.2.1 ch1 rl1 p_v440
  have hI := lawI_fin iv1 rp1 hk_440 x_440 rv_440
  refine v_pop C dL_law_443 rfl ?_
  refine v_goto (tgt := 1207) C dL_law_444 (by decide) ?_
  refine V.widen (c2 := 1000 + 20 * i + 100) (s2 := 100000 + 1000 * i + 5000) (by omega) (by omega) ?_
  exact hend _ _ hI
theorem dL_law_447 : decode cL_law 447 = .ok (.aload_n 1, 1) := by decide +kernel
theorem dL_law_448 : decode cL_law 448 = .ok (.aload_n 0, 1) := by decide +kernel
theorem dL_law_449 : decode cL_law 449 = .ok (.iload_n 3, 1) := by decide +kernel
theorem dL_law_450 : decode cL_law 450 = .ok (.iconst 1, 1) := by decide +kernel
theorem dL_law_451 : decode cL_law 451 = .ok (.iadd, 1) := by decide +kernel
theorem dL_law_452 : decode cL_law 452 = .ok (.iaload, 1) := by decide +kernel
theorem dL_law_453 : decode cL_law 453 = .ok (.aload_n 0, 1) := by decide +kernel
theorem dL_law_454 : decode cL_law 454 = .ok (.iload_n 3, 1) := by decide +kernel
theorem dL_law_455 : decode cL_law 455 = .ok (.iconst 2, 1) := by decide +kernel
theorem dL_law_456 : decode cL_law 456 = .ok (.iadd, 1) := by decide +kernel
theorem dL_law_457 : decode cL_law 457 = .ok (.iaload, 1) := by decide +kernel
theorem dL_law_458 : decode cL_law 458 = .ok (.aload_n 0, 1) := by decide +kernel
theorem dL_law_459 : decode cL_law 459 = .ok (.iload_n 3, 1) := by decide +kernel
theorem dL_law_460 : decode cL_law 460 = .ok (.iconst 3, 1) := by decide +kernel
theorem dL_law_461 : decode cL_law 461 = .ok (.iadd, 1) := by decide +kernel
theorem dL_law_462 : decode cL_law 462 = .ok (.iaload, 1) := by decide +kernel
theorem dL_law_463 : decode cL_law 463 = .ok (.invokevirtual 45, 3) := by decide +kernel
theorem dL_law_466 : decode cL_law 466 = .ok (.pop, 1) := by decide +kernel
theorem dL_law_467 : decode cL_law 467 = .ok (.aload_n 2, 1) := by decide +kernel
theorem dL_law_468 : decode cL_law 468 = .ok (.aload_n 0, 1) := by decide +kernel
theorem dL_law_469 : decode cL_law 469 = .ok (.iload_n 3, 1) := by decide +kernel
theorem dL_law_470 : decode cL_law 470 = .ok (.iconst 1, 1) := by decide +kernel
theorem dL_law_471 : decode cL_law 471 = .ok (.iadd, 1) := by decide +kernel
theorem dL_law_472 : decode cL_law 472 = .ok (.iaload, 1) := by decide +kernel
theorem dL_law_473 : decode cL_law 473 = .ok (.aload_n 0, 1) := by decide +kernel
theorem dL_law_474 : decode cL_law 474 = .ok (.iload_n 3, 1) := by decide +kernel
theorem dL_law_475 : decode cL_law 475 = .ok (.iconst 2, 1) := by decide +kernel
theorem dL_law_476 : decode cL_law 476 = .ok (.iadd, 1) := by decide +kernel
theorem dL_law_477 : decode cL_law 477 = .ok (.iaload, 1) := by decide +kernel
theorem dL_law_478 : decode cL_law 478 = .ok (.aload_n 0, 1) := by decide +kernel
theorem dL_law_479 : decode cL_law 479 = .ok (.iload_n 3, 1) := by decide +kernel
theorem dL_law_480 : decode cL_law 480 = .ok (.iconst 3, 1) := by decide +kernel
theorem dL_law_481 : decode cL_law 481 = .ok (.iadd, 1) := by decide +kernel
theorem dL_law_482 : decode cL_law 482 = .ok (.iaload, 1) := by decide +kernel
theorem dL_law_483 : decode cL_law 483 = .ok (.invokevirtual 48, 3) := by decide +kernel
theorem dL_law_486 : decode cL_law 486 = .ok (.pop, 1) := by decide +kernel
theorem dL_law_487 : decode cL_law 487 = .ok (.goto 720, 3) := by decide +kernel
set_option maxRecDepth 100000 in
set_option maxHeartbeats 4000000 in
theorem law_c7 {p : Program} {l : Launch} {e : Env} {s : State} {m : MethodId} {below : List Frame} {meth : Method} {c : Code} {D : va_G} {G : Nat → ClassId} {bs : Nat} {Q : State → Prop} {b : Nat} {xs : Nat → Int32} {L i x m0 : Nat} {ad : Nat → Nat} {S : Mem} {K : RS} (C : Cx p s m #[Value.ref b] meth c D G bs code 4 RL) (hX : va_X b L xs s s.heap) (hbl : b < s.heap.size) (hbA : ¬ bs ≤ b) (hL : L ≤ 2560) (hi : i + 5 ≤ L) (hI : lawI S x m0 ad K) (hend : ∀ (S' : Mem) (K' : RS), lawI S' x m0 ad K' → V p l e room_1 s m #[Value.ref b] below meth c D G bs 4 Q (1000 + 20 * i + 100) (100000 + 1000 * i + 5000) S' 1207 [some (.ref b), some (.ref x), some (.ref m0), some (.int (nI i))] []) : V p l e room_1 s m #[Value.ref b] below meth c D G bs 4 Q (1000 + 20 * i) (100000 + 1000 * i) S 447 [some (.ref b), some (.ref x), some (.ref m0), some (.int (nI i))] [] := by
  refine v_aload_n C dL_law_447 rfl ?_
  refine v_aload_n C dL_law_448 rfl ?_
  refine v_iload_n C dL_law_449 rfl ?_
  refine v_iconst (v := nI 1) C dL_law_450 (by decide) ?_
  refine n_iadd C dL_law_451 ?_
  refine v_sld C hX hbl hbA (vp_in_nI (by omega) (by omega)) dL_law_452 ?_
  refine v_aload_n C dL_law_453 rfl ?_
  refine v_iload_n C dL_law_454 rfl ?_
  refine v_iconst (v := nI 2) C dL_law_455 (by decide) ?_
  refine n_iadd C dL_law_456 ?_
  refine v_sld C hX hbl hbA (vp_in_nI (by omega) (by omega)) dL_law_457 ?_
  refine v_aload_n C dL_law_458 rfl ?_
  refine v_iload_n C dL_law_459 rfl ?_
  refine v_iconst (v := nI 3) C dL_law_460 (by decide) ?_
  refine n_iadd C dL_law_461 ?_
  refine v_sld C hX hbl hbA (vp_in_nI (by omega) (by omega)) dL_law_462 ?_
  obtain ⟨W, pt, hr⟩ := hI.2.2.2
  obtain ⟨r1, r2, r3, r4, r5, r6, ⟨k1, k2, k3, k4, k5, k6, k7, k8⟩, r8, r9, r10⟩ := id hr
  obtain ⟨ra, sa, ta, on, op1, op2⟩ := op_pre hI.1 hI.2.2.1 hr
  refine v_callV (As := [_, _, _]) (n := 3) C (ft_X9_op l (mX m0 ad) x _ _ _ (mO S 578 x) ra sa ta on) rfl r1.1 (by decide) rfl ⟨wd407, wd408, wd409, wd2, wd410⟩ ⟨rfl, hy_X9_op⟩ rfl ⟨Nat.le_of_ble_eq_true rfl, Nat.le_of_ble_eq_true rfl⟩ (Nat.le_of_ble_eq_true rfl) ⟨(by show 1000 + 20 * i + _ ≤ 600000; omega), (by show 100000 + 1000 * i + _ ≤ 7302250; omega)⟩ dL_law_463 ⟨rfl, hI.1, r1.1, rfl, op1⟩ (fun r_463 S463 h_463 => ?_)
  obtain ⟨v463, rfl, iv1, ch1, rl1⟩ := h_463
  have hk1 := (mdR_op rfl op2 ch1 rl1 hI.2.1)
  refine v_pop C dL_law_466 rfl ?_
  refine v_aload_n C dL_law_467 rfl ?_
  refine v_aload_n C dL_law_468 rfl ?_
  refine v_iload_n C dL_law_469 rfl ?_
  refine v_iconst (v := nI 1) C dL_law_470 (by decide) ?_
  refine n_iadd C dL_law_471 ?_
  refine v_sld C hX hbl hbA (vp_in_nI (by omega) (by omega)) dL_law_472 ?_
  refine v_aload_n C dL_law_473 rfl ?_
  refine v_iload_n C dL_law_474 rfl ?_
  refine v_iconst (v := nI 2) C dL_law_475 (by decide) ?_
  refine n_iadd C dL_law_476 ?_
  refine v_sld C hX hbl hbA (vp_in_nI (by omega) (by omega)) dL_law_477 ?_
  refine v_aload_n C dL_law_478 rfl ?_
  refine v_iload_n C dL_law_479 rfl ?_
  refine v_iconst (v := nI 3) C dL_law_480 (by decide) ?_
  refine n_iadd C dL_law_481 ?_
  refine v_sld C hX hbl hbA (vp_in_nI (by omega) (by omega)) dL_law_482 ?_
  refine v_callV (As := [_, _, _]) (n := 3) C (rt_X10_op l m0 ad _ _ _ _) rfl hk1.1 (by decide) rfl ⟨wd420, wd421, wd422, wd5, wd423⟩ ⟨rfl, hy_X10_op⟩ rfl ⟨Nat.le_of_ble_eq_true rfl, Nat.le_of_ble_eq_true rfl⟩ (Nat.le_of_ble_eq_true rfl) ⟨(by show 1000 + 20 * i + _ ≤ 600000; omega), (by show 100000 + 1000 * i + _ ≤ 7302250; omega)⟩ dL_law_483 ⟨rfl, hk1, hI.2.2.1⟩ (fun r_483 S483 h_483 => ?_)
  obtain ⟨v483, K483, rfl, hk_483, x_483, p_v483⟩ := h_483
  have rv_483 := (opP_s hI.2.2.1 p_v483).1
  obtain ⟨he, rp1⟩ := tie_op hr hI.2.2.1 rfl (fun a z => ⟨(op1 a z).2.1, (op1 a z).2.2.1⟩) (fun z => (op2 z).1) ch1 rl1 p_v483
  have hI := lawI_fin iv1 rp1 hk_483 x_483 rv_483
  refine v_pop C dL_law_486 rfl ?_
  refine v_goto (tgt := 1207) C dL_law_487 (by decide) ?_
  refine V.widen (c2 := 1000 + 20 * i + 100) (s2 := 100000 + 1000 * i + 5000) (by omega) (by omega) ?_
  exact hend _ _ hI
theorem dL_law_490 : decode cL_law 490 = .ok (.aload_n 1, 1) := by decide +kernel
theorem dL_law_491 : decode cL_law 491 = .ok (.aload_n 0, 1) := by decide +kernel
theorem dL_law_492 : decode cL_law 492 = .ok (.iload_n 3, 1) := by decide +kernel
theorem dL_law_493 : decode cL_law 493 = .ok (.iconst 1, 1) := by decide +kernel
theorem dL_law_494 : decode cL_law 494 = .ok (.iadd, 1) := by decide +kernel
theorem dL_law_495 : decode cL_law 495 = .ok (.iaload, 1) := by decide +kernel
theorem dL_law_496 : decode cL_law 496 = .ok (.aload_n 0, 1) := by decide +kernel
theorem dL_law_497 : decode cL_law 497 = .ok (.iload_n 3, 1) := by decide +kernel
theorem dL_law_498 : decode cL_law 498 = .ok (.iconst 2, 1) := by decide +kernel
theorem dL_law_499 : decode cL_law 499 = .ok (.iadd, 1) := by decide +kernel
theorem dL_law_500 : decode cL_law 500 = .ok (.iaload, 1) := by decide +kernel
theorem dL_law_501 : decode cL_law 501 = .ok (.aload_n 0, 1) := by decide +kernel
theorem dL_law_502 : decode cL_law 502 = .ok (.iload_n 3, 1) := by decide +kernel
theorem dL_law_503 : decode cL_law 503 = .ok (.iconst 3, 1) := by decide +kernel
theorem dL_law_504 : decode cL_law 504 = .ok (.iadd, 1) := by decide +kernel
theorem dL_law_505 : decode cL_law 505 = .ok (.iaload, 1) := by decide +kernel
theorem dL_law_506 : decode cL_law 506 = .ok (.invokevirtual 49, 3) := by decide +kernel
theorem dL_law_509 : decode cL_law 509 = .ok (.pop, 1) := by decide +kernel
theorem dL_law_510 : decode cL_law 510 = .ok (.aload_n 2, 1) := by decide +kernel
theorem dL_law_511 : decode cL_law 511 = .ok (.aload_n 0, 1) := by decide +kernel
theorem dL_law_512 : decode cL_law 512 = .ok (.iload_n 3, 1) := by decide +kernel
theorem dL_law_513 : decode cL_law 513 = .ok (.iconst 1, 1) := by decide +kernel
theorem dL_law_514 : decode cL_law 514 = .ok (.iadd, 1) := by decide +kernel
theorem dL_law_515 : decode cL_law 515 = .ok (.iaload, 1) := by decide +kernel
theorem dL_law_516 : decode cL_law 516 = .ok (.aload_n 0, 1) := by decide +kernel
theorem dL_law_517 : decode cL_law 517 = .ok (.iload_n 3, 1) := by decide +kernel
theorem dL_law_518 : decode cL_law 518 = .ok (.iconst 2, 1) := by decide +kernel
theorem dL_law_519 : decode cL_law 519 = .ok (.iadd, 1) := by decide +kernel
theorem dL_law_520 : decode cL_law 520 = .ok (.iaload, 1) := by decide +kernel
theorem dL_law_521 : decode cL_law 521 = .ok (.aload_n 0, 1) := by decide +kernel
theorem dL_law_522 : decode cL_law 522 = .ok (.iload_n 3, 1) := by decide +kernel
theorem dL_law_523 : decode cL_law 523 = .ok (.iconst 3, 1) := by decide +kernel
theorem dL_law_524 : decode cL_law 524 = .ok (.iadd, 1) := by decide +kernel
theorem dL_law_525 : decode cL_law 525 = .ok (.iaload, 1) := by decide +kernel
theorem dL_law_526 : decode cL_law 526 = .ok (.invokevirtual 52, 3) := by decide +kernel
theorem dL_law_529 : decode cL_law 529 = .ok (.pop, 1) := by decide +kernel
theorem dL_law_530 : decode cL_law 530 = .ok (.goto 677, 3) := by decide +kernel
set_option maxRecDepth 100000 in
set_option maxHeartbeats 4000000 in
theorem law_c8 {p : Program} {l : Launch} {e : Env} {s : State} {m : MethodId} {below : List Frame} {meth : Method} {c : Code} {D : va_G} {G : Nat → ClassId} {bs : Nat} {Q : State → Prop} {b : Nat} {xs : Nat → Int32} {L i x m0 : Nat} {ad : Nat → Nat} {S : Mem} {K : RS} (C : Cx p s m #[Value.ref b] meth c D G bs code 4 RL) (hX : va_X b L xs s s.heap) (hbl : b < s.heap.size) (hbA : ¬ bs ≤ b) (hL : L ≤ 2560) (hi : i + 5 ≤ L) (hI : lawI S x m0 ad K) (hend : ∀ (S' : Mem) (K' : RS), lawI S' x m0 ad K' → V p l e room_1 s m #[Value.ref b] below meth c D G bs 4 Q (1000 + 20 * i + 100) (100000 + 1000 * i + 5000) S' 1207 [some (.ref b), some (.ref x), some (.ref m0), some (.int (nI i))] []) : V p l e room_1 s m #[Value.ref b] below meth c D G bs 4 Q (1000 + 20 * i) (100000 + 1000 * i) S 490 [some (.ref b), some (.ref x), some (.ref m0), some (.int (nI i))] [] := by
  refine v_aload_n C dL_law_490 rfl ?_
  refine v_aload_n C dL_law_491 rfl ?_
  refine v_iload_n C dL_law_492 rfl ?_
  refine v_iconst (v := nI 1) C dL_law_493 (by decide) ?_
  refine n_iadd C dL_law_494 ?_
  refine v_sld C hX hbl hbA (vp_in_nI (by omega) (by omega)) dL_law_495 ?_
  refine v_aload_n C dL_law_496 rfl ?_
  refine v_iload_n C dL_law_497 rfl ?_
  refine v_iconst (v := nI 2) C dL_law_498 (by decide) ?_
  refine n_iadd C dL_law_499 ?_
  refine v_sld C hX hbl hbA (vp_in_nI (by omega) (by omega)) dL_law_500 ?_
  refine v_aload_n C dL_law_501 rfl ?_
  refine v_iload_n C dL_law_502 rfl ?_
  refine v_iconst (v := nI 3) C dL_law_503 (by decide) ?_
  refine n_iadd C dL_law_504 ?_
  refine v_sld C hX hbl hbA (vp_in_nI (by omega) (by omega)) dL_law_505 ?_
  obtain ⟨W, pt, hr⟩ := hI.2.2.2
  obtain ⟨r1, r2, r3, r4, r5, r6, ⟨k1, k2, k3, k4, k5, k6, k7, k8⟩, r8, r9, r10⟩ := id hr
  refine v_callV (As := [_, _, _]) (n := 3) C (ft_X9_leave l (mX m0 ad) x _ _ _ W (fN K 3) (fN K 0) (tlist K) K) rfl r1.1 (by decide) rfl ⟨wd427, wd428, wd429, wd2, wd430⟩ ⟨rfl, hy_X9_leave⟩ rfl ⟨Nat.le_of_ble_eq_true rfl, Nat.le_of_ble_eq_true rfl⟩ (Nat.le_of_ble_eq_true rfl) ⟨(by show 1000 + 20 * i + _ ≤ 600000; omega), (by show 100000 + 1000 * i + _ ≤ 7302250; omega)⟩ dL_law_506 ⟨rfl, hI.1, r1.1, r1.2, r4, k1, k2, k6, (fun k hk => (hI.2.2.1.p9 k (by have := k1.2.2.2.1; omega)).2)⟩ (fun r_506 S506 h_506 => ?_)
  obtain ⟨v506, rfl, iv1, ch1, rl1⟩ := h_506
  have hk1 := (mdR_leave hr ch1 rl1 hI.2.1)
  refine v_pop C dL_law_509 rfl ?_
  refine v_aload_n C dL_law_510 rfl ?_
  refine v_aload_n C dL_law_511 rfl ?_
  refine v_iload_n C dL_law_512 rfl ?_
  refine v_iconst (v := nI 1) C dL_law_513 (by decide) ?_
  refine n_iadd C dL_law_514 ?_
  refine v_sld C hX hbl hbA (vp_in_nI (by omega) (by omega)) dL_law_515 ?_
  refine v_aload_n C dL_law_516 rfl ?_
  refine v_iload_n C dL_law_517 rfl ?_
  refine v_iconst (v := nI 2) C dL_law_518 (by decide) ?_
  refine n_iadd C dL_law_519 ?_
  refine v_sld C hX hbl hbA (vp_in_nI (by omega) (by omega)) dL_law_520 ?_
  refine v_aload_n C dL_law_521 rfl ?_
  refine v_iload_n C dL_law_522 rfl ?_
  refine v_iconst (v := nI 3) C dL_law_523 (by decide) ?_
  refine n_iadd C dL_law_524 ?_
  refine v_sld C hX hbl hbA (vp_in_nI (by omega) (by omega)) dL_law_525 ?_
  refine v_callV (As := [_, _, _]) (n := 3) C (rt_X10_leave l m0 ad _ _ _ _) rfl hk1.1 (by decide) rfl ⟨wd444, wd445, wd446, wd5, wd447⟩ ⟨rfl, hy_X10_leave⟩ rfl ⟨Nat.le_of_ble_eq_true rfl, Nat.le_of_ble_eq_true rfl⟩ (Nat.le_of_ble_eq_true rfl) ⟨(by show 1000 + 20 * i + _ ≤ 600000; omega), (by show 100000 + 1000 * i + _ ≤ 7302250; omega)⟩ dL_law_526 ⟨rfl, hk1, hI.2.2.1⟩ (fun r_526 S526 h_526 => ?_)
  obtain ⟨v526, K526, rfl, hk_526, x_526, p_v526⟩ := h_526
  have rv_526 := (leaveP_s hI.2.2.1 p_v526).1
  obtain ⟨he, rp1⟩ := tie_leave hr hI.2.2.1 ch1 rl1 p_v526
  have hI := lawI_fin iv1 rp1 hk_526 x_526 rv_526
  refine v_pop C dL_law_529 rfl ?_
  refine v_goto (tgt := 1207) C dL_law_530 (by decide) ?_
  refine V.widen (c2 := 1000 + 20 * i + 100) (s2 := 100000 + 1000 * i + 5000) (by omega) (by omega) ?_
  exact hend _ _ hI
theorem dL_law_533 : decode cL_law 533 = .ok (.aload_n 1, 1) := by decide +kernel
theorem dL_law_534 : decode cL_law 534 = .ok (.aload_n 0, 1) := by decide +kernel
theorem dL_law_535 : decode cL_law 535 = .ok (.iload_n 3, 1) := by decide +kernel
theorem dL_law_536 : decode cL_law 536 = .ok (.iconst 1, 1) := by decide +kernel
theorem dL_law_537 : decode cL_law 537 = .ok (.iadd, 1) := by decide +kernel
theorem dL_law_538 : decode cL_law 538 = .ok (.iaload, 1) := by decide +kernel
theorem dL_law_539 : decode cL_law 539 = .ok (.aload_n 0, 1) := by decide +kernel
theorem dL_law_540 : decode cL_law 540 = .ok (.iload_n 3, 1) := by decide +kernel
theorem dL_law_541 : decode cL_law 541 = .ok (.iconst 2, 1) := by decide +kernel
theorem dL_law_542 : decode cL_law 542 = .ok (.iadd, 1) := by decide +kernel
theorem dL_law_543 : decode cL_law 543 = .ok (.iaload, 1) := by decide +kernel
theorem dL_law_544 : decode cL_law 544 = .ok (.aload_n 0, 1) := by decide +kernel
theorem dL_law_545 : decode cL_law 545 = .ok (.iload_n 3, 1) := by decide +kernel
theorem dL_law_546 : decode cL_law 546 = .ok (.iconst 3, 1) := by decide +kernel
theorem dL_law_547 : decode cL_law 547 = .ok (.iadd, 1) := by decide +kernel
theorem dL_law_548 : decode cL_law 548 = .ok (.iaload, 1) := by decide +kernel
theorem dL_law_549 : decode cL_law 549 = .ok (.aload_n 0, 1) := by decide +kernel
theorem dL_law_550 : decode cL_law 550 = .ok (.iload_n 3, 1) := by decide +kernel
theorem dL_law_551 : decode cL_law 551 = .ok (.iconst 4, 1) := by decide +kernel
theorem dL_law_552 : decode cL_law 552 = .ok (.iadd, 1) := by decide +kernel
theorem dL_law_553 : decode cL_law 553 = .ok (.iaload, 1) := by decide +kernel
theorem dL_law_554 : decode cL_law 554 = .ok (.invokevirtual 53, 3) := by decide +kernel
theorem dL_law_557 : decode cL_law 557 = .ok (.pop, 1) := by decide +kernel
theorem dL_law_558 : decode cL_law 558 = .ok (.aload_n 2, 1) := by decide +kernel
theorem dL_law_559 : decode cL_law 559 = .ok (.aload_n 0, 1) := by decide +kernel
theorem dL_law_560 : decode cL_law 560 = .ok (.iload_n 3, 1) := by decide +kernel
theorem dL_law_561 : decode cL_law 561 = .ok (.iconst 1, 1) := by decide +kernel
theorem dL_law_562 : decode cL_law 562 = .ok (.iadd, 1) := by decide +kernel
theorem dL_law_563 : decode cL_law 563 = .ok (.iaload, 1) := by decide +kernel
theorem dL_law_564 : decode cL_law 564 = .ok (.aload_n 0, 1) := by decide +kernel
theorem dL_law_565 : decode cL_law 565 = .ok (.iload_n 3, 1) := by decide +kernel
theorem dL_law_566 : decode cL_law 566 = .ok (.iconst 2, 1) := by decide +kernel
theorem dL_law_567 : decode cL_law 567 = .ok (.iadd, 1) := by decide +kernel
theorem dL_law_568 : decode cL_law 568 = .ok (.iaload, 1) := by decide +kernel
theorem dL_law_569 : decode cL_law 569 = .ok (.aload_n 0, 1) := by decide +kernel
theorem dL_law_570 : decode cL_law 570 = .ok (.iload_n 3, 1) := by decide +kernel
theorem dL_law_571 : decode cL_law 571 = .ok (.iconst 3, 1) := by decide +kernel
theorem dL_law_572 : decode cL_law 572 = .ok (.iadd, 1) := by decide +kernel
theorem dL_law_573 : decode cL_law 573 = .ok (.iaload, 1) := by decide +kernel
theorem dL_law_574 : decode cL_law 574 = .ok (.aload_n 0, 1) := by decide +kernel
theorem dL_law_575 : decode cL_law 575 = .ok (.iload_n 3, 1) := by decide +kernel
theorem dL_law_576 : decode cL_law 576 = .ok (.iconst 4, 1) := by decide +kernel
theorem dL_law_577 : decode cL_law 577 = .ok (.iadd, 1) := by decide +kernel
theorem dL_law_578 : decode cL_law 578 = .ok (.iaload, 1) := by decide +kernel
theorem dL_law_579 : decode cL_law 579 = .ok (.invokevirtual 56, 3) := by decide +kernel
theorem dL_law_582 : decode cL_law 582 = .ok (.pop, 1) := by decide +kernel
theorem dL_law_583 : decode cL_law 583 = .ok (.goto 624, 3) := by decide +kernel
set_option maxRecDepth 100000 in
set_option maxHeartbeats 4000000 in
theorem law_c9 {p : Program} {l : Launch} {e : Env} {s : State} {m : MethodId} {below : List Frame} {meth : Method} {c : Code} {D : va_G} {G : Nat → ClassId} {bs : Nat} {Q : State → Prop} {b : Nat} {xs : Nat → Int32} {L i x m0 : Nat} {ad : Nat → Nat} {S : Mem} {K : RS} (C : Cx p s m #[Value.ref b] meth c D G bs code 4 RL) (hX : va_X b L xs s s.heap) (hbl : b < s.heap.size) (hbA : ¬ bs ≤ b) (hL : L ≤ 2560) (hi : i + 5 ≤ L) (hI : lawI S x m0 ad K) (hend : ∀ (S' : Mem) (K' : RS), lawI S' x m0 ad K' → V p l e room_1 s m #[Value.ref b] below meth c D G bs 4 Q (1000 + 20 * i + 100) (100000 + 1000 * i + 5000) S' 1207 [some (.ref b), some (.ref x), some (.ref m0), some (.int (nI i))] []) : V p l e room_1 s m #[Value.ref b] below meth c D G bs 4 Q (1000 + 20 * i) (100000 + 1000 * i) S 533 [some (.ref b), some (.ref x), some (.ref m0), some (.int (nI i))] [] := by
  refine v_aload_n C dL_law_533 rfl ?_
  refine v_aload_n C dL_law_534 rfl ?_
  refine v_iload_n C dL_law_535 rfl ?_
  refine v_iconst (v := nI 1) C dL_law_536 (by decide) ?_
  refine n_iadd C dL_law_537 ?_
  refine v_sld C hX hbl hbA (vp_in_nI (by omega) (by omega)) dL_law_538 ?_
  refine v_aload_n C dL_law_539 rfl ?_
  refine v_iload_n C dL_law_540 rfl ?_
  refine v_iconst (v := nI 2) C dL_law_541 (by decide) ?_
  refine n_iadd C dL_law_542 ?_
  refine v_sld C hX hbl hbA (vp_in_nI (by omega) (by omega)) dL_law_543 ?_
  refine v_aload_n C dL_law_544 rfl ?_
  refine v_iload_n C dL_law_545 rfl ?_
  refine v_iconst (v := nI 3) C dL_law_546 (by decide) ?_
  refine n_iadd C dL_law_547 ?_
  refine v_sld C hX hbl hbA (vp_in_nI (by omega) (by omega)) dL_law_548 ?_
  refine v_aload_n C dL_law_549 rfl ?_
  refine v_iload_n C dL_law_550 rfl ?_
  refine v_iconst (v := nI 4) C dL_law_551 (by decide) ?_
  refine n_iadd C dL_law_552 ?_
  refine v_sld C hX hbl hbA (vp_in_nI (by omega) (by omega)) dL_law_553 ?_
  obtain ⟨W, pt, hr⟩ := hI.2.2.2
  obtain ⟨r1, r2, r3, r4, r5, r6, ⟨k1, k2, k3, k4, k5, k6, k7, k8⟩, r8, r9, r10⟩ := id hr
  refine v_callV (As := [_, _, _, _]) (n := 4) C (ft_X9_rename l (mX m0 ad) x _ _ _ _ W (fN K 3) (fN K 0) (tlist K) K) rfl r1.1 (by decide) rfl ⟨wd452, wd453, wd454, wd2, wd455⟩ ⟨rfl, hy_X9_rename⟩ rfl ⟨Nat.le_of_ble_eq_true rfl, Nat.le_of_ble_eq_true rfl⟩ (Nat.le_of_ble_eq_true rfl) ⟨(by show 1000 + 20 * i + _ ≤ 600000; omega), (by show 100000 + 1000 * i + _ ≤ 7302250; omega)⟩ dL_law_554 ⟨rfl, hI.1, r1.1, r1.2, r4, k1, k2, k7, (fun k hk => (hI.2.2.1.p10 k (by have := k1.2.2.2.1; omega)).2), (fun k hk => inj_no r2 k hk), (fun k w j hk => nm_lt hI.2.2.1 k1.2.2.2.1 k w j hk)⟩ (fun r_554 S554 h_554 => ?_)
  obtain ⟨v554, rfl, iv1, ch1, rl1⟩ := h_554
  have hk1 := (mdR_rename hr ch1 rl1 hI.2.1)
  refine v_pop C dL_law_557 rfl ?_
  refine v_aload_n C dL_law_558 rfl ?_
  refine v_aload_n C dL_law_559 rfl ?_
  refine v_iload_n C dL_law_560 rfl ?_
  refine v_iconst (v := nI 1) C dL_law_561 (by decide) ?_
  refine n_iadd C dL_law_562 ?_
  refine v_sld C hX hbl hbA (vp_in_nI (by omega) (by omega)) dL_law_563 ?_
  refine v_aload_n C dL_law_564 rfl ?_
  refine v_iload_n C dL_law_565 rfl ?_
  refine v_iconst (v := nI 2) C dL_law_566 (by decide) ?_
  refine n_iadd C dL_law_567 ?_
  refine v_sld C hX hbl hbA (vp_in_nI (by omega) (by omega)) dL_law_568 ?_
  refine v_aload_n C dL_law_569 rfl ?_
  refine v_iload_n C dL_law_570 rfl ?_
  refine v_iconst (v := nI 3) C dL_law_571 (by decide) ?_
  refine n_iadd C dL_law_572 ?_
  refine v_sld C hX hbl hbA (vp_in_nI (by omega) (by omega)) dL_law_573 ?_
  refine v_aload_n C dL_law_574 rfl ?_
  refine v_iload_n C dL_law_575 rfl ?_
  refine v_iconst (v := nI 4) C dL_law_576 (by decide) ?_
  refine n_iadd C dL_law_577 ?_
  refine v_sld C hX hbl hbA (vp_in_nI (by omega) (by omega)) dL_law_578 ?_
  refine v_callV (As := [_, _, _, _]) (n := 4) C (rt_X10_rename l m0 ad _ _ _ _ _) rfl hk1.1 (by decide) rfl ⟨wd470, wd471, wd472, wd5, wd473⟩ ⟨rfl, hy_X10_rename⟩ rfl ⟨Nat.le_of_ble_eq_true rfl, Nat.le_of_ble_eq_true rfl⟩ (Nat.le_of_ble_eq_true rfl) ⟨(by show 1000 + 20 * i + _ ≤ 600000; omega), (by show 100000 + 1000 * i + _ ≤ 7302250; omega)⟩ dL_law_579 ⟨rfl, hk1, hI.2.2.1⟩ (fun r_579 S579 h_579 => ?_)
  obtain ⟨v579, K579, rfl, hk_579, x_579, p_v579⟩ := h_579
  have rv_579 := (renameP_s hI.2.2.1 p_v579).1
  obtain ⟨he, rp1⟩ := tie_rename hr hI.2.2.1 ch1 rl1 p_v579
  have hI := lawI_fin iv1 rp1 hk_579 x_579 rv_579
  refine v_pop C dL_law_582 rfl ?_
  refine v_goto (tgt := 1207) C dL_law_583 (by decide) ?_
  refine V.widen (c2 := 1000 + 20 * i + 100) (s2 := 100000 + 1000 * i + 5000) (by omega) (by omega) ?_
  exact hend _ _ hI
theorem dL_law_586 : decode cL_law 586 = .ok (.aload_n 1, 1) := by decide +kernel
theorem dL_law_587 : decode cL_law 587 = .ok (.aload_n 0, 1) := by decide +kernel
theorem dL_law_588 : decode cL_law 588 = .ok (.iload_n 3, 1) := by decide +kernel
theorem dL_law_589 : decode cL_law 589 = .ok (.iconst 1, 1) := by decide +kernel
theorem dL_law_590 : decode cL_law 590 = .ok (.iadd, 1) := by decide +kernel
theorem dL_law_591 : decode cL_law 591 = .ok (.iaload, 1) := by decide +kernel
theorem dL_law_592 : decode cL_law 592 = .ok (.aload_n 0, 1) := by decide +kernel
theorem dL_law_593 : decode cL_law 593 = .ok (.iload_n 3, 1) := by decide +kernel
theorem dL_law_594 : decode cL_law 594 = .ok (.iconst 2, 1) := by decide +kernel
theorem dL_law_595 : decode cL_law 595 = .ok (.iadd, 1) := by decide +kernel
theorem dL_law_596 : decode cL_law 596 = .ok (.iaload, 1) := by decide +kernel
theorem dL_law_597 : decode cL_law 597 = .ok (.aload_n 0, 1) := by decide +kernel
theorem dL_law_598 : decode cL_law 598 = .ok (.iload_n 3, 1) := by decide +kernel
theorem dL_law_599 : decode cL_law 599 = .ok (.iconst 3, 1) := by decide +kernel
theorem dL_law_600 : decode cL_law 600 = .ok (.iadd, 1) := by decide +kernel
theorem dL_law_601 : decode cL_law 601 = .ok (.iaload, 1) := by decide +kernel
theorem dL_law_602 : decode cL_law 602 = .ok (.invokevirtual 57, 3) := by decide +kernel
theorem dL_law_605 : decode cL_law 605 = .ok (.pop, 1) := by decide +kernel
theorem dL_law_606 : decode cL_law 606 = .ok (.aload_n 2, 1) := by decide +kernel
theorem dL_law_607 : decode cL_law 607 = .ok (.aload_n 0, 1) := by decide +kernel
theorem dL_law_608 : decode cL_law 608 = .ok (.iload_n 3, 1) := by decide +kernel
theorem dL_law_609 : decode cL_law 609 = .ok (.iconst 1, 1) := by decide +kernel
theorem dL_law_610 : decode cL_law 610 = .ok (.iadd, 1) := by decide +kernel
theorem dL_law_611 : decode cL_law 611 = .ok (.iaload, 1) := by decide +kernel
theorem dL_law_612 : decode cL_law 612 = .ok (.aload_n 0, 1) := by decide +kernel
theorem dL_law_613 : decode cL_law 613 = .ok (.iload_n 3, 1) := by decide +kernel
theorem dL_law_614 : decode cL_law 614 = .ok (.iconst 2, 1) := by decide +kernel
theorem dL_law_615 : decode cL_law 615 = .ok (.iadd, 1) := by decide +kernel
theorem dL_law_616 : decode cL_law 616 = .ok (.iaload, 1) := by decide +kernel
theorem dL_law_617 : decode cL_law 617 = .ok (.aload_n 0, 1) := by decide +kernel
theorem dL_law_618 : decode cL_law 618 = .ok (.iload_n 3, 1) := by decide +kernel
theorem dL_law_619 : decode cL_law 619 = .ok (.iconst 3, 1) := by decide +kernel
theorem dL_law_620 : decode cL_law 620 = .ok (.iadd, 1) := by decide +kernel
theorem dL_law_621 : decode cL_law 621 = .ok (.iaload, 1) := by decide +kernel
theorem dL_law_622 : decode cL_law 622 = .ok (.invokevirtual 60, 3) := by decide +kernel
theorem dL_law_625 : decode cL_law 625 = .ok (.pop, 1) := by decide +kernel
theorem dL_law_626 : decode cL_law 626 = .ok (.goto 581, 3) := by decide +kernel
set_option maxRecDepth 100000 in
set_option maxHeartbeats 4000000 in
theorem law_c10 {p : Program} {l : Launch} {e : Env} {s : State} {m : MethodId} {below : List Frame} {meth : Method} {c : Code} {D : va_G} {G : Nat → ClassId} {bs : Nat} {Q : State → Prop} {b : Nat} {xs : Nat → Int32} {L i x m0 : Nat} {ad : Nat → Nat} {S : Mem} {K : RS} (C : Cx p s m #[Value.ref b] meth c D G bs code 4 RL) (hX : va_X b L xs s s.heap) (hbl : b < s.heap.size) (hbA : ¬ bs ≤ b) (hL : L ≤ 2560) (hi : i + 5 ≤ L) (hI : lawI S x m0 ad K) (hend : ∀ (S' : Mem) (K' : RS), lawI S' x m0 ad K' → V p l e room_1 s m #[Value.ref b] below meth c D G bs 4 Q (1000 + 20 * i + 100) (100000 + 1000 * i + 5000) S' 1207 [some (.ref b), some (.ref x), some (.ref m0), some (.int (nI i))] []) : V p l e room_1 s m #[Value.ref b] below meth c D G bs 4 Q (1000 + 20 * i) (100000 + 1000 * i) S 586 [some (.ref b), some (.ref x), some (.ref m0), some (.int (nI i))] [] := by
  refine v_aload_n C dL_law_586 rfl ?_
  refine v_aload_n C dL_law_587 rfl ?_
  refine v_iload_n C dL_law_588 rfl ?_
  refine v_iconst (v := nI 1) C dL_law_589 (by decide) ?_
  refine n_iadd C dL_law_590 ?_
  refine v_sld C hX hbl hbA (vp_in_nI (by omega) (by omega)) dL_law_591 ?_
  refine v_aload_n C dL_law_592 rfl ?_
  refine v_iload_n C dL_law_593 rfl ?_
  refine v_iconst (v := nI 2) C dL_law_594 (by decide) ?_
  refine n_iadd C dL_law_595 ?_
  refine v_sld C hX hbl hbA (vp_in_nI (by omega) (by omega)) dL_law_596 ?_
  refine v_aload_n C dL_law_597 rfl ?_
  refine v_iload_n C dL_law_598 rfl ?_
  refine v_iconst (v := nI 3) C dL_law_599 (by decide) ?_
  refine n_iadd C dL_law_600 ?_
  refine v_sld C hX hbl hbA (vp_in_nI (by omega) (by omega)) dL_law_601 ?_
  obtain ⟨W, pt, hr⟩ := hI.2.2.2
  obtain ⟨r1, r2, r3, r4, r5, r6, ⟨k1, k2, k3, k4, k5, k6, k7, k8⟩, r8, r9, r10⟩ := id hr
  refine v_callV (As := [_, _, _]) (n := 3) C (ft_X9_prefer l (mX m0 ad) x _ _ _ W (fN K 3) (fN K 0) (tlist K) K) rfl r1.1 (by decide) rfl ⟨wd482, wd483, wd484, wd2, wd485⟩ ⟨rfl, hy_X9_prefer⟩ rfl ⟨Nat.le_of_ble_eq_true rfl, Nat.le_of_ble_eq_true rfl⟩ (Nat.le_of_ble_eq_true rfl) ⟨(by show 1000 + 20 * i + _ ≤ 600000; omega), (by show 100000 + 1000 * i + _ ≤ 7302250; omega)⟩ dL_law_602 ⟨rfl, hI.1, r1.1, r1.2, r4, k1, k2⟩ (fun r_602 S602 h_602 => ?_)
  obtain ⟨v602, rfl, iv1, ch1, rl1⟩ := h_602
  have hk1 := (mdR_prefer hr ch1 rl1 hI.2.1)
  refine v_pop C dL_law_605 rfl ?_
  refine v_aload_n C dL_law_606 rfl ?_
  refine v_aload_n C dL_law_607 rfl ?_
  refine v_iload_n C dL_law_608 rfl ?_
  refine v_iconst (v := nI 1) C dL_law_609 (by decide) ?_
  refine n_iadd C dL_law_610 ?_
  refine v_sld C hX hbl hbA (vp_in_nI (by omega) (by omega)) dL_law_611 ?_
  refine v_aload_n C dL_law_612 rfl ?_
  refine v_iload_n C dL_law_613 rfl ?_
  refine v_iconst (v := nI 2) C dL_law_614 (by decide) ?_
  refine n_iadd C dL_law_615 ?_
  refine v_sld C hX hbl hbA (vp_in_nI (by omega) (by omega)) dL_law_616 ?_
  refine v_aload_n C dL_law_617 rfl ?_
  refine v_iload_n C dL_law_618 rfl ?_
  refine v_iconst (v := nI 3) C dL_law_619 (by decide) ?_
  refine n_iadd C dL_law_620 ?_
  refine v_sld C hX hbl hbA (vp_in_nI (by omega) (by omega)) dL_law_621 ?_
  refine v_callV (As := [_, _, _]) (n := 3) C (rt_X10_prefer l m0 ad _ _ _ _) rfl hk1.1 (by decide) rfl ⟨wd494, wd495, wd496, wd5, wd497⟩ ⟨rfl, hy_X10_prefer⟩ rfl ⟨Nat.le_of_ble_eq_true rfl, Nat.le_of_ble_eq_true rfl⟩ (Nat.le_of_ble_eq_true rfl) ⟨(by show 1000 + 20 * i + _ ≤ 600000; omega), (by show 100000 + 1000 * i + _ ≤ 7302250; omega)⟩ dL_law_622 ⟨rfl, hk1, hI.2.2.1⟩ (fun r_622 S622 h_622 => ?_)
  obtain ⟨v622, K622, rfl, hk_622, x_622, p_v622⟩ := h_622
  have rv_622 := (preferP_s hI.2.2.1 p_v622).1
  obtain ⟨he, rp1⟩ := tie_prefer hr ch1 rl1 p_v622
  have hI := lawI_fin iv1 rp1 hk_622 x_622 rv_622
  refine v_pop C dL_law_625 rfl ?_
  refine v_goto (tgt := 1207) C dL_law_626 (by decide) ?_
  refine V.widen (c2 := 1000 + 20 * i + 100) (s2 := 100000 + 1000 * i + 5000) (by omega) (by omega) ?_
  exact hend _ _ hI
theorem dL_law_629 : decode cL_law 629 = .ok (.aload_n 1, 1) := by decide +kernel
theorem dL_law_630 : decode cL_law 630 = .ok (.aload_n 0, 1) := by decide +kernel
theorem dL_law_631 : decode cL_law 631 = .ok (.iload_n 3, 1) := by decide +kernel
theorem dL_law_632 : decode cL_law 632 = .ok (.iconst 1, 1) := by decide +kernel
theorem dL_law_633 : decode cL_law 633 = .ok (.iadd, 1) := by decide +kernel
theorem dL_law_634 : decode cL_law 634 = .ok (.iaload, 1) := by decide +kernel
theorem dL_law_635 : decode cL_law 635 = .ok (.aload_n 0, 1) := by decide +kernel
theorem dL_law_636 : decode cL_law 636 = .ok (.iload_n 3, 1) := by decide +kernel
theorem dL_law_637 : decode cL_law 637 = .ok (.iconst 2, 1) := by decide +kernel
theorem dL_law_638 : decode cL_law 638 = .ok (.iadd, 1) := by decide +kernel
theorem dL_law_639 : decode cL_law 639 = .ok (.iaload, 1) := by decide +kernel
theorem dL_law_640 : decode cL_law 640 = .ok (.invokevirtual 61, 3) := by decide +kernel
theorem dL_law_643 : decode cL_law 643 = .ok (.pop, 1) := by decide +kernel
theorem dL_law_644 : decode cL_law 644 = .ok (.aload_n 2, 1) := by decide +kernel
theorem dL_law_645 : decode cL_law 645 = .ok (.aload_n 0, 1) := by decide +kernel
theorem dL_law_646 : decode cL_law 646 = .ok (.iload_n 3, 1) := by decide +kernel
theorem dL_law_647 : decode cL_law 647 = .ok (.iconst 1, 1) := by decide +kernel
theorem dL_law_648 : decode cL_law 648 = .ok (.iadd, 1) := by decide +kernel
theorem dL_law_649 : decode cL_law 649 = .ok (.iaload, 1) := by decide +kernel
theorem dL_law_650 : decode cL_law 650 = .ok (.aload_n 0, 1) := by decide +kernel
theorem dL_law_651 : decode cL_law 651 = .ok (.iload_n 3, 1) := by decide +kernel
theorem dL_law_652 : decode cL_law 652 = .ok (.iconst 2, 1) := by decide +kernel
theorem dL_law_653 : decode cL_law 653 = .ok (.iadd, 1) := by decide +kernel
theorem dL_law_654 : decode cL_law 654 = .ok (.iaload, 1) := by decide +kernel
theorem dL_law_655 : decode cL_law 655 = .ok (.invokevirtual 64, 3) := by decide +kernel
theorem dL_law_658 : decode cL_law 658 = .ok (.pop, 1) := by decide +kernel
theorem dL_law_659 : decode cL_law 659 = .ok (.goto 548, 3) := by decide +kernel
set_option maxRecDepth 100000 in
set_option maxHeartbeats 4000000 in
theorem law_c11 {p : Program} {l : Launch} {e : Env} {s : State} {m : MethodId} {below : List Frame} {meth : Method} {c : Code} {D : va_G} {G : Nat → ClassId} {bs : Nat} {Q : State → Prop} {b : Nat} {xs : Nat → Int32} {L i x m0 : Nat} {ad : Nat → Nat} {S : Mem} {K : RS} (C : Cx p s m #[Value.ref b] meth c D G bs code 4 RL) (hX : va_X b L xs s s.heap) (hbl : b < s.heap.size) (hbA : ¬ bs ≤ b) (hL : L ≤ 2560) (hi : i + 5 ≤ L) (hI : lawI S x m0 ad K) (hend : ∀ (S' : Mem) (K' : RS), lawI S' x m0 ad K' → V p l e room_1 s m #[Value.ref b] below meth c D G bs 4 Q (1000 + 20 * i + 100) (100000 + 1000 * i + 5000) S' 1207 [some (.ref b), some (.ref x), some (.ref m0), some (.int (nI i))] []) : V p l e room_1 s m #[Value.ref b] below meth c D G bs 4 Q (1000 + 20 * i) (100000 + 1000 * i) S 629 [some (.ref b), some (.ref x), some (.ref m0), some (.int (nI i))] [] := by
  refine v_aload_n C dL_law_629 rfl ?_
  refine v_aload_n C dL_law_630 rfl ?_
  refine v_iload_n C dL_law_631 rfl ?_
  refine v_iconst (v := nI 1) C dL_law_632 (by decide) ?_
  refine n_iadd C dL_law_633 ?_
  refine v_sld C hX hbl hbA (vp_in_nI (by omega) (by omega)) dL_law_634 ?_
  refine v_aload_n C dL_law_635 rfl ?_
  refine v_iload_n C dL_law_636 rfl ?_
  refine v_iconst (v := nI 2) C dL_law_637 (by decide) ?_
  refine n_iadd C dL_law_638 ?_
  refine v_sld C hX hbl hbA (vp_in_nI (by omega) (by omega)) dL_law_639 ?_
  have ix := hI.2.2.2.choose_spec.choose_spec.1.1
  refine v_callV (As := [_, _]) (n := 2) C (st_X9_lineOf l (mX m0 ad) x _ _) rfl ix (by decide) rfl ⟨wd498, wd499, wd500, wd2, wd501⟩ ⟨rfl, hy_X9_lineOf⟩ rfl ⟨Nat.le_of_ble_eq_true rfl, Nat.le_of_ble_eq_true rfl⟩ (Nat.le_of_ble_eq_true rfl) ⟨(by show 1000 + 20 * i + _ ≤ 600000; omega), (by show 100000 + 1000 * i + _ ≤ 7302250; omega)⟩ dL_law_640 ⟨rfl, hI.1, ix⟩ (fun r_640 S640 h_640 => ?_)
  obtain ⟨v640, rfl, q_v640⟩ := h_640
  obtain rfl := q_v640.symm
  refine v_pop C dL_law_643 rfl ?_
  refine v_aload_n C dL_law_644 rfl ?_
  refine v_aload_n C dL_law_645 rfl ?_
  refine v_iload_n C dL_law_646 rfl ?_
  refine v_iconst (v := nI 1) C dL_law_647 (by decide) ?_
  refine n_iadd C dL_law_648 ?_
  refine v_sld C hX hbl hbA (vp_in_nI (by omega) (by omega)) dL_law_649 ?_
  refine v_aload_n C dL_law_650 rfl ?_
  refine v_iload_n C dL_law_651 rfl ?_
  refine v_iconst (v := nI 2) C dL_law_652 (by decide) ?_
  refine n_iadd C dL_law_653 ?_
  refine v_sld C hX hbl hbA (vp_in_nI (by omega) (by omega)) dL_law_654 ?_
  refine v_callV (As := [_, _]) (n := 2) C (rt_X10_lineOf l m0 ad _ _ _) rfl hI.2.1.1 (by decide) rfl ⟨wd504, wd505, wd506, wd5, wd507⟩ ⟨rfl, hy_X10_lineOf⟩ rfl ⟨Nat.le_of_ble_eq_true rfl, Nat.le_of_ble_eq_true rfl⟩ (Nat.le_of_ble_eq_true rfl) ⟨(by show 1000 + 20 * i + _ ≤ 600000; omega), (by show 100000 + 1000 * i + _ ≤ 7302250; omega)⟩ dL_law_655 ⟨rfl, hI.2.1, hI.2.2.1⟩ (fun r_655 S655 h_655 => ?_)
  obtain ⟨v655, rfl, p_v655, q_v655⟩ := h_655
  obtain rfl := q_v655.symm
  refine v_pop C dL_law_658 rfl ?_
  refine v_goto (tgt := 1207) C dL_law_659 (by decide) ?_
  refine V.widen (c2 := 1000 + 20 * i + 100) (s2 := 100000 + 1000 * i + 5000) (by omega) (by omega) ?_
  exact hend _ _ hI
theorem dL_law_662 : decode cL_law 662 = .ok (.aload_n 1, 1) := by decide +kernel
theorem dL_law_663 : decode cL_law 663 = .ok (.aload_n 0, 1) := by decide +kernel
theorem dL_law_664 : decode cL_law 664 = .ok (.iload_n 3, 1) := by decide +kernel
theorem dL_law_665 : decode cL_law 665 = .ok (.iconst 1, 1) := by decide +kernel
theorem dL_law_666 : decode cL_law 666 = .ok (.iadd, 1) := by decide +kernel
theorem dL_law_667 : decode cL_law 667 = .ok (.iaload, 1) := by decide +kernel
theorem dL_law_668 : decode cL_law 668 = .ok (.aload_n 0, 1) := by decide +kernel
theorem dL_law_669 : decode cL_law 669 = .ok (.iload_n 3, 1) := by decide +kernel
theorem dL_law_670 : decode cL_law 670 = .ok (.iconst 2, 1) := by decide +kernel
theorem dL_law_671 : decode cL_law 671 = .ok (.iadd, 1) := by decide +kernel
theorem dL_law_672 : decode cL_law 672 = .ok (.iaload, 1) := by decide +kernel
theorem dL_law_673 : decode cL_law 673 = .ok (.invokevirtual 65, 3) := by decide +kernel
theorem dL_law_676 : decode cL_law 676 = .ok (.pop, 1) := by decide +kernel
theorem dL_law_677 : decode cL_law 677 = .ok (.aload_n 2, 1) := by decide +kernel
theorem dL_law_678 : decode cL_law 678 = .ok (.aload_n 0, 1) := by decide +kernel
theorem dL_law_679 : decode cL_law 679 = .ok (.iload_n 3, 1) := by decide +kernel
theorem dL_law_680 : decode cL_law 680 = .ok (.iconst 1, 1) := by decide +kernel
theorem dL_law_681 : decode cL_law 681 = .ok (.iadd, 1) := by decide +kernel
theorem dL_law_682 : decode cL_law 682 = .ok (.iaload, 1) := by decide +kernel
theorem dL_law_683 : decode cL_law 683 = .ok (.aload_n 0, 1) := by decide +kernel
theorem dL_law_684 : decode cL_law 684 = .ok (.iload_n 3, 1) := by decide +kernel
theorem dL_law_685 : decode cL_law 685 = .ok (.iconst 2, 1) := by decide +kernel
theorem dL_law_686 : decode cL_law 686 = .ok (.iadd, 1) := by decide +kernel
theorem dL_law_687 : decode cL_law 687 = .ok (.iaload, 1) := by decide +kernel
theorem dL_law_688 : decode cL_law 688 = .ok (.invokevirtual 68, 3) := by decide +kernel
theorem dL_law_691 : decode cL_law 691 = .ok (.pop, 1) := by decide +kernel
theorem dL_law_692 : decode cL_law 692 = .ok (.goto 515, 3) := by decide +kernel
set_option maxRecDepth 100000 in
set_option maxHeartbeats 4000000 in
theorem law_c12 {p : Program} {l : Launch} {e : Env} {s : State} {m : MethodId} {below : List Frame} {meth : Method} {c : Code} {D : va_G} {G : Nat → ClassId} {bs : Nat} {Q : State → Prop} {b : Nat} {xs : Nat → Int32} {L i x m0 : Nat} {ad : Nat → Nat} {S : Mem} {K : RS} (C : Cx p s m #[Value.ref b] meth c D G bs code 4 RL) (hX : va_X b L xs s s.heap) (hbl : b < s.heap.size) (hbA : ¬ bs ≤ b) (hL : L ≤ 2560) (hi : i + 5 ≤ L) (hI : lawI S x m0 ad K) (hend : ∀ (S' : Mem) (K' : RS), lawI S' x m0 ad K' → V p l e room_1 s m #[Value.ref b] below meth c D G bs 4 Q (1000 + 20 * i + 100) (100000 + 1000 * i + 5000) S' 1207 [some (.ref b), some (.ref x), some (.ref m0), some (.int (nI i))] []) : V p l e room_1 s m #[Value.ref b] below meth c D G bs 4 Q (1000 + 20 * i) (100000 + 1000 * i) S 662 [some (.ref b), some (.ref x), some (.ref m0), some (.int (nI i))] [] := by
  refine v_aload_n C dL_law_662 rfl ?_
  refine v_aload_n C dL_law_663 rfl ?_
  refine v_iload_n C dL_law_664 rfl ?_
  refine v_iconst (v := nI 1) C dL_law_665 (by decide) ?_
  refine n_iadd C dL_law_666 ?_
  refine v_sld C hX hbl hbA (vp_in_nI (by omega) (by omega)) dL_law_667 ?_
  refine v_aload_n C dL_law_668 rfl ?_
  refine v_iload_n C dL_law_669 rfl ?_
  refine v_iconst (v := nI 2) C dL_law_670 (by decide) ?_
  refine n_iadd C dL_law_671 ?_
  refine v_sld C hX hbl hbA (vp_in_nI (by omega) (by omega)) dL_law_672 ?_
  have ix := hI.2.2.2.choose_spec.choose_spec.1.1
  refine v_callV (As := [_, _]) (n := 2) C (st_X9_line l (mX m0 ad) x _ _) rfl ix (by decide) rfl ⟨wd508, wd509, wd510, wd2, wd511⟩ ⟨rfl, hy_X9_line⟩ rfl ⟨Nat.le_of_ble_eq_true rfl, Nat.le_of_ble_eq_true rfl⟩ (Nat.le_of_ble_eq_true rfl) ⟨(by show 1000 + 20 * i + _ ≤ 600000; omega), (by show 100000 + 1000 * i + _ ≤ 7302250; omega)⟩ dL_law_673 ⟨rfl, hI.1, ix⟩ (fun r_673 S673 h_673 => ?_)
  obtain ⟨v673, rfl, q_v673⟩ := h_673
  obtain rfl := q_v673.symm
  refine v_pop C dL_law_676 rfl ?_
  refine v_aload_n C dL_law_677 rfl ?_
  refine v_aload_n C dL_law_678 rfl ?_
  refine v_iload_n C dL_law_679 rfl ?_
  refine v_iconst (v := nI 1) C dL_law_680 (by decide) ?_
  refine n_iadd C dL_law_681 ?_
  refine v_sld C hX hbl hbA (vp_in_nI (by omega) (by omega)) dL_law_682 ?_
  refine v_aload_n C dL_law_683 rfl ?_
  refine v_iload_n C dL_law_684 rfl ?_
  refine v_iconst (v := nI 2) C dL_law_685 (by decide) ?_
  refine n_iadd C dL_law_686 ?_
  refine v_sld C hX hbl hbA (vp_in_nI (by omega) (by omega)) dL_law_687 ?_
  refine v_callV (As := [_, _]) (n := 2) C (rt_X10_line l m0 ad _ _ _) rfl hI.2.1.1 (by decide) rfl ⟨wd513, wd514, wd515, wd5, wd516⟩ ⟨rfl, hy_X10_line⟩ rfl ⟨Nat.le_of_ble_eq_true rfl, Nat.le_of_ble_eq_true rfl⟩ (Nat.le_of_ble_eq_true rfl) ⟨(by show 1000 + 20 * i + _ ≤ 600000; omega), (by show 100000 + 1000 * i + _ ≤ 7302250; omega)⟩ dL_law_688 ⟨rfl, hI.2.1, hI.2.2.1⟩ (fun r_688 S688 h_688 => ?_)
  obtain ⟨v688, rfl, p_v688, q_v688⟩ := h_688
  obtain rfl := q_v688.symm
  refine v_pop C dL_law_691 rfl ?_
  refine v_goto (tgt := 1207) C dL_law_692 (by decide) ?_
  refine V.widen (c2 := 1000 + 20 * i + 100) (s2 := 100000 + 1000 * i + 5000) (by omega) (by omega) ?_
  exact hend _ _ hI
theorem dL_law_695 : decode cL_law 695 = .ok (.aload_n 1, 1) := by decide +kernel
theorem dL_law_696 : decode cL_law 696 = .ok (.aload_n 0, 1) := by decide +kernel
theorem dL_law_697 : decode cL_law 697 = .ok (.iload_n 3, 1) := by decide +kernel
theorem dL_law_698 : decode cL_law 698 = .ok (.iconst 1, 1) := by decide +kernel
theorem dL_law_699 : decode cL_law 699 = .ok (.iadd, 1) := by decide +kernel
theorem dL_law_700 : decode cL_law 700 = .ok (.iaload, 1) := by decide +kernel
theorem dL_law_701 : decode cL_law 701 = .ok (.aload_n 0, 1) := by decide +kernel
theorem dL_law_702 : decode cL_law 702 = .ok (.iload_n 3, 1) := by decide +kernel
theorem dL_law_703 : decode cL_law 703 = .ok (.iconst 2, 1) := by decide +kernel
theorem dL_law_704 : decode cL_law 704 = .ok (.iadd, 1) := by decide +kernel
theorem dL_law_705 : decode cL_law 705 = .ok (.iaload, 1) := by decide +kernel
theorem dL_law_706 : decode cL_law 706 = .ok (.invokevirtual 69, 3) := by decide +kernel
theorem dL_law_709 : decode cL_law 709 = .ok (.pop, 1) := by decide +kernel
theorem dL_law_710 : decode cL_law 710 = .ok (.aload_n 2, 1) := by decide +kernel
theorem dL_law_711 : decode cL_law 711 = .ok (.aload_n 0, 1) := by decide +kernel
theorem dL_law_712 : decode cL_law 712 = .ok (.iload_n 3, 1) := by decide +kernel
theorem dL_law_713 : decode cL_law 713 = .ok (.iconst 1, 1) := by decide +kernel
theorem dL_law_714 : decode cL_law 714 = .ok (.iadd, 1) := by decide +kernel
theorem dL_law_715 : decode cL_law 715 = .ok (.iaload, 1) := by decide +kernel
theorem dL_law_716 : decode cL_law 716 = .ok (.aload_n 0, 1) := by decide +kernel
theorem dL_law_717 : decode cL_law 717 = .ok (.iload_n 3, 1) := by decide +kernel
theorem dL_law_718 : decode cL_law 718 = .ok (.iconst 2, 1) := by decide +kernel
theorem dL_law_719 : decode cL_law 719 = .ok (.iadd, 1) := by decide +kernel
theorem dL_law_720 : decode cL_law 720 = .ok (.iaload, 1) := by decide +kernel
theorem dL_law_721 : decode cL_law 721 = .ok (.invokevirtual 72, 3) := by decide +kernel
theorem dL_law_724 : decode cL_law 724 = .ok (.pop, 1) := by decide +kernel
theorem dL_law_725 : decode cL_law 725 = .ok (.goto 482, 3) := by decide +kernel
set_option maxRecDepth 100000 in
set_option maxHeartbeats 4000000 in
theorem law_c13 {p : Program} {l : Launch} {e : Env} {s : State} {m : MethodId} {below : List Frame} {meth : Method} {c : Code} {D : va_G} {G : Nat → ClassId} {bs : Nat} {Q : State → Prop} {b : Nat} {xs : Nat → Int32} {L i x m0 : Nat} {ad : Nat → Nat} {S : Mem} {K : RS} (C : Cx p s m #[Value.ref b] meth c D G bs code 4 RL) (hX : va_X b L xs s s.heap) (hbl : b < s.heap.size) (hbA : ¬ bs ≤ b) (hL : L ≤ 2560) (hi : i + 5 ≤ L) (hI : lawI S x m0 ad K) (hend : ∀ (S' : Mem) (K' : RS), lawI S' x m0 ad K' → V p l e room_1 s m #[Value.ref b] below meth c D G bs 4 Q (1000 + 20 * i + 100) (100000 + 1000 * i + 5000) S' 1207 [some (.ref b), some (.ref x), some (.ref m0), some (.int (nI i))] []) : V p l e room_1 s m #[Value.ref b] below meth c D G bs 4 Q (1000 + 20 * i) (100000 + 1000 * i) S 695 [some (.ref b), some (.ref x), some (.ref m0), some (.int (nI i))] [] := by
  refine v_aload_n C dL_law_695 rfl ?_
  refine v_aload_n C dL_law_696 rfl ?_
  refine v_iload_n C dL_law_697 rfl ?_
  refine v_iconst (v := nI 1) C dL_law_698 (by decide) ?_
  refine n_iadd C dL_law_699 ?_
  refine v_sld C hX hbl hbA (vp_in_nI (by omega) (by omega)) dL_law_700 ?_
  refine v_aload_n C dL_law_701 rfl ?_
  refine v_iload_n C dL_law_702 rfl ?_
  refine v_iconst (v := nI 2) C dL_law_703 (by decide) ?_
  refine n_iadd C dL_law_704 ?_
  refine v_sld C hX hbl hbA (vp_in_nI (by omega) (by omega)) dL_law_705 ?_
  have ix := hI.2.2.2.choose_spec.choose_spec.1.1
  refine v_callV (As := [_, _]) (n := 2) C (st_X9_chosen l (mX m0 ad) x _ _) rfl ix (by decide) rfl ⟨wd517, wd518, wd519, wd2, wd520⟩ ⟨rfl, hy_X9_chosen⟩ rfl ⟨Nat.le_of_ble_eq_true rfl, Nat.le_of_ble_eq_true rfl⟩ (Nat.le_of_ble_eq_true rfl) ⟨(by show 1000 + 20 * i + _ ≤ 600000; omega), (by show 100000 + 1000 * i + _ ≤ 7302250; omega)⟩ dL_law_706 ⟨rfl, hI.1, ix⟩ (fun r_706 S706 h_706 => ?_)
  obtain ⟨v706, rfl, iv_706, x_706⟩ := h_706
  have hI := lawI_q hI iv_706 x_706 (by decide)
  refine v_pop C dL_law_709 rfl ?_
  refine v_aload_n C dL_law_710 rfl ?_
  refine v_aload_n C dL_law_711 rfl ?_
  refine v_iload_n C dL_law_712 rfl ?_
  refine v_iconst (v := nI 1) C dL_law_713 (by decide) ?_
  refine n_iadd C dL_law_714 ?_
  refine v_sld C hX hbl hbA (vp_in_nI (by omega) (by omega)) dL_law_715 ?_
  refine v_aload_n C dL_law_716 rfl ?_
  refine v_iload_n C dL_law_717 rfl ?_
  refine v_iconst (v := nI 2) C dL_law_718 (by decide) ?_
  refine n_iadd C dL_law_719 ?_
  refine v_sld C hX hbl hbA (vp_in_nI (by omega) (by omega)) dL_law_720 ?_
  refine v_callV (As := [_, _]) (n := 2) C (rt_X10_chosen l m0 ad _ _ _) rfl hI.2.1.1 (by decide) rfl ⟨wd581, wd582, wd583, wd5, wd584⟩ ⟨rfl, hy_X10_chosen⟩ rfl ⟨Nat.le_of_ble_eq_true rfl, Nat.le_of_ble_eq_true rfl⟩ (Nat.le_of_ble_eq_true rfl) ⟨(by show 1000 + 20 * i + _ ≤ 600000; omega), (by show 100000 + 1000 * i + _ ≤ 7302250; omega)⟩ dL_law_721 ⟨rfl, hI.2.1, hI.2.2.1⟩ (fun r_721 S721 h_721 => ?_)
  obtain ⟨v721, rfl, p_v721, q_v721⟩ := h_721
  obtain rfl := q_v721.symm
  refine v_pop C dL_law_724 rfl ?_
  refine v_goto (tgt := 1207) C dL_law_725 (by decide) ?_
  refine V.widen (c2 := 1000 + 20 * i + 100) (s2 := 100000 + 1000 * i + 5000) (by omega) (by omega) ?_
  exact hend _ _ hI
theorem dL_law_728 : decode cL_law 728 = .ok (.aload_n 1, 1) := by decide +kernel
theorem dL_law_729 : decode cL_law 729 = .ok (.aload_n 0, 1) := by decide +kernel
theorem dL_law_730 : decode cL_law 730 = .ok (.iload_n 3, 1) := by decide +kernel
theorem dL_law_731 : decode cL_law 731 = .ok (.iconst 1, 1) := by decide +kernel
theorem dL_law_732 : decode cL_law 732 = .ok (.iadd, 1) := by decide +kernel
theorem dL_law_733 : decode cL_law 733 = .ok (.iaload, 1) := by decide +kernel
theorem dL_law_734 : decode cL_law 734 = .ok (.aload_n 0, 1) := by decide +kernel
theorem dL_law_735 : decode cL_law 735 = .ok (.iload_n 3, 1) := by decide +kernel
theorem dL_law_736 : decode cL_law 736 = .ok (.iconst 2, 1) := by decide +kernel
theorem dL_law_737 : decode cL_law 737 = .ok (.iadd, 1) := by decide +kernel
theorem dL_law_738 : decode cL_law 738 = .ok (.iaload, 1) := by decide +kernel
theorem dL_law_739 : decode cL_law 739 = .ok (.invokevirtual 73, 3) := by decide +kernel
theorem dL_law_742 : decode cL_law 742 = .ok (.pop, 1) := by decide +kernel
theorem dL_law_743 : decode cL_law 743 = .ok (.aload_n 2, 1) := by decide +kernel
theorem dL_law_744 : decode cL_law 744 = .ok (.aload_n 0, 1) := by decide +kernel
theorem dL_law_745 : decode cL_law 745 = .ok (.iload_n 3, 1) := by decide +kernel
theorem dL_law_746 : decode cL_law 746 = .ok (.iconst 1, 1) := by decide +kernel
theorem dL_law_747 : decode cL_law 747 = .ok (.iadd, 1) := by decide +kernel
theorem dL_law_748 : decode cL_law 748 = .ok (.iaload, 1) := by decide +kernel
theorem dL_law_749 : decode cL_law 749 = .ok (.aload_n 0, 1) := by decide +kernel
theorem dL_law_750 : decode cL_law 750 = .ok (.iload_n 3, 1) := by decide +kernel
theorem dL_law_751 : decode cL_law 751 = .ok (.iconst 2, 1) := by decide +kernel
theorem dL_law_752 : decode cL_law 752 = .ok (.iadd, 1) := by decide +kernel
theorem dL_law_753 : decode cL_law 753 = .ok (.iaload, 1) := by decide +kernel
theorem dL_law_754 : decode cL_law 754 = .ok (.invokevirtual 76, 3) := by decide +kernel
theorem dL_law_757 : decode cL_law 757 = .ok (.pop, 1) := by decide +kernel
theorem dL_law_758 : decode cL_law 758 = .ok (.goto 449, 3) := by decide +kernel
set_option maxRecDepth 100000 in
set_option maxHeartbeats 4000000 in
theorem law_c14 {p : Program} {l : Launch} {e : Env} {s : State} {m : MethodId} {below : List Frame} {meth : Method} {c : Code} {D : va_G} {G : Nat → ClassId} {bs : Nat} {Q : State → Prop} {b : Nat} {xs : Nat → Int32} {L i x m0 : Nat} {ad : Nat → Nat} {S : Mem} {K : RS} (C : Cx p s m #[Value.ref b] meth c D G bs code 4 RL) (hX : va_X b L xs s s.heap) (hbl : b < s.heap.size) (hbA : ¬ bs ≤ b) (hL : L ≤ 2560) (hi : i + 5 ≤ L) (hI : lawI S x m0 ad K) (hend : ∀ (S' : Mem) (K' : RS), lawI S' x m0 ad K' → V p l e room_1 s m #[Value.ref b] below meth c D G bs 4 Q (1000 + 20 * i + 100) (100000 + 1000 * i + 5000) S' 1207 [some (.ref b), some (.ref x), some (.ref m0), some (.int (nI i))] []) : V p l e room_1 s m #[Value.ref b] below meth c D G bs 4 Q (1000 + 20 * i) (100000 + 1000 * i) S 728 [some (.ref b), some (.ref x), some (.ref m0), some (.int (nI i))] [] := by
  refine v_aload_n C dL_law_728 rfl ?_
  refine v_aload_n C dL_law_729 rfl ?_
  refine v_iload_n C dL_law_730 rfl ?_
  refine v_iconst (v := nI 1) C dL_law_731 (by decide) ?_
  refine n_iadd C dL_law_732 ?_
  refine v_sld C hX hbl hbA (vp_in_nI (by omega) (by omega)) dL_law_733 ?_
  refine v_aload_n C dL_law_734 rfl ?_
  refine v_iload_n C dL_law_735 rfl ?_
  refine v_iconst (v := nI 2) C dL_law_736 (by decide) ?_
  refine n_iadd C dL_law_737 ?_
  refine v_sld C hX hbl hbA (vp_in_nI (by omega) (by omega)) dL_law_738 ?_
  have ix := hI.2.2.2.choose_spec.choose_spec.1.1
  refine v_callV (As := [_, _]) (n := 2) C (st_X9_clash l (mX m0 ad) x _ _) rfl ix (by decide) rfl ⟨wd609, wd610, wd611, wd2, wd612⟩ ⟨rfl, hy_X9_clash⟩ rfl ⟨Nat.le_of_ble_eq_true rfl, Nat.le_of_ble_eq_true rfl⟩ (Nat.le_of_ble_eq_true rfl) ⟨(by show 1000 + 20 * i + _ ≤ 600000; omega), (by show 100000 + 1000 * i + _ ≤ 7302250; omega)⟩ dL_law_739 ⟨rfl, hI.1, ix⟩ (fun r_739 S739 h_739 => ?_)
  obtain ⟨v739, rfl, iv_739, x_739⟩ := h_739
  have hI := lawI_q hI iv_739 x_739 (by decide)
  refine v_pop C dL_law_742 rfl ?_
  refine v_aload_n C dL_law_743 rfl ?_
  refine v_aload_n C dL_law_744 rfl ?_
  refine v_iload_n C dL_law_745 rfl ?_
  refine v_iconst (v := nI 1) C dL_law_746 (by decide) ?_
  refine n_iadd C dL_law_747 ?_
  refine v_sld C hX hbl hbA (vp_in_nI (by omega) (by omega)) dL_law_748 ?_
  refine v_aload_n C dL_law_749 rfl ?_
  refine v_iload_n C dL_law_750 rfl ?_
  refine v_iconst (v := nI 2) C dL_law_751 (by decide) ?_
  refine n_iadd C dL_law_752 ?_
  refine v_sld C hX hbl hbA (vp_in_nI (by omega) (by omega)) dL_law_753 ?_
  refine v_callV (As := [_, _]) (n := 2) C (rt_X10_clash l m0 ad _ _ _) rfl hI.2.1.1 (by decide) rfl ⟨wd614, wd615, wd616, wd5, wd617⟩ ⟨rfl, hy_X10_clash⟩ rfl ⟨Nat.le_of_ble_eq_true rfl, Nat.le_of_ble_eq_true rfl⟩ (Nat.le_of_ble_eq_true rfl) ⟨(by show 1000 + 20 * i + _ ≤ 600000; omega), (by show 100000 + 1000 * i + _ ≤ 7302250; omega)⟩ dL_law_754 ⟨rfl, hI.2.1, hI.2.2.1⟩ (fun r_754 S754 h_754 => ?_)
  obtain ⟨v754, rfl, p_v754, q_v754⟩ := h_754
  obtain rfl := q_v754.symm
  refine v_pop C dL_law_757 rfl ?_
  refine v_goto (tgt := 1207) C dL_law_758 (by decide) ?_
  refine V.widen (c2 := 1000 + 20 * i + 100) (s2 := 100000 + 1000 * i + 5000) (by omega) (by omega) ?_
  exact hend _ _ hI
theorem dL_law_761 : decode cL_law 761 = .ok (.aload_n 1, 1) := by decide +kernel
theorem dL_law_762 : decode cL_law 762 = .ok (.aload_n 0, 1) := by decide +kernel
theorem dL_law_763 : decode cL_law 763 = .ok (.iload_n 3, 1) := by decide +kernel
theorem dL_law_764 : decode cL_law 764 = .ok (.iconst 1, 1) := by decide +kernel
theorem dL_law_765 : decode cL_law 765 = .ok (.iadd, 1) := by decide +kernel
theorem dL_law_766 : decode cL_law 766 = .ok (.iaload, 1) := by decide +kernel
theorem dL_law_767 : decode cL_law 767 = .ok (.aload_n 0, 1) := by decide +kernel
theorem dL_law_768 : decode cL_law 768 = .ok (.iload_n 3, 1) := by decide +kernel
theorem dL_law_769 : decode cL_law 769 = .ok (.iconst 2, 1) := by decide +kernel
theorem dL_law_770 : decode cL_law 770 = .ok (.iadd, 1) := by decide +kernel
theorem dL_law_771 : decode cL_law 771 = .ok (.iaload, 1) := by decide +kernel
theorem dL_law_772 : decode cL_law 772 = .ok (.aload_n 0, 1) := by decide +kernel
theorem dL_law_773 : decode cL_law 773 = .ok (.iload_n 3, 1) := by decide +kernel
theorem dL_law_774 : decode cL_law 774 = .ok (.iconst 3, 1) := by decide +kernel
theorem dL_law_775 : decode cL_law 775 = .ok (.iadd, 1) := by decide +kernel
theorem dL_law_776 : decode cL_law 776 = .ok (.iaload, 1) := by decide +kernel
theorem dL_law_777 : decode cL_law 777 = .ok (.invokevirtual 77, 3) := by decide +kernel
theorem dL_law_780 : decode cL_law 780 = .ok (.pop, 1) := by decide +kernel
theorem dL_law_781 : decode cL_law 781 = .ok (.aload_n 2, 1) := by decide +kernel
theorem dL_law_782 : decode cL_law 782 = .ok (.aload_n 0, 1) := by decide +kernel
theorem dL_law_783 : decode cL_law 783 = .ok (.iload_n 3, 1) := by decide +kernel
theorem dL_law_784 : decode cL_law 784 = .ok (.iconst 1, 1) := by decide +kernel
theorem dL_law_785 : decode cL_law 785 = .ok (.iadd, 1) := by decide +kernel
theorem dL_law_786 : decode cL_law 786 = .ok (.iaload, 1) := by decide +kernel
theorem dL_law_787 : decode cL_law 787 = .ok (.aload_n 0, 1) := by decide +kernel
theorem dL_law_788 : decode cL_law 788 = .ok (.iload_n 3, 1) := by decide +kernel
theorem dL_law_789 : decode cL_law 789 = .ok (.iconst 2, 1) := by decide +kernel
theorem dL_law_790 : decode cL_law 790 = .ok (.iadd, 1) := by decide +kernel
theorem dL_law_791 : decode cL_law 791 = .ok (.iaload, 1) := by decide +kernel
theorem dL_law_792 : decode cL_law 792 = .ok (.aload_n 0, 1) := by decide +kernel
theorem dL_law_793 : decode cL_law 793 = .ok (.iload_n 3, 1) := by decide +kernel
theorem dL_law_794 : decode cL_law 794 = .ok (.iconst 3, 1) := by decide +kernel
theorem dL_law_795 : decode cL_law 795 = .ok (.iadd, 1) := by decide +kernel
theorem dL_law_796 : decode cL_law 796 = .ok (.iaload, 1) := by decide +kernel
theorem dL_law_797 : decode cL_law 797 = .ok (.invokevirtual 80, 3) := by decide +kernel
theorem dL_law_800 : decode cL_law 800 = .ok (.pop, 1) := by decide +kernel
theorem dL_law_801 : decode cL_law 801 = .ok (.goto 406, 3) := by decide +kernel
set_option maxRecDepth 100000 in
set_option maxHeartbeats 4000000 in
theorem law_c15 {p : Program} {l : Launch} {e : Env} {s : State} {m : MethodId} {below : List Frame} {meth : Method} {c : Code} {D : va_G} {G : Nat → ClassId} {bs : Nat} {Q : State → Prop} {b : Nat} {xs : Nat → Int32} {L i x m0 : Nat} {ad : Nat → Nat} {S : Mem} {K : RS} (C : Cx p s m #[Value.ref b] meth c D G bs code 4 RL) (hX : va_X b L xs s s.heap) (hbl : b < s.heap.size) (hbA : ¬ bs ≤ b) (hL : L ≤ 2560) (hi : i + 5 ≤ L) (hI : lawI S x m0 ad K) (hend : ∀ (S' : Mem) (K' : RS), lawI S' x m0 ad K' → V p l e room_1 s m #[Value.ref b] below meth c D G bs 4 Q (1000 + 20 * i + 100) (100000 + 1000 * i + 5000) S' 1207 [some (.ref b), some (.ref x), some (.ref m0), some (.int (nI i))] []) : V p l e room_1 s m #[Value.ref b] below meth c D G bs 4 Q (1000 + 20 * i) (100000 + 1000 * i) S 761 [some (.ref b), some (.ref x), some (.ref m0), some (.int (nI i))] [] := by
  refine v_aload_n C dL_law_761 rfl ?_
  refine v_aload_n C dL_law_762 rfl ?_
  refine v_iload_n C dL_law_763 rfl ?_
  refine v_iconst (v := nI 1) C dL_law_764 (by decide) ?_
  refine n_iadd C dL_law_765 ?_
  refine v_sld C hX hbl hbA (vp_in_nI (by omega) (by omega)) dL_law_766 ?_
  refine v_aload_n C dL_law_767 rfl ?_
  refine v_iload_n C dL_law_768 rfl ?_
  refine v_iconst (v := nI 2) C dL_law_769 (by decide) ?_
  refine n_iadd C dL_law_770 ?_
  refine v_sld C hX hbl hbA (vp_in_nI (by omega) (by omega)) dL_law_771 ?_
  refine v_aload_n C dL_law_772 rfl ?_
  refine v_iload_n C dL_law_773 rfl ?_
  refine v_iconst (v := nI 3) C dL_law_774 (by decide) ?_
  refine n_iadd C dL_law_775 ?_
  refine v_sld C hX hbl hbA (vp_in_nI (by omega) (by omega)) dL_law_776 ?_
  have ix := hI.2.2.2.choose_spec.choose_spec.1.1
  refine v_callV (As := [_, _, _]) (n := 3) C (st_X9_about l (mX m0 ad) x _ _ _) rfl ix (by decide) rfl ⟨wd630, wd631, wd632, wd2, wd633⟩ ⟨rfl, hy_X9_about⟩ rfl ⟨Nat.le_of_ble_eq_true rfl, Nat.le_of_ble_eq_true rfl⟩ (Nat.le_of_ble_eq_true rfl) ⟨(by show 1000 + 20 * i + _ ≤ 600000; omega), (by show 100000 + 1000 * i + _ ≤ 7302250; omega)⟩ dL_law_777 ⟨rfl, hI.1, ix⟩ (fun r_777 S777 h_777 => ?_)
  obtain ⟨v777, rfl, iv_777, x_777⟩ := h_777
  have hI := lawI_q hI iv_777 x_777 (by decide)
  refine v_pop C dL_law_780 rfl ?_
  refine v_aload_n C dL_law_781 rfl ?_
  refine v_aload_n C dL_law_782 rfl ?_
  refine v_iload_n C dL_law_783 rfl ?_
  refine v_iconst (v := nI 1) C dL_law_784 (by decide) ?_
  refine n_iadd C dL_law_785 ?_
  refine v_sld C hX hbl hbA (vp_in_nI (by omega) (by omega)) dL_law_786 ?_
  refine v_aload_n C dL_law_787 rfl ?_
  refine v_iload_n C dL_law_788 rfl ?_
  refine v_iconst (v := nI 2) C dL_law_789 (by decide) ?_
  refine n_iadd C dL_law_790 ?_
  refine v_sld C hX hbl hbA (vp_in_nI (by omega) (by omega)) dL_law_791 ?_
  refine v_aload_n C dL_law_792 rfl ?_
  refine v_iload_n C dL_law_793 rfl ?_
  refine v_iconst (v := nI 3) C dL_law_794 (by decide) ?_
  refine n_iadd C dL_law_795 ?_
  refine v_sld C hX hbl hbA (vp_in_nI (by omega) (by omega)) dL_law_796 ?_
  refine v_callV (As := [_, _, _]) (n := 3) C (rt_X10_about l m0 ad _ _ _ _) rfl hI.2.1.1 (by decide) rfl ⟨wd656, wd657, wd658, wd5, wd659⟩ ⟨rfl, hy_X10_about⟩ rfl ⟨Nat.le_of_ble_eq_true rfl, Nat.le_of_ble_eq_true rfl⟩ (Nat.le_of_ble_eq_true rfl) ⟨(by show 1000 + 20 * i + _ ≤ 600000; omega), (by show 100000 + 1000 * i + _ ≤ 7302250; omega)⟩ dL_law_797 ⟨rfl, hI.2.1, hI.2.2.1⟩ (fun r_797 S797 h_797 => ?_)
  obtain ⟨v797, rfl, p_v797, q_v797⟩ := h_797
  obtain rfl := q_v797.symm
  refine v_pop C dL_law_800 rfl ?_
  refine v_goto (tgt := 1207) C dL_law_801 (by decide) ?_
  refine V.widen (c2 := 1000 + 20 * i + 100) (s2 := 100000 + 1000 * i + 5000) (by omega) (by omega) ?_
  exact hend _ _ hI
theorem dL_law_804 : decode cL_law 804 = .ok (.aload_n 1, 1) := by decide +kernel
theorem dL_law_805 : decode cL_law 805 = .ok (.aload_n 0, 1) := by decide +kernel
theorem dL_law_806 : decode cL_law 806 = .ok (.iload_n 3, 1) := by decide +kernel
theorem dL_law_807 : decode cL_law 807 = .ok (.iconst 1, 1) := by decide +kernel
theorem dL_law_808 : decode cL_law 808 = .ok (.iadd, 1) := by decide +kernel
theorem dL_law_809 : decode cL_law 809 = .ok (.iaload, 1) := by decide +kernel
theorem dL_law_810 : decode cL_law 810 = .ok (.aload_n 0, 1) := by decide +kernel
theorem dL_law_811 : decode cL_law 811 = .ok (.iload_n 3, 1) := by decide +kernel
theorem dL_law_812 : decode cL_law 812 = .ok (.iconst 2, 1) := by decide +kernel
theorem dL_law_813 : decode cL_law 813 = .ok (.iadd, 1) := by decide +kernel
theorem dL_law_814 : decode cL_law 814 = .ok (.iaload, 1) := by decide +kernel
theorem dL_law_815 : decode cL_law 815 = .ok (.aload_n 0, 1) := by decide +kernel
theorem dL_law_816 : decode cL_law 816 = .ok (.iload_n 3, 1) := by decide +kernel
theorem dL_law_817 : decode cL_law 817 = .ok (.iconst 3, 1) := by decide +kernel
theorem dL_law_818 : decode cL_law 818 = .ok (.iadd, 1) := by decide +kernel
theorem dL_law_819 : decode cL_law 819 = .ok (.iaload, 1) := by decide +kernel
theorem dL_law_820 : decode cL_law 820 = .ok (.invokevirtual 81, 3) := by decide +kernel
theorem dL_law_823 : decode cL_law 823 = .ok (.pop, 1) := by decide +kernel
theorem dL_law_824 : decode cL_law 824 = .ok (.aload_n 2, 1) := by decide +kernel
theorem dL_law_825 : decode cL_law 825 = .ok (.aload_n 0, 1) := by decide +kernel
theorem dL_law_826 : decode cL_law 826 = .ok (.iload_n 3, 1) := by decide +kernel
theorem dL_law_827 : decode cL_law 827 = .ok (.iconst 1, 1) := by decide +kernel
theorem dL_law_828 : decode cL_law 828 = .ok (.iadd, 1) := by decide +kernel
theorem dL_law_829 : decode cL_law 829 = .ok (.iaload, 1) := by decide +kernel
theorem dL_law_830 : decode cL_law 830 = .ok (.aload_n 0, 1) := by decide +kernel
theorem dL_law_831 : decode cL_law 831 = .ok (.iload_n 3, 1) := by decide +kernel
theorem dL_law_832 : decode cL_law 832 = .ok (.iconst 2, 1) := by decide +kernel
theorem dL_law_833 : decode cL_law 833 = .ok (.iadd, 1) := by decide +kernel
theorem dL_law_834 : decode cL_law 834 = .ok (.iaload, 1) := by decide +kernel
theorem dL_law_835 : decode cL_law 835 = .ok (.aload_n 0, 1) := by decide +kernel
theorem dL_law_836 : decode cL_law 836 = .ok (.iload_n 3, 1) := by decide +kernel
theorem dL_law_837 : decode cL_law 837 = .ok (.iconst 3, 1) := by decide +kernel
theorem dL_law_838 : decode cL_law 838 = .ok (.iadd, 1) := by decide +kernel
theorem dL_law_839 : decode cL_law 839 = .ok (.iaload, 1) := by decide +kernel
theorem dL_law_840 : decode cL_law 840 = .ok (.invokevirtual 84, 3) := by decide +kernel
theorem dL_law_843 : decode cL_law 843 = .ok (.pop, 1) := by decide +kernel
theorem dL_law_844 : decode cL_law 844 = .ok (.goto 363, 3) := by decide +kernel
set_option maxRecDepth 100000 in
set_option maxHeartbeats 4000000 in
theorem law_c16 {p : Program} {l : Launch} {e : Env} {s : State} {m : MethodId} {below : List Frame} {meth : Method} {c : Code} {D : va_G} {G : Nat → ClassId} {bs : Nat} {Q : State → Prop} {b : Nat} {xs : Nat → Int32} {L i x m0 : Nat} {ad : Nat → Nat} {S : Mem} {K : RS} (C : Cx p s m #[Value.ref b] meth c D G bs code 4 RL) (hX : va_X b L xs s s.heap) (hbl : b < s.heap.size) (hbA : ¬ bs ≤ b) (hL : L ≤ 2560) (hi : i + 5 ≤ L) (hI : lawI S x m0 ad K) (hend : ∀ (S' : Mem) (K' : RS), lawI S' x m0 ad K' → V p l e room_1 s m #[Value.ref b] below meth c D G bs 4 Q (1000 + 20 * i + 100) (100000 + 1000 * i + 5000) S' 1207 [some (.ref b), some (.ref x), some (.ref m0), some (.int (nI i))] []) : V p l e room_1 s m #[Value.ref b] below meth c D G bs 4 Q (1000 + 20 * i) (100000 + 1000 * i) S 804 [some (.ref b), some (.ref x), some (.ref m0), some (.int (nI i))] [] := by
  refine v_aload_n C dL_law_804 rfl ?_
  refine v_aload_n C dL_law_805 rfl ?_
  refine v_iload_n C dL_law_806 rfl ?_
  refine v_iconst (v := nI 1) C dL_law_807 (by decide) ?_
  refine n_iadd C dL_law_808 ?_
  refine v_sld C hX hbl hbA (vp_in_nI (by omega) (by omega)) dL_law_809 ?_
  refine v_aload_n C dL_law_810 rfl ?_
  refine v_iload_n C dL_law_811 rfl ?_
  refine v_iconst (v := nI 2) C dL_law_812 (by decide) ?_
  refine n_iadd C dL_law_813 ?_
  refine v_sld C hX hbl hbA (vp_in_nI (by omega) (by omega)) dL_law_814 ?_
  refine v_aload_n C dL_law_815 rfl ?_
  refine v_iload_n C dL_law_816 rfl ?_
  refine v_iconst (v := nI 3) C dL_law_817 (by decide) ?_
  refine n_iadd C dL_law_818 ?_
  refine v_sld C hX hbl hbA (vp_in_nI (by omega) (by omega)) dL_law_819 ?_
  have ix := hI.2.2.2.choose_spec.choose_spec.1.1
  refine v_callV (As := [_, _, _]) (n := 3) C (st_X9_above l (mX m0 ad) x _ _ _) rfl ix (by decide) rfl ⟨wd672, wd673, wd674, wd2, wd675⟩ ⟨rfl, hy_X9_above⟩ rfl ⟨Nat.le_of_ble_eq_true rfl, Nat.le_of_ble_eq_true rfl⟩ (Nat.le_of_ble_eq_true rfl) ⟨(by show 1000 + 20 * i + _ ≤ 600000; omega), (by show 100000 + 1000 * i + _ ≤ 7302250; omega)⟩ dL_law_820 ⟨rfl, hI.1, ix⟩ (fun r_820 S820 h_820 => ?_)
  obtain ⟨v820, rfl, iv_820, x_820⟩ := h_820
  have hI := lawI_q hI iv_820 x_820 (by decide)
  refine v_pop C dL_law_823 rfl ?_
  refine v_aload_n C dL_law_824 rfl ?_
  refine v_aload_n C dL_law_825 rfl ?_
  refine v_iload_n C dL_law_826 rfl ?_
  refine v_iconst (v := nI 1) C dL_law_827 (by decide) ?_
  refine n_iadd C dL_law_828 ?_
  refine v_sld C hX hbl hbA (vp_in_nI (by omega) (by omega)) dL_law_829 ?_
  refine v_aload_n C dL_law_830 rfl ?_
  refine v_iload_n C dL_law_831 rfl ?_
  refine v_iconst (v := nI 2) C dL_law_832 (by decide) ?_
  refine n_iadd C dL_law_833 ?_
  refine v_sld C hX hbl hbA (vp_in_nI (by omega) (by omega)) dL_law_834 ?_
  refine v_aload_n C dL_law_835 rfl ?_
  refine v_iload_n C dL_law_836 rfl ?_
  refine v_iconst (v := nI 3) C dL_law_837 (by decide) ?_
  refine n_iadd C dL_law_838 ?_
  refine v_sld C hX hbl hbA (vp_in_nI (by omega) (by omega)) dL_law_839 ?_
  refine v_callV (As := [_, _, _]) (n := 3) C (rt_X10_above l m0 ad _ _ _ _) rfl hI.2.1.1 (by decide) rfl ⟨wd687, wd688, wd689, wd5, wd690⟩ ⟨rfl, hy_X10_above⟩ rfl ⟨Nat.le_of_ble_eq_true rfl, Nat.le_of_ble_eq_true rfl⟩ (Nat.le_of_ble_eq_true rfl) ⟨(by show 1000 + 20 * i + _ ≤ 600000; omega), (by show 100000 + 1000 * i + _ ≤ 7302250; omega)⟩ dL_law_840 ⟨rfl, hI.2.1, hI.2.2.1⟩ (fun r_840 S840 h_840 => ?_)
  obtain ⟨v840, rfl, p_v840, q_v840⟩ := h_840
  obtain rfl := q_v840.symm
  refine v_pop C dL_law_843 rfl ?_
  refine v_goto (tgt := 1207) C dL_law_844 (by decide) ?_
  refine V.widen (c2 := 1000 + 20 * i + 100) (s2 := 100000 + 1000 * i + 5000) (by omega) (by omega) ?_
  exact hend _ _ hI
theorem dL_law_847 : decode cL_law 847 = .ok (.aload_n 1, 1) := by decide +kernel
theorem dL_law_848 : decode cL_law 848 = .ok (.aload_n 0, 1) := by decide +kernel
theorem dL_law_849 : decode cL_law 849 = .ok (.iload_n 3, 1) := by decide +kernel
theorem dL_law_850 : decode cL_law 850 = .ok (.iconst 1, 1) := by decide +kernel
theorem dL_law_851 : decode cL_law 851 = .ok (.iadd, 1) := by decide +kernel
theorem dL_law_852 : decode cL_law 852 = .ok (.iaload, 1) := by decide +kernel
theorem dL_law_853 : decode cL_law 853 = .ok (.aload_n 0, 1) := by decide +kernel
theorem dL_law_854 : decode cL_law 854 = .ok (.iload_n 3, 1) := by decide +kernel
theorem dL_law_855 : decode cL_law 855 = .ok (.iconst 2, 1) := by decide +kernel
theorem dL_law_856 : decode cL_law 856 = .ok (.iadd, 1) := by decide +kernel
theorem dL_law_857 : decode cL_law 857 = .ok (.iaload, 1) := by decide +kernel
theorem dL_law_858 : decode cL_law 858 = .ok (.aload_n 0, 1) := by decide +kernel
theorem dL_law_859 : decode cL_law 859 = .ok (.iload_n 3, 1) := by decide +kernel
theorem dL_law_860 : decode cL_law 860 = .ok (.iconst 3, 1) := by decide +kernel
theorem dL_law_861 : decode cL_law 861 = .ok (.iadd, 1) := by decide +kernel
theorem dL_law_862 : decode cL_law 862 = .ok (.iaload, 1) := by decide +kernel
theorem dL_law_863 : decode cL_law 863 = .ok (.invokevirtual 85, 3) := by decide +kernel
theorem dL_law_866 : decode cL_law 866 = .ok (.pop, 1) := by decide +kernel
theorem dL_law_867 : decode cL_law 867 = .ok (.aload_n 2, 1) := by decide +kernel
theorem dL_law_868 : decode cL_law 868 = .ok (.aload_n 0, 1) := by decide +kernel
theorem dL_law_869 : decode cL_law 869 = .ok (.iload_n 3, 1) := by decide +kernel
theorem dL_law_870 : decode cL_law 870 = .ok (.iconst 1, 1) := by decide +kernel
theorem dL_law_871 : decode cL_law 871 = .ok (.iadd, 1) := by decide +kernel
theorem dL_law_872 : decode cL_law 872 = .ok (.iaload, 1) := by decide +kernel
theorem dL_law_873 : decode cL_law 873 = .ok (.aload_n 0, 1) := by decide +kernel
theorem dL_law_874 : decode cL_law 874 = .ok (.iload_n 3, 1) := by decide +kernel
theorem dL_law_875 : decode cL_law 875 = .ok (.iconst 2, 1) := by decide +kernel
theorem dL_law_876 : decode cL_law 876 = .ok (.iadd, 1) := by decide +kernel
theorem dL_law_877 : decode cL_law 877 = .ok (.iaload, 1) := by decide +kernel
theorem dL_law_878 : decode cL_law 878 = .ok (.aload_n 0, 1) := by decide +kernel
theorem dL_law_879 : decode cL_law 879 = .ok (.iload_n 3, 1) := by decide +kernel
theorem dL_law_880 : decode cL_law 880 = .ok (.iconst 3, 1) := by decide +kernel
theorem dL_law_881 : decode cL_law 881 = .ok (.iadd, 1) := by decide +kernel
theorem dL_law_882 : decode cL_law 882 = .ok (.iaload, 1) := by decide +kernel
theorem dL_law_883 : decode cL_law 883 = .ok (.invokevirtual 88, 3) := by decide +kernel
theorem dL_law_886 : decode cL_law 886 = .ok (.pop, 1) := by decide +kernel
theorem dL_law_887 : decode cL_law 887 = .ok (.goto 320, 3) := by decide +kernel
set_option maxRecDepth 100000 in
set_option maxHeartbeats 4000000 in
theorem law_c17 {p : Program} {l : Launch} {e : Env} {s : State} {m : MethodId} {below : List Frame} {meth : Method} {c : Code} {D : va_G} {G : Nat → ClassId} {bs : Nat} {Q : State → Prop} {b : Nat} {xs : Nat → Int32} {L i x m0 : Nat} {ad : Nat → Nat} {S : Mem} {K : RS} (C : Cx p s m #[Value.ref b] meth c D G bs code 4 RL) (hX : va_X b L xs s s.heap) (hbl : b < s.heap.size) (hbA : ¬ bs ≤ b) (hL : L ≤ 2560) (hi : i + 5 ≤ L) (hI : lawI S x m0 ad K) (hend : ∀ (S' : Mem) (K' : RS), lawI S' x m0 ad K' → V p l e room_1 s m #[Value.ref b] below meth c D G bs 4 Q (1000 + 20 * i + 100) (100000 + 1000 * i + 5000) S' 1207 [some (.ref b), some (.ref x), some (.ref m0), some (.int (nI i))] []) : V p l e room_1 s m #[Value.ref b] below meth c D G bs 4 Q (1000 + 20 * i) (100000 + 1000 * i) S 847 [some (.ref b), some (.ref x), some (.ref m0), some (.int (nI i))] [] := by
  refine v_aload_n C dL_law_847 rfl ?_
  refine v_aload_n C dL_law_848 rfl ?_
  refine v_iload_n C dL_law_849 rfl ?_
  refine v_iconst (v := nI 1) C dL_law_850 (by decide) ?_
  refine n_iadd C dL_law_851 ?_
  refine v_sld C hX hbl hbA (vp_in_nI (by omega) (by omega)) dL_law_852 ?_
  refine v_aload_n C dL_law_853 rfl ?_
  refine v_iload_n C dL_law_854 rfl ?_
  refine v_iconst (v := nI 2) C dL_law_855 (by decide) ?_
  refine n_iadd C dL_law_856 ?_
  refine v_sld C hX hbl hbA (vp_in_nI (by omega) (by omega)) dL_law_857 ?_
  refine v_aload_n C dL_law_858 rfl ?_
  refine v_iload_n C dL_law_859 rfl ?_
  refine v_iconst (v := nI 3) C dL_law_860 (by decide) ?_
  refine n_iadd C dL_law_861 ?_
  refine v_sld C hX hbl hbA (vp_in_nI (by omega) (by omega)) dL_law_862 ?_
  have ix := hI.2.2.2.choose_spec.choose_spec.1.1
  refine v_callV (As := [_, _, _]) (n := 3) C (st_X9_guards l (mX m0 ad) x _ _ _) rfl ix (by decide) rfl ⟨wd691, wd692, wd693, wd2, wd694⟩ ⟨rfl, hy_X9_guards⟩ rfl ⟨Nat.le_of_ble_eq_true rfl, Nat.le_of_ble_eq_true rfl⟩ (Nat.le_of_ble_eq_true rfl) ⟨(by show 1000 + 20 * i + _ ≤ 600000; omega), (by show 100000 + 1000 * i + _ ≤ 7302250; omega)⟩ dL_law_863 ⟨rfl, hI.1, ix⟩ (fun r_863 S863 h_863 => ?_)
  obtain ⟨v863, rfl, q_v863⟩ := h_863
  obtain rfl := q_v863.symm
  refine v_pop C dL_law_866 rfl ?_
  refine v_aload_n C dL_law_867 rfl ?_
  refine v_aload_n C dL_law_868 rfl ?_
  refine v_iload_n C dL_law_869 rfl ?_
  refine v_iconst (v := nI 1) C dL_law_870 (by decide) ?_
  refine n_iadd C dL_law_871 ?_
  refine v_sld C hX hbl hbA (vp_in_nI (by omega) (by omega)) dL_law_872 ?_
  refine v_aload_n C dL_law_873 rfl ?_
  refine v_iload_n C dL_law_874 rfl ?_
  refine v_iconst (v := nI 2) C dL_law_875 (by decide) ?_
  refine n_iadd C dL_law_876 ?_
  refine v_sld C hX hbl hbA (vp_in_nI (by omega) (by omega)) dL_law_877 ?_
  refine v_aload_n C dL_law_878 rfl ?_
  refine v_iload_n C dL_law_879 rfl ?_
  refine v_iconst (v := nI 3) C dL_law_880 (by decide) ?_
  refine n_iadd C dL_law_881 ?_
  refine v_sld C hX hbl hbA (vp_in_nI (by omega) (by omega)) dL_law_882 ?_
  refine v_callV (As := [_, _, _]) (n := 3) C (rt_X10_guards l m0 ad _ _ _ _) rfl hI.2.1.1 (by decide) rfl ⟨wd699, wd700, wd701, wd5, wd702⟩ ⟨rfl, hy_X10_guards⟩ rfl ⟨Nat.le_of_ble_eq_true rfl, Nat.le_of_ble_eq_true rfl⟩ (Nat.le_of_ble_eq_true rfl) ⟨(by show 1000 + 20 * i + _ ≤ 600000; omega), (by show 100000 + 1000 * i + _ ≤ 7302250; omega)⟩ dL_law_883 ⟨rfl, hI.2.1, hI.2.2.1⟩ (fun r_883 S883 h_883 => ?_)
  obtain ⟨v883, rfl, p_v883, q_v883⟩ := h_883
  obtain rfl := q_v883.symm
  refine v_pop C dL_law_886 rfl ?_
  refine v_goto (tgt := 1207) C dL_law_887 (by decide) ?_
  refine V.widen (c2 := 1000 + 20 * i + 100) (s2 := 100000 + 1000 * i + 5000) (by omega) (by omega) ?_
  exact hend _ _ hI
theorem dL_law_890 : decode cL_law 890 = .ok (.aload_n 1, 1) := by decide +kernel
theorem dL_law_891 : decode cL_law 891 = .ok (.aload_n 0, 1) := by decide +kernel
theorem dL_law_892 : decode cL_law 892 = .ok (.iload_n 3, 1) := by decide +kernel
theorem dL_law_893 : decode cL_law 893 = .ok (.iconst 1, 1) := by decide +kernel
theorem dL_law_894 : decode cL_law 894 = .ok (.iadd, 1) := by decide +kernel
theorem dL_law_895 : decode cL_law 895 = .ok (.iaload, 1) := by decide +kernel
theorem dL_law_896 : decode cL_law 896 = .ok (.aload_n 0, 1) := by decide +kernel
theorem dL_law_897 : decode cL_law 897 = .ok (.iload_n 3, 1) := by decide +kernel
theorem dL_law_898 : decode cL_law 898 = .ok (.iconst 2, 1) := by decide +kernel
theorem dL_law_899 : decode cL_law 899 = .ok (.iadd, 1) := by decide +kernel
theorem dL_law_900 : decode cL_law 900 = .ok (.iaload, 1) := by decide +kernel
theorem dL_law_901 : decode cL_law 901 = .ok (.invokevirtual 89, 3) := by decide +kernel
theorem dL_law_904 : decode cL_law 904 = .ok (.pop, 1) := by decide +kernel
theorem dL_law_905 : decode cL_law 905 = .ok (.aload_n 2, 1) := by decide +kernel
theorem dL_law_906 : decode cL_law 906 = .ok (.aload_n 0, 1) := by decide +kernel
theorem dL_law_907 : decode cL_law 907 = .ok (.iload_n 3, 1) := by decide +kernel
theorem dL_law_908 : decode cL_law 908 = .ok (.iconst 1, 1) := by decide +kernel
theorem dL_law_909 : decode cL_law 909 = .ok (.iadd, 1) := by decide +kernel
theorem dL_law_910 : decode cL_law 910 = .ok (.iaload, 1) := by decide +kernel
theorem dL_law_911 : decode cL_law 911 = .ok (.aload_n 0, 1) := by decide +kernel
theorem dL_law_912 : decode cL_law 912 = .ok (.iload_n 3, 1) := by decide +kernel
theorem dL_law_913 : decode cL_law 913 = .ok (.iconst 2, 1) := by decide +kernel
theorem dL_law_914 : decode cL_law 914 = .ok (.iadd, 1) := by decide +kernel
theorem dL_law_915 : decode cL_law 915 = .ok (.iaload, 1) := by decide +kernel
theorem dL_law_916 : decode cL_law 916 = .ok (.invokevirtual 92, 3) := by decide +kernel
theorem dL_law_919 : decode cL_law 919 = .ok (.pop, 1) := by decide +kernel
theorem dL_law_920 : decode cL_law 920 = .ok (.goto 287, 3) := by decide +kernel
set_option maxRecDepth 100000 in
set_option maxHeartbeats 4000000 in
theorem law_c18 {p : Program} {l : Launch} {e : Env} {s : State} {m : MethodId} {below : List Frame} {meth : Method} {c : Code} {D : va_G} {G : Nat → ClassId} {bs : Nat} {Q : State → Prop} {b : Nat} {xs : Nat → Int32} {L i x m0 : Nat} {ad : Nat → Nat} {S : Mem} {K : RS} (C : Cx p s m #[Value.ref b] meth c D G bs code 4 RL) (hX : va_X b L xs s s.heap) (hbl : b < s.heap.size) (hbA : ¬ bs ≤ b) (hL : L ≤ 2560) (hi : i + 5 ≤ L) (hI : lawI S x m0 ad K) (hend : ∀ (S' : Mem) (K' : RS), lawI S' x m0 ad K' → V p l e room_1 s m #[Value.ref b] below meth c D G bs 4 Q (1000 + 20 * i + 100) (100000 + 1000 * i + 5000) S' 1207 [some (.ref b), some (.ref x), some (.ref m0), some (.int (nI i))] []) : V p l e room_1 s m #[Value.ref b] below meth c D G bs 4 Q (1000 + 20 * i) (100000 + 1000 * i) S 890 [some (.ref b), some (.ref x), some (.ref m0), some (.int (nI i))] [] := by
  refine v_aload_n C dL_law_890 rfl ?_
  refine v_aload_n C dL_law_891 rfl ?_
  refine v_iload_n C dL_law_892 rfl ?_
  refine v_iconst (v := nI 1) C dL_law_893 (by decide) ?_
  refine n_iadd C dL_law_894 ?_
  refine v_sld C hX hbl hbA (vp_in_nI (by omega) (by omega)) dL_law_895 ?_
  refine v_aload_n C dL_law_896 rfl ?_
  refine v_iload_n C dL_law_897 rfl ?_
  refine v_iconst (v := nI 2) C dL_law_898 (by decide) ?_
  refine n_iadd C dL_law_899 ?_
  refine v_sld C hX hbl hbA (vp_in_nI (by omega) (by omega)) dL_law_900 ?_
  have ix := hI.2.2.2.choose_spec.choose_spec.1.1
  refine v_callV (As := [_, _]) (n := 2) C (st_X9_isA l (mX m0 ad) x _ _) rfl ix (by decide) rfl ⟨wd703, wd704, wd705, wd2, wd706⟩ ⟨rfl, hy_X9_isA⟩ rfl ⟨Nat.le_of_ble_eq_true rfl, Nat.le_of_ble_eq_true rfl⟩ (Nat.le_of_ble_eq_true rfl) ⟨(by show 1000 + 20 * i + _ ≤ 600000; omega), (by show 100000 + 1000 * i + _ ≤ 7302250; omega)⟩ dL_law_901 ⟨rfl, hI.1, ix⟩ (fun r_901 S901 h_901 => ?_)
  obtain ⟨v901, rfl, q_v901⟩ := h_901
  obtain rfl := q_v901.symm
  refine v_pop C dL_law_904 rfl ?_
  refine v_aload_n C dL_law_905 rfl ?_
  refine v_aload_n C dL_law_906 rfl ?_
  refine v_iload_n C dL_law_907 rfl ?_
  refine v_iconst (v := nI 1) C dL_law_908 (by decide) ?_
  refine n_iadd C dL_law_909 ?_
  refine v_sld C hX hbl hbA (vp_in_nI (by omega) (by omega)) dL_law_910 ?_
  refine v_aload_n C dL_law_911 rfl ?_
  refine v_iload_n C dL_law_912 rfl ?_
  refine v_iconst (v := nI 2) C dL_law_913 (by decide) ?_
  refine n_iadd C dL_law_914 ?_
  refine v_sld C hX hbl hbA (vp_in_nI (by omega) (by omega)) dL_law_915 ?_
  refine v_callV (As := [_, _]) (n := 2) C (rt_X10_isA l m0 ad _ _ _) rfl hI.2.1.1 (by decide) rfl ⟨wd708, wd709, wd710, wd5, wd711⟩ ⟨rfl, hy_X10_isA⟩ rfl ⟨Nat.le_of_ble_eq_true rfl, Nat.le_of_ble_eq_true rfl⟩ (Nat.le_of_ble_eq_true rfl) ⟨(by show 1000 + 20 * i + _ ≤ 600000; omega), (by show 100000 + 1000 * i + _ ≤ 7302250; omega)⟩ dL_law_916 ⟨rfl, hI.2.1, hI.2.2.1⟩ (fun r_916 S916 h_916 => ?_)
  obtain ⟨v916, rfl, p_v916, q_v916⟩ := h_916
  obtain rfl := q_v916.symm
  refine v_pop C dL_law_919 rfl ?_
  refine v_goto (tgt := 1207) C dL_law_920 (by decide) ?_
  refine V.widen (c2 := 1000 + 20 * i + 100) (s2 := 100000 + 1000 * i + 5000) (by omega) (by omega) ?_
  exact hend _ _ hI
theorem dL_law_923 : decode cL_law 923 = .ok (.aload_n 1, 1) := by decide +kernel
theorem dL_law_924 : decode cL_law 924 = .ok (.aload_n 0, 1) := by decide +kernel
theorem dL_law_925 : decode cL_law 925 = .ok (.iload_n 3, 1) := by decide +kernel
theorem dL_law_926 : decode cL_law 926 = .ok (.iconst 1, 1) := by decide +kernel
theorem dL_law_927 : decode cL_law 927 = .ok (.iadd, 1) := by decide +kernel
theorem dL_law_928 : decode cL_law 928 = .ok (.iaload, 1) := by decide +kernel
theorem dL_law_929 : decode cL_law 929 = .ok (.aload_n 0, 1) := by decide +kernel
theorem dL_law_930 : decode cL_law 930 = .ok (.iload_n 3, 1) := by decide +kernel
theorem dL_law_931 : decode cL_law 931 = .ok (.iconst 2, 1) := by decide +kernel
theorem dL_law_932 : decode cL_law 932 = .ok (.iadd, 1) := by decide +kernel
theorem dL_law_933 : decode cL_law 933 = .ok (.iaload, 1) := by decide +kernel
theorem dL_law_934 : decode cL_law 934 = .ok (.aload_n 0, 1) := by decide +kernel
theorem dL_law_935 : decode cL_law 935 = .ok (.iload_n 3, 1) := by decide +kernel
theorem dL_law_936 : decode cL_law 936 = .ok (.iconst 3, 1) := by decide +kernel
theorem dL_law_937 : decode cL_law 937 = .ok (.iadd, 1) := by decide +kernel
theorem dL_law_938 : decode cL_law 938 = .ok (.iaload, 1) := by decide +kernel
theorem dL_law_939 : decode cL_law 939 = .ok (.i2l, 1) := by decide +kernel
theorem dL_law_940 : decode cL_law 940 = .ok (.bipush 32, 2) := by decide +kernel
theorem dL_law_942 : decode cL_law 942 = .ok (.lshl, 1) := by decide +kernel
theorem dL_law_943 : decode cL_law 943 = .ok (.aload_n 0, 1) := by decide +kernel
theorem dL_law_944 : decode cL_law 944 = .ok (.iload_n 3, 1) := by decide +kernel
theorem dL_law_945 : decode cL_law 945 = .ok (.iconst 4, 1) := by decide +kernel
theorem dL_law_946 : decode cL_law 946 = .ok (.iadd, 1) := by decide +kernel
theorem dL_law_947 : decode cL_law 947 = .ok (.iaload, 1) := by decide +kernel
theorem dL_law_948 : decode cL_law 948 = .ok (.i2l, 1) := by decide +kernel
theorem dL_law_949 : decode cL_law 949 = .ok (.ldc2_w 93, 3) := by decide +kernel
theorem dL_law_952 : decode cL_law 952 = .ok (.land, 1) := by decide +kernel
theorem dL_law_953 : decode cL_law 953 = .ok (.lor, 1) := by decide +kernel
theorem dL_law_954 : decode cL_law 954 = .ok (.invokevirtual 95, 3) := by decide +kernel
theorem dL_law_957 : decode cL_law 957 = .ok (.pop, 1) := by decide +kernel
theorem dL_law_958 : decode cL_law 958 = .ok (.aload_n 2, 1) := by decide +kernel
theorem dL_law_959 : decode cL_law 959 = .ok (.aload_n 0, 1) := by decide +kernel
theorem dL_law_960 : decode cL_law 960 = .ok (.iload_n 3, 1) := by decide +kernel
theorem dL_law_961 : decode cL_law 961 = .ok (.iconst 1, 1) := by decide +kernel
theorem dL_law_962 : decode cL_law 962 = .ok (.iadd, 1) := by decide +kernel
theorem dL_law_963 : decode cL_law 963 = .ok (.iaload, 1) := by decide +kernel
theorem dL_law_964 : decode cL_law 964 = .ok (.aload_n 0, 1) := by decide +kernel
theorem dL_law_965 : decode cL_law 965 = .ok (.iload_n 3, 1) := by decide +kernel
theorem dL_law_966 : decode cL_law 966 = .ok (.iconst 2, 1) := by decide +kernel
theorem dL_law_967 : decode cL_law 967 = .ok (.iadd, 1) := by decide +kernel
theorem dL_law_968 : decode cL_law 968 = .ok (.iaload, 1) := by decide +kernel
theorem dL_law_969 : decode cL_law 969 = .ok (.aload_n 0, 1) := by decide +kernel
theorem dL_law_970 : decode cL_law 970 = .ok (.iload_n 3, 1) := by decide +kernel
theorem dL_law_971 : decode cL_law 971 = .ok (.iconst 3, 1) := by decide +kernel
theorem dL_law_972 : decode cL_law 972 = .ok (.iadd, 1) := by decide +kernel
theorem dL_law_973 : decode cL_law 973 = .ok (.iaload, 1) := by decide +kernel
theorem dL_law_974 : decode cL_law 974 = .ok (.i2l, 1) := by decide +kernel
theorem dL_law_975 : decode cL_law 975 = .ok (.bipush 32, 2) := by decide +kernel
theorem dL_law_977 : decode cL_law 977 = .ok (.lshl, 1) := by decide +kernel
theorem dL_law_978 : decode cL_law 978 = .ok (.aload_n 0, 1) := by decide +kernel
theorem dL_law_979 : decode cL_law 979 = .ok (.iload_n 3, 1) := by decide +kernel
theorem dL_law_980 : decode cL_law 980 = .ok (.iconst 4, 1) := by decide +kernel
theorem dL_law_981 : decode cL_law 981 = .ok (.iadd, 1) := by decide +kernel
theorem dL_law_982 : decode cL_law 982 = .ok (.iaload, 1) := by decide +kernel
theorem dL_law_983 : decode cL_law 983 = .ok (.i2l, 1) := by decide +kernel
theorem dL_law_984 : decode cL_law 984 = .ok (.ldc2_w 93, 3) := by decide +kernel
theorem dL_law_987 : decode cL_law 987 = .ok (.land, 1) := by decide +kernel
theorem dL_law_988 : decode cL_law 988 = .ok (.lor, 1) := by decide +kernel
theorem dL_law_989 : decode cL_law 989 = .ok (.invokevirtual 99, 3) := by decide +kernel
theorem dL_law_992 : decode cL_law 992 = .ok (.pop, 1) := by decide +kernel
theorem dL_law_993 : decode cL_law 993 = .ok (.goto 214, 3) := by decide +kernel
set_option maxRecDepth 100000 in
set_option maxHeartbeats 4000000 in
theorem law_c19 {p : Program} {l : Launch} {e : Env} {s : State} {m : MethodId} {below : List Frame} {meth : Method} {c : Code} {D : va_G} {G : Nat → ClassId} {bs : Nat} {Q : State → Prop} {b : Nat} {xs : Nat → Int32} {L i x m0 : Nat} {ad : Nat → Nat} {S : Mem} {K : RS} (C : Cx p s m #[Value.ref b] meth c D G bs code 4 RL) (hX : va_X b L xs s s.heap) (hbl : b < s.heap.size) (hbA : ¬ bs ≤ b) (hL : L ≤ 2560) (hi : i + 5 ≤ L) (hI : lawI S x m0 ad K) (hend : ∀ (S' : Mem) (K' : RS), lawI S' x m0 ad K' → V p l e room_1 s m #[Value.ref b] below meth c D G bs 4 Q (1000 + 20 * i + 100) (100000 + 1000 * i + 5000) S' 1207 [some (.ref b), some (.ref x), some (.ref m0), some (.int (nI i))] []) : V p l e room_1 s m #[Value.ref b] below meth c D G bs 4 Q (1000 + 20 * i) (100000 + 1000 * i) S 923 [some (.ref b), some (.ref x), some (.ref m0), some (.int (nI i))] [] := by
  refine v_aload_n C dL_law_923 rfl ?_
  refine v_aload_n C dL_law_924 rfl ?_
  refine v_iload_n C dL_law_925 rfl ?_
  refine v_iconst (v := nI 1) C dL_law_926 (by decide) ?_
  refine n_iadd C dL_law_927 ?_
  refine v_sld C hX hbl hbA (vp_in_nI (by omega) (by omega)) dL_law_928 ?_
  refine v_aload_n C dL_law_929 rfl ?_
  refine v_iload_n C dL_law_930 rfl ?_
  refine v_iconst (v := nI 2) C dL_law_931 (by decide) ?_
  refine n_iadd C dL_law_932 ?_
  refine v_sld C hX hbl hbA (vp_in_nI (by omega) (by omega)) dL_law_933 ?_
  refine v_aload_n C dL_law_934 rfl ?_
  refine v_iload_n C dL_law_935 rfl ?_
  refine v_iconst (v := nI 3) C dL_law_936 (by decide) ?_
  refine n_iadd C dL_law_937 ?_
  refine v_sld C hX hbl hbA (vp_in_nI (by omega) (by omega)) dL_law_938 ?_
  refine v_i2l C dL_law_939 ?_
  refine v_bipush (v := nI 32) C dL_law_940 (by decide) ?_
  refine v_lshl C dL_law_942 ?_
  refine v_aload_n C dL_law_943 rfl ?_
  refine v_iload_n C dL_law_944 rfl ?_
  refine v_iconst (v := nI 4) C dL_law_945 (by decide) ?_
  refine n_iadd C dL_law_946 ?_
  refine v_sld C hX hbl hbA (vp_in_nI (by omega) (by omega)) dL_law_947 ?_
  refine v_i2l C dL_law_948 ?_
  refine v_ldc2 (v := (4294967295)) C wd6 dL_law_949 ?_
  refine v_land C dL_law_952 ?_
  refine v_lor C dL_law_953 ?_
  have ix := hI.2.2.2.choose_spec.choose_spec.1.1
  refine v_callV (As := [_, _, _]) (n := 3) C (st_X9_play l (mX m0 ad) x _ _ _) rfl ix (by decide) rfl ⟨wd712, wd713, wd714, wd2, wd715⟩ ⟨rfl, hy_X9_play⟩ rfl ⟨Nat.le_of_ble_eq_true rfl, Nat.le_of_ble_eq_true rfl⟩ (Nat.le_of_ble_eq_true rfl) ⟨(by show 1000 + 20 * i + _ ≤ 600000; omega), (by show 100000 + 1000 * i + _ ≤ 7302250; omega)⟩ dL_law_954 ⟨rfl, hI.1, ix⟩ (fun r_954 S954 h_954 => ?_)
  obtain ⟨v954, rfl, iv_954, x_954⟩ := h_954
  have hI := lawI_q hI iv_954 x_954 (by decide)
  refine v_pop C dL_law_957 rfl ?_
  refine v_aload_n C dL_law_958 rfl ?_
  refine v_aload_n C dL_law_959 rfl ?_
  refine v_iload_n C dL_law_960 rfl ?_
  refine v_iconst (v := nI 1) C dL_law_961 (by decide) ?_
  refine n_iadd C dL_law_962 ?_
  refine v_sld C hX hbl hbA (vp_in_nI (by omega) (by omega)) dL_law_963 ?_
  refine v_aload_n C dL_law_964 rfl ?_
  refine v_iload_n C dL_law_965 rfl ?_
  refine v_iconst (v := nI 2) C dL_law_966 (by decide) ?_
  refine n_iadd C dL_law_967 ?_
  refine v_sld C hX hbl hbA (vp_in_nI (by omega) (by omega)) dL_law_968 ?_
  refine v_aload_n C dL_law_969 rfl ?_
  refine v_iload_n C dL_law_970 rfl ?_
  refine v_iconst (v := nI 3) C dL_law_971 (by decide) ?_
  refine n_iadd C dL_law_972 ?_
  refine v_sld C hX hbl hbA (vp_in_nI (by omega) (by omega)) dL_law_973 ?_
  refine v_i2l C dL_law_974 ?_
  refine v_bipush (v := nI 32) C dL_law_975 (by decide) ?_
  refine v_lshl C dL_law_977 ?_
  refine v_aload_n C dL_law_978 rfl ?_
  refine v_iload_n C dL_law_979 rfl ?_
  refine v_iconst (v := nI 4) C dL_law_980 (by decide) ?_
  refine n_iadd C dL_law_981 ?_
  refine v_sld C hX hbl hbA (vp_in_nI (by omega) (by omega)) dL_law_982 ?_
  refine v_i2l C dL_law_983 ?_
  refine v_ldc2 (v := (4294967295)) C wd6 dL_law_984 ?_
  refine v_land C dL_law_987 ?_
  refine v_lor C dL_law_988 ?_
  refine v_callV (As := [_, _, _]) (n := 3) C (rt_X10_play l m0 ad _ _ _ _) rfl hI.2.1.1 (by decide) rfl ⟨wd822, wd823, wd824, wd5, wd825⟩ ⟨rfl, hy_X10_play⟩ rfl ⟨Nat.le_of_ble_eq_true rfl, Nat.le_of_ble_eq_true rfl⟩ (Nat.le_of_ble_eq_true rfl) ⟨(by show 1000 + 20 * i + _ ≤ 600000; omega), (by show 100000 + 1000 * i + _ ≤ 7302250; omega)⟩ dL_law_989 ⟨rfl, hI.2.1, hI.2.2.1⟩ (fun r_989 S989 h_989 => ?_)
  obtain ⟨v989, K989, rfl, hk_989, x_989, p_v989⟩ := h_989
  have hI := lawI_k hI hk_989 x_989 (RV_play hI.2.2.1 p_v989.1 p_v989.2) p_v989.1 (by decide) (by decide)
  refine v_pop C dL_law_992 rfl ?_
  refine v_goto (tgt := 1207) C dL_law_993 (by decide) ?_
  refine V.widen (c2 := 1000 + 20 * i + 100) (s2 := 100000 + 1000 * i + 5000) (by omega) (by omega) ?_
  exact hend _ _ hI
theorem dL_law_996 : decode cL_law 996 = .ok (.aload_n 1, 1) := by decide +kernel
theorem dL_law_997 : decode cL_law 997 = .ok (.aload_n 0, 1) := by decide +kernel
theorem dL_law_998 : decode cL_law 998 = .ok (.iload_n 3, 1) := by decide +kernel
theorem dL_law_999 : decode cL_law 999 = .ok (.iconst 1, 1) := by decide +kernel
theorem dL_law_1000 : decode cL_law 1000 = .ok (.iadd, 1) := by decide +kernel
theorem dL_law_1001 : decode cL_law 1001 = .ok (.iaload, 1) := by decide +kernel
theorem dL_law_1002 : decode cL_law 1002 = .ok (.invokevirtual 100, 3) := by decide +kernel
theorem dL_law_1005 : decode cL_law 1005 = .ok (.pop2, 1) := by decide +kernel
theorem dL_law_1006 : decode cL_law 1006 = .ok (.aload_n 2, 1) := by decide +kernel
theorem dL_law_1007 : decode cL_law 1007 = .ok (.aload_n 0, 1) := by decide +kernel
theorem dL_law_1008 : decode cL_law 1008 = .ok (.iload_n 3, 1) := by decide +kernel
theorem dL_law_1009 : decode cL_law 1009 = .ok (.iconst 1, 1) := by decide +kernel
theorem dL_law_1010 : decode cL_law 1010 = .ok (.iadd, 1) := by decide +kernel
theorem dL_law_1011 : decode cL_law 1011 = .ok (.iaload, 1) := by decide +kernel
theorem dL_law_1012 : decode cL_law 1012 = .ok (.invokevirtual 104, 3) := by decide +kernel
theorem dL_law_1015 : decode cL_law 1015 = .ok (.pop2, 1) := by decide +kernel
theorem dL_law_1016 : decode cL_law 1016 = .ok (.goto 191, 3) := by decide +kernel
set_option maxRecDepth 100000 in
set_option maxHeartbeats 4000000 in
theorem law_c20 {p : Program} {l : Launch} {e : Env} {s : State} {m : MethodId} {below : List Frame} {meth : Method} {c : Code} {D : va_G} {G : Nat → ClassId} {bs : Nat} {Q : State → Prop} {b : Nat} {xs : Nat → Int32} {L i x m0 : Nat} {ad : Nat → Nat} {S : Mem} {K : RS} (C : Cx p s m #[Value.ref b] meth c D G bs code 4 RL) (hX : va_X b L xs s s.heap) (hbl : b < s.heap.size) (hbA : ¬ bs ≤ b) (hL : L ≤ 2560) (hi : i + 5 ≤ L) (hI : lawI S x m0 ad K) (hend : ∀ (S' : Mem) (K' : RS), lawI S' x m0 ad K' → V p l e room_1 s m #[Value.ref b] below meth c D G bs 4 Q (1000 + 20 * i + 100) (100000 + 1000 * i + 5000) S' 1207 [some (.ref b), some (.ref x), some (.ref m0), some (.int (nI i))] []) : V p l e room_1 s m #[Value.ref b] below meth c D G bs 4 Q (1000 + 20 * i) (100000 + 1000 * i) S 996 [some (.ref b), some (.ref x), some (.ref m0), some (.int (nI i))] [] := by
  refine v_aload_n C dL_law_996 rfl ?_
  refine v_aload_n C dL_law_997 rfl ?_
  refine v_iload_n C dL_law_998 rfl ?_
  refine v_iconst (v := nI 1) C dL_law_999 (by decide) ?_
  refine n_iadd C dL_law_1000 ?_
  refine v_sld C hX hbl hbA (vp_in_nI (by omega) (by omega)) dL_law_1001 ?_
  have ix := hI.2.2.2.choose_spec.choose_spec.1.1
  refine v_callV (As := [_]) (n := 1) C (st_X9_told l (mX m0 ad) x _) rfl ix (by decide) rfl ⟨wd879, wd880, wd881, wd2, wd882⟩ ⟨rfl, hy_X9_told⟩ rfl ⟨Nat.le_of_ble_eq_true rfl, Nat.le_of_ble_eq_true rfl⟩ (Nat.le_of_ble_eq_true rfl) ⟨(by show 1000 + 20 * i + _ ≤ 600000; omega), (by show 100000 + 1000 * i + _ ≤ 7302250; omega)⟩ dL_law_1002 ⟨rfl, hI.1, ix⟩ (fun r_1002 S1002 h_1002 => ?_)
  obtain ⟨v1002, rfl, q_v1002⟩ := h_1002
  obtain rfl := q_v1002.symm
  refine v_pop2 C dL_law_1005 ?_
  refine v_aload_n C dL_law_1006 rfl ?_
  refine v_aload_n C dL_law_1007 rfl ?_
  refine v_iload_n C dL_law_1008 rfl ?_
  refine v_iconst (v := nI 1) C dL_law_1009 (by decide) ?_
  refine n_iadd C dL_law_1010 ?_
  refine v_sld C hX hbl hbA (vp_in_nI (by omega) (by omega)) dL_law_1011 ?_
  refine v_callV (As := [_]) (n := 1) C (rt_X10_told l m0 ad _ _) rfl hI.2.1.1 (by decide) rfl ⟨wd887, wd888, wd889, wd5, wd890⟩ ⟨rfl, hy_X10_told⟩ rfl ⟨Nat.le_of_ble_eq_true rfl, Nat.le_of_ble_eq_true rfl⟩ (Nat.le_of_ble_eq_true rfl) ⟨(by show 1000 + 20 * i + _ ≤ 600000; omega), (by show 100000 + 1000 * i + _ ≤ 7302250; omega)⟩ dL_law_1012 ⟨rfl, hI.2.1, hI.2.2.1⟩ (fun r_1012 S1012 h_1012 => ?_)
  obtain ⟨v1012, rfl, p_v1012, q_v1012⟩ := h_1012
  obtain rfl := q_v1012.symm
  refine v_pop2 C dL_law_1015 ?_
  refine v_goto (tgt := 1207) C dL_law_1016 (by decide) ?_
  refine V.widen (c2 := 1000 + 20 * i + 100) (s2 := 100000 + 1000 * i + 5000) (by omega) (by omega) ?_
  exact hend _ _ hI
theorem dL_law_1019 : decode cL_law 1019 = .ok (.aload_n 1, 1) := by decide +kernel
theorem dL_law_1020 : decode cL_law 1020 = .ok (.invokevirtual 105, 3) := by decide +kernel
theorem dL_law_1023 : decode cL_law 1023 = .ok (.pop, 1) := by decide +kernel
theorem dL_law_1024 : decode cL_law 1024 = .ok (.aload_n 2, 1) := by decide +kernel
theorem dL_law_1025 : decode cL_law 1025 = .ok (.invokevirtual 109, 3) := by decide +kernel
theorem dL_law_1028 : decode cL_law 1028 = .ok (.pop, 1) := by decide +kernel
theorem dL_law_1029 : decode cL_law 1029 = .ok (.goto 178, 3) := by decide +kernel
set_option maxRecDepth 100000 in
set_option maxHeartbeats 4000000 in
theorem law_c21 {p : Program} {l : Launch} {e : Env} {s : State} {m : MethodId} {below : List Frame} {meth : Method} {c : Code} {D : va_G} {G : Nat → ClassId} {bs : Nat} {Q : State → Prop} {b : Nat} {xs : Nat → Int32} {L i x m0 : Nat} {ad : Nat → Nat} {S : Mem} {K : RS} (C : Cx p s m #[Value.ref b] meth c D G bs code 4 RL) (hX : va_X b L xs s s.heap) (hbl : b < s.heap.size) (hbA : ¬ bs ≤ b) (hL : L ≤ 2560) (hi : i + 5 ≤ L) (hI : lawI S x m0 ad K) (hend : ∀ (S' : Mem) (K' : RS), lawI S' x m0 ad K' → V p l e room_1 s m #[Value.ref b] below meth c D G bs 4 Q (1000 + 20 * i + 100) (100000 + 1000 * i + 5000) S' 1207 [some (.ref b), some (.ref x), some (.ref m0), some (.int (nI i))] []) : V p l e room_1 s m #[Value.ref b] below meth c D G bs 4 Q (1000 + 20 * i) (100000 + 1000 * i) S 1019 [some (.ref b), some (.ref x), some (.ref m0), some (.int (nI i))] [] := by
  refine v_aload_n C dL_law_1019 rfl ?_
  have ix := hI.2.2.2.choose_spec.choose_spec.1.1
  refine v_callV (As := []) (n := 0) C (st_X9_marks l (mX m0 ad) x) rfl ix (by decide) rfl ⟨wd891, wd892, wd893, wd2, wd894⟩ ⟨rfl, hy_X9_marks⟩ rfl ⟨Nat.le_of_ble_eq_true rfl, Nat.le_of_ble_eq_true rfl⟩ (Nat.le_of_ble_eq_true rfl) ⟨(by show 1000 + 20 * i + _ ≤ 600000; omega), (by show 100000 + 1000 * i + _ ≤ 7302250; omega)⟩ dL_law_1020 ⟨rfl, hI.1, ix⟩ (fun r_1020 S1020 h_1020 => ?_)
  obtain ⟨v1020, rfl, q_v1020⟩ := h_1020
  obtain rfl := q_v1020.symm
  refine v_pop C dL_law_1023 rfl ?_
  refine v_aload_n C dL_law_1024 rfl ?_
  refine v_callV (As := []) (n := 0) C (rt_X10_marks l m0 ad _) rfl hI.2.1.1 (by decide) rfl ⟨wd897, wd898, wd899, wd5, wd900⟩ ⟨rfl, hy_X10_marks⟩ rfl ⟨Nat.le_of_ble_eq_true rfl, Nat.le_of_ble_eq_true rfl⟩ (Nat.le_of_ble_eq_true rfl) ⟨(by show 1000 + 20 * i + _ ≤ 600000; omega), (by show 100000 + 1000 * i + _ ≤ 7302250; omega)⟩ dL_law_1025 ⟨rfl, hI.2.1, hI.2.2.1⟩ (fun r_1025 S1025 h_1025 => ?_)
  obtain ⟨v1025, rfl, p_v1025, q_v1025⟩ := h_1025
  obtain rfl := q_v1025.symm
  refine v_pop C dL_law_1028 rfl ?_
  refine v_goto (tgt := 1207) C dL_law_1029 (by decide) ?_
  refine V.widen (c2 := 1000 + 20 * i + 100) (s2 := 100000 + 1000 * i + 5000) (by omega) (by omega) ?_
  exact hend _ _ hI
theorem dL_law_1032 : decode cL_law 1032 = .ok (.aload_n 1, 1) := by decide +kernel
theorem dL_law_1033 : decode cL_law 1033 = .ok (.aload_n 0, 1) := by decide +kernel
theorem dL_law_1034 : decode cL_law 1034 = .ok (.iload_n 3, 1) := by decide +kernel
theorem dL_law_1035 : decode cL_law 1035 = .ok (.iconst 1, 1) := by decide +kernel
theorem dL_law_1036 : decode cL_law 1036 = .ok (.iadd, 1) := by decide +kernel
theorem dL_law_1037 : decode cL_law 1037 = .ok (.iaload, 1) := by decide +kernel
theorem dL_law_1038 : decode cL_law 1038 = .ok (.aload_n 0, 1) := by decide +kernel
theorem dL_law_1039 : decode cL_law 1039 = .ok (.iload_n 3, 1) := by decide +kernel
theorem dL_law_1040 : decode cL_law 1040 = .ok (.iconst 2, 1) := by decide +kernel
theorem dL_law_1041 : decode cL_law 1041 = .ok (.iadd, 1) := by decide +kernel
theorem dL_law_1042 : decode cL_law 1042 = .ok (.iaload, 1) := by decide +kernel
theorem dL_law_1043 : decode cL_law 1043 = .ok (.invokevirtual 110, 3) := by decide +kernel
theorem dL_law_1046 : decode cL_law 1046 = .ok (.pop2, 1) := by decide +kernel
theorem dL_law_1047 : decode cL_law 1047 = .ok (.aload_n 2, 1) := by decide +kernel
theorem dL_law_1048 : decode cL_law 1048 = .ok (.aload_n 0, 1) := by decide +kernel
theorem dL_law_1049 : decode cL_law 1049 = .ok (.iload_n 3, 1) := by decide +kernel
theorem dL_law_1050 : decode cL_law 1050 = .ok (.iconst 1, 1) := by decide +kernel
theorem dL_law_1051 : decode cL_law 1051 = .ok (.iadd, 1) := by decide +kernel
theorem dL_law_1052 : decode cL_law 1052 = .ok (.iaload, 1) := by decide +kernel
theorem dL_law_1053 : decode cL_law 1053 = .ok (.aload_n 0, 1) := by decide +kernel
theorem dL_law_1054 : decode cL_law 1054 = .ok (.iload_n 3, 1) := by decide +kernel
theorem dL_law_1055 : decode cL_law 1055 = .ok (.iconst 2, 1) := by decide +kernel
theorem dL_law_1056 : decode cL_law 1056 = .ok (.iadd, 1) := by decide +kernel
theorem dL_law_1057 : decode cL_law 1057 = .ok (.iaload, 1) := by decide +kernel
theorem dL_law_1058 : decode cL_law 1058 = .ok (.invokevirtual 114, 3) := by decide +kernel
theorem dL_law_1061 : decode cL_law 1061 = .ok (.pop2, 1) := by decide +kernel
theorem dL_law_1062 : decode cL_law 1062 = .ok (.goto 145, 3) := by decide +kernel
set_option maxRecDepth 100000 in
set_option maxHeartbeats 4000000 in
theorem law_c22 {p : Program} {l : Launch} {e : Env} {s : State} {m : MethodId} {below : List Frame} {meth : Method} {c : Code} {D : va_G} {G : Nat → ClassId} {bs : Nat} {Q : State → Prop} {b : Nat} {xs : Nat → Int32} {L i x m0 : Nat} {ad : Nat → Nat} {S : Mem} {K : RS} (C : Cx p s m #[Value.ref b] meth c D G bs code 4 RL) (hX : va_X b L xs s s.heap) (hbl : b < s.heap.size) (hbA : ¬ bs ≤ b) (hL : L ≤ 2560) (hi : i + 5 ≤ L) (hI : lawI S x m0 ad K) (hend : ∀ (S' : Mem) (K' : RS), lawI S' x m0 ad K' → V p l e room_1 s m #[Value.ref b] below meth c D G bs 4 Q (1000 + 20 * i + 100) (100000 + 1000 * i + 5000) S' 1207 [some (.ref b), some (.ref x), some (.ref m0), some (.int (nI i))] []) : V p l e room_1 s m #[Value.ref b] below meth c D G bs 4 Q (1000 + 20 * i) (100000 + 1000 * i) S 1032 [some (.ref b), some (.ref x), some (.ref m0), some (.int (nI i))] [] := by
  refine v_aload_n C dL_law_1032 rfl ?_
  refine v_aload_n C dL_law_1033 rfl ?_
  refine v_iload_n C dL_law_1034 rfl ?_
  refine v_iconst (v := nI 1) C dL_law_1035 (by decide) ?_
  refine n_iadd C dL_law_1036 ?_
  refine v_sld C hX hbl hbA (vp_in_nI (by omega) (by omega)) dL_law_1037 ?_
  refine v_aload_n C dL_law_1038 rfl ?_
  refine v_iload_n C dL_law_1039 rfl ?_
  refine v_iconst (v := nI 2) C dL_law_1040 (by decide) ?_
  refine n_iadd C dL_law_1041 ?_
  refine v_sld C hX hbl hbA (vp_in_nI (by omega) (by omega)) dL_law_1042 ?_
  have ix := hI.2.2.2.choose_spec.choose_spec.1.1
  refine v_callV (As := [_, _]) (n := 2) C (st_X9_mark l (mX m0 ad) x _ _) rfl ix (by decide) rfl ⟨wd901, wd902, wd903, wd2, wd904⟩ ⟨rfl, hy_X9_mark⟩ rfl ⟨Nat.le_of_ble_eq_true rfl, Nat.le_of_ble_eq_true rfl⟩ (Nat.le_of_ble_eq_true rfl) ⟨(by show 1000 + 20 * i + _ ≤ 600000; omega), (by show 100000 + 1000 * i + _ ≤ 7302250; omega)⟩ dL_law_1043 ⟨rfl, hI.1, ix⟩ (fun r_1043 S1043 h_1043 => ?_)
  obtain ⟨v1043, rfl, q_v1043⟩ := h_1043
  obtain rfl := q_v1043.symm
  refine v_pop2 C dL_law_1046 ?_
  refine v_aload_n C dL_law_1047 rfl ?_
  refine v_aload_n C dL_law_1048 rfl ?_
  refine v_iload_n C dL_law_1049 rfl ?_
  refine v_iconst (v := nI 1) C dL_law_1050 (by decide) ?_
  refine n_iadd C dL_law_1051 ?_
  refine v_sld C hX hbl hbA (vp_in_nI (by omega) (by omega)) dL_law_1052 ?_
  refine v_aload_n C dL_law_1053 rfl ?_
  refine v_iload_n C dL_law_1054 rfl ?_
  refine v_iconst (v := nI 2) C dL_law_1055 (by decide) ?_
  refine n_iadd C dL_law_1056 ?_
  refine v_sld C hX hbl hbA (vp_in_nI (by omega) (by omega)) dL_law_1057 ?_
  refine v_callV (As := [_, _]) (n := 2) C (rt_X10_mark l m0 ad _ _ _) rfl hI.2.1.1 (by decide) rfl ⟨wd909, wd910, wd911, wd5, wd912⟩ ⟨rfl, hy_X10_mark⟩ rfl ⟨Nat.le_of_ble_eq_true rfl, Nat.le_of_ble_eq_true rfl⟩ (Nat.le_of_ble_eq_true rfl) ⟨(by show 1000 + 20 * i + _ ≤ 600000; omega), (by show 100000 + 1000 * i + _ ≤ 7302250; omega)⟩ dL_law_1058 ⟨rfl, hI.2.1, hI.2.2.1⟩ (fun r_1058 S1058 h_1058 => ?_)
  obtain ⟨v1058, rfl, p_v1058, q_v1058⟩ := h_1058
  obtain rfl := q_v1058.symm
  refine v_pop2 C dL_law_1061 ?_
  refine v_goto (tgt := 1207) C dL_law_1062 (by decide) ?_
  refine V.widen (c2 := 1000 + 20 * i + 100) (s2 := 100000 + 1000 * i + 5000) (by omega) (by omega) ?_
  exact hend _ _ hI
theorem dL_law_1065 : decode cL_law 1065 = .ok (.aload_n 1, 1) := by decide +kernel
theorem dL_law_1066 : decode cL_law 1066 = .ok (.aload_n 0, 1) := by decide +kernel
theorem dL_law_1067 : decode cL_law 1067 = .ok (.iload_n 3, 1) := by decide +kernel
theorem dL_law_1068 : decode cL_law 1068 = .ok (.iconst 1, 1) := by decide +kernel
theorem dL_law_1069 : decode cL_law 1069 = .ok (.iadd, 1) := by decide +kernel
theorem dL_law_1070 : decode cL_law 1070 = .ok (.iaload, 1) := by decide +kernel
theorem dL_law_1071 : decode cL_law 1071 = .ok (.aload_n 0, 1) := by decide +kernel
theorem dL_law_1072 : decode cL_law 1072 = .ok (.iload_n 3, 1) := by decide +kernel
theorem dL_law_1073 : decode cL_law 1073 = .ok (.iconst 2, 1) := by decide +kernel
theorem dL_law_1074 : decode cL_law 1074 = .ok (.iadd, 1) := by decide +kernel
theorem dL_law_1075 : decode cL_law 1075 = .ok (.iaload, 1) := by decide +kernel
theorem dL_law_1076 : decode cL_law 1076 = .ok (.invokevirtual 115, 3) := by decide +kernel
theorem dL_law_1079 : decode cL_law 1079 = .ok (.pop2, 1) := by decide +kernel
theorem dL_law_1080 : decode cL_law 1080 = .ok (.aload_n 2, 1) := by decide +kernel
theorem dL_law_1081 : decode cL_law 1081 = .ok (.aload_n 0, 1) := by decide +kernel
theorem dL_law_1082 : decode cL_law 1082 = .ok (.iload_n 3, 1) := by decide +kernel
theorem dL_law_1083 : decode cL_law 1083 = .ok (.iconst 1, 1) := by decide +kernel
theorem dL_law_1084 : decode cL_law 1084 = .ok (.iadd, 1) := by decide +kernel
theorem dL_law_1085 : decode cL_law 1085 = .ok (.iaload, 1) := by decide +kernel
theorem dL_law_1086 : decode cL_law 1086 = .ok (.aload_n 0, 1) := by decide +kernel
theorem dL_law_1087 : decode cL_law 1087 = .ok (.iload_n 3, 1) := by decide +kernel
theorem dL_law_1088 : decode cL_law 1088 = .ok (.iconst 2, 1) := by decide +kernel
theorem dL_law_1089 : decode cL_law 1089 = .ok (.iadd, 1) := by decide +kernel
theorem dL_law_1090 : decode cL_law 1090 = .ok (.iaload, 1) := by decide +kernel
theorem dL_law_1091 : decode cL_law 1091 = .ok (.invokevirtual 118, 3) := by decide +kernel
theorem dL_law_1094 : decode cL_law 1094 = .ok (.pop2, 1) := by decide +kernel
theorem dL_law_1095 : decode cL_law 1095 = .ok (.goto 112, 3) := by decide +kernel
set_option maxRecDepth 100000 in
set_option maxHeartbeats 4000000 in
theorem law_c23 {p : Program} {l : Launch} {e : Env} {s : State} {m : MethodId} {below : List Frame} {meth : Method} {c : Code} {D : va_G} {G : Nat → ClassId} {bs : Nat} {Q : State → Prop} {b : Nat} {xs : Nat → Int32} {L i x m0 : Nat} {ad : Nat → Nat} {S : Mem} {K : RS} (C : Cx p s m #[Value.ref b] meth c D G bs code 4 RL) (hX : va_X b L xs s s.heap) (hbl : b < s.heap.size) (hbA : ¬ bs ≤ b) (hL : L ≤ 2560) (hi : i + 5 ≤ L) (hI : lawI S x m0 ad K) (hend : ∀ (S' : Mem) (K' : RS), lawI S' x m0 ad K' → V p l e room_1 s m #[Value.ref b] below meth c D G bs 4 Q (1000 + 20 * i + 100) (100000 + 1000 * i + 5000) S' 1207 [some (.ref b), some (.ref x), some (.ref m0), some (.int (nI i))] []) : V p l e room_1 s m #[Value.ref b] below meth c D G bs 4 Q (1000 + 20 * i) (100000 + 1000 * i) S 1065 [some (.ref b), some (.ref x), some (.ref m0), some (.int (nI i))] [] := by
  refine v_aload_n C dL_law_1065 rfl ?_
  refine v_aload_n C dL_law_1066 rfl ?_
  refine v_iload_n C dL_law_1067 rfl ?_
  refine v_iconst (v := nI 1) C dL_law_1068 (by decide) ?_
  refine n_iadd C dL_law_1069 ?_
  refine v_sld C hX hbl hbA (vp_in_nI (by omega) (by omega)) dL_law_1070 ?_
  refine v_aload_n C dL_law_1071 rfl ?_
  refine v_iload_n C dL_law_1072 rfl ?_
  refine v_iconst (v := nI 2) C dL_law_1073 (by decide) ?_
  refine n_iadd C dL_law_1074 ?_
  refine v_sld C hX hbl hbA (vp_in_nI (by omega) (by omega)) dL_law_1075 ?_
  have ix := hI.2.2.2.choose_spec.choose_spec.1.1
  refine v_callV (As := [_, _]) (n := 2) C (st_X9_mood l (mX m0 ad) x _ _) rfl ix (by decide) rfl ⟨wd913, wd914, wd915, wd2, wd916⟩ ⟨rfl, hy_X9_mood⟩ rfl ⟨Nat.le_of_ble_eq_true rfl, Nat.le_of_ble_eq_true rfl⟩ (Nat.le_of_ble_eq_true rfl) ⟨(by show 1000 + 20 * i + _ ≤ 600000; omega), (by show 100000 + 1000 * i + _ ≤ 7302250; omega)⟩ dL_law_1076 ⟨rfl, hI.1, ix⟩ (fun r_1076 S1076 h_1076 => ?_)
  obtain ⟨v1076, rfl, q_v1076⟩ := h_1076
  obtain rfl := q_v1076.symm
  refine v_pop2 C dL_law_1079 ?_
  refine v_aload_n C dL_law_1080 rfl ?_
  refine v_aload_n C dL_law_1081 rfl ?_
  refine v_iload_n C dL_law_1082 rfl ?_
  refine v_iconst (v := nI 1) C dL_law_1083 (by decide) ?_
  refine n_iadd C dL_law_1084 ?_
  refine v_sld C hX hbl hbA (vp_in_nI (by omega) (by omega)) dL_law_1085 ?_
  refine v_aload_n C dL_law_1086 rfl ?_
  refine v_iload_n C dL_law_1087 rfl ?_
  refine v_iconst (v := nI 2) C dL_law_1088 (by decide) ?_
  refine n_iadd C dL_law_1089 ?_
  refine v_sld C hX hbl hbA (vp_in_nI (by omega) (by omega)) dL_law_1090 ?_
  refine v_callV (As := [_, _]) (n := 2) C (rt_X10_mood l m0 ad _ _ _) rfl hI.2.1.1 (by decide) rfl ⟨wd918, wd919, wd920, wd5, wd921⟩ ⟨rfl, hy_X10_mood⟩ rfl ⟨Nat.le_of_ble_eq_true rfl, Nat.le_of_ble_eq_true rfl⟩ (Nat.le_of_ble_eq_true rfl) ⟨(by show 1000 + 20 * i + _ ≤ 600000; omega), (by show 100000 + 1000 * i + _ ≤ 7302250; omega)⟩ dL_law_1091 ⟨rfl, hI.2.1, hI.2.2.1⟩ (fun r_1091 S1091 h_1091 => ?_)
  obtain ⟨v1091, rfl, p_v1091, q_v1091⟩ := h_1091
  obtain rfl := q_v1091.symm
  refine v_pop2 C dL_law_1094 ?_
  refine v_goto (tgt := 1207) C dL_law_1095 (by decide) ?_
  refine V.widen (c2 := 1000 + 20 * i + 100) (s2 := 100000 + 1000 * i + 5000) (by omega) (by omega) ?_
  exact hend _ _ hI
theorem dL_law_1098 : decode cL_law 1098 = .ok (.aload_n 1, 1) := by decide +kernel
theorem dL_law_1099 : decode cL_law 1099 = .ok (.aload_n 0, 1) := by decide +kernel
theorem dL_law_1100 : decode cL_law 1100 = .ok (.iload_n 3, 1) := by decide +kernel
theorem dL_law_1101 : decode cL_law 1101 = .ok (.iconst 1, 1) := by decide +kernel
theorem dL_law_1102 : decode cL_law 1102 = .ok (.iadd, 1) := by decide +kernel
theorem dL_law_1103 : decode cL_law 1103 = .ok (.iaload, 1) := by decide +kernel
theorem dL_law_1104 : decode cL_law 1104 = .ok (.aload_n 0, 1) := by decide +kernel
theorem dL_law_1105 : decode cL_law 1105 = .ok (.iload_n 3, 1) := by decide +kernel
theorem dL_law_1106 : decode cL_law 1106 = .ok (.iconst 2, 1) := by decide +kernel
theorem dL_law_1107 : decode cL_law 1107 = .ok (.iadd, 1) := by decide +kernel
theorem dL_law_1108 : decode cL_law 1108 = .ok (.iaload, 1) := by decide +kernel
theorem dL_law_1109 : decode cL_law 1109 = .ok (.aload_n 0, 1) := by decide +kernel
theorem dL_law_1110 : decode cL_law 1110 = .ok (.iload_n 3, 1) := by decide +kernel
theorem dL_law_1111 : decode cL_law 1111 = .ok (.iconst 3, 1) := by decide +kernel
theorem dL_law_1112 : decode cL_law 1112 = .ok (.iadd, 1) := by decide +kernel
theorem dL_law_1113 : decode cL_law 1113 = .ok (.iaload, 1) := by decide +kernel
theorem dL_law_1114 : decode cL_law 1114 = .ok (.i2l, 1) := by decide +kernel
theorem dL_law_1115 : decode cL_law 1115 = .ok (.bipush 32, 2) := by decide +kernel
theorem dL_law_1117 : decode cL_law 1117 = .ok (.lshl, 1) := by decide +kernel
theorem dL_law_1118 : decode cL_law 1118 = .ok (.aload_n 0, 1) := by decide +kernel
theorem dL_law_1119 : decode cL_law 1119 = .ok (.iload_n 3, 1) := by decide +kernel
theorem dL_law_1120 : decode cL_law 1120 = .ok (.iconst 4, 1) := by decide +kernel
theorem dL_law_1121 : decode cL_law 1121 = .ok (.iadd, 1) := by decide +kernel
theorem dL_law_1122 : decode cL_law 1122 = .ok (.iaload, 1) := by decide +kernel
theorem dL_law_1123 : decode cL_law 1123 = .ok (.i2l, 1) := by decide +kernel
theorem dL_law_1124 : decode cL_law 1124 = .ok (.ldc2_w 93, 3) := by decide +kernel
theorem dL_law_1127 : decode cL_law 1127 = .ok (.land, 1) := by decide +kernel
theorem dL_law_1128 : decode cL_law 1128 = .ok (.lor, 1) := by decide +kernel
theorem dL_law_1129 : decode cL_law 1129 = .ok (.invokevirtual 119, 3) := by decide +kernel
theorem dL_law_1132 : decode cL_law 1132 = .ok (.pop, 1) := by decide +kernel
theorem dL_law_1133 : decode cL_law 1133 = .ok (.aload_n 2, 1) := by decide +kernel
theorem dL_law_1134 : decode cL_law 1134 = .ok (.aload_n 0, 1) := by decide +kernel
theorem dL_law_1135 : decode cL_law 1135 = .ok (.iload_n 3, 1) := by decide +kernel
theorem dL_law_1136 : decode cL_law 1136 = .ok (.iconst 1, 1) := by decide +kernel
theorem dL_law_1137 : decode cL_law 1137 = .ok (.iadd, 1) := by decide +kernel
theorem dL_law_1138 : decode cL_law 1138 = .ok (.iaload, 1) := by decide +kernel
theorem dL_law_1139 : decode cL_law 1139 = .ok (.aload_n 0, 1) := by decide +kernel
theorem dL_law_1140 : decode cL_law 1140 = .ok (.iload_n 3, 1) := by decide +kernel
theorem dL_law_1141 : decode cL_law 1141 = .ok (.iconst 2, 1) := by decide +kernel
theorem dL_law_1142 : decode cL_law 1142 = .ok (.iadd, 1) := by decide +kernel
theorem dL_law_1143 : decode cL_law 1143 = .ok (.iaload, 1) := by decide +kernel
theorem dL_law_1144 : decode cL_law 1144 = .ok (.aload_n 0, 1) := by decide +kernel
theorem dL_law_1145 : decode cL_law 1145 = .ok (.iload_n 3, 1) := by decide +kernel
theorem dL_law_1146 : decode cL_law 1146 = .ok (.iconst 3, 1) := by decide +kernel
theorem dL_law_1147 : decode cL_law 1147 = .ok (.iadd, 1) := by decide +kernel
theorem dL_law_1148 : decode cL_law 1148 = .ok (.iaload, 1) := by decide +kernel
theorem dL_law_1149 : decode cL_law 1149 = .ok (.i2l, 1) := by decide +kernel
theorem dL_law_1150 : decode cL_law 1150 = .ok (.bipush 32, 2) := by decide +kernel
theorem dL_law_1152 : decode cL_law 1152 = .ok (.lshl, 1) := by decide +kernel
theorem dL_law_1153 : decode cL_law 1153 = .ok (.aload_n 0, 1) := by decide +kernel
theorem dL_law_1154 : decode cL_law 1154 = .ok (.iload_n 3, 1) := by decide +kernel
theorem dL_law_1155 : decode cL_law 1155 = .ok (.iconst 4, 1) := by decide +kernel
theorem dL_law_1156 : decode cL_law 1156 = .ok (.iadd, 1) := by decide +kernel
theorem dL_law_1157 : decode cL_law 1157 = .ok (.iaload, 1) := by decide +kernel
theorem dL_law_1158 : decode cL_law 1158 = .ok (.i2l, 1) := by decide +kernel
theorem dL_law_1159 : decode cL_law 1159 = .ok (.ldc2_w 93, 3) := by decide +kernel
theorem dL_law_1162 : decode cL_law 1162 = .ok (.land, 1) := by decide +kernel
theorem dL_law_1163 : decode cL_law 1163 = .ok (.lor, 1) := by decide +kernel
theorem dL_law_1164 : decode cL_law 1164 = .ok (.invokevirtual 122, 3) := by decide +kernel
theorem dL_law_1167 : decode cL_law 1167 = .ok (.pop, 1) := by decide +kernel
theorem dL_law_1168 : decode cL_law 1168 = .ok (.goto 39, 3) := by decide +kernel
set_option maxRecDepth 100000 in
set_option maxHeartbeats 4000000 in
theorem law_c24 {p : Program} {l : Launch} {e : Env} {s : State} {m : MethodId} {below : List Frame} {meth : Method} {c : Code} {D : va_G} {G : Nat → ClassId} {bs : Nat} {Q : State → Prop} {b : Nat} {xs : Nat → Int32} {L i x m0 : Nat} {ad : Nat → Nat} {S : Mem} {K : RS} (C : Cx p s m #[Value.ref b] meth c D G bs code 4 RL) (hX : va_X b L xs s s.heap) (hbl : b < s.heap.size) (hbA : ¬ bs ≤ b) (hL : L ≤ 2560) (hi : i + 5 ≤ L) (hI : lawI S x m0 ad K) (hend : ∀ (S' : Mem) (K' : RS), lawI S' x m0 ad K' → V p l e room_1 s m #[Value.ref b] below meth c D G bs 4 Q (1000 + 20 * i + 100) (100000 + 1000 * i + 5000) S' 1207 [some (.ref b), some (.ref x), some (.ref m0), some (.int (nI i))] []) : V p l e room_1 s m #[Value.ref b] below meth c D G bs 4 Q (1000 + 20 * i) (100000 + 1000 * i) S 1098 [some (.ref b), some (.ref x), some (.ref m0), some (.int (nI i))] [] := by
  refine v_aload_n C dL_law_1098 rfl ?_
  refine v_aload_n C dL_law_1099 rfl ?_
  refine v_iload_n C dL_law_1100 rfl ?_
  refine v_iconst (v := nI 1) C dL_law_1101 (by decide) ?_
  refine n_iadd C dL_law_1102 ?_
  refine v_sld C hX hbl hbA (vp_in_nI (by omega) (by omega)) dL_law_1103 ?_
  refine v_aload_n C dL_law_1104 rfl ?_
  refine v_iload_n C dL_law_1105 rfl ?_
  refine v_iconst (v := nI 2) C dL_law_1106 (by decide) ?_
  refine n_iadd C dL_law_1107 ?_
  refine v_sld C hX hbl hbA (vp_in_nI (by omega) (by omega)) dL_law_1108 ?_
  refine v_aload_n C dL_law_1109 rfl ?_
  refine v_iload_n C dL_law_1110 rfl ?_
  refine v_iconst (v := nI 3) C dL_law_1111 (by decide) ?_
  refine n_iadd C dL_law_1112 ?_
  refine v_sld C hX hbl hbA (vp_in_nI (by omega) (by omega)) dL_law_1113 ?_
  refine v_i2l C dL_law_1114 ?_
  refine v_bipush (v := nI 32) C dL_law_1115 (by decide) ?_
  refine v_lshl C dL_law_1117 ?_
  refine v_aload_n C dL_law_1118 rfl ?_
  refine v_iload_n C dL_law_1119 rfl ?_
  refine v_iconst (v := nI 4) C dL_law_1120 (by decide) ?_
  refine n_iadd C dL_law_1121 ?_
  refine v_sld C hX hbl hbA (vp_in_nI (by omega) (by omega)) dL_law_1122 ?_
  refine v_i2l C dL_law_1123 ?_
  refine v_ldc2 (v := (4294967295)) C wd6 dL_law_1124 ?_
  refine v_land C dL_law_1127 ?_
  refine v_lor C dL_law_1128 ?_
  have ix := hI.2.2.2.choose_spec.choose_spec.1.1
  refine v_callV (As := [_, _, _]) (n := 3) C (st_X9_setMood l (mX m0 ad) x _ _ _) rfl ix (by decide) rfl ⟨wd922, wd923, wd924, wd2, wd925⟩ ⟨rfl, hy_X9_setMood⟩ rfl ⟨Nat.le_of_ble_eq_true rfl, Nat.le_of_ble_eq_true rfl⟩ (Nat.le_of_ble_eq_true rfl) ⟨(by show 1000 + 20 * i + _ ≤ 600000; omega), (by show 100000 + 1000 * i + _ ≤ 7302250; omega)⟩ dL_law_1129 ⟨rfl, hI.1, ix⟩ (fun r_1129 S1129 h_1129 => ?_)
  obtain ⟨v1129, rfl, iv_1129, x_1129⟩ := h_1129
  have hI := lawI_q hI iv_1129 x_1129 (by decide)
  refine v_pop C dL_law_1132 rfl ?_
  refine v_aload_n C dL_law_1133 rfl ?_
  refine v_aload_n C dL_law_1134 rfl ?_
  refine v_iload_n C dL_law_1135 rfl ?_
  refine v_iconst (v := nI 1) C dL_law_1136 (by decide) ?_
  refine n_iadd C dL_law_1137 ?_
  refine v_sld C hX hbl hbA (vp_in_nI (by omega) (by omega)) dL_law_1138 ?_
  refine v_aload_n C dL_law_1139 rfl ?_
  refine v_iload_n C dL_law_1140 rfl ?_
  refine v_iconst (v := nI 2) C dL_law_1141 (by decide) ?_
  refine n_iadd C dL_law_1142 ?_
  refine v_sld C hX hbl hbA (vp_in_nI (by omega) (by omega)) dL_law_1143 ?_
  refine v_aload_n C dL_law_1144 rfl ?_
  refine v_iload_n C dL_law_1145 rfl ?_
  refine v_iconst (v := nI 3) C dL_law_1146 (by decide) ?_
  refine n_iadd C dL_law_1147 ?_
  refine v_sld C hX hbl hbA (vp_in_nI (by omega) (by omega)) dL_law_1148 ?_
  refine v_i2l C dL_law_1149 ?_
  refine v_bipush (v := nI 32) C dL_law_1150 (by decide) ?_
  refine v_lshl C dL_law_1152 ?_
  refine v_aload_n C dL_law_1153 rfl ?_
  refine v_iload_n C dL_law_1154 rfl ?_
  refine v_iconst (v := nI 4) C dL_law_1155 (by decide) ?_
  refine n_iadd C dL_law_1156 ?_
  refine v_sld C hX hbl hbA (vp_in_nI (by omega) (by omega)) dL_law_1157 ?_
  refine v_i2l C dL_law_1158 ?_
  refine v_ldc2 (v := (4294967295)) C wd6 dL_law_1159 ?_
  refine v_land C dL_law_1162 ?_
  refine v_lor C dL_law_1163 ?_
  refine v_callV (As := [_, _, _]) (n := 3) C (rt_X10_setMood l m0 ad _ _ _ _) rfl hI.2.1.1 (by decide) rfl ⟨wd927, wd928, wd929, wd5, wd930⟩ ⟨rfl, hy_X10_setMood⟩ rfl ⟨Nat.le_of_ble_eq_true rfl, Nat.le_of_ble_eq_true rfl⟩ (Nat.le_of_ble_eq_true rfl) ⟨(by show 1000 + 20 * i + _ ≤ 600000; omega), (by show 100000 + 1000 * i + _ ≤ 7302250; omega)⟩ dL_law_1164 ⟨rfl, hI.2.1, hI.2.2.1⟩ (fun r_1164 S1164 h_1164 => ?_)
  obtain ⟨v1164, K1164, rfl, hk_1164, x_1164, p_v1164⟩ := h_1164
  have hI := lawI_k hI hk_1164 x_1164 (setMoodP_s hI.2.2.1 p_v1164).1 (setMood_kp p_v1164) (by decide) (by decide)
  refine v_pop C dL_law_1167 rfl ?_
  refine v_goto (tgt := 1207) C dL_law_1168 (by decide) ?_
  refine V.widen (c2 := 1000 + 20 * i + 100) (s2 := 100000 + 1000 * i + 5000) (by omega) (by omega) ?_
  exact hend _ _ hI
theorem dL_law_1171 : decode cL_law 1171 = .ok (.aload_n 1, 1) := by decide +kernel
theorem dL_law_1172 : decode cL_law 1172 = .ok (.aload_n 0, 1) := by decide +kernel
theorem dL_law_1173 : decode cL_law 1173 = .ok (.iload_n 3, 1) := by decide +kernel
theorem dL_law_1174 : decode cL_law 1174 = .ok (.iconst 1, 1) := by decide +kernel
theorem dL_law_1175 : decode cL_law 1175 = .ok (.iadd, 1) := by decide +kernel
theorem dL_law_1176 : decode cL_law 1176 = .ok (.iaload, 1) := by decide +kernel
theorem dL_law_1177 : decode cL_law 1177 = .ok (.invokevirtual 123, 3) := by decide +kernel
theorem dL_law_1180 : decode cL_law 1180 = .ok (.aload_n 2, 1) := by decide +kernel
theorem dL_law_1181 : decode cL_law 1181 = .ok (.aload_n 0, 1) := by decide +kernel
theorem dL_law_1182 : decode cL_law 1182 = .ok (.iload_n 3, 1) := by decide +kernel
theorem dL_law_1183 : decode cL_law 1183 = .ok (.iconst 1, 1) := by decide +kernel
theorem dL_law_1184 : decode cL_law 1184 = .ok (.iadd, 1) := by decide +kernel
theorem dL_law_1185 : decode cL_law 1185 = .ok (.iaload, 1) := by decide +kernel
theorem dL_law_1186 : decode cL_law 1186 = .ok (.invokevirtual 126, 3) := by decide +kernel
theorem dL_law_1189 : decode cL_law 1189 = .ok (.if_icmp .eq 18, 3) := by decide +kernel
set_option maxRecDepth 100000 in
set_option maxHeartbeats 4000000 in
theorem law_c25 {p : Program} {l : Launch} {e : Env} {s : State} {m : MethodId} {below : List Frame} {meth : Method} {c : Code} {D : va_G} {G : Nat → ClassId} {bs : Nat} {Q : State → Prop} {b : Nat} {xs : Nat → Int32} {L i x m0 : Nat} {ad : Nat → Nat} {S : Mem} {K : RS} (C : Cx p s m #[Value.ref b] meth c D G bs code 4 RL) (hX : va_X b L xs s s.heap) (hbl : b < s.heap.size) (hbA : ¬ bs ≤ b) (hL : L ≤ 2560) (hi : i + 5 ≤ L) (hI : lawI S x m0 ad K) (hend : ∀ (S' : Mem) (K' : RS), lawI S' x m0 ad K' → V p l e room_1 s m #[Value.ref b] below meth c D G bs 4 Q (1000 + 20 * i + 100) (100000 + 1000 * i + 5000) S' 1207 [some (.ref b), some (.ref x), some (.ref m0), some (.int (nI i))] []) : V p l e room_1 s m #[Value.ref b] below meth c D G bs 4 Q (1000 + 20 * i) (100000 + 1000 * i) S 1171 [some (.ref b), some (.ref x), some (.ref m0), some (.int (nI i))] [] := by
  refine v_aload_n C dL_law_1171 rfl ?_
  refine v_aload_n C dL_law_1172 rfl ?_
  refine v_iload_n C dL_law_1173 rfl ?_
  refine v_iconst (v := nI 1) C dL_law_1174 (by decide) ?_
  refine n_iadd C dL_law_1175 ?_
  refine v_sld C hX hbl hbA (vp_in_nI (by omega) (by omega)) dL_law_1176 ?_
  obtain ⟨W, pt, hr⟩ := hI.2.2.2
  obtain ⟨r1, r2, r3, r4, r5, r6, ⟨k1, k2, k3, k4, k5, k6, k7, k8⟩, r8, r9, r10⟩ := id hr
  obtain ⟨ch, o_ch, i_ch⟩ := T69 hI.1 r4.1 List.not_mem_nil
  refine v_callV (As := [_]) (n := 1) C (ft_X9_count l (mX m0 ad) x _ W pt K ch) rfl r1.1 (by decide) rfl ⟨wd931, wd932, wd933, wd2, wd934⟩ ⟨rfl, hy_X9_count⟩ rfl ⟨Nat.le_of_ble_eq_true rfl, Nat.le_of_ble_eq_true rfl⟩ (Nat.le_of_ble_eq_true rfl) ⟨(by show 1000 + 20 * i + _ ≤ 600000; omega), (by show 100000 + 1000 * i + _ ≤ 7302250; omega)⟩ dL_law_1177 ⟨rfl, hI.1, r1.1, hr, hI.2.2.1, ⟨o_ch, i_ch⟩⟩ (fun r_1177 S1177 h_1177 => ?_)
  obtain ⟨v1177, rfl, p_v1177, iv1, ch1, rl1⟩ := h_1177
  have hI : lawI S1177 x m0 ad K := ⟨iv1, mdR_ext (ext_c (cq := ch) ch1 (by simp) (by simp)) (fun a ha z => (by have z' : a = ch := z; rw [z'] at ha; exact inv_nM hI.1 i_ch (Or.inl (by decide)) ha)) hI.2.1, hI.2.2.1, W, pt, rl1⟩
  refine v_aload_n C dL_law_1180 rfl ?_
  refine v_aload_n C dL_law_1181 rfl ?_
  refine v_iload_n C dL_law_1182 rfl ?_
  refine v_iconst (v := nI 1) C dL_law_1183 (by decide) ?_
  refine n_iadd C dL_law_1184 ?_
  refine v_sld C hX hbl hbA (vp_in_nI (by omega) (by omega)) dL_law_1185 ?_
  refine v_callV (As := [_]) (n := 1) C (rt_X10_count l m0 ad _ _) rfl hI.2.1.1 (by decide) rfl ⟨wd964, wd965, wd966, wd5, wd967⟩ ⟨rfl, hy_X10_count⟩ rfl ⟨Nat.le_of_ble_eq_true rfl, Nat.le_of_ble_eq_true rfl⟩ (Nat.le_of_ble_eq_true rfl) ⟨(by show 1000 + 20 * i + _ ≤ 600000; omega), (by show 100000 + 1000 * i + _ ≤ 7302250; omega)⟩ dL_law_1186 ⟨rfl, hI.2.1, hI.2.2.1⟩ (fun r_1186 S1186 h_1186 => ?_)
  obtain ⟨v1186, rfl, p_v1186, q_v1186⟩ := h_1186
  obtain rfl := q_v1186.symm
  have he := p_v1177.trans p_v1186.symm
  refine v_icmp_eq (tgt := 1207) C dL_law_1189 (by decide) (fun _ => ?_) (fun hne => absurd he hne)
  refine V.widen (c2 := 1000 + 20 * i + 100) (s2 := 100000 + 1000 * i + 5000) (by omega) (by omega) ?_
  exact hend _ _ hI
theorem dL_law_1194 : decode cL_law 1194 = .ok (.aload_n 1, 1) := by decide +kernel
theorem dL_law_1195 : decode cL_law 1195 = .ok (.invokevirtual 127, 3) := by decide +kernel
theorem dL_law_1198 : decode cL_law 1198 = .ok (.pop2, 1) := by decide +kernel
theorem dL_law_1199 : decode cL_law 1199 = .ok (.aload_n 2, 1) := by decide +kernel
theorem dL_law_1200 : decode cL_law 1200 = .ok (.invokevirtual 131, 3) := by decide +kernel
theorem dL_law_1203 : decode cL_law 1203 = .ok (.pop2, 1) := by decide +kernel
theorem dL_law_1204 : decode cL_law 1204 = .ok (.goto 3, 3) := by decide +kernel
set_option maxRecDepth 100000 in
set_option maxHeartbeats 4000000 in
theorem law_c26 {p : Program} {l : Launch} {e : Env} {s : State} {m : MethodId} {below : List Frame} {meth : Method} {c : Code} {D : va_G} {G : Nat → ClassId} {bs : Nat} {Q : State → Prop} {b : Nat} {xs : Nat → Int32} {L i x m0 : Nat} {ad : Nat → Nat} {S : Mem} {K : RS} (C : Cx p s m #[Value.ref b] meth c D G bs code 4 RL) (hX : va_X b L xs s s.heap) (hbl : b < s.heap.size) (hbA : ¬ bs ≤ b) (hL : L ≤ 2560) (hi : i + 5 ≤ L) (hI : lawI S x m0 ad K) (hend : ∀ (S' : Mem) (K' : RS), lawI S' x m0 ad K' → V p l e room_1 s m #[Value.ref b] below meth c D G bs 4 Q (1000 + 20 * i + 100) (100000 + 1000 * i + 5000) S' 1207 [some (.ref b), some (.ref x), some (.ref m0), some (.int (nI i))] []) : V p l e room_1 s m #[Value.ref b] below meth c D G bs 4 Q (1000 + 20 * i) (100000 + 1000 * i) S 1194 [some (.ref b), some (.ref x), some (.ref m0), some (.int (nI i))] [] := by
  refine v_aload_n C dL_law_1194 rfl ?_
  have ix := hI.2.2.2.choose_spec.choose_spec.1.1
  refine v_callV (As := []) (n := 0) C (st_X9_digest l (mX m0 ad) x) rfl ix (by decide) rfl ⟨wd968, wd969, wd970, wd2, wd971⟩ ⟨rfl, hy_X9_digest⟩ rfl ⟨Nat.le_of_ble_eq_true rfl, Nat.le_of_ble_eq_true rfl⟩ (Nat.le_of_ble_eq_true rfl) ⟨(by show 1000 + 20 * i + _ ≤ 600000; omega), (by show 100000 + 1000 * i + _ ≤ 7302250; omega)⟩ dL_law_1195 ⟨rfl, hI.1, ix⟩ (fun r_1195 S1195 h_1195 => ?_)
  obtain ⟨v1195, rfl, iv_1195, x_1195⟩ := h_1195
  have hI := lawI_q hI iv_1195 x_1195 (by decide)
  refine v_pop2 C dL_law_1198 ?_
  refine v_aload_n C dL_law_1199 rfl ?_
  refine v_callV (As := []) (n := 0) C (rt_X10_digest l m0 ad _) rfl hI.2.1.1 (by decide) rfl ⟨wd979, wd980, wd981, wd5, wd982⟩ ⟨rfl, hy_X10_digest⟩ rfl ⟨Nat.le_of_ble_eq_true rfl, Nat.le_of_ble_eq_true rfl⟩ (Nat.le_of_ble_eq_true rfl) ⟨(by show 1000 + 20 * i + _ ≤ 600000; omega), (by show 100000 + 1000 * i + _ ≤ 7302250; omega)⟩ dL_law_1200 ⟨rfl, hI.2.1, hI.2.2.1⟩ (fun r_1200 S1200 h_1200 => ?_)
  obtain ⟨v1200, rfl, p_v1200, q_v1200⟩ := h_1200
  obtain rfl := q_v1200.symm
  refine v_pop2 C dL_law_1203 ?_
  refine v_goto (tgt := 1207) C dL_law_1204 (by decide) ?_
  refine V.widen (c2 := 1000 + 20 * i + 100) (s2 := 100000 + 1000 * i + 5000) (by omega) (by omega) ?_
  exact hend _ _ hI
