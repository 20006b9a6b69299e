theorem dL_law_156 : decode cL_law 156 = .ok (.aload_n 1, 1) := by decide +kernel
theorem dL_law_157 : decode cL_law 157 = .ok (.aload_n 0, 1) := by decide +kernel
theorem dL_law_158 : decode cL_law 158 = .ok (.iload_n 3, 1) := by decide +kernel
theorem dL_law_159 : decode cL_law 159 = .ok (.iconst 1, 1) := by decide +kernel
theorem dL_law_160 : decode cL_law 160 = .ok (.iadd, 1) := by decide +kernel
theorem dL_law_161 : decode cL_law 161 = .ok (.iaload, 1) := by decide +kernel
theorem dL_law_162 : decode cL_law 162 = .ok (.aload_n 0, 1) := by decide +kernel
theorem dL_law_163 : decode cL_law 163 = .ok (.iload_n 3, 1) := by decide +kernel
theorem dL_law_164 : decode cL_law 164 = .ok (.iconst 2, 1) := by decide +kernel
theorem dL_law_165 : decode cL_law 165 = .ok (.iadd, 1) := by decide +kernel
theorem dL_law_166 : decode cL_law 166 = .ok (.iaload, 1) := by decide +kernel
theorem dL_law_167 : decode cL_law 167 = .ok (.aload_n 0, 1) := by decide +kernel
theorem dL_law_168 : decode cL_law 168 = .ok (.iload_n 3, 1) := by decide +kernel
theorem dL_law_169 : decode cL_law 169 = .ok (.iconst 3, 1) := by decide +kernel
theorem dL_law_170 : decode cL_law 170 = .ok (.iadd, 1) := by decide +kernel
theorem dL_law_171 : decode cL_law 171 = .ok (.iaload, 1) := by decide +kernel
theorem dL_law_172 : decode cL_law 172 = .ok (.invokevirtual 13, 3) := by decide +kernel
theorem dL_law_175 : decode cL_law 175 = .ok (.aload_n 2, 1) := by decide +kernel
theorem dL_law_176 : decode cL_law 176 = .ok (.aload_n 0, 1) := by decide +kernel
theorem dL_law_177 : decode cL_law 177 = .ok (.iload_n 3, 1) := by decide +kernel
theorem dL_law_178 : decode cL_law 178 = .ok (.iconst 1, 1) := by decide +kernel
theorem dL_law_179 : decode cL_law 179 = .ok (.iadd, 1) := by decide +kernel
theorem dL_law_180 : decode cL_law 180 = .ok (.iaload, 1) := by decide +kernel
theorem dL_law_181 : decode cL_law 181 = .ok (.aload_n 0, 1) := by decide +kernel
theorem dL_law_182 : decode cL_law 182 = .ok (.iload_n 3, 1) := by decide +kernel
theorem dL_law_183 : decode cL_law 183 = .ok (.iconst 2, 1) := by decide +kernel
theorem dL_law_184 : decode cL_law 184 = .ok (.iadd, 1) := by decide +kernel
theorem dL_law_185 : decode cL_law 185 = .ok (.iaload, 1) := by decide +kernel
theorem dL_law_186 : decode cL_law 186 = .ok (.aload_n 0, 1) := by decide +kernel
theorem dL_law_187 : decode cL_law 187 = .ok (.iload_n 3, 1) := by decide +kernel
theorem dL_law_188 : decode cL_law 188 = .ok (.iconst 3, 1) := by decide +kernel
theorem dL_law_189 : decode cL_law 189 = .ok (.iadd, 1) := by decide +kernel
theorem dL_law_190 : decode cL_law 190 = .ok (.iaload, 1) := by decide +kernel
theorem dL_law_191 : decode cL_law 191 = .ok (.invokevirtual 17, 3) := by decide +kernel
theorem dL_law_194 : decode cL_law 194 = .ok (.if_icmp .eq 1017, 3) := by decide +kernel
set_option maxRecDepth 100000 in
set_option maxHeartbeats 4000000 in
theorem law_c0 {p : Program} {l : Launch} {e : Env} {s : State} {m : MethodId} {below : List Frame} {meth : Method} {c : Code} {D : va_G} {G : Nat → ClassId} {bs : Nat} {Q : State → Prop} {b : Nat} {xs : Nat → Int32} {S : Mem} {x co ts fs mg ch rw ft gl gr gq ml mr mq sg tp cs m0 : Nat} {ad : Nat → Nat} (C : Cx p s m #[Value.ref b] meth c D G bs code 4 RL) (hX : va_X b 5 xs s s.heap) (hbl : b < s.heap.size) (hbA : ¬ bs ≤ b) (kA : pcAt S x co ts fs mg ch rw ft gl gr gq ml mr mq sg tp cs) (kN : pcNew S x co ts fs sg tp) (kM : mdNew S m0 ad) (hmN : ¬ m0 ∈ [co, ts, fs, mg, rw, ft, gl, gq, ml, mq]) (hadN : ∀ q ∈ mTab, ¬ ad q.1 ∈ [co, ts, fs, mg, rw, ft, gl, gq, ml, mq]) (hend : ∀ (T : Mem) (ce sl : Nat), ce ≤ 600000 → sl ≤ 7302250 → V p l e room_1 s m #[Value.ref b] below meth c D G bs 4 Q ce sl T 1211 [some (.ref b), some (.ref x), some (.ref m0), some (.int 0)] []) : V p l e room_1 s m #[Value.ref b] below meth c D G bs 4 Q 1000 100000 S 156 [some (.ref b), some (.ref x), some (.ref m0), some (.int 0)] [] := by
  refine v_aload_n C dL_law_156 rfl ?_
  refine v_aload_n C dL_law_157 rfl ?_
  refine v_iload_n C dL_law_158 rfl ?_
  refine v_iconst (v := 1) C dL_law_159 (by decide) ?_
  refine v_iadd C dL_law_160 ?_
  refine v_sld C hX hbl hbA (isB_in (b := 5) (by decide) rfl) dL_law_161 ?_
  refine v_aload_n C dL_law_162 rfl ?_
  refine v_iload_n C dL_law_163 rfl ?_
  refine v_iconst (v := 2) C dL_law_164 (by decide) ?_
  refine v_iadd C dL_law_165 ?_
  refine v_sld C hX hbl hbA (isB_in (b := 5) (by decide) rfl) dL_law_166 ?_
  refine v_aload_n C dL_law_167 rfl ?_
  refine v_iload_n C dL_law_168 rfl ?_
  refine v_iconst (v := 3) C dL_law_169 (by decide) ?_
  refine v_iadd C dL_law_170 ?_
  refine v_sld C hX hbl hbA (isB_in (b := 5) (by decide) rfl) dL_law_171 ?_
  refine v_callV (As := [_, _, _]) (n := 3) C (ct_X9_trait l x co ts fs mg ch rw ft gl gr gq ml mr mq sg tp cs _ _ _) rfl kA.1 (by decide) rfl ⟨wd124, wd125, wd126, wd2, wd127⟩ ⟨rfl, hy_X9_trait⟩ rfl ⟨Nat.le_of_ble_eq_true rfl, Nat.le_of_ble_eq_true rfl⟩ (Nat.le_of_ble_eq_true rfl) ⟨Nat.le_of_ble_eq_true rfl, Nat.le_of_ble_eq_true rfl⟩ dL_law_172 ⟨rfl, kA, kN⟩ (fun r_172 S_172 h_172 => ?_)
  obtain ⟨rfl, x_172⟩ := h_172
  have kM := mdNew_ext x_172 hmN hadN kM
  refine v_aload_n C dL_law_175 rfl ?_
  refine v_aload_n C dL_law_176 rfl ?_
  refine v_iload_n C dL_law_177 rfl ?_
  refine v_iconst (v := 1) C dL_law_178 (by decide) ?_
  refine v_iadd C dL_law_179 ?_
  refine v_sld C hX hbl hbA (isB_in (b := 5) (by decide) rfl) dL_law_180 ?_
  refine v_aload_n C dL_law_181 rfl ?_
  refine v_iload_n C dL_law_182 rfl ?_
  refine v_iconst (v := 2) C dL_law_183 (by decide) ?_
  refine v_iadd C dL_law_184 ?_
  refine v_sld C hX hbl hbA (isB_in (b := 5) (by decide) rfl) dL_law_185 ?_
  refine v_aload_n C dL_law_186 rfl ?_
  refine v_iload_n C dL_law_187 rfl ?_
  refine v_iconst (v := 3) C dL_law_188 (by decide) ?_
  refine v_iadd C dL_law_189 ?_
  refine v_sld C hX hbl hbA (isB_in (b := 5) (by decide) rfl) dL_law_190 ?_
  refine v_callV (As := [_, _, _]) (n := 3) C (ct_X10_trait l m0 ad _ _ _) rfl kM.1 (by decide) rfl ⟨wd230, wd231, wd232, wd5, wd233⟩ ⟨rfl, hy_X10_trait⟩ rfl ⟨Nat.le_of_ble_eq_true rfl, Nat.le_of_ble_eq_true rfl⟩ (Nat.le_of_ble_eq_true rfl) ⟨Nat.le_of_ble_eq_true rfl, Nat.le_of_ble_eq_true rfl⟩ dL_law_191 ⟨rfl, kM⟩ (fun r_191 S_191 h_191 => ?_)
  obtain rfl := h_191
  refine v_icmp_eq (tgt := 1211) C dL_law_194 (by decide) (fun c_194 => ?_) (fun c_194 => ?_)
  · skip
    exact hend _ _ _ (Nat.le_of_ble_eq_true rfl) (Nat.le_of_ble_eq_true rfl)
  · skip
    exact absurd rfl c_194
theorem dL_law_199 : decode cL_law 199 = .ok (.aload_n 1, 1) := by decide +kernel
theorem dL_law_200 : decode cL_law 200 = .ok (.aload_n 0, 1) := by decide +kernel
theorem dL_law_201 : decode cL_law 201 = .ok (.iload_n 3, 1) := by decide +kernel
theorem dL_law_202 : decode cL_law 202 = .ok (.iconst 1, 1) := by decide +kernel
theorem dL_law_203 : decode cL_law 203 = .ok (.iadd, 1) := by decide +kernel
theorem dL_law_204 : decode cL_law 204 = .ok (.iaload, 1) := by decide +kernel
theorem dL_law_205 : decode cL_law 205 = .ok (.invokevirtual 18, 3) := by decide +kernel
theorem dL_law_208 : decode cL_law 208 = .ok (.aload_n 2, 1) := by decide +kernel
theorem dL_law_209 : decode cL_law 209 = .ok (.aload_n 0, 1) := by decide +kernel
theorem dL_law_210 : decode cL_law 210 = .ok (.iload_n 3, 1) := by decide +kernel
theorem dL_law_211 : decode cL_law 211 = .ok (.iconst 1, 1) := by decide +kernel
theorem dL_law_212 : decode cL_law 212 = .ok (.iadd, 1) := by decide +kernel
theorem dL_law_213 : decode cL_law 213 = .ok (.iaload, 1) := by decide +kernel
theorem dL_law_214 : decode cL_law 214 = .ok (.invokevirtual 22, 3) := by decide +kernel
theorem dL_law_217 : decode cL_law 217 = .ok (.if_icmp .eq 994, 3) := by decide +kernel
set_option maxRecDepth 100000 in
set_option maxHeartbeats 4000000 in
theorem law_c1 {p : Program} {l : Launch} {e : Env} {s : State} {m : MethodId} {below : List Frame} {meth : Method} {c : Code} {D : va_G} {G : Nat → ClassId} {bs : Nat} {Q : State → Prop} {b : Nat} {xs : Nat → Int32} {S : Mem} {x co ts fs mg ch rw ft gl gr gq ml mr mq sg tp cs m0 : Nat} {ad : Nat → Nat} (C : Cx p s m #[Value.ref b] meth c D G bs code 4 RL) (hX : va_X b 5 xs s s.heap) (hbl : b < s.heap.size) (hbA : ¬ bs ≤ b) (kA : pcAt S x co ts fs mg ch rw ft gl gr gq ml mr mq sg tp cs) (kN : pcNew S x co ts fs sg tp) (kM : mdNew S m0 ad) (hmN : ¬ m0 ∈ [co, ts, fs, mg, rw, ft, gl, gq, ml, mq]) (hadN : ∀ q ∈ mTab, ¬ ad q.1 ∈ [co, ts, fs, mg, rw, ft, gl, gq, ml, mq]) (hend : ∀ (T : Mem) (ce sl : Nat), ce ≤ 600000 → sl ≤ 7302250 → V p l e room_1 s m #[Value.ref b] below meth c D G bs 4 Q ce sl T 1211 [some (.ref b), some (.ref x), some (.ref m0), some (.int 0)] []) : V p l e room_1 s m #[Value.ref b] below meth c D G bs 4 Q 1000 100000 S 199 [some (.ref b), some (.ref x), some (.ref m0), some (.int 0)] [] := by
  refine v_aload_n C dL_law_199 rfl ?_
  refine v_aload_n C dL_law_200 rfl ?_
  refine v_iload_n C dL_law_201 rfl ?_
  refine v_iconst (v := 1) C dL_law_202 (by decide) ?_
  refine v_iadd C dL_law_203 ?_
  refine v_sld C hX hbl hbA (isB_in (b := 5) (by decide) rfl) dL_law_204 ?_
  refine v_callV (As := [_]) (n := 1) C (ct_X9_character l x co ts fs mg ch rw ft gl gr gq ml mr mq sg tp cs _) rfl kA.1 (by decide) rfl ⟨wd259, wd260, wd261, wd2, wd262⟩ ⟨rfl, hy_X9_character⟩ rfl ⟨Nat.le_of_ble_eq_true rfl, Nat.le_of_ble_eq_true rfl⟩ (Nat.le_of_ble_eq_true rfl) ⟨Nat.le_of_ble_eq_true rfl, Nat.le_of_ble_eq_true rfl⟩ dL_law_205 ⟨rfl, kA, kN⟩ (fun r_205 S_205 h_205 => ?_)
  obtain ⟨rfl, x_205⟩ := h_205
  have kM := mdNew_ext x_205 hmN hadN kM
  refine v_aload_n C dL_law_208 rfl ?_
  refine v_aload_n C dL_law_209 rfl ?_
  refine v_iload_n C dL_law_210 rfl ?_
  refine v_iconst (v := 1) C dL_law_211 (by decide) ?_
  refine v_iadd C dL_law_212 ?_
  refine v_sld C hX hbl hbA (isB_in (b := 5) (by decide) rfl) dL_law_213 ?_
  refine v_callV (As := [_]) (n := 1) C (ct_X10_character l m0 ad _) rfl kM.1 (by decide) rfl ⟨wd290, wd291, wd292, wd5, wd293⟩ ⟨rfl, hy_X10_character⟩ rfl ⟨Nat.le_of_ble_eq_true rfl, Nat.le_of_ble_eq_true rfl⟩ (Nat.le_of_ble_eq_true rfl) ⟨Nat.le_of_ble_eq_true rfl, Nat.le_of_ble_eq_true rfl⟩ dL_law_214 ⟨rfl, kM⟩ (fun r_214 S_214 h_214 => ?_)
  obtain rfl := h_214
  refine v_icmp_eq (tgt := 1211) C dL_law_217 (by decide) (fun c_217 => ?_) (fun c_217 => ?_)
  · skip
    exact hend _ _ _ (Nat.le_of_ble_eq_true rfl) (Nat.le_of_ble_eq_true rfl)
  · skip
    exact absurd rfl c_217
theorem dL_law_222 : decode cL_law 222 = .ok (.aload_n 1, 1) := by decide +kernel
theorem dL_law_223 : decode cL_law 223 = .ok (.aload_n 0, 1) := by decide +kernel
theorem dL_law_224 : decode cL_law 224 = .ok (.iload_n 3, 1) := by decide +kernel
theorem dL_law_225 : decode cL_law 225 = .ok (.iconst 1, 1) := by decide +kernel
theorem dL_law_226 : decode cL_law 226 = .ok (.iadd, 1) := by decide +kernel
theorem dL_law_227 : decode cL_law 227 = .ok (.iaload, 1) := by decide +kernel
theorem dL_law_228 : decode cL_law 228 = .ok (.aload_n 0, 1) := by decide +kernel
theorem dL_law_229 : decode cL_law 229 = .ok (.iload_n 3, 1) := by decide +kernel
theorem dL_law_230 : decode cL_law 230 = .ok (.iconst 2, 1) := by decide +kernel
theorem dL_law_231 : decode cL_law 231 = .ok (.iadd, 1) := by decide +kernel
theorem dL_law_232 : decode cL_law 232 = .ok (.iaload, 1) := by decide +kernel
theorem dL_law_233 : decode cL_law 233 = .ok (.invokevirtual 23, 3) := by decide +kernel
theorem dL_law_236 : decode cL_law 236 = .ok (.aload_n 2, 1) := by decide +kernel
theorem dL_law_237 : decode cL_law 237 = .ok (.aload_n 0, 1) := by decide +kernel
theorem dL_law_238 : decode cL_law 238 = .ok (.iload_n 3, 1) := by decide +kernel
theorem dL_law_239 : decode cL_law 239 = .ok (.iconst 1, 1) := by decide +kernel
theorem dL_law_240 : decode cL_law 240 = .ok (.iadd, 1) := by decide +kernel
theorem dL_law_241 : decode cL_law 241 = .ok (.iaload, 1) := by decide +kernel
theorem dL_law_242 : decode cL_law 242 = .ok (.aload_n 0, 1) := by decide +kernel
theorem dL_law_243 : decode cL_law 243 = .ok (.iload_n 3, 1) := by decide +kernel
theorem dL_law_244 : decode cL_law 244 = .ok (.iconst 2, 1) := by decide +kernel
theorem dL_law_245 : decode cL_law 245 = .ok (.iadd, 1) := by decide +kernel
theorem dL_law_246 : decode cL_law 246 = .ok (.iaload, 1) := by decide +kernel
theorem dL_law_247 : decode cL_law 247 = .ok (.invokevirtual 27, 3) := by decide +kernel
theorem dL_law_250 : decode cL_law 250 = .ok (.if_icmp .eq 961, 3) := by decide +kernel
set_option maxRecDepth 100000 in
set_option maxHeartbeats 4000000 in
theorem law_c2 {p : Program} {l : Launch} {e : Env} {s : State} {m : MethodId} {below : List Frame} {meth : Method} {c : Code} {D : va_G} {G : Nat → ClassId} {bs : Nat} {Q : State → Prop} {b : Nat} {xs : Nat → Int32} {S : Mem} {x co ts fs mg ch rw ft gl gr gq ml mr mq sg tp cs m0 : Nat} {ad : Nat → Nat} (C : Cx p s m #[Value.ref b] meth c D G bs code 4 RL) (hX : va_X b 5 xs s s.heap) (hbl : b < s.heap.size) (hbA : ¬ bs ≤ b) (kA : pcAt S x co ts fs mg ch rw ft gl gr gq ml mr mq sg tp cs) (kN : pcNew S x co ts fs sg tp) (kM : mdNew S m0 ad) (hmN : ¬ m0 ∈ [co, ts, fs, mg, rw, ft, gl, gq, ml, mq]) (hadN : ∀ q ∈ mTab, ¬ ad q.1 ∈ [co, ts, fs, mg, rw, ft, gl, gq, ml, mq]) (hend : ∀ (T : Mem) (ce sl : Nat), ce ≤ 600000 → sl ≤ 7302250 → V p l e room_1 s m #[Value.ref b] below meth c D G bs 4 Q ce sl T 1211 [some (.ref b), some (.ref x), some (.ref m0), some (.int 0)] []) : V p l e room_1 s m #[Value.ref b] below meth c D G bs 4 Q 1000 100000 S 222 [some (.ref b), some (.ref x), some (.ref m0), some (.int 0)] [] := by
  refine v_aload_n C dL_law_222 rfl ?_
  refine v_aload_n C dL_law_223 rfl ?_
  refine v_iload_n C dL_law_224 rfl ?_
  refine v_iconst (v := 1) C dL_law_225 (by decide) ?_
  refine v_iadd C dL_law_226 ?_
  refine v_sld C hX hbl hbA (isB_in (b := 5) (by decide) rfl) dL_law_227 ?_
  refine v_aload_n C dL_law_228 rfl ?_
  refine v_iload_n C dL_law_229 rfl ?_
  refine v_iconst (v := 2) C dL_law_230 (by decide) ?_
  refine v_iadd C dL_law_231 ?_
  refine v_sld C hX hbl hbA (isB_in (b := 5) (by decide) rfl) dL_law_232 ?_
  refine v_callV (As := [_, _]) (n := 2) C (ct_X9_takes l x co ts fs mg ch rw ft gl gr gq ml mr mq sg tp cs _ _) rfl kA.1 (by decide) rfl ⟨wd295, wd296, wd297, wd2, wd298⟩ ⟨rfl, hy_X9_takes⟩ rfl ⟨Nat.le_of_ble_eq_true rfl, Nat.le_of_ble_eq_true rfl⟩ (Nat.le_of_ble_eq_true rfl) ⟨Nat.le_of_ble_eq_true rfl, Nat.le_of_ble_eq_true rfl⟩ dL_law_233 ⟨rfl, kA, kN⟩ (fun r_233 S_233 h_233 => ?_)
  obtain ⟨rfl, q_233⟩ := h_233
  obtain rfl := q_233.symm
  refine v_aload_n C dL_law_236 rfl ?_
  refine v_aload_n C dL_law_237 rfl ?_
  refine v_iload_n C dL_law_238 rfl ?_
  refine v_iconst (v := 1) C dL_law_239 (by decide) ?_
  refine v_iadd C dL_law_240 ?_
  refine v_sld C hX hbl hbA (isB_in (b := 5) (by decide) rfl) dL_law_241 ?_
  refine v_aload_n C dL_law_242 rfl ?_
  refine v_iload_n C dL_law_243 rfl ?_
  refine v_iconst (v := 2) C dL_law_244 (by decide) ?_
  refine v_iadd C dL_law_245 ?_
  refine v_sld C hX hbl hbA (isB_in (b := 5) (by decide) rfl) dL_law_246 ?_
  refine v_callV (As := [_, _]) (n := 2) C (ct_X10_takes l m0 ad _ _) rfl kM.1 (by decide) rfl ⟨wd330, wd331, wd332, wd5, wd333⟩ ⟨rfl, hy_X10_takes⟩ rfl ⟨Nat.le_of_ble_eq_true rfl, Nat.le_of_ble_eq_true rfl⟩ (Nat.le_of_ble_eq_true rfl) ⟨Nat.le_of_ble_eq_true rfl, Nat.le_of_ble_eq_true rfl⟩ dL_law_247 ⟨rfl, kM⟩ (fun r_247 S_247 h_247 => ?_)
  obtain rfl := h_247
  refine v_icmp_eq (tgt := 1211) C dL_law_250 (by decide) (fun c_250 => ?_) (fun c_250 => ?_)
  · skip
    exact hend _ _ _ (Nat.le_of_ble_eq_true rfl) (Nat.le_of_ble_eq_true rfl)
  · skip
    exact absurd rfl c_250
theorem dL_law_255 : decode cL_law 255 = .ok (.aload_n 1, 1) := by decide +kernel
theorem dL_law_256 : decode cL_law 256 = .ok (.aload_n 0, 1) := by decide +kernel
theorem dL_law_257 : decode cL_law 257 = .ok (.iload_n 3, 1) := by decide +kernel
theorem dL_law_258 : decode cL_law 258 = .ok (.iconst 1, 1) := by decide +kernel
theorem dL_law_259 : decode cL_law 259 = .ok (.iadd, 1) := by decide +kernel
theorem dL_law_260 : decode cL_law 260 = .ok (.iaload, 1) := by decide +kernel
theorem dL_law_261 : decode cL_law 261 = .ok (.aload_n 0, 1) := by decide +kernel
theorem dL_law_262 : decode cL_law 262 = .ok (.iload_n 3, 1) := by decide +kernel
theorem dL_law_263 : decode cL_law 263 = .ok (.iconst 2, 1) := by decide +kernel
theorem dL_law_264 : decode cL_law 264 = .ok (.iadd, 1) := by decide +kernel
theorem dL_law_265 : decode cL_law 265 = .ok (.iaload, 1) := by decide +kernel
theorem dL_law_266 : decode cL_law 266 = .ok (.aload_n 0, 1) := by decide +kernel
theorem dL_law_267 : decode cL_law 267 = .ok (.iload_n 3, 1) := by decide +kernel
theorem dL_law_268 : decode cL_law 268 = .ok (.iconst 3, 1) := by decide +kernel
theorem dL_law_269 : decode cL_law 269 = .ok (.iadd, 1) := by decide +kernel
theorem dL_law_270 : decode cL_law 270 = .ok (.iaload, 1) := by decide +kernel
theorem dL_law_271 : decode cL_law 271 = .ok (.aload_n 0, 1) := by decide +kernel
theorem dL_law_272 : decode cL_law 272 = .ok (.iload_n 3, 1) := by decide +kernel
theorem dL_law_273 : decode cL_law 273 = .ok (.iconst 4, 1) := by decide +kernel
theorem dL_law_274 : decode cL_law 274 = .ok (.iadd, 1) := by decide +kernel
theorem dL_law_275 : decode cL_law 275 = .ok (.iaload, 1) := by decide +kernel
theorem dL_law_276 : decode cL_law 276 = .ok (.invokevirtual 28, 3) := by decide +kernel
theorem dL_law_279 : decode cL_law 279 = .ok (.aload_n 2, 1) := by decide +kernel
theorem dL_law_280 : decode cL_law 280 = .ok (.aload_n 0, 1) := by decide +kernel
theorem dL_law_281 : decode cL_law 281 = .ok (.iload_n 3, 1) := by decide +kernel
theorem dL_law_282 : decode cL_law 282 = .ok (.iconst 1, 1) := by decide +kernel
theorem dL_law_283 : decode cL_law 283 = .ok (.iadd, 1) := by decide +kernel
theorem dL_law_284 : decode cL_law 284 = .ok (.iaload, 1) := by decide +kernel
theorem dL_law_285 : decode cL_law 285 = .ok (.aload_n 0, 1) := by decide +kernel
theorem dL_law_286 : decode cL_law 286 = .ok (.iload_n 3, 1) := by decide +kernel
theorem dL_law_287 : decode cL_law 287 = .ok (.iconst 2, 1) := by decide +kernel
theorem dL_law_288 : decode cL_law 288 = .ok (.iadd, 1) := by decide +kernel
theorem dL_law_289 : decode cL_law 289 = .ok (.iaload, 1) := by decide +kernel
theorem dL_law_290 : decode cL_law 290 = .ok (.aload_n 0, 1) := by decide +kernel
theorem dL_law_291 : decode cL_law 291 = .ok (.iload_n 3, 1) := by decide +kernel
theorem dL_law_292 : decode cL_law 292 = .ok (.iconst 3, 1) := by decide +kernel
theorem dL_law_293 : decode cL_law 293 = .ok (.iadd, 1) := by decide +kernel
theorem dL_law_294 : decode cL_law 294 = .ok (.iaload, 1) := by decide +kernel
theorem dL_law_295 : decode cL_law 295 = .ok (.aload_n 0, 1) := by decide +kernel
theorem dL_law_296 : decode cL_law 296 = .ok (.iload_n 3, 1) := by decide +kernel
theorem dL_law_297 : decode cL_law 297 = .ok (.iconst 4, 1) := by decide +kernel
theorem dL_law_298 : decode cL_law 298 = .ok (.iadd, 1) := by decide +kernel
theorem dL_law_299 : decode cL_law 299 = .ok (.iaload, 1) := by decide +kernel
theorem dL_law_300 : decode cL_law 300 = .ok (.invokevirtual 32, 3) := by decide +kernel
theorem dL_law_303 : decode cL_law 303 = .ok (.if_icmp .eq 908, 3) := by decide +kernel
set_option maxRecDepth 100000 in
set_option maxHeartbeats 4000000 in
theorem law_c3 {p : Program} {l : Launch} {e : Env} {s : State} {m : MethodId} {below : List Frame} {meth : Method} {c : Code} {D : va_G} {G : Nat → ClassId} {bs : Nat} {Q : State → Prop} {b : Nat} {xs : Nat → Int32} {S : Mem} {x co ts fs mg ch rw ft gl gr gq ml mr mq sg tp cs m0 : Nat} {ad : Nat → Nat} (C : Cx p s m #[Value.ref b] meth c D G bs code 4 RL) (hX : va_X b 5 xs s s.heap) (hbl : b < s.heap.size) (hbA : ¬ bs ≤ b) (kA : pcAt S x co ts fs mg ch rw ft gl gr gq ml mr mq sg tp cs) (kN : pcNew S x co ts fs sg tp) (kM : mdNew S m0 ad) (hmN : ¬ m0 ∈ [co, ts, fs, mg, rw, ft, gl, gq, ml, mq]) (hadN : ∀ q ∈ mTab, ¬ ad q.1 ∈ [co, ts, fs, mg, rw, ft, gl, gq, ml, mq]) (hend : ∀ (T : Mem) (ce sl : Nat), ce ≤ 600000 → sl ≤ 7302250 → V p l e room_1 s m #[Value.ref b] below meth c D G bs 4 Q ce sl T 1211 [some (.ref b), some (.ref x), some (.ref m0), some (.int 0)] []) : V p l e room_1 s m #[Value.ref b] below meth c D G bs 4 Q 1000 100000 S 255 [some (.ref b), some (.ref x), some (.ref m0), some (.int 0)] [] := by
  refine v_aload_n C dL_law_255 rfl ?_
  refine v_aload_n C dL_law_256 rfl ?_
  refine v_iload_n C dL_law_257 rfl ?_
  refine v_iconst (v := 1) C dL_law_258 (by decide) ?_
  refine v_iadd C dL_law_259 ?_
  refine v_sld C hX hbl hbA (isB_in (b := 5) (by decide) rfl) dL_law_260 ?_
  refine v_aload_n C dL_law_261 rfl ?_
  refine v_iload_n C dL_law_262 rfl ?_
  refine v_iconst (v := 2) C dL_law_263 (by decide) ?_
  refine v_iadd C dL_law_264 ?_
  refine v_sld C hX hbl hbA (isB_in (b := 5) (by decide) rfl) dL_law_265 ?_
  refine v_aload_n C dL_law_266 rfl ?_
  refine v_iload_n C dL_law_267 rfl ?_
  refine v_iconst (v := 3) C dL_law_268 (by decide) ?_
  refine v_iadd C dL_law_269 ?_
  refine v_sld C hX hbl hbA (isB_in (b := 5) (by decide) rfl) dL_law_270 ?_
  refine v_aload_n C dL_law_271 rfl ?_
  refine v_iload_n C dL_law_272 rfl ?_
  refine v_iconst (v := 4) C dL_law_273 (by decide) ?_
  refine v_iadd C dL_law_274 ?_
  refine v_sld C hX hbl hbA (isB_in (b := 5) (by decide) rfl) dL_law_275 ?_
  refine v_callV (As := [_, _, _, _]) (n := 4) C (ct_X9_body l x co ts fs mg ch rw ft gl gr gq ml mr mq sg tp cs _ _ _ _) rfl kA.1 (by decide) rfl ⟨wd338, wd339, wd340, wd2, wd341⟩ ⟨rfl, hy_X9_body⟩ rfl ⟨Nat.le_of_ble_eq_true rfl, Nat.le_of_ble_eq_true rfl⟩ (Nat.le_of_ble_eq_true rfl) ⟨Nat.le_of_ble_eq_true rfl, Nat.le_of_ble_eq_true rfl⟩ dL_law_276 ⟨rfl, kA, kN⟩ (fun r_276 S_276 h_276 => ?_)
  obtain ⟨rfl, q_276⟩ := h_276
  obtain rfl := q_276.symm
  refine v_aload_n C dL_law_279 rfl ?_
  refine v_aload_n C dL_law_280 rfl ?_
  refine v_iload_n C dL_law_281 rfl ?_
  refine v_iconst (v := 1) C dL_law_282 (by decide) ?_
  refine v_iadd C dL_law_283 ?_
  refine v_sld C hX hbl hbA (isB_in (b := 5) (by decide) rfl) dL_law_284 ?_
  refine v_aload_n C dL_law_285 rfl ?_
  refine v_iload_n C dL_law_286 rfl ?_
  refine v_iconst (v := 2) C dL_law_287 (by decide) ?_
  refine v_iadd C dL_law_288 ?_
  refine v_sld C hX hbl hbA (isB_in (b := 5) (by decide) rfl) dL_law_289 ?_
  refine v_aload_n C dL_law_290 rfl ?_
  refine v_iload_n C dL_law_291 rfl ?_
  refine v_iconst (v := 3) C dL_law_292 (by decide) ?_
  refine v_iadd C dL_law_293 ?_
  refine v_sld C hX hbl hbA (isB_in (b := 5) (by decide) rfl) dL_law_294 ?_
  refine v_aload_n C dL_law_295 rfl ?_
  refine v_iload_n C dL_law_296 rfl ?_
  refine v_iconst (v := 4) C dL_law_297 (by decide) ?_
  refine v_iadd C dL_law_298 ?_
  refine v_sld C hX hbl hbA (isB_in (b := 5) (by decide) rfl) dL_law_299 ?_
  refine v_callV (As := [_, _, _, _]) (n := 4) C (ct_X10_body l m0 ad _ _ _ _) rfl kM.1 (by decide) rfl ⟨wd364, wd365, wd366, wd5, wd367⟩ ⟨rfl, hy_X10_body⟩ rfl ⟨Nat.le_of_ble_eq_true rfl, Nat.le_of_ble_eq_true rfl⟩ (Nat.le_of_ble_eq_true rfl) ⟨Nat.le_of_ble_eq_true rfl, Nat.le_of_ble_eq_true rfl⟩ dL_law_300 ⟨rfl, kM⟩ (fun r_300 S_300 h_300 => ?_)
  obtain rfl := h_300
  refine v_icmp_eq (tgt := 1211) C dL_law_303 (by decide) (fun c_303 => ?_) (fun c_303 => ?_)
  · skip
    exact hend _ _ _ (Nat.le_of_ble_eq_true rfl) (Nat.le_of_ble_eq_true rfl)
  · skip
    exact absurd rfl c_303
theorem dL_law_308 : decode cL_law 308 = .ok (.aload_n 1, 1) := by decide +kernel
theorem dL_law_309 : decode cL_law 309 = .ok (.aload_n 0, 1) := by decide +kernel
theorem dL_law_310 : decode cL_law 310 = .ok (.iload_n 3, 1) := by decide +kernel
theorem dL_law_311 : decode cL_law 311 = .ok (.iconst 1, 1) := by decide +kernel
theorem dL_law_312 : decode cL_law 312 = .ok (.iadd, 1) := by decide +kernel
theorem dL_law_313 : decode cL_law 313 = .ok (.iaload, 1) := by decide +kernel
theorem dL_law_314 : decode cL_law 314 = .ok (.aload_n 0, 1) := by decide +kernel
theorem dL_law_315 : decode cL_law 315 = .ok (.iload_n 3, 1) := by decide +kernel
theorem dL_law_316 : decode cL_law 316 = .ok (.iconst 2, 1) := by decide +kernel
theorem dL_law_317 : decode cL_law 317 = .ok (.iadd, 1) := by decide +kernel
theorem dL_law_318 : decode cL_law 318 = .ok (.iaload, 1) := by decide +kernel
theorem dL_law_319 : decode cL_law 319 = .ok (.aload_n 0, 1) := by decide +kernel
theorem dL_law_320 : decode cL_law 320 = .ok (.iload_n 3, 1) := by decide +kernel
theorem dL_law_321 : decode cL_law 321 = .ok (.iconst 3, 1) := by decide +kernel
theorem dL_law_322 : decode cL_law 322 = .ok (.iadd, 1) := by decide +kernel
theorem dL_law_323 : decode cL_law 323 = .ok (.iaload, 1) := by decide +kernel
theorem dL_law_324 : decode cL_law 324 = .ok (.invokevirtual 33, 3) := by decide +kernel
theorem dL_law_327 : decode cL_law 327 = .ok (.aload_n 2, 1) := by decide +kernel
theorem dL_law_328 : decode cL_law 328 = .ok (.aload_n 0, 1) := by decide +kernel
theorem dL_law_329 : decode cL_law 329 = .ok (.iload_n 3, 1) := by decide +kernel
theorem dL_law_330 : decode cL_law 330 = .ok (.iconst 1, 1) := by decide +kernel
theorem dL_law_331 : decode cL_law 331 = .ok (.iadd, 1) := by decide +kernel
theorem dL_law_332 : decode cL_law 332 = .ok (.iaload, 1) := by decide +kernel
theorem dL_law_333 : decode cL_law 333 = .ok (.aload_n 0, 1) := by decide +kernel
theorem dL_law_334 : decode cL_law 334 = .ok (.iload_n 3, 1) := by decide +kernel
theorem dL_law_335 : decode cL_law 335 = .ok (.iconst 2, 1) := by decide +kernel
theorem dL_law_336 : decode cL_law 336 = .ok (.iadd, 1) := by decide +kernel
theorem dL_law_337 : decode cL_law 337 = .ok (.iaload, 1) := by decide +kernel
theorem dL_law_338 : decode cL_law 338 = .ok (.aload_n 0, 1) := by decide +kernel
theorem dL_law_339 : decode cL_law 339 = .ok (.iload_n 3, 1) := by decide +kernel
theorem dL_law_340 : decode cL_law 340 = .ok (.iconst 3, 1) := by decide +kernel
theorem dL_law_341 : decode cL_law 341 = .ok (.iadd, 1) := by decide +kernel
theorem dL_law_342 : decode cL_law 342 = .ok (.iaload, 1) := by decide +kernel
theorem dL_law_343 : decode cL_law 343 = .ok (.invokevirtual 36, 3) := by decide +kernel
theorem dL_law_346 : decode cL_law 346 = .ok (.if_icmp .eq 865, 3) := by decide +kernel
set_option maxRecDepth 100000 in
set_option maxHeartbeats 4000000 in
theorem law_c4 {p : Program} {l : Launch} {e : Env} {s : State} {m : MethodId} {below : List Frame} {meth : Method} {c : Code} {D : va_G} {G : Nat → ClassId} {bs : Nat} {Q : State → Prop} {b : Nat} {xs : Nat → Int32} {S : Mem} {x co ts fs mg ch rw ft gl gr gq ml mr mq sg tp cs m0 : Nat} {ad : Nat → Nat} (C : Cx p s m #[Value.ref b] meth c D G bs code 4 RL) (hX : va_X b 5 xs s s.heap) (hbl : b < s.heap.size) (hbA : ¬ bs ≤ b) (kA : pcAt S x co ts fs mg ch rw ft gl gr gq ml mr mq sg tp cs) (kN : pcNew S x co ts fs sg tp) (kM : mdNew S m0 ad) (hmN : ¬ m0 ∈ [co, ts, fs, mg, rw, ft, gl, gq, ml, mq]) (hadN : ∀ q ∈ mTab, ¬ ad q.1 ∈ [co, ts, fs, mg, rw, ft, gl, gq, ml, mq]) (hend : ∀ (T : Mem) (ce sl : Nat), ce ≤ 600000 → sl ≤ 7302250 → V p l e room_1 s m #[Value.ref b] below meth c D G bs 4 Q ce sl T 1211 [some (.ref b), some (.ref x), some (.ref m0), some (.int 0)] []) : V p l e room_1 s m #[Value.ref b] below meth c D G bs 4 Q 1000 100000 S 308 [some (.ref b), some (.ref x), some (.ref m0), some (.int 0)] [] := by
  refine v_aload_n C dL_law_308 rfl ?_
  refine v_aload_n C dL_law_309 rfl ?_
  refine v_iload_n C dL_law_310 rfl ?_
  refine v_iconst (v := 1) C dL_law_311 (by decide) ?_
  refine v_iadd C dL_law_312 ?_
  refine v_sld C hX hbl hbA (isB_in (b := 5) (by decide) rfl) dL_law_313 ?_
  refine v_aload_n C dL_law_314 rfl ?_
  refine v_iload_n C dL_law_315 rfl ?_
  refine v_iconst (v := 2) C dL_law_316 (by decide) ?_
  refine v_iadd C dL_law_317 ?_
  refine v_sld C hX hbl hbA (isB_in (b := 5) (by decide) rfl) dL_law_318 ?_
  refine v_aload_n C dL_law_319 rfl ?_
  refine v_iload_n C dL_law_320 rfl ?_
  refine v_iconst (v := 3) C dL_law_321 (by decide) ?_
  refine v_iadd C dL_law_322 ?_
  refine v_sld C hX hbl hbA (isB_in (b := 5) (by decide) rfl) dL_law_323 ?_
  refine v_callV (As := [_, _, _]) (n := 3) C (ct_X9_need l x co ts fs mg ch rw ft gl gr gq ml mr mq sg tp cs _ _ _) rfl kA.1 (by decide) rfl ⟨wd375, wd376, wd377, wd2, wd378⟩ ⟨rfl, hy_X9_need⟩ rfl ⟨Nat.le_of_ble_eq_true rfl, Nat.le_of_ble_eq_true rfl⟩ (Nat.le_of_ble_eq_true rfl) ⟨Nat.le_of_ble_eq_true rfl, Nat.le_of_ble_eq_true rfl⟩ dL_law_324 ⟨rfl, kA, kN⟩ (fun r_324 S_324 h_324 => ?_)
  obtain ⟨rfl, q_324⟩ := h_324
  obtain rfl := q_324.symm
  refine v_aload_n C dL_law_327 rfl ?_
  refine v_aload_n C dL_law_328 rfl ?_
  refine v_iload_n C dL_law_329 rfl ?_
  refine v_iconst (v := 1) C dL_law_330 (by decide) ?_
  refine v_iadd C dL_law_331 ?_
  refine v_sld C hX hbl hbA (isB_in (b := 5) (by decide) rfl) dL_law_332 ?_
  refine v_aload_n C dL_law_333 rfl ?_
  refine v_iload_n C dL_law_334 rfl ?_
  refine v_iconst (v := 2) C dL_law_335 (by decide) ?_
  refine v_iadd C dL_law_336 ?_
  refine v_sld C hX hbl hbA (isB_in (b := 5) (by decide) rfl) dL_law_337 ?_
  refine v_aload_n C dL_law_338 rfl ?_
  refine v_iload_n C dL_law_339 rfl ?_
  refine v_iconst (v := 3) C dL_law_340 (by decide) ?_
  refine v_iadd C dL_law_341 ?_
  refine v_sld C hX hbl hbA (isB_in (b := 5) (by decide) rfl) dL_law_342 ?_
  refine v_callV (As := [_, _, _]) (n := 3) C (ct_X10_need l m0 ad _ _ _) rfl kM.1 (by decide) rfl ⟨wd379, wd380, wd381, wd5, wd382⟩ ⟨rfl, hy_X10_need⟩ rfl ⟨Nat.le_of_ble_eq_true rfl, Nat.le_of_ble_eq_true rfl⟩ (Nat.le_of_ble_eq_true rfl) ⟨Nat.le_of_ble_eq_true rfl, Nat.le_of_ble_eq_true rfl⟩ dL_law_343 ⟨rfl, kM⟩ (fun r_343 S_343 h_343 => ?_)
  obtain rfl := h_343
  refine v_icmp_eq (tgt := 1211) C dL_law_346 (by decide) (fun c_346 => ?_) (fun c_346 => ?_)
  · skip
    exact hend _ _ _ (Nat.le_of_ble_eq_true rfl) (Nat.le_of_ble_eq_true rfl)
  · skip
    exact absurd rfl c_346
theorem dL_law_351 : decode cL_law 351 = .ok (.aload_n 1, 1) := by decide +kernel
theorem dL_law_352 : decode cL_law 352 = .ok (.aload_n 0, 1) := by decide +kernel
theorem dL_law_353 : decode cL_law 353 = .ok (.iload_n 3, 1) := by decide +kernel
theorem dL_law_354 : decode cL_law 354 = .ok (.iconst 1, 1) := by decide +kernel
theorem dL_law_355 : decode cL_law 355 = .ok (.iadd, 1) := by decide +kernel
theorem dL_law_356 : decode cL_law 356 = .ok (.iaload, 1) := by decide +kernel
theorem dL_law_357 : decode cL_law 357 = .ok (.aload_n 0, 1) := by decide +kernel
theorem dL_law_358 : decode cL_law 358 = .ok (.iload_n 3, 1) := by decide +kernel
theorem dL_law_359 : decode cL_law 359 = .ok (.iconst 2, 1) := by decide +kernel
theorem dL_law_360 : decode cL_law 360 = .ok (.iadd, 1) := by decide +kernel
theorem dL_law_361 : decode cL_law 361 = .ok (.iaload, 1) := by decide +kernel
theorem dL_law_362 : decode cL_law 362 = .ok (.aload_n 0, 1) := by decide +kernel
theorem dL_law_363 : decode cL_law 363 = .ok (.iload_n 3, 1) := by decide +kernel
theorem dL_law_364 : decode cL_law 364 = .ok (.iconst 3, 1) := by decide +kernel
theorem dL_law_365 : decode cL_law 365 = .ok (.iadd, 1) := by decide +kernel
theorem dL_law_366 : decode cL_law 366 = .ok (.iaload, 1) := by decide +kernel
theorem dL_law_367 : decode cL_law 367 = .ok (.invokevirtual 37, 3) := by decide +kernel
theorem dL_law_370 : decode cL_law 370 = .ok (.aload_n 2, 1) := by decide +kernel
theorem dL_law_371 : decode cL_law 371 = .ok (.aload_n 0, 1) := by decide +kernel
theorem dL_law_372 : decode cL_law 372 = .ok (.iload_n 3, 1) := by decide +kernel
theorem dL_law_373 : decode cL_law 373 = .ok (.iconst 1, 1) := by decide +kernel
theorem dL_law_374 : decode cL_law 374 = .ok (.iadd, 1) := by decide +kernel
theorem dL_law_375 : decode cL_law 375 = .ok (.iaload, 1) := by decide +kernel
theorem dL_law_376 : decode cL_law 376 = .ok (.aload_n 0, 1) := by decide +kernel
theorem dL_law_377 : decode cL_law 377 = .ok (.iload_n 3, 1) := by decide +kernel
theorem dL_law_378 : decode cL_law 378 = .ok (.iconst 2, 1) := by decide +kernel
theorem dL_law_379 : decode cL_law 379 = .ok (.iadd, 1) := by decide +kernel
theorem dL_law_380 : decode cL_law 380 = .ok (.iaload, 1) := by decide +kernel
theorem dL_law_381 : decode cL_law 381 = .ok (.aload_n 0, 1) := by decide +kernel
theorem dL_law_382 : decode cL_law 382 = .ok (.iload_n 3, 1) := by decide +kernel
theorem dL_law_383 : decode cL_law 383 = .ok (.iconst 3, 1) := by decide +kernel
theorem dL_law_384 : decode cL_law 384 = .ok (.iadd, 1) := by decide +kernel
theorem dL_law_385 : decode cL_law 385 = .ok (.iaload, 1) := by decide +kernel
theorem dL_law_386 : decode cL_law 386 = .ok (.invokevirtual 40, 3) := by decide +kernel
theorem dL_law_389 : decode cL_law 389 = .ok (.if_icmp .eq 822, 3) := by decide +kernel
set_option maxRecDepth 100000 in
set_option maxHeartbeats 4000000 in
theorem law_c5 {p : Program} {l : Launch} {e : Env} {s : State} {m : MethodId} {below : List Frame} {meth : Method} {c : Code} {D : va_G} {G : Nat → ClassId} {bs : Nat} {Q : State → Prop} {b : Nat} {xs : Nat → Int32} {S : Mem} {x co ts fs mg ch rw ft gl gr gq ml mr mq sg tp cs m0 : Nat} {ad : Nat → Nat} (C : Cx p s m #[Value.ref b] meth c D G bs code 4 RL) (hX : va_X b 5 xs s s.heap) (hbl : b < s.heap.size) (hbA : ¬ bs ≤ b) (kA : pcAt S x co ts fs mg ch rw ft gl gr gq ml mr mq sg tp cs) (kN : pcNew S x co ts fs sg tp) (kM : mdNew S m0 ad) (hmN : ¬ m0 ∈ [co, ts, fs, mg, rw, ft, gl, gq, ml, mq]) (hadN : ∀ q ∈ mTab, ¬ ad q.1 ∈ [co, ts, fs, mg, rw, ft, gl, gq, ml, mq]) (hend : ∀ (T : Mem) (ce sl : Nat), ce ≤ 600000 → sl ≤ 7302250 → V p l e room_1 s m #[Value.ref b] below meth c D G bs 4 Q ce sl T 1211 [some (.ref b), some (.ref x), some (.ref m0), some (.int 0)] []) : V p l e room_1 s m #[Value.ref b] below meth c D G bs 4 Q 1000 100000 S 351 [some (.ref b), some (.ref x), some (.ref m0), some (.int 0)] [] := by
  refine v_aload_n C dL_law_351 rfl ?_
  refine v_aload_n C dL_law_352 rfl ?_
  refine v_iload_n C dL_law_353 rfl ?_
  refine v_iconst (v := 1) C dL_law_354 (by decide) ?_
  refine v_iadd C dL_law_355 ?_
  refine v_sld C hX hbl hbA (isB_in (b := 5) (by decide) rfl) dL_law_356 ?_
  refine v_aload_n C dL_law_357 rfl ?_
  refine v_iload_n C dL_law_358 rfl ?_
  refine v_iconst (v := 2) C dL_law_359 (by decide) ?_
  refine v_iadd C dL_law_360 ?_
  refine v_sld C hX hbl hbA (isB_in (b := 5) (by decide) rfl) dL_law_361 ?_
  refine v_aload_n C dL_law_362 rfl ?_
  refine v_iload_n C dL_law_363 rfl ?_
  refine v_iconst (v := 3) C dL_law_364 (by decide) ?_
  refine v_iadd C dL_law_365 ?_
  refine v_sld C hX hbl hbA (isB_in (b := 5) (by decide) rfl) dL_law_366 ?_
  refine v_callV (As := [_, _, _]) (n := 3) C (ct_X9_guard l x co ts fs mg ch rw ft gl gr gq ml mr mq sg tp cs _ _ _) rfl kA.1 (by decide) rfl ⟨wd383, wd384, wd385, wd2, wd386⟩ ⟨rfl, hy_X9_guard⟩ rfl ⟨Nat.le_of_ble_eq_true rfl, Nat.le_of_ble_eq_true rfl⟩ (Nat.le_of_ble_eq_true rfl) ⟨Nat.le_of_ble_eq_true rfl, Nat.le_of_ble_eq_true rfl⟩ dL_law_367 ⟨rfl, kA, kN⟩ (fun r_367 S_367 h_367 => ?_)
  obtain ⟨rfl, q_367⟩ := h_367
  obtain rfl := q_367.symm
  refine v_aload_n C dL_law_370 rfl ?_
  refine v_aload_n C dL_law_371 rfl ?_
  refine v_iload_n C dL_law_372 rfl ?_
  refine v_iconst (v := 1) C dL_law_373 (by decide) ?_
  refine v_iadd C dL_law_374 ?_
  refine v_sld C hX hbl hbA (isB_in (b := 5) (by decide) rfl) dL_law_375 ?_
  refine v_aload_n C dL_law_376 rfl ?_
  refine v_iload_n C dL_law_377 rfl ?_
  refine v_iconst (v := 2) C dL_law_378 (by decide) ?_
  refine v_iadd C dL_law_379 ?_
  refine v_sld C hX hbl hbA (isB_in (b := 5) (by decide) rfl) dL_law_380 ?_
  refine v_aload_n C dL_law_381 rfl ?_
  refine v_iload_n C dL_law_382 rfl ?_
  refine v_iconst (v := 3) C dL_law_383 (by decide) ?_
  refine v_iadd C dL_law_384 ?_
  refine v_sld C hX hbl hbA (isB_in (b := 5) (by decide) rfl) dL_law_385 ?_
  refine v_callV (As := [_, _, _]) (n := 3) C (ct_X10_guard l m0 ad _ _ _) rfl kM.1 (by decide) rfl ⟨wd391, wd392, wd393, wd5, wd394⟩ ⟨rfl, hy_X10_guard⟩ rfl ⟨Nat.le_of_ble_eq_true rfl, Nat.le_of_ble_eq_true rfl⟩ (Nat.le_of_ble_eq_true rfl) ⟨Nat.le_of_ble_eq_true rfl, Nat.le_of_ble_eq_true rfl⟩ dL_law_386 ⟨rfl, kM⟩ (fun r_386 S_386 h_386 => ?_)
  obtain rfl := h_386
  refine v_icmp_eq (tgt := 1211) C dL_law_389 (by decide) (fun c_389 => ?_) (fun c_389 => ?_)
  · skip
    exact hend _ _ _ (Nat.le_of_ble_eq_true rfl) (Nat.le_of_ble_eq_true rfl)
  · skip
    exact absurd rfl c_389
theorem dL_law_394 : decode cL_law 394 = .ok (.aload_n 1, 1) := by decide +kernel
theorem dL_law_395 : decode cL_law 395 = .ok (.aload_n 0, 1) := by decide +kernel
theorem dL_law_396 : decode cL_law 396 = .ok (.iload_n 3, 1) := by decide +kernel
theorem dL_law_397 : decode cL_law 397 = .ok (.iconst 1, 1) := by decide +kernel
theorem dL_law_398 : decode cL_law 398 = .ok (.iadd, 1) := by decide +kernel
theorem dL_law_399 : decode cL_law 399 = .ok (.iaload, 1) := by decide +kernel
theorem dL_law_400 : decode cL_law 400 = .ok (.aload_n 0, 1) := by decide +kernel
theorem dL_law_401 : decode cL_law 401 = .ok (.iload_n 3, 1) := by decide +kernel
theorem dL_law_402 : decode cL_law 402 = .ok (.iconst 2, 1) := by decide +kernel
theorem dL_law_403 : decode cL_law 403 = .ok (.iadd, 1) := by decide +kernel
theorem dL_law_404 : decode cL_law 404 = .ok (.iaload, 1) := by decide +kernel
theorem dL_law_405 : decode cL_law 405 = .ok (.aload_n 0, 1) := by decide +kernel
theorem dL_law_406 : decode cL_law 406 = .ok (.iload_n 3, 1) := by decide +kernel
theorem dL_law_407 : decode cL_law 407 = .ok (.iconst 3, 1) := by decide +kernel
theorem dL_law_408 : decode cL_law 408 = .ok (.iadd, 1) := by decide +kernel
theorem dL_law_409 : decode cL_law 409 = .ok (.iaload, 1) := by decide +kernel
theorem dL_law_410 : decode cL_law 410 = .ok (.aload_n 0, 1) := by decide +kernel
theorem dL_law_411 : decode cL_law 411 = .ok (.iload_n 3, 1) := by decide +kernel
theorem dL_law_412 : decode cL_law 412 = .ok (.iconst 4, 1) := by decide +kernel
theorem dL_law_413 : decode cL_law 413 = .ok (.iadd, 1) := by decide +kernel
theorem dL_law_414 : decode cL_law 414 = .ok (.iaload, 1) := by decide +kernel
theorem dL_law_415 : decode cL_law 415 = .ok (.invokevirtual 41, 3) := by decide +kernel
theorem dL_law_418 : decode cL_law 418 = .ok (.aload_n 2, 1) := by decide +kernel
theorem dL_law_419 : decode cL_law 419 = .ok (.aload_n 0, 1) := by decide +kernel
theorem dL_law_420 : decode cL_law 420 = .ok (.iload_n 3, 1) := by decide +kernel
theorem dL_law_421 : decode cL_law 421 = .ok (.iconst 1, 1) := by decide +kernel
theorem dL_law_422 : decode cL_law 422 = .ok (.iadd, 1) := by decide +kernel
theorem dL_law_423 : decode cL_law 423 = .ok (.iaload, 1) := by decide +kernel
theorem dL_law_424 : decode cL_law 424 = .ok (.aload_n 0, 1) := by decide +kernel
theorem dL_law_425 : decode cL_law 425 = .ok (.iload_n 3, 1) := by decide +kernel
theorem dL_law_426 : decode cL_law 426 = .ok (.iconst 2, 1) := by decide +kernel
theorem dL_law_427 : decode cL_law 427 = .ok (.iadd, 1) := by decide +kernel
theorem dL_law_428 : decode cL_law 428 = .ok (.iaload, 1) := by decide +kernel
theorem dL_law_429 : decode cL_law 429 = .ok (.aload_n 0, 1) := by decide +kernel
theorem dL_law_430 : decode cL_law 430 = .ok (.iload_n 3, 1) := by decide +kernel
theorem dL_law_431 : decode cL_law 431 = .ok (.iconst 3, 1) := by decide +kernel
theorem dL_law_432 : decode cL_law 432 = .ok (.iadd, 1) := by decide +kernel
theorem dL_law_433 : decode cL_law 433 = .ok (.iaload, 1) := by decide +kernel
theorem dL_law_434 : decode cL_law 434 = .ok (.aload_n 0, 1) := by decide +kernel
theorem dL_law_435 : decode cL_law 435 = .ok (.iload_n 3, 1) := by decide +kernel
theorem dL_law_436 : decode cL_law 436 = .ok (.iconst 4, 1) := by decide +kernel
theorem dL_law_437 : decode cL_law 437 = .ok (.iadd, 1) := by decide +kernel
theorem dL_law_438 : decode cL_law 438 = .ok (.iaload, 1) := by decide +kernel
theorem dL_law_439 : decode cL_law 439 = .ok (.invokevirtual 44, 3) := by decide +kernel
theorem dL_law_442 : decode cL_law 442 = .ok (.if_icmp .eq 769, 3) := by decide +kernel
set_option maxRecDepth 100000 in
set_option maxHeartbeats 4000000 in
theorem law_c6 {p : Program} {l : Launch} {e : Env} {s : State} {m : MethodId} {below : List Frame} {meth : Method} {c : Code} {D : va_G} {G : Nat → ClassId} {bs : Nat} {Q : State → Prop} {b : Nat} {xs : Nat → Int32} {S : Mem} {x co ts fs mg ch rw ft gl gr gq ml mr mq sg tp cs m0 : Nat} {ad : Nat → Nat} (C : Cx p s m #[Value.ref b] meth c D G bs code 4 RL) (hX : va_X b 5 xs s s.heap) (hbl : b < s.heap.size) (hbA : ¬ bs ≤ b) (kA : pcAt S x co ts fs mg ch rw ft gl gr gq ml mr mq sg tp cs) (kN : pcNew S x co ts fs sg tp) (kM : mdNew S m0 ad) (hmN : ¬ m0 ∈ [co, ts, fs, mg, rw, ft, gl, gq, ml, mq]) (hadN : ∀ q ∈ mTab, ¬ ad q.1 ∈ [co, ts, fs, mg, rw, ft, gl, gq, ml, mq]) (hend : ∀ (T : Mem) (ce sl : Nat), ce ≤ 600000 → sl ≤ 7302250 → V p l e room_1 s m #[Value.ref b] below meth c D G bs 4 Q ce sl T 1211 [some (.ref b), some (.ref x), some (.ref m0), some (.int 0)] []) : V p l e room_1 s m #[Value.ref b] below meth c D G bs 4 Q 1000 100000 S 394 [some (.ref b), some (.ref x), some (.ref m0), some (.int 0)] [] := by
  refine v_aload_n C dL_law_394 rfl ?_
  refine v_aload_n C dL_law_395 rfl ?_
  refine v_iload_n C dL_law_396 rfl ?_
  refine v_iconst (v := 1) C dL_law_397 (by decide) ?_
  refine v_iadd C dL_law_398 ?_
  refine v_sld C hX hbl hbA (isB_in (b := 5) (by decide) rfl) dL_law_399 ?_
  refine v_aload_n C dL_law_400 rfl ?_
  refine v_iload_n C dL_law_401 rfl ?_
  refine v_iconst (v := 2) C dL_law_402 (by decide) ?_
  refine v_iadd C dL_law_403 ?_
  refine v_sld C hX hbl hbA (isB_in (b := 5) (by decide) rfl) dL_law_404 ?_
  refine v_aload_n C dL_law_405 rfl ?_
  refine v_iload_n C dL_law_406 rfl ?_
  refine v_iconst (v := 3) C dL_law_407 (by decide) ?_
  refine v_iadd C dL_law_408 ?_
  refine v_sld C hX hbl hbA (isB_in (b := 5) (by decide) rfl) dL_law_409 ?_
  refine v_aload_n C dL_law_410 rfl ?_
  refine v_iload_n C dL_law_411 rfl ?_
  refine v_iconst (v := 4) C dL_law_412 (by decide) ?_
  refine v_iadd C dL_law_413 ?_
  refine v_sld C hX hbl hbA (isB_in (b := 5) (by decide) rfl) dL_law_414 ?_
  refine v_callV (As := [_, _, _, _]) (n := 4) C (ct_X9_own l x co ts fs mg ch rw ft gl gr gq ml mr mq sg tp cs _ _ _ _) rfl kA.1 (by decide) rfl ⟨wd395, wd396, wd397, wd2, wd398⟩ ⟨rfl, hy_X9_own⟩ rfl ⟨Nat.le_of_ble_eq_true rfl, Nat.le_of_ble_eq_true rfl⟩ (Nat.le_of_ble_eq_true rfl) ⟨Nat.le_of_ble_eq_true rfl, Nat.le_of_ble_eq_true rfl⟩ dL_law_415 ⟨rfl, kA, kN⟩ (fun r_415 S_415 h_415 => ?_)
  obtain ⟨rfl, q_415⟩ := h_415
  obtain rfl := q_415.symm
  refine v_aload_n C dL_law_418 rfl ?_
  refine v_aload_n C dL_law_419 rfl ?_
  refine v_iload_n C dL_law_420 rfl ?_
  refine v_iconst (v := 1) C dL_law_421 (by decide) ?_
  refine v_iadd C dL_law_422 ?_
  refine v_sld C hX hbl hbA (isB_in (b := 5) (by decide) rfl) dL_law_423 ?_
  refine v_aload_n C dL_law_424 rfl ?_
  refine v_iload_n C dL_law_425 rfl ?_
  refine v_iconst (v := 2) C dL_law_426 (by decide) ?_
  refine v_iadd C dL_law_427 ?_
  refine v_sld C hX hbl hbA (isB_in (b := 5) (by decide) rfl) dL_law_428 ?_
  refine v_aload_n C dL_law_429 rfl ?_
  refine v_iload_n C dL_law_430 rfl ?_
  refine v_iconst (v := 3) C dL_law_431 (by decide) ?_
  refine v_iadd C dL_law_432 ?_
  refine v_sld C hX hbl hbA (isB_in (b := 5) (by decide) rfl) dL_law_433 ?_
  refine v_aload_n C dL_law_434 rfl ?_
  refine v_iload_n C dL_law_435 rfl ?_
  refine v_iconst (v := 4) C dL_law_436 (by decide) ?_
  refine v_iadd C dL_law_437 ?_
  refine v_sld C hX hbl hbA (isB_in (b := 5) (by decide) rfl) dL_law_438 ?_
  refine v_callV (As := [_, _, _, _]) (n := 4) C (ct_X10_own l m0 ad _ _ _ _) rfl kM.1 (by decide) rfl ⟨wd403, wd404, wd405, wd5, wd406⟩ ⟨rfl, hy_X10_own⟩ rfl ⟨Nat.le_of_ble_eq_true rfl, Nat.le_of_ble_eq_true rfl⟩ (Nat.le_of_ble_eq_true rfl) ⟨Nat.le_of_ble_eq_true rfl, Nat.le_of_ble_eq_true rfl⟩ dL_law_439 ⟨rfl, kM⟩ (fun r_439 S_439 h_439 => ?_)
  obtain rfl := h_439
  refine v_icmp_eq (tgt := 1211) C dL_law_442 (by decide) (fun c_442 => ?_) (fun c_442 => ?_)
  · skip
    exact hend _ _ _ (Nat.le_of_ble_eq_true rfl) (Nat.le_of_ble_eq_true rfl)
  · skip
    exact absurd rfl c_442
theorem dL_law_447 : decode cL_law 447 = .ok (.aload_n 1, 1) := by decide +kernel
theorem dL_law_448 : decode cL_law 448 = .ok (.aload_n 0, 1) := by decide +kernel
theorem dL_law_449 : decode cL_law 449 = .ok (.iload_n 3, 1) := by decide +kernel
theorem dL_law_450 : decode cL_law 450 = .ok (.iconst 1, 1) := by decide +kernel
theorem dL_law_451 : decode cL_law 451 = .ok (.iadd, 1) := by decide +kernel
theorem dL_law_452 : decode cL_law 452 = .ok (.iaload, 1) := by decide +kernel
theorem dL_law_453 : decode cL_law 453 = .ok (.aload_n 0, 1) := by decide +kernel
theorem dL_law_454 : decode cL_law 454 = .ok (.iload_n 3, 1) := by decide +kernel
theorem dL_law_455 : decode cL_law 455 = .ok (.iconst 2, 1) := by decide +kernel
theorem dL_law_456 : decode cL_law 456 = .ok (.iadd, 1) := by decide +kernel
theorem dL_law_457 : decode cL_law 457 = .ok (.iaload, 1) := by decide +kernel
theorem dL_law_458 : decode cL_law 458 = .ok (.aload_n 0, 1) := by decide +kernel
theorem dL_law_459 : decode cL_law 459 = .ok (.iload_n 3, 1) := by decide +kernel
theorem dL_law_460 : decode cL_law 460 = .ok (.iconst 3, 1) := by decide +kernel
theorem dL_law_461 : decode cL_law 461 = .ok (.iadd, 1) := by decide +kernel
theorem dL_law_462 : decode cL_law 462 = .ok (.iaload, 1) := by decide +kernel
theorem dL_law_463 : decode cL_law 463 = .ok (.invokevirtual 45, 3) := by decide +kernel
theorem dL_law_466 : decode cL_law 466 = .ok (.aload_n 2, 1) := by decide +kernel
theorem dL_law_467 : decode cL_law 467 = .ok (.aload_n 0, 1) := by decide +kernel
theorem dL_law_468 : decode cL_law 468 = .ok (.iload_n 3, 1) := by decide +kernel
theorem dL_law_469 : decode cL_law 469 = .ok (.iconst 1, 1) := by decide +kernel
theorem dL_law_470 : decode cL_law 470 = .ok (.iadd, 1) := by decide +kernel
theorem dL_law_471 : decode cL_law 471 = .ok (.iaload, 1) := by decide +kernel
theorem dL_law_472 : decode cL_law 472 = .ok (.aload_n 0, 1) := by decide +kernel
theorem dL_law_473 : decode cL_law 473 = .ok (.iload_n 3, 1) := by decide +kernel
theorem dL_law_474 : decode cL_law 474 = .ok (.iconst 2, 1) := by decide +kernel
theorem dL_law_475 : decode cL_law 475 = .ok (.iadd, 1) := by decide +kernel
theorem dL_law_476 : decode cL_law 476 = .ok (.iaload, 1) := by decide +kernel
theorem dL_law_477 : decode cL_law 477 = .ok (.aload_n 0, 1) := by decide +kernel
theorem dL_law_478 : decode cL_law 478 = .ok (.iload_n 3, 1) := by decide +kernel
theorem dL_law_479 : decode cL_law 479 = .ok (.iconst 3, 1) := by decide +kernel
theorem dL_law_480 : decode cL_law 480 = .ok (.iadd, 1) := by decide +kernel
theorem dL_law_481 : decode cL_law 481 = .ok (.iaload, 1) := by decide +kernel
theorem dL_law_482 : decode cL_law 482 = .ok (.invokevirtual 48, 3) := by decide +kernel
theorem dL_law_485 : decode cL_law 485 = .ok (.if_icmp .eq 726, 3) := by decide +kernel
set_option maxRecDepth 100000 in
set_option maxHeartbeats 4000000 in
theorem law_c7 {p : Program} {l : Launch} {e : Env} {s : State} {m : MethodId} {below : List Frame} {meth : Method} {c : Code} {D : va_G} {G : Nat → ClassId} {bs : Nat} {Q : State → Prop} {b : Nat} {xs : Nat → Int32} {S : Mem} {x co ts fs mg ch rw ft gl gr gq ml mr mq sg tp cs m0 : Nat} {ad : Nat → Nat} (C : Cx p s m #[Value.ref b] meth c D G bs code 4 RL) (hX : va_X b 5 xs s s.heap) (hbl : b < s.heap.size) (hbA : ¬ bs ≤ b) (kA : pcAt S x co ts fs mg ch rw ft gl gr gq ml mr mq sg tp cs) (kN : pcNew S x co ts fs sg tp) (kM : mdNew S m0 ad) (hmN : ¬ m0 ∈ [co, ts, fs, mg, rw, ft, gl, gq, ml, mq]) (hadN : ∀ q ∈ mTab, ¬ ad q.1 ∈ [co, ts, fs, mg, rw, ft, gl, gq, ml, mq]) (hend : ∀ (T : Mem) (ce sl : Nat), ce ≤ 600000 → sl ≤ 7302250 → V p l e room_1 s m #[Value.ref b] below meth c D G bs 4 Q ce sl T 1211 [some (.ref b), some (.ref x), some (.ref m0), some (.int 0)] []) : V p l e room_1 s m #[Value.ref b] below meth c D G bs 4 Q 1000 100000 S 447 [some (.ref b), some (.ref x), some (.ref m0), some (.int 0)] [] := by
  refine v_aload_n C dL_law_447 rfl ?_
  refine v_aload_n C dL_law_448 rfl ?_
  refine v_iload_n C dL_law_449 rfl ?_
  refine v_iconst (v := 1) C dL_law_450 (by decide) ?_
  refine v_iadd C dL_law_451 ?_
  refine v_sld C hX hbl hbA (isB_in (b := 5) (by decide) rfl) dL_law_452 ?_
  refine v_aload_n C dL_law_453 rfl ?_
  refine v_iload_n C dL_law_454 rfl ?_
  refine v_iconst (v := 2) C dL_law_455 (by decide) ?_
  refine v_iadd C dL_law_456 ?_
  refine v_sld C hX hbl hbA (isB_in (b := 5) (by decide) rfl) dL_law_457 ?_
  refine v_aload_n C dL_law_458 rfl ?_
  refine v_iload_n C dL_law_459 rfl ?_
  refine v_iconst (v := 3) C dL_law_460 (by decide) ?_
  refine v_iadd C dL_law_461 ?_
  refine v_sld C hX hbl hbA (isB_in (b := 5) (by decide) rfl) dL_law_462 ?_
  refine v_callV (As := [_, _, _]) (n := 3) C (ct_X9_op l x co ts fs mg ch rw ft gl gr gq ml mr mq sg tp cs _ _ _) rfl kA.1 (by decide) rfl ⟨wd407, wd408, wd409, wd2, wd410⟩ ⟨rfl, hy_X9_op⟩ rfl ⟨Nat.le_of_ble_eq_true rfl, Nat.le_of_ble_eq_true rfl⟩ (Nat.le_of_ble_eq_true rfl) ⟨Nat.le_of_ble_eq_true rfl, Nat.le_of_ble_eq_true rfl⟩ dL_law_463 ⟨rfl, kA, kN⟩ (fun r_463 S_463 h_463 => ?_)
  obtain ⟨rfl, q_463⟩ := h_463
  obtain rfl := q_463.symm
  refine v_aload_n C dL_law_466 rfl ?_
  refine v_aload_n C dL_law_467 rfl ?_
  refine v_iload_n C dL_law_468 rfl ?_
  refine v_iconst (v := 1) C dL_law_469 (by decide) ?_
  refine v_iadd C dL_law_470 ?_
  refine v_sld C hX hbl hbA (isB_in (b := 5) (by decide) rfl) dL_law_471 ?_
  refine v_aload_n C dL_law_472 rfl ?_
  refine v_iload_n C dL_law_473 rfl ?_
  refine v_iconst (v := 2) C dL_law_474 (by decide) ?_
  refine v_iadd C dL_law_475 ?_
  refine v_sld C hX hbl hbA (isB_in (b := 5) (by decide) rfl) dL_law_476 ?_
  refine v_aload_n C dL_law_477 rfl ?_
  refine v_iload_n C dL_law_478 rfl ?_
  refine v_iconst (v := 3) C dL_law_479 (by decide) ?_
  refine v_iadd C dL_law_480 ?_
  refine v_sld C hX hbl hbA (isB_in (b := 5) (by decide) rfl) dL_law_481 ?_
  refine v_callV (As := [_, _, _]) (n := 3) C (ct_X10_op l m0 ad _ _ _) rfl kM.1 (by decide) rfl ⟨wd420, wd421, wd422, wd5, wd423⟩ ⟨rfl, hy_X10_op⟩ rfl ⟨Nat.le_of_ble_eq_true rfl, Nat.le_of_ble_eq_true rfl⟩ (Nat.le_of_ble_eq_true rfl) ⟨Nat.le_of_ble_eq_true rfl, Nat.le_of_ble_eq_true rfl⟩ dL_law_482 ⟨rfl, kM⟩ (fun r_482 S_482 h_482 => ?_)
  obtain rfl := h_482
  refine v_icmp_eq (tgt := 1211) C dL_law_485 (by decide) (fun c_485 => ?_) (fun c_485 => ?_)
  · skip
    exact hend _ _ _ (Nat.le_of_ble_eq_true rfl) (Nat.le_of_ble_eq_true rfl)
  · skip
    exact absurd rfl c_485
theorem dL_law_490 : decode cL_law 490 = .ok (.aload_n 1, 1) := by decide +kernel
theorem dL_law_491 : decode cL_law 491 = .ok (.aload_n 0, 1) := by decide +kernel
theorem dL_law_492 : decode cL_law 492 = .ok (.iload_n 3, 1) := by decide +kernel
theorem dL_law_493 : decode cL_law 493 = .ok (.iconst 1, 1) := by decide +kernel
theorem dL_law_494 : decode cL_law 494 = .ok (.iadd, 1) := by decide +kernel
theorem dL_law_495 : decode cL_law 495 = .ok (.iaload, 1) := by decide +kernel
theorem dL_law_496 : decode cL_law 496 = .ok (.aload_n 0, 1) := by decide +kernel
theorem dL_law_497 : decode cL_law 497 = .ok (.iload_n 3, 1) := by decide +kernel
theorem dL_law_498 : decode cL_law 498 = .ok (.iconst 2, 1) := by decide +kernel
theorem dL_law_499 : decode cL_law 499 = .ok (.iadd, 1) := by decide +kernel
theorem dL_law_500 : decode cL_law 500 = .ok (.iaload, 1) := by decide +kernel
theorem dL_law_501 : decode cL_law 501 = .ok (.aload_n 0, 1) := by decide +kernel
theorem dL_law_502 : decode cL_law 502 = .ok (.iload_n 3, 1) := by decide +kernel
theorem dL_law_503 : decode cL_law 503 = .ok (.iconst 3, 1) := by decide +kernel
theorem dL_law_504 : decode cL_law 504 = .ok (.iadd, 1) := by decide +kernel
theorem dL_law_505 : decode cL_law 505 = .ok (.iaload, 1) := by decide +kernel
theorem dL_law_506 : decode cL_law 506 = .ok (.invokevirtual 49, 3) := by decide +kernel
theorem dL_law_509 : decode cL_law 509 = .ok (.aload_n 2, 1) := by decide +kernel
theorem dL_law_510 : decode cL_law 510 = .ok (.aload_n 0, 1) := by decide +kernel
theorem dL_law_511 : decode cL_law 511 = .ok (.iload_n 3, 1) := by decide +kernel
theorem dL_law_512 : decode cL_law 512 = .ok (.iconst 1, 1) := by decide +kernel
theorem dL_law_513 : decode cL_law 513 = .ok (.iadd, 1) := by decide +kernel
theorem dL_law_514 : decode cL_law 514 = .ok (.iaload, 1) := by decide +kernel
theorem dL_law_515 : decode cL_law 515 = .ok (.aload_n 0, 1) := by decide +kernel
theorem dL_law_516 : decode cL_law 516 = .ok (.iload_n 3, 1) := by decide +kernel
theorem dL_law_517 : decode cL_law 517 = .ok (.iconst 2, 1) := by decide +kernel
theorem dL_law_518 : decode cL_law 518 = .ok (.iadd, 1) := by decide +kernel
theorem dL_law_519 : decode cL_law 519 = .ok (.iaload, 1) := by decide +kernel
theorem dL_law_520 : decode cL_law 520 = .ok (.aload_n 0, 1) := by decide +kernel
theorem dL_law_521 : decode cL_law 521 = .ok (.iload_n 3, 1) := by decide +kernel
theorem dL_law_522 : decode cL_law 522 = .ok (.iconst 3, 1) := by decide +kernel
theorem dL_law_523 : decode cL_law 523 = .ok (.iadd, 1) := by decide +kernel
theorem dL_law_524 : decode cL_law 524 = .ok (.iaload, 1) := by decide +kernel
theorem dL_law_525 : decode cL_law 525 = .ok (.invokevirtual 52, 3) := by decide +kernel
theorem dL_law_528 : decode cL_law 528 = .ok (.if_icmp .eq 683, 3) := by decide +kernel
set_option maxRecDepth 100000 in
set_option maxHeartbeats 4000000 in
theorem law_c8 {p : Program} {l : Launch} {e : Env} {s : State} {m : MethodId} {below : List Frame} {meth : Method} {c : Code} {D : va_G} {G : Nat → ClassId} {bs : Nat} {Q : State → Prop} {b : Nat} {xs : Nat → Int32} {S : Mem} {x co ts fs mg ch rw ft gl gr gq ml mr mq sg tp cs m0 : Nat} {ad : Nat → Nat} (C : Cx p s m #[Value.ref b] meth c D G bs code 4 RL) (hX : va_X b 5 xs s s.heap) (hbl : b < s.heap.size) (hbA : ¬ bs ≤ b) (kA : pcAt S x co ts fs mg ch rw ft gl gr gq ml mr mq sg tp cs) (kN : pcNew S x co ts fs sg tp) (kM : mdNew S m0 ad) (hmN : ¬ m0 ∈ [co, ts, fs, mg, rw, ft, gl, gq, ml, mq]) (hadN : ∀ q ∈ mTab, ¬ ad q.1 ∈ [co, ts, fs, mg, rw, ft, gl, gq, ml, mq]) (hend : ∀ (T : Mem) (ce sl : Nat), ce ≤ 600000 → sl ≤ 7302250 → V p l e room_1 s m #[Value.ref b] below meth c D G bs 4 Q ce sl T 1211 [some (.ref b), some (.ref x), some (.ref m0), some (.int 0)] []) : V p l e room_1 s m #[Value.ref b] below meth c D G bs 4 Q 1000 100000 S 490 [some (.ref b), some (.ref x), some (.ref m0), some (.int 0)] [] := by
  refine v_aload_n C dL_law_490 rfl ?_
  refine v_aload_n C dL_law_491 rfl ?_
  refine v_iload_n C dL_law_492 rfl ?_
  refine v_iconst (v := 1) C dL_law_493 (by decide) ?_
  refine v_iadd C dL_law_494 ?_
  refine v_sld C hX hbl hbA (isB_in (b := 5) (by decide) rfl) dL_law_495 ?_
  refine v_aload_n C dL_law_496 rfl ?_
  refine v_iload_n C dL_law_497 rfl ?_
  refine v_iconst (v := 2) C dL_law_498 (by decide) ?_
  refine v_iadd C dL_law_499 ?_
  refine v_sld C hX hbl hbA (isB_in (b := 5) (by decide) rfl) dL_law_500 ?_
  refine v_aload_n C dL_law_501 rfl ?_
  refine v_iload_n C dL_law_502 rfl ?_
  refine v_iconst (v := 3) C dL_law_503 (by decide) ?_
  refine v_iadd C dL_law_504 ?_
  refine v_sld C hX hbl hbA (isB_in (b := 5) (by decide) rfl) dL_law_505 ?_
  refine v_callV (As := [_, _, _]) (n := 3) C (ct_X9_leave l x co ts fs mg ch rw ft gl gr gq ml mr mq sg tp cs _ _ _) rfl kA.1 (by decide) rfl ⟨wd427, wd428, wd429, wd2, wd430⟩ ⟨rfl, hy_X9_leave⟩ rfl ⟨Nat.le_of_ble_eq_true rfl, Nat.le_of_ble_eq_true rfl⟩ (Nat.le_of_ble_eq_true rfl) ⟨Nat.le_of_ble_eq_true rfl, Nat.le_of_ble_eq_true rfl⟩ dL_law_506 ⟨rfl, kA, kN⟩ (fun r_506 S_506 h_506 => ?_)
  obtain ⟨rfl, q_506⟩ := h_506
  obtain rfl := q_506.symm
  refine v_aload_n C dL_law_509 rfl ?_
  refine v_aload_n C dL_law_510 rfl ?_
  refine v_iload_n C dL_law_511 rfl ?_
  refine v_iconst (v := 1) C dL_law_512 (by decide) ?_
  refine v_iadd C dL_law_513 ?_
  refine v_sld C hX hbl hbA (isB_in (b := 5) (by decide) rfl) dL_law_514 ?_
  refine v_aload_n C dL_law_515 rfl ?_
  refine v_iload_n C dL_law_516 rfl ?_
  refine v_iconst (v := 2) C dL_law_517 (by decide) ?_
  refine v_iadd C dL_law_518 ?_
  refine v_sld C hX hbl hbA (isB_in (b := 5) (by decide) rfl) dL_law_519 ?_
  refine v_aload_n C dL_law_520 rfl ?_
  refine v_iload_n C dL_law_521 rfl ?_
  refine v_iconst (v := 3) C dL_law_522 (by decide) ?_
  refine v_iadd C dL_law_523 ?_
  refine v_sld C hX hbl hbA (isB_in (b := 5) (by decide) rfl) dL_law_524 ?_
  refine v_callV (As := [_, _, _]) (n := 3) C (ct_X10_leave l m0 ad _ _ _) rfl kM.1 (by decide) rfl ⟨wd444, wd445, wd446, wd5, wd447⟩ ⟨rfl, hy_X10_leave⟩ rfl ⟨Nat.le_of_ble_eq_true rfl, Nat.le_of_ble_eq_true rfl⟩ (Nat.le_of_ble_eq_true rfl) ⟨Nat.le_of_ble_eq_true rfl, Nat.le_of_ble_eq_true rfl⟩ dL_law_525 ⟨rfl, kM⟩ (fun r_525 S_525 h_525 => ?_)
  obtain rfl := h_525
  refine v_icmp_eq (tgt := 1211) C dL_law_528 (by decide) (fun c_528 => ?_) (fun c_528 => ?_)
  · skip
    exact hend _ _ _ (Nat.le_of_ble_eq_true rfl) (Nat.le_of_ble_eq_true rfl)
  · skip
    exact absurd rfl c_528
theorem dL_law_533 : decode cL_law 533 = .ok (.aload_n 1, 1) := by decide +kernel
theorem dL_law_534 : decode cL_law 534 = .ok (.aload_n 0, 1) := by decide +kernel
theorem dL_law_535 : decode cL_law 535 = .ok (.iload_n 3, 1) := by decide +kernel
theorem dL_law_536 : decode cL_law 536 = .ok (.iconst 1, 1) := by decide +kernel
theorem dL_law_537 : decode cL_law 537 = .ok (.iadd, 1) := by decide +kernel
theorem dL_law_538 : decode cL_law 538 = .ok (.iaload, 1) := by decide +kernel
theorem dL_law_539 : decode cL_law 539 = .ok (.aload_n 0, 1) := by decide +kernel
theorem dL_law_540 : decode cL_law 540 = .ok (.iload_n 3, 1) := by decide +kernel
theorem dL_law_541 : decode cL_law 541 = .ok (.iconst 2, 1) := by decide +kernel
theorem dL_law_542 : decode cL_law 542 = .ok (.iadd, 1) := by decide +kernel
theorem dL_law_543 : decode cL_law 543 = .ok (.iaload, 1) := by decide +kernel
theorem dL_law_544 : decode cL_law 544 = .ok (.aload_n 0, 1) := by decide +kernel
theorem dL_law_545 : decode cL_law 545 = .ok (.iload_n 3, 1) := by decide +kernel
theorem dL_law_546 : decode cL_law 546 = .ok (.iconst 3, 1) := by decide +kernel
theorem dL_law_547 : decode cL_law 547 = .ok (.iadd, 1) := by decide +kernel
theorem dL_law_548 : decode cL_law 548 = .ok (.iaload, 1) := by decide +kernel
theorem dL_law_549 : decode cL_law 549 = .ok (.aload_n 0, 1) := by decide +kernel
theorem dL_law_550 : decode cL_law 550 = .ok (.iload_n 3, 1) := by decide +kernel
theorem dL_law_551 : decode cL_law 551 = .ok (.iconst 4, 1) := by decide +kernel
theorem dL_law_552 : decode cL_law 552 = .ok (.iadd, 1) := by decide +kernel
theorem dL_law_553 : decode cL_law 553 = .ok (.iaload, 1) := by decide +kernel
theorem dL_law_554 : decode cL_law 554 = .ok (.invokevirtual 53, 3) := by decide +kernel
theorem dL_law_557 : decode cL_law 557 = .ok (.aload_n 2, 1) := by decide +kernel
theorem dL_law_558 : decode cL_law 558 = .ok (.aload_n 0, 1) := by decide +kernel
theorem dL_law_559 : decode cL_law 559 = .ok (.iload_n 3, 1) := by decide +kernel
theorem dL_law_560 : decode cL_law 560 = .ok (.iconst 1, 1) := by decide +kernel
theorem dL_law_561 : decode cL_law 561 = .ok (.iadd, 1) := by decide +kernel
theorem dL_law_562 : decode cL_law 562 = .ok (.iaload, 1) := by decide +kernel
theorem dL_law_563 : decode cL_law 563 = .ok (.aload_n 0, 1) := by decide +kernel
theorem dL_law_564 : decode cL_law 564 = .ok (.iload_n 3, 1) := by decide +kernel
theorem dL_law_565 : decode cL_law 565 = .ok (.iconst 2, 1) := by decide +kernel
theorem dL_law_566 : decode cL_law 566 = .ok (.iadd, 1) := by decide +kernel
theorem dL_law_567 : decode cL_law 567 = .ok (.iaload, 1) := by decide +kernel
theorem dL_law_568 : decode cL_law 568 = .ok (.aload_n 0, 1) := by decide +kernel
theorem dL_law_569 : decode cL_law 569 = .ok (.iload_n 3, 1) := by decide +kernel
theorem dL_law_570 : decode cL_law 570 = .ok (.iconst 3, 1) := by decide +kernel
theorem dL_law_571 : decode cL_law 571 = .ok (.iadd, 1) := by decide +kernel
theorem dL_law_572 : decode cL_law 572 = .ok (.iaload, 1) := by decide +kernel
theorem dL_law_573 : decode cL_law 573 = .ok (.aload_n 0, 1) := by decide +kernel
theorem dL_law_574 : decode cL_law 574 = .ok (.iload_n 3, 1) := by decide +kernel
theorem dL_law_575 : decode cL_law 575 = .ok (.iconst 4, 1) := by decide +kernel
theorem dL_law_576 : decode cL_law 576 = .ok (.iadd, 1) := by decide +kernel
theorem dL_law_577 : decode cL_law 577 = .ok (.iaload, 1) := by decide +kernel
theorem dL_law_578 : decode cL_law 578 = .ok (.invokevirtual 56, 3) := by decide +kernel
theorem dL_law_581 : decode cL_law 581 = .ok (.if_icmp .eq 630, 3) := by decide +kernel
set_option maxRecDepth 100000 in
set_option maxHeartbeats 4000000 in
theorem law_c9 {p : Program} {l : Launch} {e : Env} {s : State} {m : MethodId} {below : List Frame} {meth : Method} {c : Code} {D : va_G} {G : Nat → ClassId} {bs : Nat} {Q : State → Prop} {b : Nat} {xs : Nat → Int32} {S : Mem} {x co ts fs mg ch rw ft gl gr gq ml mr mq sg tp cs m0 : Nat} {ad : Nat → Nat} (C : Cx p s m #[Value.ref b] meth c D G bs code 4 RL) (hX : va_X b 5 xs s s.heap) (hbl : b < s.heap.size) (hbA : ¬ bs ≤ b) (kA : pcAt S x co ts fs mg ch rw ft gl gr gq ml mr mq sg tp cs) (kN : pcNew S x co ts fs sg tp) (kM : mdNew S m0 ad) (hmN : ¬ m0 ∈ [co, ts, fs, mg, rw, ft, gl, gq, ml, mq]) (hadN : ∀ q ∈ mTab, ¬ ad q.1 ∈ [co, ts, fs, mg, rw, ft, gl, gq, ml, mq]) (hend : ∀ (T : Mem) (ce sl : Nat), ce ≤ 600000 → sl ≤ 7302250 → V p l e room_1 s m #[Value.ref b] below meth c D G bs 4 Q ce sl T 1211 [some (.ref b), some (.ref x), some (.ref m0), some (.int 0)] []) : V p l e room_1 s m #[Value.ref b] below meth c D G bs 4 Q 1000 100000 S 533 [some (.ref b), some (.ref x), some (.ref m0), some (.int 0)] [] := by
  refine v_aload_n C dL_law_533 rfl ?_
  refine v_aload_n C dL_law_534 rfl ?_
  refine v_iload_n C dL_law_535 rfl ?_
  refine v_iconst (v := 1) C dL_law_536 (by decide) ?_
  refine v_iadd C dL_law_537 ?_
  refine v_sld C hX hbl hbA (isB_in (b := 5) (by decide) rfl) dL_law_538 ?_
  refine v_aload_n C dL_law_539 rfl ?_
  refine v_iload_n C dL_law_540 rfl ?_
  refine v_iconst (v := 2) C dL_law_541 (by decide) ?_
  refine v_iadd C dL_law_542 ?_
  refine v_sld C hX hbl hbA (isB_in (b := 5) (by decide) rfl) dL_law_543 ?_
  refine v_aload_n C dL_law_544 rfl ?_
  refine v_iload_n C dL_law_545 rfl ?_
  refine v_iconst (v := 3) C dL_law_546 (by decide) ?_
  refine v_iadd C dL_law_547 ?_
  refine v_sld C hX hbl hbA (isB_in (b := 5) (by decide) rfl) dL_law_548 ?_
  refine v_aload_n C dL_law_549 rfl ?_
  refine v_iload_n C dL_law_550 rfl ?_
  refine v_iconst (v := 4) C dL_law_551 (by decide) ?_
  refine v_iadd C dL_law_552 ?_
  refine v_sld C hX hbl hbA (isB_in (b := 5) (by decide) rfl) dL_law_553 ?_
  refine v_callV (As := [_, _, _, _]) (n := 4) C (ct_X9_rename l x co ts fs mg ch rw ft gl gr gq ml mr mq sg tp cs _ _ _ _) rfl kA.1 (by decide) rfl ⟨wd452, wd453, wd454, wd2, wd455⟩ ⟨rfl, hy_X9_rename⟩ rfl ⟨Nat.le_of_ble_eq_true rfl, Nat.le_of_ble_eq_true rfl⟩ (Nat.le_of_ble_eq_true rfl) ⟨Nat.le_of_ble_eq_true rfl, Nat.le_of_ble_eq_true rfl⟩ dL_law_554 ⟨rfl, kA, kN⟩ (fun r_554 S_554 h_554 => ?_)
  obtain ⟨rfl, q_554⟩ := h_554
  obtain rfl := q_554.symm
  refine v_aload_n C dL_law_557 rfl ?_
  refine v_aload_n C dL_law_558 rfl ?_
  refine v_iload_n C dL_law_559 rfl ?_
  refine v_iconst (v := 1) C dL_law_560 (by decide) ?_
  refine v_iadd C dL_law_561 ?_
  refine v_sld C hX hbl hbA (isB_in (b := 5) (by decide) rfl) dL_law_562 ?_
  refine v_aload_n C dL_law_563 rfl ?_
  refine v_iload_n C dL_law_564 rfl ?_
  refine v_iconst (v := 2) C dL_law_565 (by decide) ?_
  refine v_iadd C dL_law_566 ?_
  refine v_sld C hX hbl hbA (isB_in (b := 5) (by decide) rfl) dL_law_567 ?_
  refine v_aload_n C dL_law_568 rfl ?_
  refine v_iload_n C dL_law_569 rfl ?_
  refine v_iconst (v := 3) C dL_law_570 (by decide) ?_
  refine v_iadd C dL_law_571 ?_
  refine v_sld C hX hbl hbA (isB_in (b := 5) (by decide) rfl) dL_law_572 ?_
  refine v_aload_n C dL_law_573 rfl ?_
  refine v_iload_n C dL_law_574 rfl ?_
  refine v_iconst (v := 4) C dL_law_575 (by decide) ?_
  refine v_iadd C dL_law_576 ?_
  refine v_sld C hX hbl hbA (isB_in (b := 5) (by decide) rfl) dL_law_577 ?_
  refine v_callV (As := [_, _, _, _]) (n := 4) C (ct_X10_rename l m0 ad _ _ _ _) rfl kM.1 (by decide) rfl ⟨wd470, wd471, wd472, wd5, wd473⟩ ⟨rfl, hy_X10_rename⟩ rfl ⟨Nat.le_of_ble_eq_true rfl, Nat.le_of_ble_eq_true rfl⟩ (Nat.le_of_ble_eq_true rfl) ⟨Nat.le_of_ble_eq_true rfl, Nat.le_of_ble_eq_true rfl⟩ dL_law_578 ⟨rfl, kM⟩ (fun r_578 S_578 h_578 => ?_)
  obtain rfl := h_578
  refine v_icmp_eq (tgt := 1211) C dL_law_581 (by decide) (fun c_581 => ?_) (fun c_581 => ?_)
  · skip
    exact hend _ _ _ (Nat.le_of_ble_eq_true rfl) (Nat.le_of_ble_eq_true rfl)
  · skip
    exact absurd rfl c_581
theorem dL_law_586 : decode cL_law 586 = .ok (.aload_n 1, 1) := by decide +kernel
theorem dL_law_587 : decode cL_law 587 = .ok (.aload_n 0, 1) := by decide +kernel
theorem dL_law_588 : decode cL_law 588 = .ok (.iload_n 3, 1) := by decide +kernel
theorem dL_law_589 : decode cL_law 589 = .ok (.iconst 1, 1) := by decide +kernel
theorem dL_law_590 : decode cL_law 590 = .ok (.iadd, 1) := by decide +kernel
theorem dL_law_591 : decode cL_law 591 = .ok (.iaload, 1) := by decide +kernel
theorem dL_law_592 : decode cL_law 592 = .ok (.aload_n 0, 1) := by decide +kernel
theorem dL_law_593 : decode cL_law 593 = .ok (.iload_n 3, 1) := by decide +kernel
theorem dL_law_594 : decode cL_law 594 = .ok (.iconst 2, 1) := by decide +kernel
theorem dL_law_595 : decode cL_law 595 = .ok (.iadd, 1) := by decide +kernel
theorem dL_law_596 : decode cL_law 596 = .ok (.iaload, 1) := by decide +kernel
theorem dL_law_597 : decode cL_law 597 = .ok (.aload_n 0, 1) := by decide +kernel
theorem dL_law_598 : decode cL_law 598 = .ok (.iload_n 3, 1) := by decide +kernel
theorem dL_law_599 : decode cL_law 599 = .ok (.iconst 3, 1) := by decide +kernel
theorem dL_law_600 : decode cL_law 600 = .ok (.iadd, 1) := by decide +kernel
theorem dL_law_601 : decode cL_law 601 = .ok (.iaload, 1) := by decide +kernel
theorem dL_law_602 : decode cL_law 602 = .ok (.invokevirtual 57, 3) := by decide +kernel
theorem dL_law_605 : decode cL_law 605 = .ok (.aload_n 2, 1) := by decide +kernel
theorem dL_law_606 : decode cL_law 606 = .ok (.aload_n 0, 1) := by decide +kernel
theorem dL_law_607 : decode cL_law 607 = .ok (.iload_n 3, 1) := by decide +kernel
theorem dL_law_608 : decode cL_law 608 = .ok (.iconst 1, 1) := by decide +kernel
theorem dL_law_609 : decode cL_law 609 = .ok (.iadd, 1) := by decide +kernel
theorem dL_law_610 : decode cL_law 610 = .ok (.iaload, 1) := by decide +kernel
theorem dL_law_611 : decode cL_law 611 = .ok (.aload_n 0, 1) := by decide +kernel
theorem dL_law_612 : decode cL_law 612 = .ok (.iload_n 3, 1) := by decide +kernel
theorem dL_law_613 : decode cL_law 613 = .ok (.iconst 2, 1) := by decide +kernel
theorem dL_law_614 : decode cL_law 614 = .ok (.iadd, 1) := by decide +kernel
theorem dL_law_615 : decode cL_law 615 = .ok (.iaload, 1) := by decide +kernel
theorem dL_law_616 : decode cL_law 616 = .ok (.aload_n 0, 1) := by decide +kernel
theorem dL_law_617 : decode cL_law 617 = .ok (.iload_n 3, 1) := by decide +kernel
theorem dL_law_618 : decode cL_law 618 = .ok (.iconst 3, 1) := by decide +kernel
theorem dL_law_619 : decode cL_law 619 = .ok (.iadd, 1) := by decide +kernel
theorem dL_law_620 : decode cL_law 620 = .ok (.iaload, 1) := by decide +kernel
theorem dL_law_621 : decode cL_law 621 = .ok (.invokevirtual 60, 3) := by decide +kernel
theorem dL_law_624 : decode cL_law 624 = .ok (.if_icmp .eq 587, 3) := by decide +kernel
set_option maxRecDepth 100000 in
set_option maxHeartbeats 4000000 in
theorem law_c10 {p : Program} {l : Launch} {e : Env} {s : State} {m : MethodId} {below : List Frame} {meth : Method} {c : Code} {D : va_G} {G : Nat → ClassId} {bs : Nat} {Q : State → Prop} {b : Nat} {xs : Nat → Int32} {S : Mem} {x co ts fs mg ch rw ft gl gr gq ml mr mq sg tp cs m0 : Nat} {ad : Nat → Nat} (C : Cx p s m #[Value.ref b] meth c D G bs code 4 RL) (hX : va_X b 5 xs s s.heap) (hbl : b < s.heap.size) (hbA : ¬ bs ≤ b) (kA : pcAt S x co ts fs mg ch rw ft gl gr gq ml mr mq sg tp cs) (kN : pcNew S x co ts fs sg tp) (kM : mdNew S m0 ad) (hmN : ¬ m0 ∈ [co, ts, fs, mg, rw, ft, gl, gq, ml, mq]) (hadN : ∀ q ∈ mTab, ¬ ad q.1 ∈ [co, ts, fs, mg, rw, ft, gl, gq, ml, mq]) (hend : ∀ (T : Mem) (ce sl : Nat), ce ≤ 600000 → sl ≤ 7302250 → V p l e room_1 s m #[Value.ref b] below meth c D G bs 4 Q ce sl T 1211 [some (.ref b), some (.ref x), some (.ref m0), some (.int 0)] []) : V p l e room_1 s m #[Value.ref b] below meth c D G bs 4 Q 1000 100000 S 586 [some (.ref b), some (.ref x), some (.ref m0), some (.int 0)] [] := by
  refine v_aload_n C dL_law_586 rfl ?_
  refine v_aload_n C dL_law_587 rfl ?_
  refine v_iload_n C dL_law_588 rfl ?_
  refine v_iconst (v := 1) C dL_law_589 (by decide) ?_
  refine v_iadd C dL_law_590 ?_
  refine v_sld C hX hbl hbA (isB_in (b := 5) (by decide) rfl) dL_law_591 ?_
  refine v_aload_n C dL_law_592 rfl ?_
  refine v_iload_n C dL_law_593 rfl ?_
  refine v_iconst (v := 2) C dL_law_594 (by decide) ?_
  refine v_iadd C dL_law_595 ?_
  refine v_sld C hX hbl hbA (isB_in (b := 5) (by decide) rfl) dL_law_596 ?_
  refine v_aload_n C dL_law_597 rfl ?_
  refine v_iload_n C dL_law_598 rfl ?_
  refine v_iconst (v := 3) C dL_law_599 (by decide) ?_
  refine v_iadd C dL_law_600 ?_
  refine v_sld C hX hbl hbA (isB_in (b := 5) (by decide) rfl) dL_law_601 ?_
  refine v_callV (As := [_, _, _]) (n := 3) C (ct_X9_prefer l x co ts fs mg ch rw ft gl gr gq ml mr mq sg tp cs _ _ _) rfl kA.1 (by decide) rfl ⟨wd482, wd483, wd484, wd2, wd485⟩ ⟨rfl, hy_X9_prefer⟩ rfl ⟨Nat.le_of_ble_eq_true rfl, Nat.le_of_ble_eq_true rfl⟩ (Nat.le_of_ble_eq_true rfl) ⟨Nat.le_of_ble_eq_true rfl, Nat.le_of_ble_eq_true rfl⟩ dL_law_602 ⟨rfl, kA, kN⟩ (fun r_602 S_602 h_602 => ?_)
  obtain ⟨rfl, q_602⟩ := h_602
  obtain rfl := q_602.symm
  refine v_aload_n C dL_law_605 rfl ?_
  refine v_aload_n C dL_law_606 rfl ?_
  refine v_iload_n C dL_law_607 rfl ?_
  refine v_iconst (v := 1) C dL_law_608 (by decide) ?_
  refine v_iadd C dL_law_609 ?_
  refine v_sld C hX hbl hbA (isB_in (b := 5) (by decide) rfl) dL_law_610 ?_
  refine v_aload_n C dL_law_611 rfl ?_
  refine v_iload_n C dL_law_612 rfl ?_
  refine v_iconst (v := 2) C dL_law_613 (by decide) ?_
  refine v_iadd C dL_law_614 ?_
  refine v_sld C hX hbl hbA (isB_in (b := 5) (by decide) rfl) dL_law_615 ?_
  refine v_aload_n C dL_law_616 rfl ?_
  refine v_iload_n C dL_law_617 rfl ?_
  refine v_iconst (v := 3) C dL_law_618 (by decide) ?_
  refine v_iadd C dL_law_619 ?_
  refine v_sld C hX hbl hbA (isB_in (b := 5) (by decide) rfl) dL_law_620 ?_
  refine v_callV (As := [_, _, _]) (n := 3) C (ct_X10_prefer l m0 ad _ _ _) rfl kM.1 (by decide) rfl ⟨wd494, wd495, wd496, wd5, wd497⟩ ⟨rfl, hy_X10_prefer⟩ rfl ⟨Nat.le_of_ble_eq_true rfl, Nat.le_of_ble_eq_true rfl⟩ (Nat.le_of_ble_eq_true rfl) ⟨Nat.le_of_ble_eq_true rfl, Nat.le_of_ble_eq_true rfl⟩ dL_law_621 ⟨rfl, kM⟩ (fun r_621 S_621 h_621 => ?_)
  obtain rfl := h_621
  refine v_icmp_eq (tgt := 1211) C dL_law_624 (by decide) (fun c_624 => ?_) (fun c_624 => ?_)
  · skip
    exact hend _ _ _ (Nat.le_of_ble_eq_true rfl) (Nat.le_of_ble_eq_true rfl)
  · skip
    exact absurd rfl c_624
theorem dL_law_629 : decode cL_law 629 = .ok (.aload_n 1, 1) := by decide +kernel
theorem dL_law_630 : decode cL_law 630 = .ok (.aload_n 0, 1) := by decide +kernel
theorem dL_law_631 : decode cL_law 631 = .ok (.iload_n 3, 1) := by decide +kernel
theorem dL_law_632 : decode cL_law 632 = .ok (.iconst 1, 1) := by decide +kernel
theorem dL_law_633 : decode cL_law 633 = .ok (.iadd, 1) := by decide +kernel
theorem dL_law_634 : decode cL_law 634 = .ok (.iaload, 1) := by decide +kernel
theorem dL_law_635 : decode cL_law 635 = .ok (.aload_n 0, 1) := by decide +kernel
theorem dL_law_636 : decode cL_law 636 = .ok (.iload_n 3, 1) := by decide +kernel
theorem dL_law_637 : decode cL_law 637 = .ok (.iconst 2, 1) := by decide +kernel
theorem dL_law_638 : decode cL_law 638 = .ok (.iadd, 1) := by decide +kernel
theorem dL_law_639 : decode cL_law 639 = .ok (.iaload, 1) := by decide +kernel
theorem dL_law_640 : decode cL_law 640 = .ok (.invokevirtual 61, 3) := by decide +kernel
theorem dL_law_643 : decode cL_law 643 = .ok (.aload_n 2, 1) := by decide +kernel
theorem dL_law_644 : decode cL_law 644 = .ok (.aload_n 0, 1) := by decide +kernel
theorem dL_law_645 : decode cL_law 645 = .ok (.iload_n 3, 1) := by decide +kernel
theorem dL_law_646 : decode cL_law 646 = .ok (.iconst 1, 1) := by decide +kernel
theorem dL_law_647 : decode cL_law 647 = .ok (.iadd, 1) := by decide +kernel
theorem dL_law_648 : decode cL_law 648 = .ok (.iaload, 1) := by decide +kernel
theorem dL_law_649 : decode cL_law 649 = .ok (.aload_n 0, 1) := by decide +kernel
theorem dL_law_650 : decode cL_law 650 = .ok (.iload_n 3, 1) := by decide +kernel
theorem dL_law_651 : decode cL_law 651 = .ok (.iconst 2, 1) := by decide +kernel
theorem dL_law_652 : decode cL_law 652 = .ok (.iadd, 1) := by decide +kernel
theorem dL_law_653 : decode cL_law 653 = .ok (.iaload, 1) := by decide +kernel
theorem dL_law_654 : decode cL_law 654 = .ok (.invokevirtual 64, 3) := by decide +kernel
theorem dL_law_657 : decode cL_law 657 = .ok (.if_icmp .eq 554, 3) := by decide +kernel
set_option maxRecDepth 100000 in
set_option maxHeartbeats 4000000 in
theorem law_c11 {p : Program} {l : Launch} {e : Env} {s : State} {m : MethodId} {below : List Frame} {meth : Method} {c : Code} {D : va_G} {G : Nat → ClassId} {bs : Nat} {Q : State → Prop} {b : Nat} {xs : Nat → Int32} {S : Mem} {x co ts fs mg ch rw ft gl gr gq ml mr mq sg tp cs m0 : Nat} {ad : Nat → Nat} (C : Cx p s m #[Value.ref b] meth c D G bs code 4 RL) (hX : va_X b 5 xs s s.heap) (hbl : b < s.heap.size) (hbA : ¬ bs ≤ b) (kA : pcAt S x co ts fs mg ch rw ft gl gr gq ml mr mq sg tp cs) (kN : pcNew S x co ts fs sg tp) (kM : mdNew S m0 ad) (hmN : ¬ m0 ∈ [co, ts, fs, mg, rw, ft, gl, gq, ml, mq]) (hadN : ∀ q ∈ mTab, ¬ ad q.1 ∈ [co, ts, fs, mg, rw, ft, gl, gq, ml, mq]) (hend : ∀ (T : Mem) (ce sl : Nat), ce ≤ 600000 → sl ≤ 7302250 → V p l e room_1 s m #[Value.ref b] below meth c D G bs 4 Q ce sl T 1211 [some (.ref b), some (.ref x), some (.ref m0), some (.int 0)] []) : V p l e room_1 s m #[Value.ref b] below meth c D G bs 4 Q 1000 100000 S 629 [some (.ref b), some (.ref x), some (.ref m0), some (.int 0)] [] := by
  refine v_aload_n C dL_law_629 rfl ?_
  refine v_aload_n C dL_law_630 rfl ?_
  refine v_iload_n C dL_law_631 rfl ?_
  refine v_iconst (v := 1) C dL_law_632 (by decide) ?_
  refine v_iadd C dL_law_633 ?_
  refine v_sld C hX hbl hbA (isB_in (b := 5) (by decide) rfl) dL_law_634 ?_
  refine v_aload_n C dL_law_635 rfl ?_
  refine v_iload_n C dL_law_636 rfl ?_
  refine v_iconst (v := 2) C dL_law_637 (by decide) ?_
  refine v_iadd C dL_law_638 ?_
  refine v_sld C hX hbl hbA (isB_in (b := 5) (by decide) rfl) dL_law_639 ?_
  refine v_callV (As := [_, _]) (n := 2) C (ct_X9_lineOf l x co ts fs mg ch rw ft gl gr gq ml mr mq sg tp cs _ _) rfl kA.1 (by decide) rfl ⟨wd498, wd499, wd500, wd2, wd501⟩ ⟨rfl, hy_X9_lineOf⟩ rfl ⟨Nat.le_of_ble_eq_true rfl, Nat.le_of_ble_eq_true rfl⟩ (Nat.le_of_ble_eq_true rfl) ⟨Nat.le_of_ble_eq_true rfl, Nat.le_of_ble_eq_true rfl⟩ dL_law_640 ⟨rfl, kA, kN⟩ (fun r_640 S_640 h_640 => ?_)
  obtain ⟨rfl, q_640⟩ := h_640
  obtain rfl := q_640.symm
  refine v_aload_n C dL_law_643 rfl ?_
  refine v_aload_n C dL_law_644 rfl ?_
  refine v_iload_n C dL_law_645 rfl ?_
  refine v_iconst (v := 1) C dL_law_646 (by decide) ?_
  refine v_iadd C dL_law_647 ?_
  refine v_sld C hX hbl hbA (isB_in (b := 5) (by decide) rfl) dL_law_648 ?_
  refine v_aload_n C dL_law_649 rfl ?_
  refine v_iload_n C dL_law_650 rfl ?_
  refine v_iconst (v := 2) C dL_law_651 (by decide) ?_
  refine v_iadd C dL_law_652 ?_
  refine v_sld C hX hbl hbA (isB_in (b := 5) (by decide) rfl) dL_law_653 ?_
  refine v_callV (As := [_, _]) (n := 2) C (ct_X10_lineOf l m0 ad _ _) rfl kM.1 (by decide) rfl ⟨wd504, wd505, wd506, wd5, wd507⟩ ⟨rfl, hy_X10_lineOf⟩ rfl ⟨Nat.le_of_ble_eq_true rfl, Nat.le_of_ble_eq_true rfl⟩ (Nat.le_of_ble_eq_true rfl) ⟨Nat.le_of_ble_eq_true rfl, Nat.le_of_ble_eq_true rfl⟩ dL_law_654 ⟨rfl, kM⟩ (fun r_654 S_654 h_654 => ?_)
  obtain rfl := h_654
  refine v_icmp_eq (tgt := 1211) C dL_law_657 (by decide) (fun c_657 => ?_) (fun c_657 => ?_)
  · skip
    exact hend _ _ _ (Nat.le_of_ble_eq_true rfl) (Nat.le_of_ble_eq_true rfl)
  · skip
    exact absurd rfl c_657
theorem dL_law_662 : decode cL_law 662 = .ok (.aload_n 1, 1) := by decide +kernel
theorem dL_law_663 : decode cL_law 663 = .ok (.aload_n 0, 1) := by decide +kernel
theorem dL_law_664 : decode cL_law 664 = .ok (.iload_n 3, 1) := by decide +kernel
theorem dL_law_665 : decode cL_law 665 = .ok (.iconst 1, 1) := by decide +kernel
theorem dL_law_666 : decode cL_law 666 = .ok (.iadd, 1) := by decide +kernel
theorem dL_law_667 : decode cL_law 667 = .ok (.iaload, 1) := by decide +kernel
theorem dL_law_668 : decode cL_law 668 = .ok (.aload_n 0, 1) := by decide +kernel
theorem dL_law_669 : decode cL_law 669 = .ok (.iload_n 3, 1) := by decide +kernel
theorem dL_law_670 : decode cL_law 670 = .ok (.iconst 2, 1) := by decide +kernel
theorem dL_law_671 : decode cL_law 671 = .ok (.iadd, 1) := by decide +kernel
theorem dL_law_672 : decode cL_law 672 = .ok (.iaload, 1) := by decide +kernel
theorem dL_law_673 : decode cL_law 673 = .ok (.invokevirtual 65, 3) := by decide +kernel
theorem dL_law_676 : decode cL_law 676 = .ok (.aload_n 2, 1) := by decide +kernel
theorem dL_law_677 : decode cL_law 677 = .ok (.aload_n 0, 1) := by decide +kernel
theorem dL_law_678 : decode cL_law 678 = .ok (.iload_n 3, 1) := by decide +kernel
theorem dL_law_679 : decode cL_law 679 = .ok (.iconst 1, 1) := by decide +kernel
theorem dL_law_680 : decode cL_law 680 = .ok (.iadd, 1) := by decide +kernel
theorem dL_law_681 : decode cL_law 681 = .ok (.iaload, 1) := by decide +kernel
theorem dL_law_682 : decode cL_law 682 = .ok (.aload_n 0, 1) := by decide +kernel
theorem dL_law_683 : decode cL_law 683 = .ok (.iload_n 3, 1) := by decide +kernel
theorem dL_law_684 : decode cL_law 684 = .ok (.iconst 2, 1) := by decide +kernel
theorem dL_law_685 : decode cL_law 685 = .ok (.iadd, 1) := by decide +kernel
theorem dL_law_686 : decode cL_law 686 = .ok (.iaload, 1) := by decide +kernel
theorem dL_law_687 : decode cL_law 687 = .ok (.invokevirtual 68, 3) := by decide +kernel
theorem dL_law_690 : decode cL_law 690 = .ok (.if_icmp .eq 521, 3) := by decide +kernel
set_option maxRecDepth 100000 in
set_option maxHeartbeats 4000000 in
theorem law_c12 {p : Program} {l : Launch} {e : Env} {s : State} {m : MethodId} {below : List Frame} {meth : Method} {c : Code} {D : va_G} {G : Nat → ClassId} {bs : Nat} {Q : State → Prop} {b : Nat} {xs : Nat → Int32} {S : Mem} {x co ts fs mg ch rw ft gl gr gq ml mr mq sg tp cs m0 : Nat} {ad : Nat → Nat} (C : Cx p s m #[Value.ref b] meth c D G bs code 4 RL) (hX : va_X b 5 xs s s.heap) (hbl : b < s.heap.size) (hbA : ¬ bs ≤ b) (kA : pcAt S x co ts fs mg ch rw ft gl gr gq ml mr mq sg tp cs) (kN : pcNew S x co ts fs sg tp) (kM : mdNew S m0 ad) (hmN : ¬ m0 ∈ [co, ts, fs, mg, rw, ft, gl, gq, ml, mq]) (hadN : ∀ q ∈ mTab, ¬ ad q.1 ∈ [co, ts, fs, mg, rw, ft, gl, gq, ml, mq]) (hend : ∀ (T : Mem) (ce sl : Nat), ce ≤ 600000 → sl ≤ 7302250 → V p l e room_1 s m #[Value.ref b] below meth c D G bs 4 Q ce sl T 1211 [some (.ref b), some (.ref x), some (.ref m0), some (.int 0)] []) : V p l e room_1 s m #[Value.ref b] below meth c D G bs 4 Q 1000 100000 S 662 [some (.ref b), some (.ref x), some (.ref m0), some (.int 0)] [] := by
  refine v_aload_n C dL_law_662 rfl ?_
  refine v_aload_n C dL_law_663 rfl ?_
  refine v_iload_n C dL_law_664 rfl ?_
  refine v_iconst (v := 1) C dL_law_665 (by decide) ?_
  refine v_iadd C dL_law_666 ?_
  refine v_sld C hX hbl hbA (isB_in (b := 5) (by decide) rfl) dL_law_667 ?_
  refine v_aload_n C dL_law_668 rfl ?_
  refine v_iload_n C dL_law_669 rfl ?_
  refine v_iconst (v := 2) C dL_law_670 (by decide) ?_
  refine v_iadd C dL_law_671 ?_
  refine v_sld C hX hbl hbA (isB_in (b := 5) (by decide) rfl) dL_law_672 ?_
  refine v_callV (As := [_, _]) (n := 2) C (ct_X9_line l x co ts fs mg ch rw ft gl gr gq ml mr mq sg tp cs _ _) rfl kA.1 (by decide) rfl ⟨wd508, wd509, wd510, wd2, wd511⟩ ⟨rfl, hy_X9_line⟩ rfl ⟨Nat.le_of_ble_eq_true rfl, Nat.le_of_ble_eq_true rfl⟩ (Nat.le_of_ble_eq_true rfl) ⟨Nat.le_of_ble_eq_true rfl, Nat.le_of_ble_eq_true rfl⟩ dL_law_673 ⟨rfl, kA, kN⟩ (fun r_673 S_673 h_673 => ?_)
  obtain ⟨rfl, q_673⟩ := h_673
  obtain rfl := q_673.symm
  refine v_aload_n C dL_law_676 rfl ?_
  refine v_aload_n C dL_law_677 rfl ?_
  refine v_iload_n C dL_law_678 rfl ?_
  refine v_iconst (v := 1) C dL_law_679 (by decide) ?_
  refine v_iadd C dL_law_680 ?_
  refine v_sld C hX hbl hbA (isB_in (b := 5) (by decide) rfl) dL_law_681 ?_
  refine v_aload_n C dL_law_682 rfl ?_
  refine v_iload_n C dL_law_683 rfl ?_
  refine v_iconst (v := 2) C dL_law_684 (by decide) ?_
  refine v_iadd C dL_law_685 ?_
  refine v_sld C hX hbl hbA (isB_in (b := 5) (by decide) rfl) dL_law_686 ?_
  refine v_callV (As := [_, _]) (n := 2) C (ct_X10_line l m0 ad _ _) rfl kM.1 (by decide) rfl ⟨wd513, wd514, wd515, wd5, wd516⟩ ⟨rfl, hy_X10_line⟩ rfl ⟨Nat.le_of_ble_eq_true rfl, Nat.le_of_ble_eq_true rfl⟩ (Nat.le_of_ble_eq_true rfl) ⟨Nat.le_of_ble_eq_true rfl, Nat.le_of_ble_eq_true rfl⟩ dL_law_687 ⟨rfl, kM⟩ (fun r_687 S_687 h_687 => ?_)
  obtain rfl := h_687
  refine v_icmp_eq (tgt := 1211) C dL_law_690 (by decide) (fun c_690 => ?_) (fun c_690 => ?_)
  · skip
    exact hend _ _ _ (Nat.le_of_ble_eq_true rfl) (Nat.le_of_ble_eq_true rfl)
  · skip
    exact absurd rfl c_690
theorem dL_law_695 : decode cL_law 695 = .ok (.aload_n 1, 1) := by decide +kernel
theorem dL_law_696 : decode cL_law 696 = .ok (.aload_n 0, 1) := by decide +kernel
theorem dL_law_697 : decode cL_law 697 = .ok (.iload_n 3, 1) := by decide +kernel
theorem dL_law_698 : decode cL_law 698 = .ok (.iconst 1, 1) := by decide +kernel
theorem dL_law_699 : decode cL_law 699 = .ok (.iadd, 1) := by decide +kernel
theorem dL_law_700 : decode cL_law 700 = .ok (.iaload, 1) := by decide +kernel
theorem dL_law_701 : decode cL_law 701 = .ok (.aload_n 0, 1) := by decide +kernel
theorem dL_law_702 : decode cL_law 702 = .ok (.iload_n 3, 1) := by decide +kernel
theorem dL_law_703 : decode cL_law 703 = .ok (.iconst 2, 1) := by decide +kernel
theorem dL_law_704 : decode cL_law 704 = .ok (.iadd, 1) := by decide +kernel
theorem dL_law_705 : decode cL_law 705 = .ok (.iaload, 1) := by decide +kernel
theorem dL_law_706 : decode cL_law 706 = .ok (.invokevirtual 69, 3) := by decide +kernel
theorem dL_law_709 : decode cL_law 709 = .ok (.aload_n 2, 1) := by decide +kernel
theorem dL_law_710 : decode cL_law 710 = .ok (.aload_n 0, 1) := by decide +kernel
theorem dL_law_711 : decode cL_law 711 = .ok (.iload_n 3, 1) := by decide +kernel
theorem dL_law_712 : decode cL_law 712 = .ok (.iconst 1, 1) := by decide +kernel
theorem dL_law_713 : decode cL_law 713 = .ok (.iadd, 1) := by decide +kernel
theorem dL_law_714 : decode cL_law 714 = .ok (.iaload, 1) := by decide +kernel
theorem dL_law_715 : decode cL_law 715 = .ok (.aload_n 0, 1) := by decide +kernel
theorem dL_law_716 : decode cL_law 716 = .ok (.iload_n 3, 1) := by decide +kernel
theorem dL_law_717 : decode cL_law 717 = .ok (.iconst 2, 1) := by decide +kernel
theorem dL_law_718 : decode cL_law 718 = .ok (.iadd, 1) := by decide +kernel
theorem dL_law_719 : decode cL_law 719 = .ok (.iaload, 1) := by decide +kernel
theorem dL_law_720 : decode cL_law 720 = .ok (.invokevirtual 72, 3) := by decide +kernel
theorem dL_law_723 : decode cL_law 723 = .ok (.if_icmp .eq 488, 3) := by decide +kernel
set_option maxRecDepth 100000 in
set_option maxHeartbeats 4000000 in
theorem law_c13 {p : Program} {l : Launch} {e : Env} {s : State} {m : MethodId} {below : List Frame} {meth : Method} {c : Code} {D : va_G} {G : Nat → ClassId} {bs : Nat} {Q : State → Prop} {b : Nat} {xs : Nat → Int32} {S : Mem} {x co ts fs mg ch rw ft gl gr gq ml mr mq sg tp cs m0 : Nat} {ad : Nat → Nat} (C : Cx p s m #[Value.ref b] meth c D G bs code 4 RL) (hX : va_X b 5 xs s s.heap) (hbl : b < s.heap.size) (hbA : ¬ bs ≤ b) (kA : pcAt S x co ts fs mg ch rw ft gl gr gq ml mr mq sg tp cs) (kN : pcNew S x co ts fs sg tp) (kM : mdNew S m0 ad) (hmN : ¬ m0 ∈ [co, ts, fs, mg, rw, ft, gl, gq, ml, mq]) (hadN : ∀ q ∈ mTab, ¬ ad q.1 ∈ [co, ts, fs, mg, rw, ft, gl, gq, ml, mq]) (hend : ∀ (T : Mem) (ce sl : Nat), ce ≤ 600000 → sl ≤ 7302250 → V p l e room_1 s m #[Value.ref b] below meth c D G bs 4 Q ce sl T 1211 [some (.ref b), some (.ref x), some (.ref m0), some (.int 0)] []) : V p l e room_1 s m #[Value.ref b] below meth c D G bs 4 Q 1000 100000 S 695 [some (.ref b), some (.ref x), some (.ref m0), some (.int 0)] [] := by
  refine v_aload_n C dL_law_695 rfl ?_
  refine v_aload_n C dL_law_696 rfl ?_
  refine v_iload_n C dL_law_697 rfl ?_
  refine v_iconst (v := 1) C dL_law_698 (by decide) ?_
  refine v_iadd C dL_law_699 ?_
  refine v_sld C hX hbl hbA (isB_in (b := 5) (by decide) rfl) dL_law_700 ?_
  refine v_aload_n C dL_law_701 rfl ?_
  refine v_iload_n C dL_law_702 rfl ?_
  refine v_iconst (v := 2) C dL_law_703 (by decide) ?_
  refine v_iadd C dL_law_704 ?_
  refine v_sld C hX hbl hbA (isB_in (b := 5) (by decide) rfl) dL_law_705 ?_
  refine v_callV (As := [_, _]) (n := 2) C (ct_X9_chosen l x co ts fs mg ch rw ft gl gr gq ml mr mq sg tp cs _ _) rfl kA.1 (by decide) rfl ⟨wd517, wd518, wd519, wd2, wd520⟩ ⟨rfl, hy_X9_chosen⟩ rfl ⟨Nat.le_of_ble_eq_true rfl, Nat.le_of_ble_eq_true rfl⟩ (Nat.le_of_ble_eq_true rfl) ⟨Nat.le_of_ble_eq_true rfl, Nat.le_of_ble_eq_true rfl⟩ dL_law_706 ⟨rfl, kA, kN⟩ (fun r_706 S_706 h_706 => ?_)
  obtain ⟨rfl, q_706⟩ := h_706
  obtain rfl := q_706.symm
  refine v_aload_n C dL_law_709 rfl ?_
  refine v_aload_n C dL_law_710 rfl ?_
  refine v_iload_n C dL_law_711 rfl ?_
  refine v_iconst (v := 1) C dL_law_712 (by decide) ?_
  refine v_iadd C dL_law_713 ?_
  refine v_sld C hX hbl hbA (isB_in (b := 5) (by decide) rfl) dL_law_714 ?_
  refine v_aload_n C dL_law_715 rfl ?_
  refine v_iload_n C dL_law_716 rfl ?_
  refine v_iconst (v := 2) C dL_law_717 (by decide) ?_
  refine v_iadd C dL_law_718 ?_
  refine v_sld C hX hbl hbA (isB_in (b := 5) (by decide) rfl) dL_law_719 ?_
  refine v_callV (As := [_, _]) (n := 2) C (ct_X10_chosen l m0 ad _ _) rfl kM.1 (by decide) rfl ⟨wd581, wd582, wd583, wd5, wd584⟩ ⟨rfl, hy_X10_chosen⟩ rfl ⟨Nat.le_of_ble_eq_true rfl, Nat.le_of_ble_eq_true rfl⟩ (Nat.le_of_ble_eq_true rfl) ⟨Nat.le_of_ble_eq_true rfl, Nat.le_of_ble_eq_true rfl⟩ dL_law_720 ⟨rfl, kM⟩ (fun r_720 S_720 h_720 => ?_)
  obtain rfl := h_720
  refine v_icmp_eq (tgt := 1211) C dL_law_723 (by decide) (fun c_723 => ?_) (fun c_723 => ?_)
  · skip
    exact hend _ _ _ (Nat.le_of_ble_eq_true rfl) (Nat.le_of_ble_eq_true rfl)
  · skip
    exact absurd rfl c_723
theorem dL_law_728 : decode cL_law 728 = .ok (.aload_n 1, 1) := by decide +kernel
theorem dL_law_729 : decode cL_law 729 = .ok (.aload_n 0, 1) := by decide +kernel
theorem dL_law_730 : decode cL_law 730 = .ok (.iload_n 3, 1) := by decide +kernel
theorem dL_law_731 : decode cL_law 731 = .ok (.iconst 1, 1) := by decide +kernel
theorem dL_law_732 : decode cL_law 732 = .ok (.iadd, 1) := by decide +kernel
theorem dL_law_733 : decode cL_law 733 = .ok (.iaload, 1) := by decide +kernel
theorem dL_law_734 : decode cL_law 734 = .ok (.aload_n 0, 1) := by decide +kernel
theorem dL_law_735 : decode cL_law 735 = .ok (.iload_n 3, 1) := by decide +kernel
theorem dL_law_736 : decode cL_law 736 = .ok (.iconst 2, 1) := by decide +kernel
theorem dL_law_737 : decode cL_law 737 = .ok (.iadd, 1) := by decide +kernel
theorem dL_law_738 : decode cL_law 738 = .ok (.iaload, 1) := by decide +kernel
theorem dL_law_739 : decode cL_law 739 = .ok (.invokevirtual 73, 3) := by decide +kernel
theorem dL_law_742 : decode cL_law 742 = .ok (.aload_n 2, 1) := by decide +kernel
theorem dL_law_743 : decode cL_law 743 = .ok (.aload_n 0, 1) := by decide +kernel
theorem dL_law_744 : decode cL_law 744 = .ok (.iload_n 3, 1) := by decide +kernel
theorem dL_law_745 : decode cL_law 745 = .ok (.iconst 1, 1) := by decide +kernel
theorem dL_law_746 : decode cL_law 746 = .ok (.iadd, 1) := by decide +kernel
theorem dL_law_747 : decode cL_law 747 = .ok (.iaload, 1) := by decide +kernel
theorem dL_law_748 : decode cL_law 748 = .ok (.aload_n 0, 1) := by decide +kernel
theorem dL_law_749 : decode cL_law 749 = .ok (.iload_n 3, 1) := by decide +kernel
theorem dL_law_750 : decode cL_law 750 = .ok (.iconst 2, 1) := by decide +kernel
theorem dL_law_751 : decode cL_law 751 = .ok (.iadd, 1) := by decide +kernel
theorem dL_law_752 : decode cL_law 752 = .ok (.iaload, 1) := by decide +kernel
theorem dL_law_753 : decode cL_law 753 = .ok (.invokevirtual 76, 3) := by decide +kernel
theorem dL_law_756 : decode cL_law 756 = .ok (.if_icmp .eq 455, 3) := by decide +kernel
set_option maxRecDepth 100000 in
set_option maxHeartbeats 4000000 in
theorem law_c14 {p : Program} {l : Launch} {e : Env} {s : State} {m : MethodId} {below : List Frame} {meth : Method} {c : Code} {D : va_G} {G : Nat → ClassId} {bs : Nat} {Q : State → Prop} {b : Nat} {xs : Nat → Int32} {S : Mem} {x co ts fs mg ch rw ft gl gr gq ml mr mq sg tp cs m0 : Nat} {ad : Nat → Nat} (C : Cx p s m #[Value.ref b] meth c D G bs code 4 RL) (hX : va_X b 5 xs s s.heap) (hbl : b < s.heap.size) (hbA : ¬ bs ≤ b) (kA : pcAt S x co ts fs mg ch rw ft gl gr gq ml mr mq sg tp cs) (kN : pcNew S x co ts fs sg tp) (kM : mdNew S m0 ad) (hmN : ¬ m0 ∈ [co, ts, fs, mg, rw, ft, gl, gq, ml, mq]) (hadN : ∀ q ∈ mTab, ¬ ad q.1 ∈ [co, ts, fs, mg, rw, ft, gl, gq, ml, mq]) (hend : ∀ (T : Mem) (ce sl : Nat), ce ≤ 600000 → sl ≤ 7302250 → V p l e room_1 s m #[Value.ref b] below meth c D G bs 4 Q ce sl T 1211 [some (.ref b), some (.ref x), some (.ref m0), some (.int 0)] []) : V p l e room_1 s m #[Value.ref b] below meth c D G bs 4 Q 1000 100000 S 728 [some (.ref b), some (.ref x), some (.ref m0), some (.int 0)] [] := by
  refine v_aload_n C dL_law_728 rfl ?_
  refine v_aload_n C dL_law_729 rfl ?_
  refine v_iload_n C dL_law_730 rfl ?_
  refine v_iconst (v := 1) C dL_law_731 (by decide) ?_
  refine v_iadd C dL_law_732 ?_
  refine v_sld C hX hbl hbA (isB_in (b := 5) (by decide) rfl) dL_law_733 ?_
  refine v_aload_n C dL_law_734 rfl ?_
  refine v_iload_n C dL_law_735 rfl ?_
  refine v_iconst (v := 2) C dL_law_736 (by decide) ?_
  refine v_iadd C dL_law_737 ?_
  refine v_sld C hX hbl hbA (isB_in (b := 5) (by decide) rfl) dL_law_738 ?_
  refine v_callV (As := [_, _]) (n := 2) C (ct_X9_clash l x co ts fs mg ch rw ft gl gr gq ml mr mq sg tp cs _ _) rfl kA.1 (by decide) rfl ⟨wd609, wd610, wd611, wd2, wd612⟩ ⟨rfl, hy_X9_clash⟩ rfl ⟨Nat.le_of_ble_eq_true rfl, Nat.le_of_ble_eq_true rfl⟩ (Nat.le_of_ble_eq_true rfl) ⟨Nat.le_of_ble_eq_true rfl, Nat.le_of_ble_eq_true rfl⟩ dL_law_739 ⟨rfl, kA, kN⟩ (fun r_739 S_739 h_739 => ?_)
  obtain ⟨rfl, q_739⟩ := h_739
  obtain rfl := q_739.symm
  refine v_aload_n C dL_law_742 rfl ?_
  refine v_aload_n C dL_law_743 rfl ?_
  refine v_iload_n C dL_law_744 rfl ?_
  refine v_iconst (v := 1) C dL_law_745 (by decide) ?_
  refine v_iadd C dL_law_746 ?_
  refine v_sld C hX hbl hbA (isB_in (b := 5) (by decide) rfl) dL_law_747 ?_
  refine v_aload_n C dL_law_748 rfl ?_
  refine v_iload_n C dL_law_749 rfl ?_
  refine v_iconst (v := 2) C dL_law_750 (by decide) ?_
  refine v_iadd C dL_law_751 ?_
  refine v_sld C hX hbl hbA (isB_in (b := 5) (by decide) rfl) dL_law_752 ?_
  refine v_callV (As := [_, _]) (n := 2) C (ct_X10_clash l m0 ad _ _) rfl kM.1 (by decide) rfl ⟨wd614, wd615, wd616, wd5, wd617⟩ ⟨rfl, hy_X10_clash⟩ rfl ⟨Nat.le_of_ble_eq_true rfl, Nat.le_of_ble_eq_true rfl⟩ (Nat.le_of_ble_eq_true rfl) ⟨Nat.le_of_ble_eq_true rfl, Nat.le_of_ble_eq_true rfl⟩ dL_law_753 ⟨rfl, kM⟩ (fun r_753 S_753 h_753 => ?_)
  obtain rfl := h_753
  refine v_icmp_eq (tgt := 1211) C dL_law_756 (by decide) (fun c_756 => ?_) (fun c_756 => ?_)
  · skip
    exact hend _ _ _ (Nat.le_of_ble_eq_true rfl) (Nat.le_of_ble_eq_true rfl)
  · skip
    exact absurd rfl c_756
theorem dL_law_761 : decode cL_law 761 = .ok (.aload_n 1, 1) := by decide +kernel
theorem dL_law_762 : decode cL_law 762 = .ok (.aload_n 0, 1) := by decide +kernel
theorem dL_law_763 : decode cL_law 763 = .ok (.iload_n 3, 1) := by decide +kernel
theorem dL_law_764 : decode cL_law 764 = .ok (.iconst 1, 1) := by decide +kernel
theorem dL_law_765 : decode cL_law 765 = .ok (.iadd, 1) := by decide +kernel
theorem dL_law_766 : decode cL_law 766 = .ok (.iaload, 1) := by decide +kernel
theorem dL_law_767 : decode cL_law 767 = .ok (.aload_n 0, 1) := by decide +kernel
theorem dL_law_768 : decode cL_law 768 = .ok (.iload_n 3, 1) := by decide +kernel
theorem dL_law_769 : decode cL_law 769 = .ok (.iconst 2, 1) := by decide +kernel
theorem dL_law_770 : decode cL_law 770 = .ok (.iadd, 1) := by decide +kernel
theorem dL_law_771 : decode cL_law 771 = .ok (.iaload, 1) := by decide +kernel
theorem dL_law_772 : decode cL_law 772 = .ok (.aload_n 0, 1) := by decide +kernel
theorem dL_law_773 : decode cL_law 773 = .ok (.iload_n 3, 1) := by decide +kernel
theorem dL_law_774 : decode cL_law 774 = .ok (.iconst 3, 1) := by decide +kernel
theorem dL_law_775 : decode cL_law 775 = .ok (.iadd, 1) := by decide +kernel
theorem dL_law_776 : decode cL_law 776 = .ok (.iaload, 1) := by decide +kernel
theorem dL_law_777 : decode cL_law 777 = .ok (.invokevirtual 77, 3) := by decide +kernel
theorem dL_law_780 : decode cL_law 780 = .ok (.aload_n 2, 1) := by decide +kernel
theorem dL_law_781 : decode cL_law 781 = .ok (.aload_n 0, 1) := by decide +kernel
theorem dL_law_782 : decode cL_law 782 = .ok (.iload_n 3, 1) := by decide +kernel
theorem dL_law_783 : decode cL_law 783 = .ok (.iconst 1, 1) := by decide +kernel
theorem dL_law_784 : decode cL_law 784 = .ok (.iadd, 1) := by decide +kernel
theorem dL_law_785 : decode cL_law 785 = .ok (.iaload, 1) := by decide +kernel
theorem dL_law_786 : decode cL_law 786 = .ok (.aload_n 0, 1) := by decide +kernel
theorem dL_law_787 : decode cL_law 787 = .ok (.iload_n 3, 1) := by decide +kernel
theorem dL_law_788 : decode cL_law 788 = .ok (.iconst 2, 1) := by decide +kernel
theorem dL_law_789 : decode cL_law 789 = .ok (.iadd, 1) := by decide +kernel
theorem dL_law_790 : decode cL_law 790 = .ok (.iaload, 1) := by decide +kernel
theorem dL_law_791 : decode cL_law 791 = .ok (.aload_n 0, 1) := by decide +kernel
theorem dL_law_792 : decode cL_law 792 = .ok (.iload_n 3, 1) := by decide +kernel
theorem dL_law_793 : decode cL_law 793 = .ok (.iconst 3, 1) := by decide +kernel
theorem dL_law_794 : decode cL_law 794 = .ok (.iadd, 1) := by decide +kernel
theorem dL_law_795 : decode cL_law 795 = .ok (.iaload, 1) := by decide +kernel
theorem dL_law_796 : decode cL_law 796 = .ok (.invokevirtual 80, 3) := by decide +kernel
theorem dL_law_799 : decode cL_law 799 = .ok (.if_icmp .eq 412, 3) := by decide +kernel
set_option maxRecDepth 100000 in
set_option maxHeartbeats 4000000 in
theorem law_c15 {p : Program} {l : Launch} {e : Env} {s : State} {m : MethodId} {below : List Frame} {meth : Method} {c : Code} {D : va_G} {G : Nat → ClassId} {bs : Nat} {Q : State → Prop} {b : Nat} {xs : Nat → Int32} {S : Mem} {x co ts fs mg ch rw ft gl gr gq ml mr mq sg tp cs m0 : Nat} {ad : Nat → Nat} (C : Cx p s m #[Value.ref b] meth c D G bs code 4 RL) (hX : va_X b 5 xs s s.heap) (hbl : b < s.heap.size) (hbA : ¬ bs ≤ b) (kA : pcAt S x co ts fs mg ch rw ft gl gr gq ml mr mq sg tp cs) (kN : pcNew S x co ts fs sg tp) (kM : mdNew S m0 ad) (hmN : ¬ m0 ∈ [co, ts, fs, mg, rw, ft, gl, gq, ml, mq]) (hadN : ∀ q ∈ mTab, ¬ ad q.1 ∈ [co, ts, fs, mg, rw, ft, gl, gq, ml, mq]) (hend : ∀ (T : Mem) (ce sl : Nat), ce ≤ 600000 → sl ≤ 7302250 → V p l e room_1 s m #[Value.ref b] below meth c D G bs 4 Q ce sl T 1211 [some (.ref b), some (.ref x), some (.ref m0), some (.int 0)] []) : V p l e room_1 s m #[Value.ref b] below meth c D G bs 4 Q 1000 100000 S 761 [some (.ref b), some (.ref x), some (.ref m0), some (.int 0)] [] := by
  refine v_aload_n C dL_law_761 rfl ?_
  refine v_aload_n C dL_law_762 rfl ?_
  refine v_iload_n C dL_law_763 rfl ?_
  refine v_iconst (v := 1) C dL_law_764 (by decide) ?_
  refine v_iadd C dL_law_765 ?_
  refine v_sld C hX hbl hbA (isB_in (b := 5) (by decide) rfl) dL_law_766 ?_
  refine v_aload_n C dL_law_767 rfl ?_
  refine v_iload_n C dL_law_768 rfl ?_
  refine v_iconst (v := 2) C dL_law_769 (by decide) ?_
  refine v_iadd C dL_law_770 ?_
  refine v_sld C hX hbl hbA (isB_in (b := 5) (by decide) rfl) dL_law_771 ?_
  refine v_aload_n C dL_law_772 rfl ?_
  refine v_iload_n C dL_law_773 rfl ?_
  refine v_iconst (v := 3) C dL_law_774 (by decide) ?_
  refine v_iadd C dL_law_775 ?_
  refine v_sld C hX hbl hbA (isB_in (b := 5) (by decide) rfl) dL_law_776 ?_
  refine v_callV (As := [_, _, _]) (n := 3) C (ct_X9_about l x co ts fs mg ch rw ft gl gr gq ml mr mq sg tp cs _ _ _) rfl kA.1 (by decide) rfl ⟨wd630, wd631, wd632, wd2, wd633⟩ ⟨rfl, hy_X9_about⟩ rfl ⟨Nat.le_of_ble_eq_true rfl, Nat.le_of_ble_eq_true rfl⟩ (Nat.le_of_ble_eq_true rfl) ⟨Nat.le_of_ble_eq_true rfl, Nat.le_of_ble_eq_true rfl⟩ dL_law_777 ⟨rfl, kA, kN⟩ (fun r_777 S_777 h_777 => ?_)
  obtain ⟨rfl, q_777⟩ := h_777
  obtain rfl := q_777.symm
  refine v_aload_n C dL_law_780 rfl ?_
  refine v_aload_n C dL_law_781 rfl ?_
  refine v_iload_n C dL_law_782 rfl ?_
  refine v_iconst (v := 1) C dL_law_783 (by decide) ?_
  refine v_iadd C dL_law_784 ?_
  refine v_sld C hX hbl hbA (isB_in (b := 5) (by decide) rfl) dL_law_785 ?_
  refine v_aload_n C dL_law_786 rfl ?_
  refine v_iload_n C dL_law_787 rfl ?_
  refine v_iconst (v := 2) C dL_law_788 (by decide) ?_
  refine v_iadd C dL_law_789 ?_
  refine v_sld C hX hbl hbA (isB_in (b := 5) (by decide) rfl) dL_law_790 ?_
  refine v_aload_n C dL_law_791 rfl ?_
  refine v_iload_n C dL_law_792 rfl ?_
  refine v_iconst (v := 3) C dL_law_793 (by decide) ?_
  refine v_iadd C dL_law_794 ?_
  refine v_sld C hX hbl hbA (isB_in (b := 5) (by decide) rfl) dL_law_795 ?_
  refine v_callV (As := [_, _, _]) (n := 3) C (ct_X10_about l m0 ad _ _ _) rfl kM.1 (by decide) rfl ⟨wd656, wd657, wd658, wd5, wd659⟩ ⟨rfl, hy_X10_about⟩ rfl ⟨Nat.le_of_ble_eq_true rfl, Nat.le_of_ble_eq_true rfl⟩ (Nat.le_of_ble_eq_true rfl) ⟨Nat.le_of_ble_eq_true rfl, Nat.le_of_ble_eq_true rfl⟩ dL_law_796 ⟨rfl, kM⟩ (fun r_796 S_796 h_796 => ?_)
  obtain rfl := h_796
  refine v_icmp_eq (tgt := 1211) C dL_law_799 (by decide) (fun c_799 => ?_) (fun c_799 => ?_)
  · skip
    exact hend _ _ _ (Nat.le_of_ble_eq_true rfl) (Nat.le_of_ble_eq_true rfl)
  · skip
    exact absurd rfl c_799
theorem dL_law_804 : decode cL_law 804 = .ok (.aload_n 1, 1) := by decide +kernel
theorem dL_law_805 : decode cL_law 805 = .ok (.aload_n 0, 1) := by decide +kernel
theorem dL_law_806 : decode cL_law 806 = .ok (.iload_n 3, 1) := by decide +kernel
theorem dL_law_807 : decode cL_law 807 = .ok (.iconst 1, 1) := by decide +kernel
theorem dL_law_808 : decode cL_law 808 = .ok (.iadd, 1) := by decide +kernel
theorem dL_law_809 : decode cL_law 809 = .ok (.iaload, 1) := by decide +kernel
theorem dL_law_810 : decode cL_law 810 = .ok (.aload_n 0, 1) := by decide +kernel
theorem dL_law_811 : decode cL_law 811 = .ok (.iload_n 3, 1) := by decide +kernel
theorem dL_law_812 : decode cL_law 812 = .ok (.iconst 2, 1) := by decide +kernel
theorem dL_law_813 : decode cL_law 813 = .ok (.iadd, 1) := by decide +kernel
theorem dL_law_814 : decode cL_law 814 = .ok (.iaload, 1) := by decide +kernel
theorem dL_law_815 : decode cL_law 815 = .ok (.aload_n 0, 1) := by decide +kernel
theorem dL_law_816 : decode cL_law 816 = .ok (.iload_n 3, 1) := by decide +kernel
theorem dL_law_817 : decode cL_law 817 = .ok (.iconst 3, 1) := by decide +kernel
theorem dL_law_818 : decode cL_law 818 = .ok (.iadd, 1) := by decide +kernel
theorem dL_law_819 : decode cL_law 819 = .ok (.iaload, 1) := by decide +kernel
theorem dL_law_820 : decode cL_law 820 = .ok (.invokevirtual 81, 3) := by decide +kernel
theorem dL_law_823 : decode cL_law 823 = .ok (.aload_n 2, 1) := by decide +kernel
theorem dL_law_824 : decode cL_law 824 = .ok (.aload_n 0, 1) := by decide +kernel
theorem dL_law_825 : decode cL_law 825 = .ok (.iload_n 3, 1) := by decide +kernel
theorem dL_law_826 : decode cL_law 826 = .ok (.iconst 1, 1) := by decide +kernel
theorem dL_law_827 : decode cL_law 827 = .ok (.iadd, 1) := by decide +kernel
theorem dL_law_828 : decode cL_law 828 = .ok (.iaload, 1) := by decide +kernel
theorem dL_law_829 : decode cL_law 829 = .ok (.aload_n 0, 1) := by decide +kernel
theorem dL_law_830 : decode cL_law 830 = .ok (.iload_n 3, 1) := by decide +kernel
theorem dL_law_831 : decode cL_law 831 = .ok (.iconst 2, 1) := by decide +kernel
theorem dL_law_832 : decode cL_law 832 = .ok (.iadd, 1) := by decide +kernel
theorem dL_law_833 : decode cL_law 833 = .ok (.iaload, 1) := by decide +kernel
theorem dL_law_834 : decode cL_law 834 = .ok (.aload_n 0, 1) := by decide +kernel
theorem dL_law_835 : decode cL_law 835 = .ok (.iload_n 3, 1) := by decide +kernel
theorem dL_law_836 : decode cL_law 836 = .ok (.iconst 3, 1) := by decide +kernel
theorem dL_law_837 : decode cL_law 837 = .ok (.iadd, 1) := by decide +kernel
theorem dL_law_838 : decode cL_law 838 = .ok (.iaload, 1) := by decide +kernel
theorem dL_law_839 : decode cL_law 839 = .ok (.invokevirtual 84, 3) := by decide +kernel
theorem dL_law_842 : decode cL_law 842 = .ok (.if_icmp .eq 369, 3) := by decide +kernel
set_option maxRecDepth 100000 in
set_option maxHeartbeats 4000000 in
theorem law_c16 {p : Program} {l : Launch} {e : Env} {s : State} {m : MethodId} {below : List Frame} {meth : Method} {c : Code} {D : va_G} {G : Nat → ClassId} {bs : Nat} {Q : State → Prop} {b : Nat} {xs : Nat → Int32} {S : Mem} {x co ts fs mg ch rw ft gl gr gq ml mr mq sg tp cs m0 : Nat} {ad : Nat → Nat} (C : Cx p s m #[Value.ref b] meth c D G bs code 4 RL) (hX : va_X b 5 xs s s.heap) (hbl : b < s.heap.size) (hbA : ¬ bs ≤ b) (kA : pcAt S x co ts fs mg ch rw ft gl gr gq ml mr mq sg tp cs) (kN : pcNew S x co ts fs sg tp) (kM : mdNew S m0 ad) (hmN : ¬ m0 ∈ [co, ts, fs, mg, rw, ft, gl, gq, ml, mq]) (hadN : ∀ q ∈ mTab, ¬ ad q.1 ∈ [co, ts, fs, mg, rw, ft, gl, gq, ml, mq]) (hend : ∀ (T : Mem) (ce sl : Nat), ce ≤ 600000 → sl ≤ 7302250 → V p l e room_1 s m #[Value.ref b] below meth c D G bs 4 Q ce sl T 1211 [some (.ref b), some (.ref x), some (.ref m0), some (.int 0)] []) : V p l e room_1 s m #[Value.ref b] below meth c D G bs 4 Q 1000 100000 S 804 [some (.ref b), some (.ref x), some (.ref m0), some (.int 0)] [] := by
  refine v_aload_n C dL_law_804 rfl ?_
  refine v_aload_n C dL_law_805 rfl ?_
  refine v_iload_n C dL_law_806 rfl ?_
  refine v_iconst (v := 1) C dL_law_807 (by decide) ?_
  refine v_iadd C dL_law_808 ?_
  refine v_sld C hX hbl hbA (isB_in (b := 5) (by decide) rfl) dL_law_809 ?_
  refine v_aload_n C dL_law_810 rfl ?_
  refine v_iload_n C dL_law_811 rfl ?_
  refine v_iconst (v := 2) C dL_law_812 (by decide) ?_
  refine v_iadd C dL_law_813 ?_
  refine v_sld C hX hbl hbA (isB_in (b := 5) (by decide) rfl) dL_law_814 ?_
  refine v_aload_n C dL_law_815 rfl ?_
  refine v_iload_n C dL_law_816 rfl ?_
  refine v_iconst (v := 3) C dL_law_817 (by decide) ?_
  refine v_iadd C dL_law_818 ?_
  refine v_sld C hX hbl hbA (isB_in (b := 5) (by decide) rfl) dL_law_819 ?_
  refine v_callV (As := [_, _, _]) (n := 3) C (ct_X9_above l x co ts fs mg ch rw ft gl gr gq ml mr mq sg tp cs _ _ _) rfl kA.1 (by decide) rfl ⟨wd672, wd673, wd674, wd2, wd675⟩ ⟨rfl, hy_X9_above⟩ rfl ⟨Nat.le_of_ble_eq_true rfl, Nat.le_of_ble_eq_true rfl⟩ (Nat.le_of_ble_eq_true rfl) ⟨Nat.le_of_ble_eq_true rfl, Nat.le_of_ble_eq_true rfl⟩ dL_law_820 ⟨rfl, kA, kN⟩ (fun r_820 S_820 h_820 => ?_)
  obtain ⟨rfl, q_820⟩ := h_820
  obtain rfl := q_820.symm
  refine v_aload_n C dL_law_823 rfl ?_
  refine v_aload_n C dL_law_824 rfl ?_
  refine v_iload_n C dL_law_825 rfl ?_
  refine v_iconst (v := 1) C dL_law_826 (by decide) ?_
  refine v_iadd C dL_law_827 ?_
  refine v_sld C hX hbl hbA (isB_in (b := 5) (by decide) rfl) dL_law_828 ?_
  refine v_aload_n C dL_law_829 rfl ?_
  refine v_iload_n C dL_law_830 rfl ?_
  refine v_iconst (v := 2) C dL_law_831 (by decide) ?_
  refine v_iadd C dL_law_832 ?_
  refine v_sld C hX hbl hbA (isB_in (b := 5) (by decide) rfl) dL_law_833 ?_
  refine v_aload_n C dL_law_834 rfl ?_
  refine v_iload_n C dL_law_835 rfl ?_
  refine v_iconst (v := 3) C dL_law_836 (by decide) ?_
  refine v_iadd C dL_law_837 ?_
  refine v_sld C hX hbl hbA (isB_in (b := 5) (by decide) rfl) dL_law_838 ?_
  refine v_callV (As := [_, _, _]) (n := 3) C (ct_X10_above l m0 ad _ _ _) rfl kM.1 (by decide) rfl ⟨wd687, wd688, wd689, wd5, wd690⟩ ⟨rfl, hy_X10_above⟩ rfl ⟨Nat.le_of_ble_eq_true rfl, Nat.le_of_ble_eq_true rfl⟩ (Nat.le_of_ble_eq_true rfl) ⟨Nat.le_of_ble_eq_true rfl, Nat.le_of_ble_eq_true rfl⟩ dL_law_839 ⟨rfl, kM⟩ (fun r_839 S_839 h_839 => ?_)
  obtain rfl := h_839
  refine v_icmp_eq (tgt := 1211) C dL_law_842 (by decide) (fun c_842 => ?_) (fun c_842 => ?_)
  · skip
    exact hend _ _ _ (Nat.le_of_ble_eq_true rfl) (Nat.le_of_ble_eq_true rfl)
  · skip
    exact absurd rfl c_842
theorem dL_law_847 : decode cL_law 847 = .ok (.aload_n 1, 1) := by decide +kernel
theorem dL_law_848 : decode cL_law 848 = .ok (.aload_n 0, 1) := by decide +kernel
theorem dL_law_849 : decode cL_law 849 = .ok (.iload_n 3, 1) := by decide +kernel
theorem dL_law_850 : decode cL_law 850 = .ok (.iconst 1, 1) := by decide +kernel
theorem dL_law_851 : decode cL_law 851 = .ok (.iadd, 1) := by decide +kernel
theorem dL_law_852 : decode cL_law 852 = .ok (.iaload, 1) := by decide +kernel
theorem dL_law_853 : decode cL_law 853 = .ok (.aload_n 0, 1) := by decide +kernel
theorem dL_law_854 : decode cL_law 854 = .ok (.iload_n 3, 1) := by decide +kernel
theorem dL_law_855 : decode cL_law 855 = .ok (.iconst 2, 1) := by decide +kernel
theorem dL_law_856 : decode cL_law 856 = .ok (.iadd, 1) := by decide +kernel
theorem dL_law_857 : decode cL_law 857 = .ok (.iaload, 1) := by decide +kernel
theorem dL_law_858 : decode cL_law 858 = .ok (.aload_n 0, 1) := by decide +kernel
theorem dL_law_859 : decode cL_law 859 = .ok (.iload_n 3, 1) := by decide +kernel
theorem dL_law_860 : decode cL_law 860 = .ok (.iconst 3, 1) := by decide +kernel
theorem dL_law_861 : decode cL_law 861 = .ok (.iadd, 1) := by decide +kernel
theorem dL_law_862 : decode cL_law 862 = .ok (.iaload, 1) := by decide +kernel
theorem dL_law_863 : decode cL_law 863 = .ok (.invokevirtual 85, 3) := by decide +kernel
theorem dL_law_866 : decode cL_law 866 = .ok (.aload_n 2, 1) := by decide +kernel
theorem dL_law_867 : decode cL_law 867 = .ok (.aload_n 0, 1) := by decide +kernel
theorem dL_law_868 : decode cL_law 868 = .ok (.iload_n 3, 1) := by decide +kernel
theorem dL_law_869 : decode cL_law 869 = .ok (.iconst 1, 1) := by decide +kernel
theorem dL_law_870 : decode cL_law 870 = .ok (.iadd, 1) := by decide +kernel
theorem dL_law_871 : decode cL_law 871 = .ok (.iaload, 1) := by decide +kernel
theorem dL_law_872 : decode cL_law 872 = .ok (.aload_n 0, 1) := by decide +kernel
theorem dL_law_873 : decode cL_law 873 = .ok (.iload_n 3, 1) := by decide +kernel
theorem dL_law_874 : decode cL_law 874 = .ok (.iconst 2, 1) := by decide +kernel
theorem dL_law_875 : decode cL_law 875 = .ok (.iadd, 1) := by decide +kernel
theorem dL_law_876 : decode cL_law 876 = .ok (.iaload, 1) := by decide +kernel
theorem dL_law_877 : decode cL_law 877 = .ok (.aload_n 0, 1) := by decide +kernel
theorem dL_law_878 : decode cL_law 878 = .ok (.iload_n 3, 1) := by decide +kernel
theorem dL_law_879 : decode cL_law 879 = .ok (.iconst 3, 1) := by decide +kernel
theorem dL_law_880 : decode cL_law 880 = .ok (.iadd, 1) := by decide +kernel
theorem dL_law_881 : decode cL_law 881 = .ok (.iaload, 1) := by decide +kernel
theorem dL_law_882 : decode cL_law 882 = .ok (.invokevirtual 88, 3) := by decide +kernel
theorem dL_law_885 : decode cL_law 885 = .ok (.if_icmp .eq 326, 3) := by decide +kernel
set_option maxRecDepth 100000 in
set_option maxHeartbeats 4000000 in
theorem law_c17 {p : Program} {l : Launch} {e : Env} {s : State} {m : MethodId} {below : List Frame} {meth : Method} {c : Code} {D : va_G} {G : Nat → ClassId} {bs : Nat} {Q : State → Prop} {b : Nat} {xs : Nat → Int32} {S : Mem} {x co ts fs mg ch rw ft gl gr gq ml mr mq sg tp cs m0 : Nat} {ad : Nat → Nat} (C : Cx p s m #[Value.ref b] meth c D G bs code 4 RL) (hX : va_X b 5 xs s s.heap) (hbl : b < s.heap.size) (hbA : ¬ bs ≤ b) (kA : pcAt S x co ts fs mg ch rw ft gl gr gq ml mr mq sg tp cs) (kN : pcNew S x co ts fs sg tp) (kM : mdNew S m0 ad) (hmN : ¬ m0 ∈ [co, ts, fs, mg, rw, ft, gl, gq, ml, mq]) (hadN : ∀ q ∈ mTab, ¬ ad q.1 ∈ [co, ts, fs, mg, rw, ft, gl, gq, ml, mq]) (hend : ∀ (T : Mem) (ce sl : Nat), ce ≤ 600000 → sl ≤ 7302250 → V p l e room_1 s m #[Value.ref b] below meth c D G bs 4 Q ce sl T 1211 [some (.ref b), some (.ref x), some (.ref m0), some (.int 0)] []) : V p l e room_1 s m #[Value.ref b] below meth c D G bs 4 Q 1000 100000 S 847 [some (.ref b), some (.ref x), some (.ref m0), some (.int 0)] [] := by
  refine v_aload_n C dL_law_847 rfl ?_
  refine v_aload_n C dL_law_848 rfl ?_
  refine v_iload_n C dL_law_849 rfl ?_
  refine v_iconst (v := 1) C dL_law_850 (by decide) ?_
  refine v_iadd C dL_law_851 ?_
  refine v_sld C hX hbl hbA (isB_in (b := 5) (by decide) rfl) dL_law_852 ?_
  refine v_aload_n C dL_law_853 rfl ?_
  refine v_iload_n C dL_law_854 rfl ?_
  refine v_iconst (v := 2) C dL_law_855 (by decide) ?_
  refine v_iadd C dL_law_856 ?_
  refine v_sld C hX hbl hbA (isB_in (b := 5) (by decide) rfl) dL_law_857 ?_
  refine v_aload_n C dL_law_858 rfl ?_
  refine v_iload_n C dL_law_859 rfl ?_
  refine v_iconst (v := 3) C dL_law_860 (by decide) ?_
  refine v_iadd C dL_law_861 ?_
  refine v_sld C hX hbl hbA (isB_in (b := 5) (by decide) rfl) dL_law_862 ?_
  refine v_callV (As := [_, _, _]) (n := 3) C (ct_X9_guards l x co ts fs mg ch rw ft gl gr gq ml mr mq sg tp cs _ _ _) rfl kA.1 (by decide) rfl ⟨wd691, wd692, wd693, wd2, wd694⟩ ⟨rfl, hy_X9_guards⟩ rfl ⟨Nat.le_of_ble_eq_true rfl, Nat.le_of_ble_eq_true rfl⟩ (Nat.le_of_ble_eq_true rfl) ⟨Nat.le_of_ble_eq_true rfl, Nat.le_of_ble_eq_true rfl⟩ dL_law_863 ⟨rfl, kA, kN⟩ (fun r_863 S_863 h_863 => ?_)
  obtain ⟨rfl, q_863⟩ := h_863
  obtain rfl := q_863.symm
  refine v_aload_n C dL_law_866 rfl ?_
  refine v_aload_n C dL_law_867 rfl ?_
  refine v_iload_n C dL_law_868 rfl ?_
  refine v_iconst (v := 1) C dL_law_869 (by decide) ?_
  refine v_iadd C dL_law_870 ?_
  refine v_sld C hX hbl hbA (isB_in (b := 5) (by decide) rfl) dL_law_871 ?_
  refine v_aload_n C dL_law_872 rfl ?_
  refine v_iload_n C dL_law_873 rfl ?_
  refine v_iconst (v := 2) C dL_law_874 (by decide) ?_
  refine v_iadd C dL_law_875 ?_
  refine v_sld C hX hbl hbA (isB_in (b := 5) (by decide) rfl) dL_law_876 ?_
  refine v_aload_n C dL_law_877 rfl ?_
  refine v_iload_n C dL_law_878 rfl ?_
  refine v_iconst (v := 3) C dL_law_879 (by decide) ?_
  refine v_iadd C dL_law_880 ?_
  refine v_sld C hX hbl hbA (isB_in (b := 5) (by decide) rfl) dL_law_881 ?_
  refine v_callV (As := [_, _, _]) (n := 3) C (ct_X10_guards l m0 ad _ _ _) rfl kM.1 (by decide) rfl ⟨wd699, wd700, wd701, wd5, wd702⟩ ⟨rfl, hy_X10_guards⟩ rfl ⟨Nat.le_of_ble_eq_true rfl, Nat.le_of_ble_eq_true rfl⟩ (Nat.le_of_ble_eq_true rfl) ⟨Nat.le_of_ble_eq_true rfl, Nat.le_of_ble_eq_true rfl⟩ dL_law_882 ⟨rfl, kM⟩ (fun r_882 S_882 h_882 => ?_)
  obtain rfl := h_882
  refine v_icmp_eq (tgt := 1211) C dL_law_885 (by decide) (fun c_885 => ?_) (fun c_885 => ?_)
  · skip
    exact hend _ _ _ (Nat.le_of_ble_eq_true rfl) (Nat.le_of_ble_eq_true rfl)
  · skip
    exact absurd rfl c_885
theorem dL_law_890 : decode cL_law 890 = .ok (.aload_n 1, 1) := by decide +kernel
theorem dL_law_891 : decode cL_law 891 = .ok (.aload_n 0, 1) := by decide +kernel
theorem dL_law_892 : decode cL_law 892 = .ok (.iload_n 3, 1) := by decide +kernel
theorem dL_law_893 : decode cL_law 893 = .ok (.iconst 1, 1) := by decide +kernel
theorem dL_law_894 : decode cL_law 894 = .ok (.iadd, 1) := by decide +kernel
theorem dL_law_895 : decode cL_law 895 = .ok (.iaload, 1) := by decide +kernel
theorem dL_law_896 : decode cL_law 896 = .ok (.aload_n 0, 1) := by decide +kernel
theorem dL_law_897 : decode cL_law 897 = .ok (.iload_n 3, 1) := by decide +kernel
theorem dL_law_898 : decode cL_law 898 = .ok (.iconst 2, 1) := by decide +kernel
theorem dL_law_899 : decode cL_law 899 = .ok (.iadd, 1) := by decide +kernel
theorem dL_law_900 : decode cL_law 900 = .ok (.iaload, 1) := by decide +kernel
theorem dL_law_901 : decode cL_law 901 = .ok (.invokevirtual 89, 3) := by decide +kernel
theorem dL_law_904 : decode cL_law 904 = .ok (.aload_n 2, 1) := by decide +kernel
theorem dL_law_905 : decode cL_law 905 = .ok (.aload_n 0, 1) := by decide +kernel
theorem dL_law_906 : decode cL_law 906 = .ok (.iload_n 3, 1) := by decide +kernel
theorem dL_law_907 : decode cL_law 907 = .ok (.iconst 1, 1) := by decide +kernel
theorem dL_law_908 : decode cL_law 908 = .ok (.iadd, 1) := by decide +kernel
theorem dL_law_909 : decode cL_law 909 = .ok (.iaload, 1) := by decide +kernel
theorem dL_law_910 : decode cL_law 910 = .ok (.aload_n 0, 1) := by decide +kernel
theorem dL_law_911 : decode cL_law 911 = .ok (.iload_n 3, 1) := by decide +kernel
theorem dL_law_912 : decode cL_law 912 = .ok (.iconst 2, 1) := by decide +kernel
theorem dL_law_913 : decode cL_law 913 = .ok (.iadd, 1) := by decide +kernel
theorem dL_law_914 : decode cL_law 914 = .ok (.iaload, 1) := by decide +kernel
theorem dL_law_915 : decode cL_law 915 = .ok (.invokevirtual 92, 3) := by decide +kernel
theorem dL_law_918 : decode cL_law 918 = .ok (.if_icmp .eq 293, 3) := by decide +kernel
set_option maxRecDepth 100000 in
set_option maxHeartbeats 4000000 in
theorem law_c18 {p : Program} {l : Launch} {e : Env} {s : State} {m : MethodId} {below : List Frame} {meth : Method} {c : Code} {D : va_G} {G : Nat → ClassId} {bs : Nat} {Q : State → Prop} {b : Nat} {xs : Nat → Int32} {S : Mem} {x co ts fs mg ch rw ft gl gr gq ml mr mq sg tp cs m0 : Nat} {ad : Nat → Nat} (C : Cx p s m #[Value.ref b] meth c D G bs code 4 RL) (hX : va_X b 5 xs s s.heap) (hbl : b < s.heap.size) (hbA : ¬ bs ≤ b) (kA : pcAt S x co ts fs mg ch rw ft gl gr gq ml mr mq sg tp cs) (kN : pcNew S x co ts fs sg tp) (kM : mdNew S m0 ad) (hmN : ¬ m0 ∈ [co, ts, fs, mg, rw, ft, gl, gq, ml, mq]) (hadN : ∀ q ∈ mTab, ¬ ad q.1 ∈ [co, ts, fs, mg, rw, ft, gl, gq, ml, mq]) (hend : ∀ (T : Mem) (ce sl : Nat), ce ≤ 600000 → sl ≤ 7302250 → V p l e room_1 s m #[Value.ref b] below meth c D G bs 4 Q ce sl T 1211 [some (.ref b), some (.ref x), some (.ref m0), some (.int 0)] []) : V p l e room_1 s m #[Value.ref b] below meth c D G bs 4 Q 1000 100000 S 890 [some (.ref b), some (.ref x), some (.ref m0), some (.int 0)] [] := by
  refine v_aload_n C dL_law_890 rfl ?_
  refine v_aload_n C dL_law_891 rfl ?_
  refine v_iload_n C dL_law_892 rfl ?_
  refine v_iconst (v := 1) C dL_law_893 (by decide) ?_
  refine v_iadd C dL_law_894 ?_
  refine v_sld C hX hbl hbA (isB_in (b := 5) (by decide) rfl) dL_law_895 ?_
  refine v_aload_n C dL_law_896 rfl ?_
  refine v_iload_n C dL_law_897 rfl ?_
  refine v_iconst (v := 2) C dL_law_898 (by decide) ?_
  refine v_iadd C dL_law_899 ?_
  refine v_sld C hX hbl hbA (isB_in (b := 5) (by decide) rfl) dL_law_900 ?_
  refine v_callV (As := [_, _]) (n := 2) C (ct_X9_isA l x co ts fs mg ch rw ft gl gr gq ml mr mq sg tp cs _ _) rfl kA.1 (by decide) rfl ⟨wd703, wd704, wd705, wd2, wd706⟩ ⟨rfl, hy_X9_isA⟩ rfl ⟨Nat.le_of_ble_eq_true rfl, Nat.le_of_ble_eq_true rfl⟩ (Nat.le_of_ble_eq_true rfl) ⟨Nat.le_of_ble_eq_true rfl, Nat.le_of_ble_eq_true rfl⟩ dL_law_901 ⟨rfl, kA, kN⟩ (fun r_901 S_901 h_901 => ?_)
  obtain ⟨rfl, q_901⟩ := h_901
  obtain rfl := q_901.symm
  refine v_aload_n C dL_law_904 rfl ?_
  refine v_aload_n C dL_law_905 rfl ?_
  refine v_iload_n C dL_law_906 rfl ?_
  refine v_iconst (v := 1) C dL_law_907 (by decide) ?_
  refine v_iadd C dL_law_908 ?_
  refine v_sld C hX hbl hbA (isB_in (b := 5) (by decide) rfl) dL_law_909 ?_
  refine v_aload_n C dL_law_910 rfl ?_
  refine v_iload_n C dL_law_911 rfl ?_
  refine v_iconst (v := 2) C dL_law_912 (by decide) ?_
  refine v_iadd C dL_law_913 ?_
  refine v_sld C hX hbl hbA (isB_in (b := 5) (by decide) rfl) dL_law_914 ?_
  refine v_callV (As := [_, _]) (n := 2) C (ct_X10_isA l m0 ad _ _) rfl kM.1 (by decide) rfl ⟨wd708, wd709, wd710, wd5, wd711⟩ ⟨rfl, hy_X10_isA⟩ rfl ⟨Nat.le_of_ble_eq_true rfl, Nat.le_of_ble_eq_true rfl⟩ (Nat.le_of_ble_eq_true rfl) ⟨Nat.le_of_ble_eq_true rfl, Nat.le_of_ble_eq_true rfl⟩ dL_law_915 ⟨rfl, kM⟩ (fun r_915 S_915 h_915 => ?_)
  obtain rfl := h_915
  refine v_icmp_eq (tgt := 1211) C dL_law_918 (by decide) (fun c_918 => ?_) (fun c_918 => ?_)
  · skip
    exact hend _ _ _ (Nat.le_of_ble_eq_true rfl) (Nat.le_of_ble_eq_true rfl)
  · skip
    exact absurd rfl c_918
theorem dL_law_923 : decode cL_law 923 = .ok (.aload_n 1, 1) := by decide +kernel
theorem dL_law_924 : decode cL_law 924 = .ok (.aload_n 0, 1) := by decide +kernel
theorem dL_law_925 : decode cL_law 925 = .ok (.iload_n 3, 1) := by decide +kernel
theorem dL_law_926 : decode cL_law 926 = .ok (.iconst 1, 1) := by decide +kernel
theorem dL_law_927 : decode cL_law 927 = .ok (.iadd, 1) := by decide +kernel
theorem dL_law_928 : decode cL_law 928 = .ok (.iaload, 1) := by decide +kernel
theorem dL_law_929 : decode cL_law 929 = .ok (.aload_n 0, 1) := by decide +kernel
theorem dL_law_930 : decode cL_law 930 = .ok (.iload_n 3, 1) := by decide +kernel
theorem dL_law_931 : decode cL_law 931 = .ok (.iconst 2, 1) := by decide +kernel
theorem dL_law_932 : decode cL_law 932 = .ok (.iadd, 1) := by decide +kernel
theorem dL_law_933 : decode cL_law 933 = .ok (.iaload, 1) := by decide +kernel
theorem dL_law_934 : decode cL_law 934 = .ok (.aload_n 0, 1) := by decide +kernel
theorem dL_law_935 : decode cL_law 935 = .ok (.iload_n 3, 1) := by decide +kernel
theorem dL_law_936 : decode cL_law 936 = .ok (.iconst 3, 1) := by decide +kernel
theorem dL_law_937 : decode cL_law 937 = .ok (.iadd, 1) := by decide +kernel
theorem dL_law_938 : decode cL_law 938 = .ok (.iaload, 1) := by decide +kernel
theorem dL_law_939 : decode cL_law 939 = .ok (.i2l, 1) := by decide +kernel
theorem dL_law_940 : decode cL_law 940 = .ok (.bipush 32, 2) := by decide +kernel
theorem dL_law_942 : decode cL_law 942 = .ok (.lshl, 1) := by decide +kernel
theorem dL_law_943 : decode cL_law 943 = .ok (.aload_n 0, 1) := by decide +kernel
theorem dL_law_944 : decode cL_law 944 = .ok (.iload_n 3, 1) := by decide +kernel
theorem dL_law_945 : decode cL_law 945 = .ok (.iconst 4, 1) := by decide +kernel
theorem dL_law_946 : decode cL_law 946 = .ok (.iadd, 1) := by decide +kernel
theorem dL_law_947 : decode cL_law 947 = .ok (.iaload, 1) := by decide +kernel
theorem dL_law_948 : decode cL_law 948 = .ok (.i2l, 1) := by decide +kernel
theorem dL_law_949 : decode cL_law 949 = .ok (.ldc2_w 93, 3) := by decide +kernel
theorem dL_law_952 : decode cL_law 952 = .ok (.land, 1) := by decide +kernel
theorem dL_law_953 : decode cL_law 953 = .ok (.lor, 1) := by decide +kernel
theorem dL_law_954 : decode cL_law 954 = .ok (.invokevirtual 95, 3) := by decide +kernel
theorem dL_law_957 : decode cL_law 957 = .ok (.aload_n 2, 1) := by decide +kernel
theorem dL_law_958 : decode cL_law 958 = .ok (.aload_n 0, 1) := by decide +kernel
theorem dL_law_959 : decode cL_law 959 = .ok (.iload_n 3, 1) := by decide +kernel
theorem dL_law_960 : decode cL_law 960 = .ok (.iconst 1, 1) := by decide +kernel
theorem dL_law_961 : decode cL_law 961 = .ok (.iadd, 1) := by decide +kernel
theorem dL_law_962 : decode cL_law 962 = .ok (.iaload, 1) := by decide +kernel
theorem dL_law_963 : decode cL_law 963 = .ok (.aload_n 0, 1) := by decide +kernel
theorem dL_law_964 : decode cL_law 964 = .ok (.iload_n 3, 1) := by decide +kernel
theorem dL_law_965 : decode cL_law 965 = .ok (.iconst 2, 1) := by decide +kernel
theorem dL_law_966 : decode cL_law 966 = .ok (.iadd, 1) := by decide +kernel
theorem dL_law_967 : decode cL_law 967 = .ok (.iaload, 1) := by decide +kernel
theorem dL_law_968 : decode cL_law 968 = .ok (.aload_n 0, 1) := by decide +kernel
theorem dL_law_969 : decode cL_law 969 = .ok (.iload_n 3, 1) := by decide +kernel
theorem dL_law_970 : decode cL_law 970 = .ok (.iconst 3, 1) := by decide +kernel
theorem dL_law_971 : decode cL_law 971 = .ok (.iadd, 1) := by decide +kernel
theorem dL_law_972 : decode cL_law 972 = .ok (.iaload, 1) := by decide +kernel
theorem dL_law_973 : decode cL_law 973 = .ok (.i2l, 1) := by decide +kernel
theorem dL_law_974 : decode cL_law 974 = .ok (.bipush 32, 2) := by decide +kernel
theorem dL_law_976 : decode cL_law 976 = .ok (.lshl, 1) := by decide +kernel
theorem dL_law_977 : decode cL_law 977 = .ok (.aload_n 0, 1) := by decide +kernel
theorem dL_law_978 : decode cL_law 978 = .ok (.iload_n 3, 1) := by decide +kernel
theorem dL_law_979 : decode cL_law 979 = .ok (.iconst 4, 1) := by decide +kernel
theorem dL_law_980 : decode cL_law 980 = .ok (.iadd, 1) := by decide +kernel
theorem dL_law_981 : decode cL_law 981 = .ok (.iaload, 1) := by decide +kernel
theorem dL_law_982 : decode cL_law 982 = .ok (.i2l, 1) := by decide +kernel
theorem dL_law_983 : decode cL_law 983 = .ok (.ldc2_w 93, 3) := by decide +kernel
theorem dL_law_986 : decode cL_law 986 = .ok (.land, 1) := by decide +kernel
theorem dL_law_987 : decode cL_law 987 = .ok (.lor, 1) := by decide +kernel
theorem dL_law_988 : decode cL_law 988 = .ok (.invokevirtual 99, 3) := by decide +kernel
theorem dL_law_991 : decode cL_law 991 = .ok (.if_icmp .eq 220, 3) := by decide +kernel
set_option maxRecDepth 100000 in
set_option maxHeartbeats 4000000 in
theorem law_c19 {p : Program} {l : Launch} {e : Env} {s : State} {m : MethodId} {below : List Frame} {meth : Method} {c : Code} {D : va_G} {G : Nat → ClassId} {bs : Nat} {Q : State → Prop} {b : Nat} {xs : Nat → Int32} {S : Mem} {x co ts fs mg ch rw ft gl gr gq ml mr mq sg tp cs m0 : Nat} {ad : Nat → Nat} (C : Cx p s m #[Value.ref b] meth c D G bs code 4 RL) (hX : va_X b 5 xs s s.heap) (hbl : b < s.heap.size) (hbA : ¬ bs ≤ b) (kA : pcAt S x co ts fs mg ch rw ft gl gr gq ml mr mq sg tp cs) (kN : pcNew S x co ts fs sg tp) (kM : mdNew S m0 ad) (hmN : ¬ m0 ∈ [co, ts, fs, mg, rw, ft, gl, gq, ml, mq]) (hadN : ∀ q ∈ mTab, ¬ ad q.1 ∈ [co, ts, fs, mg, rw, ft, gl, gq, ml, mq]) (hend : ∀ (T : Mem) (ce sl : Nat), ce ≤ 600000 → sl ≤ 7302250 → V p l e room_1 s m #[Value.ref b] below meth c D G bs 4 Q ce sl T 1211 [some (.ref b), some (.ref x), some (.ref m0), some (.int 0)] []) : V p l e room_1 s m #[Value.ref b] below meth c D G bs 4 Q 1000 100000 S 923 [some (.ref b), some (.ref x), some (.ref m0), some (.int 0)] [] := by
  refine v_aload_n C dL_law_923 rfl ?_
  refine v_aload_n C dL_law_924 rfl ?_
  refine v_iload_n C dL_law_925 rfl ?_
  refine v_iconst (v := 1) C dL_law_926 (by decide) ?_
  refine v_iadd C dL_law_927 ?_
  refine v_sld C hX hbl hbA (isB_in (b := 5) (by decide) rfl) dL_law_928 ?_
  refine v_aload_n C dL_law_929 rfl ?_
  refine v_iload_n C dL_law_930 rfl ?_
  refine v_iconst (v := 2) C dL_law_931 (by decide) ?_
  refine v_iadd C dL_law_932 ?_
  refine v_sld C hX hbl hbA (isB_in (b := 5) (by decide) rfl) dL_law_933 ?_
  refine v_aload_n C dL_law_934 rfl ?_
  refine v_iload_n C dL_law_935 rfl ?_
  refine v_iconst (v := 3) C dL_law_936 (by decide) ?_
  refine v_iadd C dL_law_937 ?_
  refine v_sld C hX hbl hbA (isB_in (b := 5) (by decide) rfl) dL_law_938 ?_
  refine v_i2l C dL_law_939 ?_
  refine v_bipush (v := 32) C dL_law_940 (by decide) ?_
  refine v_lshl C dL_law_942 ?_
  refine v_aload_n C dL_law_943 rfl ?_
  refine v_iload_n C dL_law_944 rfl ?_
  refine v_iconst (v := 4) C dL_law_945 (by decide) ?_
  refine v_iadd C dL_law_946 ?_
  refine v_sld C hX hbl hbA (isB_in (b := 5) (by decide) rfl) dL_law_947 ?_
  refine v_i2l C dL_law_948 ?_
  refine v_ldc2 (v := (4294967295)) C wd6 dL_law_949 ?_
  refine v_land C dL_law_952 ?_
  refine v_lor C dL_law_953 ?_
  refine v_callV (As := [_, _, _]) (n := 3) C (ct_X9_play l x co ts fs mg ch rw ft gl gr gq ml mr mq sg tp cs _ _ _) rfl kA.1 (by decide) rfl ⟨wd712, wd713, wd714, wd2, wd715⟩ ⟨rfl, hy_X9_play⟩ rfl ⟨Nat.le_of_ble_eq_true rfl, Nat.le_of_ble_eq_true rfl⟩ (Nat.le_of_ble_eq_true rfl) ⟨Nat.le_of_ble_eq_true rfl, Nat.le_of_ble_eq_true rfl⟩ dL_law_954 ⟨rfl, kA, kN⟩ (fun r_954 S_954 h_954 => ?_)
  obtain ⟨rfl, q_954⟩ := h_954
  obtain rfl := q_954.symm
  refine v_aload_n C dL_law_957 rfl ?_
  refine v_aload_n C dL_law_958 rfl ?_
  refine v_iload_n C dL_law_959 rfl ?_
  refine v_iconst (v := 1) C dL_law_960 (by decide) ?_
  refine v_iadd C dL_law_961 ?_
  refine v_sld C hX hbl hbA (isB_in (b := 5) (by decide) rfl) dL_law_962 ?_
  refine v_aload_n C dL_law_963 rfl ?_
  refine v_iload_n C dL_law_964 rfl ?_
  refine v_iconst (v := 2) C dL_law_965 (by decide) ?_
  refine v_iadd C dL_law_966 ?_
  refine v_sld C hX hbl hbA (isB_in (b := 5) (by decide) rfl) dL_law_967 ?_
  refine v_aload_n C dL_law_968 rfl ?_
  refine v_iload_n C dL_law_969 rfl ?_
  refine v_iconst (v := 3) C dL_law_970 (by decide) ?_
  refine v_iadd C dL_law_971 ?_
  refine v_sld C hX hbl hbA (isB_in (b := 5) (by decide) rfl) dL_law_972 ?_
  refine v_i2l C dL_law_973 ?_
  refine v_bipush (v := 32) C dL_law_974 (by decide) ?_
  refine v_lshl C dL_law_976 ?_
  refine v_aload_n C dL_law_977 rfl ?_
  refine v_iload_n C dL_law_978 rfl ?_
  refine v_iconst (v := 4) C dL_law_979 (by decide) ?_
  refine v_iadd C dL_law_980 ?_
  refine v_sld C hX hbl hbA (isB_in (b := 5) (by decide) rfl) dL_law_981 ?_
  refine v_i2l C dL_law_982 ?_
  refine v_ldc2 (v := (4294967295)) C wd6 dL_law_983 ?_
  refine v_land C dL_law_986 ?_
  refine v_lor C dL_law_987 ?_
  refine v_callV (As := [_, _, _]) (n := 3) C (ct_X10_play l m0 ad _ _ _) rfl kM.1 (by decide) rfl ⟨wd822, wd823, wd824, wd5, wd825⟩ ⟨rfl, hy_X10_play⟩ rfl ⟨Nat.le_of_ble_eq_true rfl, Nat.le_of_ble_eq_true rfl⟩ (Nat.le_of_ble_eq_true rfl) ⟨Nat.le_of_ble_eq_true rfl, Nat.le_of_ble_eq_true rfl⟩ dL_law_988 ⟨rfl, kM⟩ (fun r_988 S_988 h_988 => ?_)
  obtain rfl := h_988
  refine v_icmp_eq (tgt := 1211) C dL_law_991 (by decide) (fun c_991 => ?_) (fun c_991 => ?_)
  · skip
    exact hend _ _ _ (Nat.le_of_ble_eq_true rfl) (Nat.le_of_ble_eq_true rfl)
  · skip
    exact absurd rfl c_991
theorem dL_law_996 : decode cL_law 996 = .ok (.aload_n 1, 1) := by decide +kernel
theorem dL_law_997 : decode cL_law 997 = .ok (.aload_n 0, 1) := by decide +kernel
theorem dL_law_998 : decode cL_law 998 = .ok (.iload_n 3, 1) := by decide +kernel
theorem dL_law_999 : decode cL_law 999 = .ok (.iconst 1, 1) := by decide +kernel
theorem dL_law_1000 : decode cL_law 1000 = .ok (.iadd, 1) := by decide +kernel
theorem dL_law_1001 : decode cL_law 1001 = .ok (.iaload, 1) := by decide +kernel
theorem dL_law_1002 : decode cL_law 1002 = .ok (.invokevirtual 100, 3) := by decide +kernel
theorem dL_law_1005 : decode cL_law 1005 = .ok (.aload_n 2, 1) := by decide +kernel
theorem dL_law_1006 : decode cL_law 1006 = .ok (.aload_n 0, 1) := by decide +kernel
theorem dL_law_1007 : decode cL_law 1007 = .ok (.iload_n 3, 1) := by decide +kernel
theorem dL_law_1008 : decode cL_law 1008 = .ok (.iconst 1, 1) := by decide +kernel
theorem dL_law_1009 : decode cL_law 1009 = .ok (.iadd, 1) := by decide +kernel
theorem dL_law_1010 : decode cL_law 1010 = .ok (.iaload, 1) := by decide +kernel
theorem dL_law_1011 : decode cL_law 1011 = .ok (.invokevirtual 104, 3) := by decide +kernel
theorem dL_law_1014 : decode cL_law 1014 = .ok (.lcmp, 1) := by decide +kernel
theorem dL_law_1015 : decode cL_law 1015 = .ok (.ifCond .eq 196, 3) := by decide +kernel
set_option maxRecDepth 100000 in
set_option maxHeartbeats 4000000 in
theorem law_c20 {p : Program} {l : Launch} {e : Env} {s : State} {m : MethodId} {below : List Frame} {meth : Method} {c : Code} {D : va_G} {G : Nat → ClassId} {bs : Nat} {Q : State → Prop} {b : Nat} {xs : Nat → Int32} {S : Mem} {x co ts fs mg ch rw ft gl gr gq ml mr mq sg tp cs m0 : Nat} {ad : Nat → Nat} (C : Cx p s m #[Value.ref b] meth c D G bs code 4 RL) (hX : va_X b 5 xs s s.heap) (hbl : b < s.heap.size) (hbA : ¬ bs ≤ b) (kA : pcAt S x co ts fs mg ch rw ft gl gr gq ml mr mq sg tp cs) (kN : pcNew S x co ts fs sg tp) (kM : mdNew S m0 ad) (hmN : ¬ m0 ∈ [co, ts, fs, mg, rw, ft, gl, gq, ml, mq]) (hadN : ∀ q ∈ mTab, ¬ ad q.1 ∈ [co, ts, fs, mg, rw, ft, gl, gq, ml, mq]) (hend : ∀ (T : Mem) (ce sl : Nat), ce ≤ 600000 → sl ≤ 7302250 → V p l e room_1 s m #[Value.ref b] below meth c D G bs 4 Q ce sl T 1211 [some (.ref b), some (.ref x), some (.ref m0), some (.int 0)] []) : V p l e room_1 s m #[Value.ref b] below meth c D G bs 4 Q 1000 100000 S 996 [some (.ref b), some (.ref x), some (.ref m0), some (.int 0)] [] := by
  refine v_aload_n C dL_law_996 rfl ?_
  refine v_aload_n C dL_law_997 rfl ?_
  refine v_iload_n C dL_law_998 rfl ?_
  refine v_iconst (v := 1) C dL_law_999 (by decide) ?_
  refine v_iadd C dL_law_1000 ?_
  refine v_sld C hX hbl hbA (isB_in (b := 5) (by decide) rfl) dL_law_1001 ?_
  refine v_callV (As := [_]) (n := 1) C (ct_X9_told l x co ts fs mg ch rw ft gl gr gq ml mr mq sg tp cs _) rfl kA.1 (by decide) rfl ⟨wd879, wd880, wd881, wd2, wd882⟩ ⟨rfl, hy_X9_told⟩ rfl ⟨Nat.le_of_ble_eq_true rfl, Nat.le_of_ble_eq_true rfl⟩ (Nat.le_of_ble_eq_true rfl) ⟨Nat.le_of_ble_eq_true rfl, Nat.le_of_ble_eq_true rfl⟩ dL_law_1002 ⟨rfl, kA, kN⟩ (fun r_1002 S_1002 h_1002 => ?_)
  obtain ⟨rfl, q_1002⟩ := h_1002
  obtain rfl := q_1002.symm
  refine v_aload_n C dL_law_1005 rfl ?_
  refine v_aload_n C dL_law_1006 rfl ?_
  refine v_iload_n C dL_law_1007 rfl ?_
  refine v_iconst (v := 1) C dL_law_1008 (by decide) ?_
  refine v_iadd C dL_law_1009 ?_
  refine v_sld C hX hbl hbA (isB_in (b := 5) (by decide) rfl) dL_law_1010 ?_
  refine v_callV (As := [_]) (n := 1) C (ct_X10_told l m0 ad _) rfl kM.1 (by decide) rfl ⟨wd887, wd888, wd889, wd5, wd890⟩ ⟨rfl, hy_X10_told⟩ rfl ⟨Nat.le_of_ble_eq_true rfl, Nat.le_of_ble_eq_true rfl⟩ (Nat.le_of_ble_eq_true rfl) ⟨Nat.le_of_ble_eq_true rfl, Nat.le_of_ble_eq_true rfl⟩ dL_law_1011 ⟨rfl, kM⟩ (fun r_1011 S_1011 h_1011 => ?_)
  obtain rfl := h_1011
  refine v_lcmp C dL_law_1014 ?_
  refine v_if_eq (tgt := 1211) C dL_law_1015 (by decide) (fun c_1015 => ?_) (fun c_1015 => ?_)
  · skip
    exact hend _ _ _ (Nat.le_of_ble_eq_true rfl) (Nat.le_of_ble_eq_true rfl)
  · skip
    exact absurd (by decide) c_1015
theorem dL_law_1020 : decode cL_law 1020 = .ok (.aload_n 1, 1) := by decide +kernel
theorem dL_law_1021 : decode cL_law 1021 = .ok (.invokevirtual 105, 3) := by decide +kernel
theorem dL_law_1024 : decode cL_law 1024 = .ok (.aload_n 2, 1) := by decide +kernel
theorem dL_law_1025 : decode cL_law 1025 = .ok (.invokevirtual 109, 3) := by decide +kernel
theorem dL_law_1028 : decode cL_law 1028 = .ok (.if_icmp .eq 183, 3) := by decide +kernel
set_option maxRecDepth 100000 in
set_option maxHeartbeats 4000000 in
theorem law_c21 {p : Program} {l : Launch} {e : Env} {s : State} {m : MethodId} {below : List Frame} {meth : Method} {c : Code} {D : va_G} {G : Nat → ClassId} {bs : Nat} {Q : State → Prop} {b : Nat} {xs : Nat → Int32} {S : Mem} {x co ts fs mg ch rw ft gl gr gq ml mr mq sg tp cs m0 : Nat} {ad : Nat → Nat} (C : Cx p s m #[Value.ref b] meth c D G bs code 4 RL) (hX : va_X b 5 xs s s.heap) (hbl : b < s.heap.size) (hbA : ¬ bs ≤ b) (kA : pcAt S x co ts fs mg ch rw ft gl gr gq ml mr mq sg tp cs) (kN : pcNew S x co ts fs sg tp) (kM : mdNew S m0 ad) (hmN : ¬ m0 ∈ [co, ts, fs, mg, rw, ft, gl, gq, ml, mq]) (hadN : ∀ q ∈ mTab, ¬ ad q.1 ∈ [co, ts, fs, mg, rw, ft, gl, gq, ml, mq]) (hend : ∀ (T : Mem) (ce sl : Nat), ce ≤ 600000 → sl ≤ 7302250 → V p l e room_1 s m #[Value.ref b] below meth c D G bs 4 Q ce sl T 1211 [some (.ref b), some (.ref x), some (.ref m0), some (.int 0)] []) : V p l e room_1 s m #[Value.ref b] below meth c D G bs 4 Q 1000 100000 S 1020 [some (.ref b), some (.ref x), some (.ref m0), some (.int 0)] [] := by
  refine v_aload_n C dL_law_1020 rfl ?_
  refine v_callV (As := []) (n := 0) C (ct_X9_marks l x co ts fs mg ch rw ft gl gr gq ml mr mq sg tp cs) rfl kA.1 (by decide) rfl ⟨wd891, wd892, wd893, wd2, wd894⟩ ⟨rfl, hy_X9_marks⟩ rfl ⟨Nat.le_of_ble_eq_true rfl, Nat.le_of_ble_eq_true rfl⟩ (Nat.le_of_ble_eq_true rfl) ⟨Nat.le_of_ble_eq_true rfl, Nat.le_of_ble_eq_true rfl⟩ dL_law_1021 ⟨rfl, kA, kN⟩ (fun r_1021 S_1021 h_1021 => ?_)
  obtain ⟨rfl, q_1021⟩ := h_1021
  obtain rfl := q_1021.symm
  refine v_aload_n C dL_law_1024 rfl ?_
  refine v_callV (As := []) (n := 0) C (ct_X10_marks l m0 ad) rfl kM.1 (by decide) rfl ⟨wd897, wd898, wd899, wd5, wd900⟩ ⟨rfl, hy_X10_marks⟩ rfl ⟨Nat.le_of_ble_eq_true rfl, Nat.le_of_ble_eq_true rfl⟩ (Nat.le_of_ble_eq_true rfl) ⟨Nat.le_of_ble_eq_true rfl, Nat.le_of_ble_eq_true rfl⟩ dL_law_1025 ⟨rfl, kM⟩ (fun r_1025 S_1025 h_1025 => ?_)
  obtain rfl := h_1025
  refine v_icmp_eq (tgt := 1211) C dL_law_1028 (by decide) (fun c_1028 => ?_) (fun c_1028 => ?_)
  · skip
    exact hend _ _ _ (Nat.le_of_ble_eq_true rfl) (Nat.le_of_ble_eq_true rfl)
  · skip
    exact absurd rfl c_1028
theorem dL_law_1033 : decode cL_law 1033 = .ok (.aload_n 1, 1) := by decide +kernel
theorem dL_law_1034 : decode cL_law 1034 = .ok (.aload_n 0, 1) := by decide +kernel
theorem dL_law_1035 : decode cL_law 1035 = .ok (.iload_n 3, 1) := by decide +kernel
theorem dL_law_1036 : decode cL_law 1036 = .ok (.iconst 1, 1) := by decide +kernel
theorem dL_law_1037 : decode cL_law 1037 = .ok (.iadd, 1) := by decide +kernel
theorem dL_law_1038 : decode cL_law 1038 = .ok (.iaload, 1) := by decide +kernel
theorem dL_law_1039 : decode cL_law 1039 = .ok (.aload_n 0, 1) := by decide +kernel
theorem dL_law_1040 : decode cL_law 1040 = .ok (.iload_n 3, 1) := by decide +kernel
theorem dL_law_1041 : decode cL_law 1041 = .ok (.iconst 2, 1) := by decide +kernel
theorem dL_law_1042 : decode cL_law 1042 = .ok (.iadd, 1) := by decide +kernel
theorem dL_law_1043 : decode cL_law 1043 = .ok (.iaload, 1) := by decide +kernel
theorem dL_law_1044 : decode cL_law 1044 = .ok (.invokevirtual 110, 3) := by decide +kernel
theorem dL_law_1047 : decode cL_law 1047 = .ok (.aload_n 2, 1) := by decide +kernel
theorem dL_law_1048 : decode cL_law 1048 = .ok (.aload_n 0, 1) := by decide +kernel
theorem dL_law_1049 : decode cL_law 1049 = .ok (.iload_n 3, 1) := by decide +kernel
theorem dL_law_1050 : decode cL_law 1050 = .ok (.iconst 1, 1) := by decide +kernel
theorem dL_law_1051 : decode cL_law 1051 = .ok (.iadd, 1) := by decide +kernel
theorem dL_law_1052 : decode cL_law 1052 = .ok (.iaload, 1) := by decide +kernel
theorem dL_law_1053 : decode cL_law 1053 = .ok (.aload_n 0, 1) := by decide +kernel
theorem dL_law_1054 : decode cL_law 1054 = .ok (.iload_n 3, 1) := by decide +kernel
theorem dL_law_1055 : decode cL_law 1055 = .ok (.iconst 2, 1) := by decide +kernel
theorem dL_law_1056 : decode cL_law 1056 = .ok (.iadd, 1) := by decide +kernel
theorem dL_law_1057 : decode cL_law 1057 = .ok (.iaload, 1) := by decide +kernel
theorem dL_law_1058 : decode cL_law 1058 = .ok (.invokevirtual 114, 3) := by decide +kernel
theorem dL_law_1061 : decode cL_law 1061 = .ok (.lcmp, 1) := by decide +kernel
theorem dL_law_1062 : decode cL_law 1062 = .ok (.ifCond .eq 149, 3) := by decide +kernel
set_option maxRecDepth 100000 in
set_option maxHeartbeats 4000000 in
theorem law_c22 {p : Program} {l : Launch} {e : Env} {s : State} {m : MethodId} {below : List Frame} {meth : Method} {c : Code} {D : va_G} {G : Nat → ClassId} {bs : Nat} {Q : State → Prop} {b : Nat} {xs : Nat → Int32} {S : Mem} {x co ts fs mg ch rw ft gl gr gq ml mr mq sg tp cs m0 : Nat} {ad : Nat → Nat} (C : Cx p s m #[Value.ref b] meth c D G bs code 4 RL) (hX : va_X b 5 xs s s.heap) (hbl : b < s.heap.size) (hbA : ¬ bs ≤ b) (kA : pcAt S x co ts fs mg ch rw ft gl gr gq ml mr mq sg tp cs) (kN : pcNew S x co ts fs sg tp) (kM : mdNew S m0 ad) (hmN : ¬ m0 ∈ [co, ts, fs, mg, rw, ft, gl, gq, ml, mq]) (hadN : ∀ q ∈ mTab, ¬ ad q.1 ∈ [co, ts, fs, mg, rw, ft, gl, gq, ml, mq]) (hend : ∀ (T : Mem) (ce sl : Nat), ce ≤ 600000 → sl ≤ 7302250 → V p l e room_1 s m #[Value.ref b] below meth c D G bs 4 Q ce sl T 1211 [some (.ref b), some (.ref x), some (.ref m0), some (.int 0)] []) : V p l e room_1 s m #[Value.ref b] below meth c D G bs 4 Q 1000 100000 S 1033 [some (.ref b), some (.ref x), some (.ref m0), some (.int 0)] [] := by
  refine v_aload_n C dL_law_1033 rfl ?_
  refine v_aload_n C dL_law_1034 rfl ?_
  refine v_iload_n C dL_law_1035 rfl ?_
  refine v_iconst (v := 1) C dL_law_1036 (by decide) ?_
  refine v_iadd C dL_law_1037 ?_
  refine v_sld C hX hbl hbA (isB_in (b := 5) (by decide) rfl) dL_law_1038 ?_
  refine v_aload_n C dL_law_1039 rfl ?_
  refine v_iload_n C dL_law_1040 rfl ?_
  refine v_iconst (v := 2) C dL_law_1041 (by decide) ?_
  refine v_iadd C dL_law_1042 ?_
  refine v_sld C hX hbl hbA (isB_in (b := 5) (by decide) rfl) dL_law_1043 ?_
  refine v_callV (As := [_, _]) (n := 2) C (ct_X9_mark l x co ts fs mg ch rw ft gl gr gq ml mr mq sg tp cs _ _) rfl kA.1 (by decide) rfl ⟨wd901, wd902, wd903, wd2, wd904⟩ ⟨rfl, hy_X9_mark⟩ rfl ⟨Nat.le_of_ble_eq_true rfl, Nat.le_of_ble_eq_true rfl⟩ (Nat.le_of_ble_eq_true rfl) ⟨Nat.le_of_ble_eq_true rfl, Nat.le_of_ble_eq_true rfl⟩ dL_law_1044 ⟨rfl, kA, kN⟩ (fun r_1044 S_1044 h_1044 => ?_)
  obtain ⟨rfl, q_1044⟩ := h_1044
  obtain rfl := q_1044.symm
  refine v_aload_n C dL_law_1047 rfl ?_
  refine v_aload_n C dL_law_1048 rfl ?_
  refine v_iload_n C dL_law_1049 rfl ?_
  refine v_iconst (v := 1) C dL_law_1050 (by decide) ?_
  refine v_iadd C dL_law_1051 ?_
  refine v_sld C hX hbl hbA (isB_in (b := 5) (by decide) rfl) dL_law_1052 ?_
  refine v_aload_n C dL_law_1053 rfl ?_
  refine v_iload_n C dL_law_1054 rfl ?_
  refine v_iconst (v := 2) C dL_law_1055 (by decide) ?_
  refine v_iadd C dL_law_1056 ?_
  refine v_sld C hX hbl hbA (isB_in (b := 5) (by decide) rfl) dL_law_1057 ?_
  refine v_callV (As := [_, _]) (n := 2) C (ct_X10_mark l m0 ad _ _) rfl kM.1 (by decide) rfl ⟨wd909, wd910, wd911, wd5, wd912⟩ ⟨rfl, hy_X10_mark⟩ rfl ⟨Nat.le_of_ble_eq_true rfl, Nat.le_of_ble_eq_true rfl⟩ (Nat.le_of_ble_eq_true rfl) ⟨Nat.le_of_ble_eq_true rfl, Nat.le_of_ble_eq_true rfl⟩ dL_law_1058 ⟨rfl, kM⟩ (fun r_1058 S_1058 h_1058 => ?_)
  obtain rfl := h_1058
  refine v_lcmp C dL_law_1061 ?_
  refine v_if_eq (tgt := 1211) C dL_law_1062 (by decide) (fun c_1062 => ?_) (fun c_1062 => ?_)
  · skip
    exact hend _ _ _ (Nat.le_of_ble_eq_true rfl) (Nat.le_of_ble_eq_true rfl)
  · skip
    exact absurd (by decide) c_1062
theorem dL_law_1067 : decode cL_law 1067 = .ok (.aload_n 1, 1) := by decide +kernel
theorem dL_law_1068 : decode cL_law 1068 = .ok (.aload_n 0, 1) := by decide +kernel
theorem dL_law_1069 : decode cL_law 1069 = .ok (.iload_n 3, 1) := by decide +kernel
theorem dL_law_1070 : decode cL_law 1070 = .ok (.iconst 1, 1) := by decide +kernel
theorem dL_law_1071 : decode cL_law 1071 = .ok (.iadd, 1) := by decide +kernel
theorem dL_law_1072 : decode cL_law 1072 = .ok (.iaload, 1) := by decide +kernel
theorem dL_law_1073 : decode cL_law 1073 = .ok (.aload_n 0, 1) := by decide +kernel
theorem dL_law_1074 : decode cL_law 1074 = .ok (.iload_n 3, 1) := by decide +kernel
theorem dL_law_1075 : decode cL_law 1075 = .ok (.iconst 2, 1) := by decide +kernel
theorem dL_law_1076 : decode cL_law 1076 = .ok (.iadd, 1) := by decide +kernel
theorem dL_law_1077 : decode cL_law 1077 = .ok (.iaload, 1) := by decide +kernel
theorem dL_law_1078 : decode cL_law 1078 = .ok (.invokevirtual 115, 3) := by decide +kernel
theorem dL_law_1081 : decode cL_law 1081 = .ok (.aload_n 2, 1) := by decide +kernel
theorem dL_law_1082 : decode cL_law 1082 = .ok (.aload_n 0, 1) := by decide +kernel
theorem dL_law_1083 : decode cL_law 1083 = .ok (.iload_n 3, 1) := by decide +kernel
theorem dL_law_1084 : decode cL_law 1084 = .ok (.iconst 1, 1) := by decide +kernel
theorem dL_law_1085 : decode cL_law 1085 = .ok (.iadd, 1) := by decide +kernel
theorem dL_law_1086 : decode cL_law 1086 = .ok (.iaload, 1) := by decide +kernel
theorem dL_law_1087 : decode cL_law 1087 = .ok (.aload_n 0, 1) := by decide +kernel
theorem dL_law_1088 : decode cL_law 1088 = .ok (.iload_n 3, 1) := by decide +kernel
theorem dL_law_1089 : decode cL_law 1089 = .ok (.iconst 2, 1) := by decide +kernel
theorem dL_law_1090 : decode cL_law 1090 = .ok (.iadd, 1) := by decide +kernel
theorem dL_law_1091 : decode cL_law 1091 = .ok (.iaload, 1) := by decide +kernel
theorem dL_law_1092 : decode cL_law 1092 = .ok (.invokevirtual 118, 3) := by decide +kernel
theorem dL_law_1095 : decode cL_law 1095 = .ok (.lcmp, 1) := by decide +kernel
theorem dL_law_1096 : decode cL_law 1096 = .ok (.ifCond .eq 115, 3) := by decide +kernel
set_option maxRecDepth 100000 in
set_option maxHeartbeats 4000000 in
theorem law_c23 {p : Program} {l : Launch} {e : Env} {s : State} {m : MethodId} {below : List Frame} {meth : Method} {c : Code} {D : va_G} {G : Nat → ClassId} {bs : Nat} {Q : State → Prop} {b : Nat} {xs : Nat → Int32} {S : Mem} {x co ts fs mg ch rw ft gl gr gq ml mr mq sg tp cs m0 : Nat} {ad : Nat → Nat} (C : Cx p s m #[Value.ref b] meth c D G bs code 4 RL) (hX : va_X b 5 xs s s.heap) (hbl : b < s.heap.size) (hbA : ¬ bs ≤ b) (kA : pcAt S x co ts fs mg ch rw ft gl gr gq ml mr mq sg tp cs) (kN : pcNew S x co ts fs sg tp) (kM : mdNew S m0 ad) (hmN : ¬ m0 ∈ [co, ts, fs, mg, rw, ft, gl, gq, ml, mq]) (hadN : ∀ q ∈ mTab, ¬ ad q.1 ∈ [co, ts, fs, mg, rw, ft, gl, gq, ml, mq]) (hend : ∀ (T : Mem) (ce sl : Nat), ce ≤ 600000 → sl ≤ 7302250 → V p l e room_1 s m #[Value.ref b] below meth c D G bs 4 Q ce sl T 1211 [some (.ref b), some (.ref x), some (.ref m0), some (.int 0)] []) : V p l e room_1 s m #[Value.ref b] below meth c D G bs 4 Q 1000 100000 S 1067 [some (.ref b), some (.ref x), some (.ref m0), some (.int 0)] [] := by
  refine v_aload_n C dL_law_1067 rfl ?_
  refine v_aload_n C dL_law_1068 rfl ?_
  refine v_iload_n C dL_law_1069 rfl ?_
  refine v_iconst (v := 1) C dL_law_1070 (by decide) ?_
  refine v_iadd C dL_law_1071 ?_
  refine v_sld C hX hbl hbA (isB_in (b := 5) (by decide) rfl) dL_law_1072 ?_
  refine v_aload_n C dL_law_1073 rfl ?_
  refine v_iload_n C dL_law_1074 rfl ?_
  refine v_iconst (v := 2) C dL_law_1075 (by decide) ?_
  refine v_iadd C dL_law_1076 ?_
  refine v_sld C hX hbl hbA (isB_in (b := 5) (by decide) rfl) dL_law_1077 ?_
  refine v_callV (As := [_, _]) (n := 2) C (ct_X9_mood l x co ts fs mg ch rw ft gl gr gq ml mr mq sg tp cs _ _) rfl kA.1 (by decide) rfl ⟨wd913, wd914, wd915, wd2, wd916⟩ ⟨rfl, hy_X9_mood⟩ rfl ⟨Nat.le_of_ble_eq_true rfl, Nat.le_of_ble_eq_true rfl⟩ (Nat.le_of_ble_eq_true rfl) ⟨Nat.le_of_ble_eq_true rfl, Nat.le_of_ble_eq_true rfl⟩ dL_law_1078 ⟨rfl, kA, kN⟩ (fun r_1078 S_1078 h_1078 => ?_)
  obtain ⟨rfl, q_1078⟩ := h_1078
  obtain rfl := q_1078.symm
  refine v_aload_n C dL_law_1081 rfl ?_
  refine v_aload_n C dL_law_1082 rfl ?_
  refine v_iload_n C dL_law_1083 rfl ?_
  refine v_iconst (v := 1) C dL_law_1084 (by decide) ?_
  refine v_iadd C dL_law_1085 ?_
  refine v_sld C hX hbl hbA (isB_in (b := 5) (by decide) rfl) dL_law_1086 ?_
  refine v_aload_n C dL_law_1087 rfl ?_
  refine v_iload_n C dL_law_1088 rfl ?_
  refine v_iconst (v := 2) C dL_law_1089 (by decide) ?_
  refine v_iadd C dL_law_1090 ?_
  refine v_sld C hX hbl hbA (isB_in (b := 5) (by decide) rfl) dL_law_1091 ?_
  refine v_callV (As := [_, _]) (n := 2) C (ct_X10_mood l m0 ad _ _) rfl kM.1 (by decide) rfl ⟨wd918, wd919, wd920, wd5, wd921⟩ ⟨rfl, hy_X10_mood⟩ rfl ⟨Nat.le_of_ble_eq_true rfl, Nat.le_of_ble_eq_true rfl⟩ (Nat.le_of_ble_eq_true rfl) ⟨Nat.le_of_ble_eq_true rfl, Nat.le_of_ble_eq_true rfl⟩ dL_law_1092 ⟨rfl, kM⟩ (fun r_1092 S_1092 h_1092 => ?_)
  obtain rfl := h_1092
  refine v_lcmp C dL_law_1095 ?_
  refine v_if_eq (tgt := 1211) C dL_law_1096 (by decide) (fun c_1096 => ?_) (fun c_1096 => ?_)
  · skip
    exact hend _ _ _ (Nat.le_of_ble_eq_true rfl) (Nat.le_of_ble_eq_true rfl)
  · skip
    exact absurd (by decide) c_1096
theorem dL_law_1101 : decode cL_law 1101 = .ok (.aload_n 1, 1) := by decide +kernel
theorem dL_law_1102 : decode cL_law 1102 = .ok (.aload_n 0, 1) := by decide +kernel
theorem dL_law_1103 : decode cL_law 1103 = .ok (.iload_n 3, 1) := by decide +kernel
theorem dL_law_1104 : decode cL_law 1104 = .ok (.iconst 1, 1) := by decide +kernel
theorem dL_law_1105 : decode cL_law 1105 = .ok (.iadd, 1) := by decide +kernel
theorem dL_law_1106 : decode cL_law 1106 = .ok (.iaload, 1) := by decide +kernel
theorem dL_law_1107 : decode cL_law 1107 = .ok (.aload_n 0, 1) := by decide +kernel
theorem dL_law_1108 : decode cL_law 1108 = .ok (.iload_n 3, 1) := by decide +kernel
theorem dL_law_1109 : decode cL_law 1109 = .ok (.iconst 2, 1) := by decide +kernel
theorem dL_law_1110 : decode cL_law 1110 = .ok (.iadd, 1) := by decide +kernel
theorem dL_law_1111 : decode cL_law 1111 = .ok (.iaload, 1) := by decide +kernel
theorem dL_law_1112 : decode cL_law 1112 = .ok (.aload_n 0, 1) := by decide +kernel
theorem dL_law_1113 : decode cL_law 1113 = .ok (.iload_n 3, 1) := by decide +kernel
theorem dL_law_1114 : decode cL_law 1114 = .ok (.iconst 3, 1) := by decide +kernel
theorem dL_law_1115 : decode cL_law 1115 = .ok (.iadd, 1) := by decide +kernel
theorem dL_law_1116 : decode cL_law 1116 = .ok (.iaload, 1) := by decide +kernel
theorem dL_law_1117 : decode cL_law 1117 = .ok (.i2l, 1) := by decide +kernel
theorem dL_law_1118 : decode cL_law 1118 = .ok (.bipush 32, 2) := by decide +kernel
theorem dL_law_1120 : decode cL_law 1120 = .ok (.lshl, 1) := by decide +kernel
theorem dL_law_1121 : decode cL_law 1121 = .ok (.aload_n 0, 1) := by decide +kernel
theorem dL_law_1122 : decode cL_law 1122 = .ok (.iload_n 3, 1) := by decide +kernel
theorem dL_law_1123 : decode cL_law 1123 = .ok (.iconst 4, 1) := by decide +kernel
theorem dL_law_1124 : decode cL_law 1124 = .ok (.iadd, 1) := by decide +kernel
theorem dL_law_1125 : decode cL_law 1125 = .ok (.iaload, 1) := by decide +kernel
theorem dL_law_1126 : decode cL_law 1126 = .ok (.i2l, 1) := by decide +kernel
theorem dL_law_1127 : decode cL_law 1127 = .ok (.ldc2_w 93, 3) := by decide +kernel
theorem dL_law_1130 : decode cL_law 1130 = .ok (.land, 1) := by decide +kernel
theorem dL_law_1131 : decode cL_law 1131 = .ok (.lor, 1) := by decide +kernel
theorem dL_law_1132 : decode cL_law 1132 = .ok (.invokevirtual 119, 3) := by decide +kernel
theorem dL_law_1135 : decode cL_law 1135 = .ok (.aload_n 2, 1) := by decide +kernel
theorem dL_law_1136 : decode cL_law 1136 = .ok (.aload_n 0, 1) := by decide +kernel
theorem dL_law_1137 : decode cL_law 1137 = .ok (.iload_n 3, 1) := by decide +kernel
theorem dL_law_1138 : decode cL_law 1138 = .ok (.iconst 1, 1) := by decide +kernel
theorem dL_law_1139 : decode cL_law 1139 = .ok (.iadd, 1) := by decide +kernel
theorem dL_law_1140 : decode cL_law 1140 = .ok (.iaload, 1) := by decide +kernel
theorem dL_law_1141 : decode cL_law 1141 = .ok (.aload_n 0, 1) := by decide +kernel
theorem dL_law_1142 : decode cL_law 1142 = .ok (.iload_n 3, 1) := by decide +kernel
theorem dL_law_1143 : decode cL_law 1143 = .ok (.iconst 2, 1) := by decide +kernel
theorem dL_law_1144 : decode cL_law 1144 = .ok (.iadd, 1) := by decide +kernel
theorem dL_law_1145 : decode cL_law 1145 = .ok (.iaload, 1) := by decide +kernel
theorem dL_law_1146 : decode cL_law 1146 = .ok (.aload_n 0, 1) := by decide +kernel
theorem dL_law_1147 : decode cL_law 1147 = .ok (.iload_n 3, 1) := by decide +kernel
theorem dL_law_1148 : decode cL_law 1148 = .ok (.iconst 3, 1) := by decide +kernel
theorem dL_law_1149 : decode cL_law 1149 = .ok (.iadd, 1) := by decide +kernel
theorem dL_law_1150 : decode cL_law 1150 = .ok (.iaload, 1) := by decide +kernel
theorem dL_law_1151 : decode cL_law 1151 = .ok (.i2l, 1) := by decide +kernel
theorem dL_law_1152 : decode cL_law 1152 = .ok (.bipush 32, 2) := by decide +kernel
theorem dL_law_1154 : decode cL_law 1154 = .ok (.lshl, 1) := by decide +kernel
theorem dL_law_1155 : decode cL_law 1155 = .ok (.aload_n 0, 1) := by decide +kernel
theorem dL_law_1156 : decode cL_law 1156 = .ok (.iload_n 3, 1) := by decide +kernel
theorem dL_law_1157 : decode cL_law 1157 = .ok (.iconst 4, 1) := by decide +kernel
theorem dL_law_1158 : decode cL_law 1158 = .ok (.iadd, 1) := by decide +kernel
theorem dL_law_1159 : decode cL_law 1159 = .ok (.iaload, 1) := by decide +kernel
theorem dL_law_1160 : decode cL_law 1160 = .ok (.i2l, 1) := by decide +kernel
theorem dL_law_1161 : decode cL_law 1161 = .ok (.ldc2_w 93, 3) := by decide +kernel
theorem dL_law_1164 : decode cL_law 1164 = .ok (.land, 1) := by decide +kernel
theorem dL_law_1165 : decode cL_law 1165 = .ok (.lor, 1) := by decide +kernel
theorem dL_law_1166 : decode cL_law 1166 = .ok (.invokevirtual 122, 3) := by decide +kernel
theorem dL_law_1169 : decode cL_law 1169 = .ok (.if_icmp .eq 42, 3) := by decide +kernel
set_option maxRecDepth 100000 in
set_option maxHeartbeats 4000000 in
theorem law_c24 {p : Program} {l : Launch} {e : Env} {s : State} {m : MethodId} {below : List Frame} {meth : Method} {c : Code} {D : va_G} {G : Nat → ClassId} {bs : Nat} {Q : State → Prop} {b : Nat} {xs : Nat → Int32} {S : Mem} {x co ts fs mg ch rw ft gl gr gq ml mr mq sg tp cs m0 : Nat} {ad : Nat → Nat} (C : Cx p s m #[Value.ref b] meth c D G bs code 4 RL) (hX : va_X b 5 xs s s.heap) (hbl : b < s.heap.size) (hbA : ¬ bs ≤ b) (kA : pcAt S x co ts fs mg ch rw ft gl gr gq ml mr mq sg tp cs) (kN : pcNew S x co ts fs sg tp) (kM : mdNew S m0 ad) (hmN : ¬ m0 ∈ [co, ts, fs, mg, rw, ft, gl, gq, ml, mq]) (hadN : ∀ q ∈ mTab, ¬ ad q.1 ∈ [co, ts, fs, mg, rw, ft, gl, gq, ml, mq]) (hend : ∀ (T : Mem) (ce sl : Nat), ce ≤ 600000 → sl ≤ 7302250 → V p l e room_1 s m #[Value.ref b] below meth c D G bs 4 Q ce sl T 1211 [some (.ref b), some (.ref x), some (.ref m0), some (.int 0)] []) : V p l e room_1 s m #[Value.ref b] below meth c D G bs 4 Q 1000 100000 S 1101 [some (.ref b), some (.ref x), some (.ref m0), some (.int 0)] [] := by
  refine v_aload_n C dL_law_1101 rfl ?_
  refine v_aload_n C dL_law_1102 rfl ?_
  refine v_iload_n C dL_law_1103 rfl ?_
  refine v_iconst (v := 1) C dL_law_1104 (by decide) ?_
  refine v_iadd C dL_law_1105 ?_
  refine v_sld C hX hbl hbA (isB_in (b := 5) (by decide) rfl) dL_law_1106 ?_
  refine v_aload_n C dL_law_1107 rfl ?_
  refine v_iload_n C dL_law_1108 rfl ?_
  refine v_iconst (v := 2) C dL_law_1109 (by decide) ?_
  refine v_iadd C dL_law_1110 ?_
  refine v_sld C hX hbl hbA (isB_in (b := 5) (by decide) rfl) dL_law_1111 ?_
  refine v_aload_n C dL_law_1112 rfl ?_
  refine v_iload_n C dL_law_1113 rfl ?_
  refine v_iconst (v := 3) C dL_law_1114 (by decide) ?_
  refine v_iadd C dL_law_1115 ?_
  refine v_sld C hX hbl hbA (isB_in (b := 5) (by decide) rfl) dL_law_1116 ?_
  refine v_i2l C dL_law_1117 ?_
  refine v_bipush (v := 32) C dL_law_1118 (by decide) ?_
  refine v_lshl C dL_law_1120 ?_
  refine v_aload_n C dL_law_1121 rfl ?_
  refine v_iload_n C dL_law_1122 rfl ?_
  refine v_iconst (v := 4) C dL_law_1123 (by decide) ?_
  refine v_iadd C dL_law_1124 ?_
  refine v_sld C hX hbl hbA (isB_in (b := 5) (by decide) rfl) dL_law_1125 ?_
  refine v_i2l C dL_law_1126 ?_
  refine v_ldc2 (v := (4294967295)) C wd6 dL_law_1127 ?_
  refine v_land C dL_law_1130 ?_
  refine v_lor C dL_law_1131 ?_
  refine v_callV (As := [_, _, _]) (n := 3) C (ct_X9_setMood l x co ts fs mg ch rw ft gl gr gq ml mr mq sg tp cs _ _ _) rfl kA.1 (by decide) rfl ⟨wd922, wd923, wd924, wd2, wd925⟩ ⟨rfl, hy_X9_setMood⟩ rfl ⟨Nat.le_of_ble_eq_true rfl, Nat.le_of_ble_eq_true rfl⟩ (Nat.le_of_ble_eq_true rfl) ⟨Nat.le_of_ble_eq_true rfl, Nat.le_of_ble_eq_true rfl⟩ dL_law_1132 ⟨rfl, kA, kN⟩ (fun r_1132 S_1132 h_1132 => ?_)
  obtain ⟨rfl, q_1132⟩ := h_1132
  obtain rfl := q_1132.symm
  refine v_aload_n C dL_law_1135 rfl ?_
  refine v_aload_n C dL_law_1136 rfl ?_
  refine v_iload_n C dL_law_1137 rfl ?_
  refine v_iconst (v := 1) C dL_law_1138 (by decide) ?_
  refine v_iadd C dL_law_1139 ?_
  refine v_sld C hX hbl hbA (isB_in (b := 5) (by decide) rfl) dL_law_1140 ?_
  refine v_aload_n C dL_law_1141 rfl ?_
  refine v_iload_n C dL_law_1142 rfl ?_
  refine v_iconst (v := 2) C dL_law_1143 (by decide) ?_
  refine v_iadd C dL_law_1144 ?_
  refine v_sld C hX hbl hbA (isB_in (b := 5) (by decide) rfl) dL_law_1145 ?_
  refine v_aload_n C dL_law_1146 rfl ?_
  refine v_iload_n C dL_law_1147 rfl ?_
  refine v_iconst (v := 3) C dL_law_1148 (by decide) ?_
  refine v_iadd C dL_law_1149 ?_
  refine v_sld C hX hbl hbA (isB_in (b := 5) (by decide) rfl) dL_law_1150 ?_
  refine v_i2l C dL_law_1151 ?_
  refine v_bipush (v := 32) C dL_law_1152 (by decide) ?_
  refine v_lshl C dL_law_1154 ?_
  refine v_aload_n C dL_law_1155 rfl ?_
  refine v_iload_n C dL_law_1156 rfl ?_
  refine v_iconst (v := 4) C dL_law_1157 (by decide) ?_
  refine v_iadd C dL_law_1158 ?_
  refine v_sld C hX hbl hbA (isB_in (b := 5) (by decide) rfl) dL_law_1159 ?_
  refine v_i2l C dL_law_1160 ?_
  refine v_ldc2 (v := (4294967295)) C wd6 dL_law_1161 ?_
  refine v_land C dL_law_1164 ?_
  refine v_lor C dL_law_1165 ?_
  refine v_callV (As := [_, _, _]) (n := 3) C (ct_X10_setMood l m0 ad _ _ _) rfl kM.1 (by decide) rfl ⟨wd927, wd928, wd929, wd5, wd930⟩ ⟨rfl, hy_X10_setMood⟩ rfl ⟨Nat.le_of_ble_eq_true rfl, Nat.le_of_ble_eq_true rfl⟩ (Nat.le_of_ble_eq_true rfl) ⟨Nat.le_of_ble_eq_true rfl, Nat.le_of_ble_eq_true rfl⟩ dL_law_1166 ⟨rfl, kM⟩ (fun r_1166 S_1166 h_1166 => ?_)
  obtain rfl := h_1166
  refine v_icmp_eq (tgt := 1211) C dL_law_1169 (by decide) (fun c_1169 => ?_) (fun c_1169 => ?_)
  · skip
    exact hend _ _ _ (Nat.le_of_ble_eq_true rfl) (Nat.le_of_ble_eq_true rfl)
  · skip
    exact absurd rfl c_1169
theorem dL_law_1174 : decode cL_law 1174 = .ok (.aload_n 1, 1) := by decide +kernel
theorem dL_law_1175 : decode cL_law 1175 = .ok (.aload_n 0, 1) := by decide +kernel
theorem dL_law_1176 : decode cL_law 1176 = .ok (.iload_n 3, 1) := by decide +kernel
theorem dL_law_1177 : decode cL_law 1177 = .ok (.iconst 1, 1) := by decide +kernel
theorem dL_law_1178 : decode cL_law 1178 = .ok (.iadd, 1) := by decide +kernel
theorem dL_law_1179 : decode cL_law 1179 = .ok (.iaload, 1) := by decide +kernel
theorem dL_law_1180 : decode cL_law 1180 = .ok (.invokevirtual 123, 3) := by decide +kernel
theorem dL_law_1183 : decode cL_law 1183 = .ok (.aload_n 2, 1) := by decide +kernel
theorem dL_law_1184 : decode cL_law 1184 = .ok (.aload_n 0, 1) := by decide +kernel
theorem dL_law_1185 : decode cL_law 1185 = .ok (.iload_n 3, 1) := by decide +kernel
theorem dL_law_1186 : decode cL_law 1186 = .ok (.iconst 1, 1) := by decide +kernel
theorem dL_law_1187 : decode cL_law 1187 = .ok (.iadd, 1) := by decide +kernel
theorem dL_law_1188 : decode cL_law 1188 = .ok (.iaload, 1) := by decide +kernel
theorem dL_law_1189 : decode cL_law 1189 = .ok (.invokevirtual 126, 3) := by decide +kernel
theorem dL_law_1192 : decode cL_law 1192 = .ok (.if_icmp .eq 19, 3) := by decide +kernel
set_option maxRecDepth 100000 in
set_option maxHeartbeats 4000000 in
theorem law_c25 {p : Program} {l : Launch} {e : Env} {s : State} {m : MethodId} {below : List Frame} {meth : Method} {c : Code} {D : va_G} {G : Nat → ClassId} {bs : Nat} {Q : State → Prop} {b : Nat} {xs : Nat → Int32} {S : Mem} {x co ts fs mg ch rw ft gl gr gq ml mr mq sg tp cs m0 : Nat} {ad : Nat → Nat} (C : Cx p s m #[Value.ref b] meth c D G bs code 4 RL) (hX : va_X b 5 xs s s.heap) (hbl : b < s.heap.size) (hbA : ¬ bs ≤ b) (kA : pcAt S x co ts fs mg ch rw ft gl gr gq ml mr mq sg tp cs) (kN : pcNew S x co ts fs sg tp) (kM : mdNew S m0 ad) (hmN : ¬ m0 ∈ [co, ts, fs, mg, rw, ft, gl, gq, ml, mq]) (hadN : ∀ q ∈ mTab, ¬ ad q.1 ∈ [co, ts, fs, mg, rw, ft, gl, gq, ml, mq]) (hend : ∀ (T : Mem) (ce sl : Nat), ce ≤ 600000 → sl ≤ 7302250 → V p l e room_1 s m #[Value.ref b] below meth c D G bs 4 Q ce sl T 1211 [some (.ref b), some (.ref x), some (.ref m0), some (.int 0)] []) : V p l e room_1 s m #[Value.ref b] below meth c D G bs 4 Q 1000 100000 S 1174 [some (.ref b), some (.ref x), some (.ref m0), some (.int 0)] [] := by
  refine v_aload_n C dL_law_1174 rfl ?_
  refine v_aload_n C dL_law_1175 rfl ?_
  refine v_iload_n C dL_law_1176 rfl ?_
  refine v_iconst (v := 1) C dL_law_1177 (by decide) ?_
  refine v_iadd C dL_law_1178 ?_
  refine v_sld C hX hbl hbA (isB_in (b := 5) (by decide) rfl) dL_law_1179 ?_
  refine v_callV (As := [_]) (n := 1) C (ct_X9_count l x co ts fs mg ch rw ft gl gr gq ml mr mq sg tp cs _) rfl kA.1 (by decide) rfl ⟨wd931, wd932, wd933, wd2, wd934⟩ ⟨rfl, hy_X9_count⟩ rfl ⟨Nat.le_of_ble_eq_true rfl, Nat.le_of_ble_eq_true rfl⟩ (Nat.le_of_ble_eq_true rfl) ⟨Nat.le_of_ble_eq_true rfl, Nat.le_of_ble_eq_true rfl⟩ dL_law_1180 ⟨rfl, kA, kN⟩ (fun r_1180 S_1180 h_1180 => ?_)
  obtain ⟨rfl, q_1180⟩ := h_1180
  obtain rfl := q_1180.symm
  refine v_aload_n C dL_law_1183 rfl ?_
  refine v_aload_n C dL_law_1184 rfl ?_
  refine v_iload_n C dL_law_1185 rfl ?_
  refine v_iconst (v := 1) C dL_law_1186 (by decide) ?_
  refine v_iadd C dL_law_1187 ?_
  refine v_sld C hX hbl hbA (isB_in (b := 5) (by decide) rfl) dL_law_1188 ?_
  refine v_callV (As := [_]) (n := 1) C (ct_X10_count l m0 ad _) rfl kM.1 (by decide) rfl ⟨wd964, wd965, wd966, wd5, wd967⟩ ⟨rfl, hy_X10_count⟩ rfl ⟨Nat.le_of_ble_eq_true rfl, Nat.le_of_ble_eq_true rfl⟩ (Nat.le_of_ble_eq_true rfl) ⟨Nat.le_of_ble_eq_true rfl, Nat.le_of_ble_eq_true rfl⟩ dL_law_1189 ⟨rfl, kM⟩ (fun r_1189 S_1189 h_1189 => ?_)
  obtain rfl := h_1189
  refine v_icmp_eq (tgt := 1211) C dL_law_1192 (by decide) (fun c_1192 => ?_) (fun c_1192 => ?_)
  · skip
    exact hend _ _ _ (Nat.le_of_ble_eq_true rfl) (Nat.le_of_ble_eq_true rfl)
  · skip
    exact absurd rfl c_1192
theorem dL_law_1197 : decode cL_law 1197 = .ok (.aload_n 1, 1) := by decide +kernel
theorem dL_law_1198 : decode cL_law 1198 = .ok (.invokevirtual 127, 3) := by decide +kernel
theorem dL_law_1201 : decode cL_law 1201 = .ok (.aload_n 2, 1) := by decide +kernel
theorem dL_law_1202 : decode cL_law 1202 = .ok (.invokevirtual 131, 3) := by decide +kernel
theorem dL_law_1205 : decode cL_law 1205 = .ok (.lcmp, 1) := by decide +kernel
theorem dL_law_1206 : decode cL_law 1206 = .ok (.ifCond .eq 5, 3) := by decide +kernel
set_option maxRecDepth 100000 in
set_option maxHeartbeats 4000000 in
theorem law_c26 {p : Program} {l : Launch} {e : Env} {s : State} {m : MethodId} {below : List Frame} {meth : Method} {c : Code} {D : va_G} {G : Nat → ClassId} {bs : Nat} {Q : State → Prop} {b : Nat} {xs : Nat → Int32} {S : Mem} {x co ts fs mg ch rw ft gl gr gq ml mr mq sg tp cs m0 : Nat} {ad : Nat → Nat} (C : Cx p s m #[Value.ref b] meth c D G bs code 4 RL) (hX : va_X b 5 xs s s.heap) (hbl : b < s.heap.size) (hbA : ¬ bs ≤ b) (kA : pcAt S x co ts fs mg ch rw ft gl gr gq ml mr mq sg tp cs) (kN : pcNew S x co ts fs sg tp) (kM : mdNew S m0 ad) (hmN : ¬ m0 ∈ [co, ts, fs, mg, rw, ft, gl, gq, ml, mq]) (hadN : ∀ q ∈ mTab, ¬ ad q.1 ∈ [co, ts, fs, mg, rw, ft, gl, gq, ml, mq]) (hend : ∀ (T : Mem) (ce sl : Nat), ce ≤ 600000 → sl ≤ 7302250 → V p l e room_1 s m #[Value.ref b] below meth c D G bs 4 Q ce sl T 1211 [some (.ref b), some (.ref x), some (.ref m0), some (.int 0)] []) : V p l e room_1 s m #[Value.ref b] below meth c D G bs 4 Q 1000 100000 S 1197 [some (.ref b), some (.ref x), some (.ref m0), some (.int 0)] [] := by
  refine v_aload_n C dL_law_1197 rfl ?_
  refine v_callV (As := []) (n := 0) C (ct_X9_digest l x co ts fs mg ch rw ft gl gr gq ml mr mq sg tp cs) rfl kA.1 (by decide) rfl ⟨wd968, wd969, wd970, wd2, wd971⟩ ⟨rfl, hy_X9_digest⟩ rfl ⟨Nat.le_of_ble_eq_true rfl, Nat.le_of_ble_eq_true rfl⟩ (Nat.le_of_ble_eq_true rfl) ⟨Nat.le_of_ble_eq_true rfl, Nat.le_of_ble_eq_true rfl⟩ dL_law_1198 ⟨rfl, kA, kN⟩ (fun r_1198 S_1198 h_1198 => ?_)
  obtain ⟨rfl, q_1198⟩ := h_1198
  obtain rfl := q_1198.symm
  refine v_aload_n C dL_law_1201 rfl ?_
  refine v_callV (As := []) (n := 0) C (ct_X10_digest l m0 ad) rfl kM.1 (by decide) rfl ⟨wd979, wd980, wd981, wd5, wd982⟩ ⟨rfl, hy_X10_digest⟩ rfl ⟨Nat.le_of_ble_eq_true rfl, Nat.le_of_ble_eq_true rfl⟩ (Nat.le_of_ble_eq_true rfl) ⟨Nat.le_of_ble_eq_true rfl, Nat.le_of_ble_eq_true rfl⟩ dL_law_1202 ⟨rfl, kM⟩ (fun r_1202 S_1202 h_1202 => ?_)
  obtain rfl := h_1202
  refine v_lcmp C dL_law_1205 ?_
  refine v_if_eq (tgt := 1211) C dL_law_1206 (by decide) (fun c_1206 => ?_) (fun c_1206 => ?_)
  · skip
    exact hend _ _ _ (Nat.le_of_ble_eq_true rfl) (Nat.le_of_ble_eq_true rfl)
  · skip
    exact absurd (by decide) c_1206
