theorem v_cut {p : Program} {l : Launch} {e : Env} {R : Room} {s : State} {m : MethodId} {args : Array Value} {below : List Frame} {meth : Method} {c : Code} {D : va_G} {G : Nat → ClassId} {bs nL cells slots pc : Nat} {Q : State → Prop} {S : Mem} {lv : List (Option Value)} {st : List Value} (P : Prop) (pc' : Nat) (lv' : List (Option Value)) (st' : List Value) (k1 : P → V p l e R s m args below meth c D G bs nL Q cells slots S pc' lv' st') (k2 : (P → V p l e R s m args below meth c D G bs nL Q cells slots S pc' lv' st') → V p l e R s m args below meth c D G bs nL Q cells slots S pc lv st) : V p l e R s m args below meth c D G bs nL Q cells slots S pc lv st := k2 k1
theorem trPre_mk {K : RS} {np : Nat} {a b c : Int32} (h : np ≤ 3) : trPre K np a b c (wA (wA (wA (wF K 29 (nI np)) 28 0 a) 28 1 b) 28 2 c) := by
  refine ⟨?_, h, ?_, ?_, ?_, keep_wA (keep_wA (keep_wA (keep_wF keep_rfl (by decide)) (by decide)) (by decide)) (by decide)⟩
  · rw [rF_wA, rF_wA, rF_wA, rF_wF, if_pos rfl]
  · rw [rA_wA, if_neg (by decide), rA_wA, if_neg (by decide), rA_wA, if_pos ⟨rfl, rfl⟩]
  · rw [rA_wA, if_neg (by decide), rA_wA, if_pos ⟨rfl, rfl⟩]
  · rw [rA_wA, if_pos ⟨rfl, rfl⟩]
theorem mapN {o : Option (List Nat)} (h : none = o.map List.length) : o = none := by cases o with
  | none => rfl
  | some L => cases h
theorem mapS {o : Option (List Nat)} {k : Nat} (h : some k = o.map List.length) : ∃ L, o = some L ∧ L.length = k := by cases o with
  | none => cases h
  | some L => cases h; exact ⟨L, rfl, rfl⟩
theorem dX10_trait_0 : decode cX10_trait 0 = .ok (.aload_n 0, 1) := by decide +kernel
theorem dX10_trait_1 : decode cX10_trait 1 = .ok (.iload_n 1, 1) := by decide +kernel
theorem dX10_trait_2 : decode cX10_trait 2 = .ok (.invokevirtual 169, 3) := by decide +kernel
theorem dX10_trait_5 : decode cX10_trait 5 = .ok (.ifCond .eq 64, 3) := by decide +kernel
theorem dX10_trait_8 : decode cX10_trait 8 = .ok (.aload_n 0, 1) := by decide +kernel
theorem dX10_trait_9 : decode cX10_trait 9 = .ok (.iload_n 2, 1) := by decide +kernel
theorem dX10_trait_10 : decode cX10_trait 10 = .ok (.invokevirtual 169, 3) := by decide +kernel
theorem dX10_trait_13 : decode cX10_trait 13 = .ok (.ifCond .eq 56, 3) := by decide +kernel
theorem dX10_trait_16 : decode cX10_trait 16 = .ok (.aload_n 0, 1) := by decide +kernel
theorem dX10_trait_17 : decode cX10_trait 17 = .ok (.iload_n 3, 1) := by decide +kernel
theorem dX10_trait_18 : decode cX10_trait 18 = .ok (.invokevirtual 169, 3) := by decide +kernel
theorem dX10_trait_21 : decode cX10_trait 21 = .ok (.ifCond .eq 48, 3) := by decide +kernel
theorem dX10_trait_24 : decode cX10_trait 24 = .ok (.iload_n 1, 1) := by decide +kernel
theorem dX10_trait_25 : decode cX10_trait 25 = .ok (.iconst (-1), 1) := by decide +kernel
theorem dX10_trait_26 : decode cX10_trait 26 = .ok (.if_icmp .ne 8, 3) := by decide +kernel
theorem dX10_trait_29 : decode cX10_trait 29 = .ok (.iload_n 2, 1) := by decide +kernel
theorem dX10_trait_30 : decode cX10_trait 30 = .ok (.iconst (-1), 1) := by decide +kernel
theorem dX10_trait_31 : decode cX10_trait 31 = .ok (.if_icmp .ne 38, 3) := by decide +kernel
theorem dX10_trait_34 : decode cX10_trait 34 = .ok (.iload_n 2, 1) := by decide +kernel
theorem dX10_trait_35 : decode cX10_trait 35 = .ok (.iconst (-1), 1) := by decide +kernel
theorem dX10_trait_36 : decode cX10_trait 36 = .ok (.if_icmp .ne 8, 3) := by decide +kernel
theorem dX10_trait_39 : decode cX10_trait 39 = .ok (.iload_n 3, 1) := by decide +kernel
theorem dX10_trait_40 : decode cX10_trait 40 = .ok (.iconst (-1), 1) := by decide +kernel
theorem dX10_trait_41 : decode cX10_trait 41 = .ok (.if_icmp .ne 28, 3) := by decide +kernel
theorem dX10_trait_44 : decode cX10_trait 44 = .ok (.iload_n 1, 1) := by decide +kernel
theorem dX10_trait_45 : decode cX10_trait 45 = .ok (.iconst (-1), 1) := by decide +kernel
theorem dX10_trait_46 : decode cX10_trait 46 = .ok (.if_icmp .eq 13, 3) := by decide +kernel
theorem dX10_trait_49 : decode cX10_trait 49 = .ok (.iload_n 1, 1) := by decide +kernel
theorem dX10_trait_50 : decode cX10_trait 50 = .ok (.iload_n 2, 1) := by decide +kernel
theorem dX10_trait_51 : decode cX10_trait 51 = .ok (.if_icmp .eq 18, 3) := by decide +kernel
theorem dX10_trait_54 : decode cX10_trait 54 = .ok (.iload_n 1, 1) := by decide +kernel
theorem dX10_trait_55 : decode cX10_trait 55 = .ok (.iload_n 3, 1) := by decide +kernel
theorem dX10_trait_56 : decode cX10_trait 56 = .ok (.if_icmp .eq 13, 3) := by decide +kernel
theorem dX10_trait_59 : decode cX10_trait 59 = .ok (.iload_n 2, 1) := by decide +kernel
theorem dX10_trait_60 : decode cX10_trait 60 = .ok (.iconst (-1), 1) := by decide +kernel
theorem dX10_trait_61 : decode cX10_trait 61 = .ok (.if_icmp .eq 11, 3) := by decide +kernel
theorem dX10_trait_64 : decode cX10_trait 64 = .ok (.iload_n 2, 1) := by decide +kernel
theorem dX10_trait_65 : decode cX10_trait 65 = .ok (.iload_n 3, 1) := by decide +kernel
theorem dX10_trait_66 : decode cX10_trait 66 = .ok (.if_icmp .ne 6, 3) := by decide +kernel
theorem dX10_trait_69 : decode cX10_trait 69 = .ok (.bipush (-2), 2) := by decide +kernel
theorem dX10_trait_71 : decode cX10_trait 71 = .ok (.ireturn, 1) := by decide +kernel
theorem dX10_trait_72 : decode cX10_trait 72 = .ok (.aload_n 0, 1) := by decide +kernel
theorem dX10_trait_73 : decode cX10_trait 73 = .ok (.iload_n 1, 1) := by decide +kernel
theorem dX10_trait_74 : decode cX10_trait 74 = .ok (.iconst (-1), 1) := by decide +kernel
theorem dX10_trait_75 : decode cX10_trait 75 = .ok (.if_icmp .ne 7, 3) := by decide +kernel
theorem dX10_trait_78 : decode cX10_trait 78 = .ok (.iconst 0, 1) := by decide +kernel
theorem dX10_trait_79 : decode cX10_trait 79 = .ok (.goto 22, 3) := by decide +kernel
theorem dX10_trait_82 : decode cX10_trait 82 = .ok (.iload_n 2, 1) := by decide +kernel
theorem dX10_trait_83 : decode cX10_trait 83 = .ok (.iconst (-1), 1) := by decide +kernel
theorem dX10_trait_84 : decode cX10_trait 84 = .ok (.if_icmp .ne 7, 3) := by decide +kernel
theorem dX10_trait_87 : decode cX10_trait 87 = .ok (.iconst 1, 1) := by decide +kernel
theorem dX10_trait_88 : decode cX10_trait 88 = .ok (.goto 13, 3) := by decide +kernel
theorem dX10_trait_91 : decode cX10_trait 91 = .ok (.iload_n 3, 1) := by decide +kernel
theorem dX10_trait_92 : decode cX10_trait 92 = .ok (.iconst (-1), 1) := by decide +kernel
theorem dX10_trait_93 : decode cX10_trait 93 = .ok (.if_icmp .ne 7, 3) := by decide +kernel
theorem dX10_trait_96 : decode cX10_trait 96 = .ok (.iconst 2, 1) := by decide +kernel
theorem dX10_trait_97 : decode cX10_trait 97 = .ok (.goto 4, 3) := by decide +kernel
theorem dX10_trait_100 : decode cX10_trait 100 = .ok (.iconst 3, 1) := by decide +kernel
theorem dX10_trait_101 : decode cX10_trait 101 = .ok (.putfield 155, 3) := by decide +kernel
theorem dX10_trait_104 : decode cX10_trait 104 = .ok (.aload_n 0, 1) := by decide +kernel
theorem dX10_trait_105 : decode cX10_trait 105 = .ok (.getfield 91, 3) := by decide +kernel
theorem dX10_trait_108 : decode cX10_trait 108 = .ok (.iconst 0, 1) := by decide +kernel
theorem dX10_trait_109 : decode cX10_trait 109 = .ok (.iload_n 1, 1) := by decide +kernel
theorem dX10_trait_110 : decode cX10_trait 110 = .ok (.iastore, 1) := by decide +kernel
theorem dX10_trait_111 : decode cX10_trait 111 = .ok (.aload_n 0, 1) := by decide +kernel
theorem dX10_trait_112 : decode cX10_trait 112 = .ok (.getfield 91, 3) := by decide +kernel
theorem dX10_trait_115 : decode cX10_trait 115 = .ok (.iconst 1, 1) := by decide +kernel
theorem dX10_trait_116 : decode cX10_trait 116 = .ok (.iload_n 2, 1) := by decide +kernel
theorem dX10_trait_117 : decode cX10_trait 117 = .ok (.iastore, 1) := by decide +kernel
theorem dX10_trait_118 : decode cX10_trait 118 = .ok (.aload_n 0, 1) := by decide +kernel
theorem dX10_trait_119 : decode cX10_trait 119 = .ok (.getfield 91, 3) := by decide +kernel
theorem dX10_trait_122 : decode cX10_trait 122 = .ok (.iconst 2, 1) := by decide +kernel
theorem dX10_trait_123 : decode cX10_trait 123 = .ok (.iload_n 3, 1) := by decide +kernel
theorem dX10_trait_124 : decode cX10_trait 124 = .ok (.iastore, 1) := by decide +kernel
theorem dX10_trait_125 : decode cX10_trait 125 = .ok (.aload_n 0, 1) := by decide +kernel
theorem dX10_trait_126 : decode cX10_trait 126 = .ok (.invokevirtual 172, 3) := by decide +kernel
theorem dX10_trait_129 : decode cX10_trait 129 = .ok (.istore 4, 2) := by decide +kernel
theorem dX10_trait_131 : decode cX10_trait 131 = .ok (.iload 4, 2) := by decide +kernel
theorem dX10_trait_133 : decode cX10_trait 133 = .ok (.iconst (-1), 1) := by decide +kernel
theorem dX10_trait_134 : decode cX10_trait 134 = .ok (.if_icmp .ne 6, 3) := by decide +kernel
theorem dX10_trait_137 : decode cX10_trait 137 = .ok (.bipush (-3), 2) := by decide +kernel
theorem dX10_trait_139 : decode cX10_trait 139 = .ok (.ireturn, 1) := by decide +kernel
theorem dX10_trait_140 : decode cX10_trait 140 = .ok (.aload_n 0, 1) := by decide +kernel
theorem dX10_trait_141 : decode cX10_trait 141 = .ok (.getfield 145, 3) := by decide +kernel
theorem dX10_trait_144 : decode cX10_trait 144 = .ok (.bipush 20, 2) := by decide +kernel
theorem dX10_trait_146 : decode cX10_trait 146 = .ok (.if_icmp .ne 6, 3) := by decide +kernel
theorem dX10_trait_149 : decode cX10_trait 149 = .ok (.bipush (-4), 2) := by decide +kernel
theorem dX10_trait_151 : decode cX10_trait 151 = .ok (.ireturn, 1) := by decide +kernel
theorem dX10_trait_152 : decode cX10_trait 152 = .ok (.aload_n 0, 1) := by decide +kernel
theorem dX10_trait_153 : decode cX10_trait 153 = .ok (.getfield 7, 3) := by decide +kernel
theorem dX10_trait_156 : decode cX10_trait 156 = .ok (.bipush 20, 2) := by decide +kernel
theorem dX10_trait_158 : decode cX10_trait 158 = .ok (.aload_n 0, 1) := by decide +kernel
theorem dX10_trait_159 : decode cX10_trait 159 = .ok (.getfield 145, 3) := by decide +kernel
theorem dX10_trait_162 : decode cX10_trait 162 = .ok (.imul, 1) := by decide +kernel
theorem dX10_trait_163 : decode cX10_trait 163 = .ok (.aload_n 0, 1) := by decide +kernel
theorem dX10_trait_164 : decode cX10_trait 164 = .ok (.getfield 145, 3) := by decide +kernel
theorem dX10_trait_167 : decode cX10_trait 167 = .ok (.iastore, 1) := by decide +kernel
theorem dX10_trait_168 : decode cX10_trait 168 = .ok (.iconst 0, 1) := by decide +kernel
theorem dX10_trait_169 : decode cX10_trait 169 = .ok (.istore 5, 2) := by decide +kernel
theorem dX10_trait_171 : decode cX10_trait 171 = .ok (.iload 5, 2) := by decide +kernel
theorem dX10_trait_173 : decode cX10_trait 173 = .ok (.iload 4, 2) := by decide +kernel
theorem dX10_trait_175 : decode cX10_trait 175 = .ok (.if_icmp .ge 33, 3) := by decide +kernel
theorem dX10_trait_178 : decode cX10_trait 178 = .ok (.aload_n 0, 1) := by decide +kernel
theorem dX10_trait_179 : decode cX10_trait 179 = .ok (.getfield 7, 3) := by decide +kernel
theorem dX10_trait_182 : decode cX10_trait 182 = .ok (.bipush 20, 2) := by decide +kernel
theorem dX10_trait_184 : decode cX10_trait 184 = .ok (.aload_n 0, 1) := by decide +kernel
theorem dX10_trait_185 : decode cX10_trait 185 = .ok (.getfield 145, 3) := by decide +kernel
theorem dX10_trait_188 : decode cX10_trait 188 = .ok (.imul, 1) := by decide +kernel
theorem dX10_trait_189 : decode cX10_trait 189 = .ok (.iconst 1, 1) := by decide +kernel
theorem dX10_trait_190 : decode cX10_trait 190 = .ok (.iadd, 1) := by decide +kernel
theorem dX10_trait_191 : decode cX10_trait 191 = .ok (.iload 5, 2) := by decide +kernel
theorem dX10_trait_193 : decode cX10_trait 193 = .ok (.iadd, 1) := by decide +kernel
theorem dX10_trait_194 : decode cX10_trait 194 = .ok (.aload_n 0, 1) := by decide +kernel
theorem dX10_trait_195 : decode cX10_trait 195 = .ok (.getfield 97, 3) := by decide +kernel
theorem dX10_trait_198 : decode cX10_trait 198 = .ok (.iload 5, 2) := by decide +kernel
theorem dX10_trait_200 : decode cX10_trait 200 = .ok (.iaload, 1) := by decide +kernel
theorem dX10_trait_201 : decode cX10_trait 201 = .ok (.iastore, 1) := by decide +kernel
theorem dX10_trait_202 : decode cX10_trait 202 = .ok (.iinc 5 1, 3) := by decide +kernel
theorem dX10_trait_205 : decode cX10_trait 205 = .ok (.goto (-34), 3) := by decide +kernel
theorem dX10_trait_208 : decode cX10_trait 208 = .ok (.aload_n 0, 1) := by decide +kernel
theorem dX10_trait_209 : decode cX10_trait 209 = .ok (.getfield 13, 3) := by decide +kernel
theorem dX10_trait_212 : decode cX10_trait 212 = .ok (.aload_n 0, 1) := by decide +kernel
theorem dX10_trait_213 : decode cX10_trait 213 = .ok (.getfield 145, 3) := by decide +kernel
theorem dX10_trait_216 : decode cX10_trait 216 = .ok (.iload 4, 2) := by decide +kernel
theorem dX10_trait_218 : decode cX10_trait 218 = .ok (.iconst 1, 1) := by decide +kernel
theorem dX10_trait_219 : decode cX10_trait 219 = .ok (.iadd, 1) := by decide +kernel
theorem dX10_trait_220 : decode cX10_trait 220 = .ok (.iastore, 1) := by decide +kernel
theorem dX10_trait_221 : decode cX10_trait 221 = .ok (.aload_n 0, 1) := by decide +kernel
theorem dX10_trait_222 : decode cX10_trait 222 = .ok (.dup, 1) := by decide +kernel
theorem dX10_trait_223 : decode cX10_trait 223 = .ok (.getfield 145, 3) := by decide +kernel
theorem dX10_trait_226 : decode cX10_trait 226 = .ok (.iconst 1, 1) := by decide +kernel
theorem dX10_trait_227 : decode cX10_trait 227 = .ok (.iadd, 1) := by decide +kernel
theorem dX10_trait_228 : decode cX10_trait 228 = .ok (.putfield 145, 3) := by decide +kernel
theorem dX10_trait_231 : decode cX10_trait 231 = .ok (.aload_n 0, 1) := by decide +kernel
theorem dX10_trait_232 : decode cX10_trait 232 = .ok (.getfield 145, 3) := by decide +kernel
theorem dX10_trait_235 : decode cX10_trait 235 = .ok (.iconst 1, 1) := by decide +kernel
theorem dX10_trait_236 : decode cX10_trait 236 = .ok (.isub, 1) := by decide +kernel
theorem dX10_trait_237 : decode cX10_trait 237 = .ok (.ireturn, 1) := by decide +kernel
set_option maxRecDepth 100000 in
set_option maxHeartbeats 4000000 in
theorem rt_X10_trait (l : Launch) (m0 : Nat) (ad : Nat → Nat) (K : RS) (x0 : Int32) (x1 : Int32) (x2 : Int32) : Ct l yX10_trait cX10_trait 6 (some .int) 3 0 0 70 (fun S av => av = [.ref m0, .int x0, .int x1, .int x2] ∧ mdR S m0 ad K ∧ RV K) (fun S _ r S' => ∃ (v : Int32) (K' : RS), r = some (.int v) ∧ mdR S' m0 ad K' ∧ exm S S' m0 ad ∧ traitR K x0 x1 x2 v K') := by
  refine ct_of (by decide) (fun S av h => by obtain ⟨rfl, hk, rv⟩ := h; exact Nat.le_of_ble_eq_true rfl) ?_
  intro p e s m args below meth c D G bs S av C hr hin hpre
  obtain ⟨rfl, hk, rv⟩ := hpre
  have E0 : exm S S m0 ad := exm_rfl
  refine V.lits (lv' := [some (.ref m0), some (.int x0), some (.int x1), some (.int x2), none, none]) rfl ?_
  refine v_cut (canF K x0 x1 x2 = true) 72 [some (.ref m0), some (.int x0), some (.int x1), some (.int x2), none, none] [] (fun hcan => ?_) (fun k72 => ?_)
  · skip
    refine v_cut True 101 [some (.ref m0), some (.int x0), some (.int x1), some (.int x2), none, none] [.int (nI (npF x0 x1 x2)), .ref m0] (fun _ => ?_) (fun k101 => ?_)
    · skip
      refine w10_155 C hk dX10_trait_101 (fun S6_101 hk' x_101 => ?_)
      have E0 := exm_tr E0 x_101
      have hk := hk'
      clear hk'
      refine v_aload_n C dX10_trait_104 rfl ?_
      refine q10_91 C hk dX10_trait_105 ?_
      refine v_iconst (v := nI 0) C dX10_trait_108 (by decide) ?_
      refine v_iload_n C dX10_trait_109 rfl ?_
      refine n_iast C hk (show (28, 11, 6) ∈ mTab by decide +kernel) (by omega) dX10_trait_110 (fun S6_110 hk' x_110 => ?_)
      have E0 := exm_tr E0 x_110
      have hk := hk'
      clear hk'
      refine v_aload_n C dX10_trait_111 rfl ?_
      refine q10_91 C hk dX10_trait_112 ?_
      refine v_iconst (v := nI 1) C dX10_trait_115 (by decide) ?_
      refine v_iload_n C dX10_trait_116 rfl ?_
      refine n_iast C hk (show (28, 11, 6) ∈ mTab by decide +kernel) (by omega) dX10_trait_117 (fun S6_117 hk' x_117 => ?_)
      have E0 := exm_tr E0 x_117
      have hk := hk'
      clear hk'
      refine v_aload_n C dX10_trait_118 rfl ?_
      refine q10_91 C hk dX10_trait_119 ?_
      refine v_iconst (v := nI 2) C dX10_trait_122 (by decide) ?_
      refine v_iload_n C dX10_trait_123 rfl ?_
      refine n_iast C hk (show (28, 11, 6) ∈ mTab by decide +kernel) (by omega) dX10_trait_124 (fun S6_124 hk' x_124 => ?_)
      have E0 := exm_tr E0 x_124
      have hk := hk'
      clear hk'
      refine v_aload_n C dX10_trait_125 rfl ?_
      have htp := trPre_mk (K := K) (a := x0) (b := x1) (c := x2) (npF_le x0 x1 x2)
      obtain ⟨v1, m1⟩ := tr_MPre rv hcan htp
      generalize hK1 : wA (wA (wA (wF K 29 (nI (npF x0 x1 x2))) 28 0 x0) 28 1 x1) 28 2 x2 = K1 at hk htp v1 m1
      refine v_callV (As := []) (n := 0) C (rt_X10_merge l m0 ad _) rfl hk.1 (by decide) rfl ⟨wd247, wd248, wd249, wd5, wd250⟩ ⟨rfl, hy_X10_merge⟩ rfl ⟨Nat.le_of_ble_eq_true rfl, Nat.le_of_ble_eq_true rfl⟩ (Nat.le_of_ble_eq_true rfl) ⟨Nat.le_of_ble_eq_true rfl, Nat.le_of_ble_eq_true rfl⟩ dX10_trait_126 ⟨rfl, hk, v1, m1⟩ (fun r_126 S6_126 h_126 => ?_)
      obtain ⟨v126, K126, rfl, hk', x_126, p_v126, b_v126⟩ := h_126
      have E0 := exm_tr E0 x_126
      have hk := hk'
      clear hk'
      obtain ⟨q1, q2, q3⟩ := p_v126
      have kk : keep [29] [28, 30, 31] [] [] K K126 := keep_tr (keep_mono htp.2.2.2.2.2 (by decide) (by decide) (by decide) (by decide)) (keep_mono q3 (by decide) (by decide) (by decide) (by decide))
      have f0 : rF K126 0 = nI (fN K 0) := (kk.1 0 (by decide)).trans rv.p1.1
      have f01 : fN K1 0 = fN K 0 := keep_fN htp.2.2.2.2.2 (by decide)
      have zt := rv.p1.2
      rw [f01] at b_v126
      refine v_istore C dX10_trait_129 (by decide) rfl ?_
      refine v_iload C dX10_trait_131 rfl ?_
      refine v_iconst (v := -1) C dX10_trait_133 (by decide) ?_
      refine o_icmp_ne (tgt := 140) C (fun k z => by have := b_v126 k z; omega) dX10_trait_134 (by decide) (fun k134 c_134 => ?_) (fun c_134 => ?_)
      · skip
        have b_k134 := b_v126 k134 c_134
        subst c_134
        obtain ⟨L, hL, hlen⟩ := mapS q1
        refine v_aload_n C dX10_trait_140 rfl ?_
        refine q10_145 C hk dX10_trait_141 ?_
        refine v_val f0 ?_
        refine v_bipush (v := nI 20) C dX10_trait_144 (by decide) ?_
        refine n_icmp_ne (tgt := 152) C (by omega) (by omega) dX10_trait_146 (by decide) (fun c_146 => ?_) (fun c_146 => ?_)
        · skip
          have hT : fN K 0 < 20 := by omega
          obtain ⟨n1, n2⟩ := mgF_some v1 m1 hL
          rw [f01] at n2
          have n3 := nodup_lt _ L n1 n2
          refine v_aload_n C dX10_trait_152 rfl ?_
          refine q10_7 C hk dX10_trait_153 ?_
          refine v_bipush (v := nI 20) C dX10_trait_156 (by decide) ?_
          refine v_aload_n C dX10_trait_158 rfl ?_
          refine q10_145 C hk dX10_trait_159 ?_
          refine v_val f0 ?_
          refine n_imul C dX10_trait_162 ?_
          refine v_aload_n C dX10_trait_163 rfl ?_
          refine q10_145 C hk dX10_trait_164 ?_
          refine v_val f0 ?_
          refine n_iast C hk (show (1, 11, 400) ∈ mTab by decide +kernel) (by omega) dX10_trait_167 (fun S10_167 hk' x_167 => ?_)
          have E0 := exm_tr E0 x_167
          have hk := hk'
          clear hk'
          refine v_iconst (v := nI 0) C dX10_trait_168 (by decide) ?_
          refine v_istore C dX10_trait_169 (by decide) rfl ?_
          refine V.lits (lv' := [_, _, _, _, _, _]) rfl ?_
          refine v_loop (fun (tt : (Nat) × (RS)) lv0 => (lv0.set 5 (some (.int (nI tt.1))))) (fun (S1 : Mem) (tt : (Nat) × (RS)) => mdR S1 m0 ad tt.2 ∧ exm S S1 m0 ad ∧ (tt.1 ≤ k134) ∧ (rF tt.2 0 = nI (fN K 0)) ∧ (rA tt.2 1 (20 * fN K 0) = nI (fN K 0)) ∧ (∀ j, j < tt.1 → ∀ x, L[j]? = some x → rA tt.2 1 (20 * fN K 0 + 1 + j) = nI x) ∧ (∀ j, j < 20 * fN K 0 ∨ 20 * fN K 0 + 20 ≤ j → rA tt.2 1 j = rA K 1 j) ∧ (∀ j x, L[j]? = some x → rA tt.2 31 j = nI x) ∧ (keep [29] [1, 28, 30, 31] [] [] K tt.2)) (fun (S1 : Mem) (tt : (Nat) × (RS)) => k134 - tt.1) (t := (0, (wA K126 1 (20 * fN K 0) (nI (fN K 0))))) rfl ⟨hk, E0, (Nat.zero_le _), f0, (by rw [rA_wA, if_pos ⟨rfl, rfl⟩]), (fun j h => absurd h (Nat.not_lt_zero j)), (fun j hj => by rw [rA_wA, if_neg (fun z => by omega)]; exact kk.2.1 1 (by decide) j), (fun j x hx => by rw [rA_wA, if_neg (fun z => absurd z.1 (by decide))]; exact q2 L hL j x hx), (keep_wA (keep_mono kk (by decide) (by decide) (by decide) (by decide)) (by decide))⟩ ?_
          intro L171 tt h_171 ih_171
          obtain ⟨i, KA⟩ := tt
          obtain ⟨hk, E0, hi, h0, h1, h2, h3, h31, kA⟩ := h_171
          try dsimp only at *
          refine v_iload C dX10_trait_171 rfl ?_
          refine v_iload C dX10_trait_173 rfl ?_
          refine n_icmp_ge (tgt := 208) C (by omega) (by omega) dX10_trait_175 (by decide) (fun c_175 => ?_) (fun c_175 => ?_)
          · skip
            refine v_aload_n C dX10_trait_208 rfl ?_
            refine q10_13 C hk dX10_trait_209 ?_
            refine v_aload_n C dX10_trait_212 rfl ?_
            refine q10_145 C hk dX10_trait_213 ?_
            refine v_val h0 ?_
            refine v_iload C dX10_trait_216 rfl ?_
            refine v_iconst (v := nI 1) C dX10_trait_218 (by decide) ?_
            refine n_iadd C dX10_trait_219 ?_
            refine n_iast C hk (show (2, 11, 20) ∈ mTab by decide +kernel) (by omega) dX10_trait_220 (fun S2_220 hk' x_220 => ?_)
            have E0 := exm_tr E0 x_220
            have hk := hk'
            clear hk'
            refine v_aload_n C dX10_trait_221 rfl ?_
            refine v_dup C dX10_trait_222 rfl ?_
            refine q10_145 C hk dX10_trait_223 ?_
            refine v_val h0 ?_
            refine v_iconst (v := nI 1) C dX10_trait_226 (by decide) ?_
            refine n_iadd C dX10_trait_227 ?_
            refine w10_145 C hk dX10_trait_228 (fun S2_228 hk' x_228 => ?_)
            have E0 := exm_tr E0 x_228
            have hk := hk'
            clear hk'
            refine v_aload_n C dX10_trait_231 rfl ?_
            refine q10_145 C hk dX10_trait_232 ?_
            refine v_val (show rF (wF (wA KA 2 (fN K 0) (nI (k134 + 1))) 0 (nI (fN K 0 + 1))) 0 = nI (fN K 0 + 1) by rw [rF_wF, if_pos rfl]) ?_
            refine v_iconst (v := nI 1) C dX10_trait_235 (by decide) ?_
            refine n_isub C (by omega) dX10_trait_236 ?_
            refine v_iret C hr (Nat.le_of_ble_eq_true rfl) (Nat.le_of_ble_eq_true rfl) dX10_trait_237 ?_
            exact ⟨_, _, rfl, hk, E0, (Or.inr ⟨hcan, K1, htp, Or.inr ⟨L, hL, Or.inr ⟨hT, rfl, by rw [rF_wF, if_pos rfl], by rw [rA_wF, rA_wA, if_neg (fun z => absurd z.1 (by decide))]; exact h1, fun j x hx => by rw [rA_wF, rA_wA, if_neg (fun z => absurd z.1 (by decide))]; exact h2 j (by have := (List.getElem?_eq_some_iff.mp hx).1; omega) x hx, by rw [rA_wF, rA_wA, if_pos ⟨rfl, rfl⟩, hlen], fun j hj => by rw [rA_wF, rA_wA, if_neg (fun z => absurd z.1 (by decide))]; exact h3 j hj, fun t ht => by rw [rA_wF, rA_wA, if_neg (fun z => ht z.2)]; exact kA.2.1 2 (by decide) t, keep_wF (keep_wA (keep_mono kA (by decide) (by decide) (by decide) (by decide)) (by decide)) (by decide)⟩⟩⟩)⟩
          · skip
            refine v_aload_n C dX10_trait_178 rfl ?_
            refine q10_7 C hk dX10_trait_179 ?_
            refine v_bipush (v := nI 20) C dX10_trait_182 (by decide) ?_
            refine v_aload_n C dX10_trait_184 rfl ?_
            refine q10_145 C hk dX10_trait_185 ?_
            refine v_val h0 ?_
            refine n_imul C dX10_trait_188 ?_
            refine v_iconst (v := nI 1) C dX10_trait_189 (by decide) ?_
            refine n_iadd C dX10_trait_190 ?_
            refine v_iload C dX10_trait_191 rfl ?_
            refine n_iadd C dX10_trait_193 ?_
            refine v_aload_n C dX10_trait_194 rfl ?_
            refine q10_97 C hk dX10_trait_195 ?_
            refine v_iload C dX10_trait_198 rfl ?_
            refine n_iald C hk (show (31, 11, 20) ∈ mTab by decide +kernel) (by omega) dX10_trait_200 ?_
            refine n_iast C hk (show (1, 11, 400) ∈ mTab by decide +kernel) (by omega) dX10_trait_201 (fun S2_201 hk' x_201 => ?_)
            have E0 := exm_tr E0 x_201
            have hk := hk'
            clear hk'
            refine v_iinc C dX10_trait_202 rfl (nI_inc _) (by decide) rfl ?_
            refine v_goto (tgt := 171) C dX10_trait_205 (by decide) ?_
            refine V.lits (lv' := [_, _, _, _, _, _]) rfl ?_
            have h2' : ∀ j, j < i + 1 → ∀ x, L[j]? = some x → rA (wA KA 1 (20 * fN K 0 + 1 + i) (rA KA 31 i)) 1 (20 * fN K 0 + 1 + j) = nI x := by
              intro j hj x hx
              rw [rA_wA]
              by_cases hz : j = i
              · rw [if_pos ⟨rfl, by omega⟩]; subst hz; exact h31 _ x hx
              · rw [if_neg (fun z => hz (by omega))]; exact h2 j (by omega) x hx
            exact ih_171 _ ((i + 1), (wA KA 1 (20 * fN K 0 + 1 + i) (rA KA 31 i))) (by first | omega | (dsimp only; omega)) ⟨hk, E0, (by omega), h0, (by rw [rA_wA, if_neg (fun z => by omega)]; exact h1), h2', (fun j hj => by rw [rA_wA, if_neg (fun z => by omega)]; exact h3 j hj), (fun j x hx => by rw [rA_wA, if_neg (fun z => absurd z.1 (by decide))]; exact h31 j x hx), (keep_wA kA (by decide))⟩
        · skip
          refine v_bipush (v := -4) C dX10_trait_149 (by decide) ?_
          refine v_iret C hr (Nat.le_of_ble_eq_true rfl) (Nat.le_of_ble_eq_true rfl) dX10_trait_151 ?_
          exact ⟨_, _, rfl, hk, E0, (Or.inr ⟨hcan, K1, htp, Or.inr ⟨L, hL, Or.inl ⟨c_146, rfl, kk⟩⟩⟩)⟩
      · skip
        subst c_134
        have hm := mapN q1
        refine v_bipush (v := -3) C dX10_trait_137 (by decide) ?_
        refine v_iret C hr (Nat.le_of_ble_eq_true rfl) (Nat.le_of_ble_eq_true rfl) dX10_trait_139 ?_
        exact ⟨_, _, rfl, hk, E0, (Or.inr ⟨hcan, K1, htp, Or.inl ⟨hm, rfl, kk⟩⟩)⟩
    · skip
      refine v_aload_n C dX10_trait_72 rfl ?_
      refine v_iload_n C dX10_trait_73 rfl ?_
      refine v_iconst (v := -1) C dX10_trait_74 (by decide) ?_
      refine v_icmp_ne (tgt := 82) C dX10_trait_75 (by decide) (fun c_75 => ?_) (fun c_75 => ?_)
      · skip
        refine v_iload_n C dX10_trait_82 rfl ?_
        refine v_iconst (v := -1) C dX10_trait_83 (by decide) ?_
        refine v_icmp_ne (tgt := 91) C dX10_trait_84 (by decide) (fun c_84 => ?_) (fun c_84 => ?_)
        · skip
          refine v_iload_n C dX10_trait_91 rfl ?_
          refine v_iconst (v := -1) C dX10_trait_92 (by decide) ?_
          refine v_icmp_ne (tgt := 100) C dX10_trait_93 (by decide) (fun c_93 => ?_) (fun c_93 => ?_)
          · skip
            refine v_iconst (v := nI 3) C dX10_trait_100 (by decide) ?_
            refine v_val (y := nI (npF x0 x1 x2)) (by simp [npF, c_75, c_84, c_93]) ?_
            exact k101 trivial
          · skip
            refine v_iconst (v := nI 2) C dX10_trait_96 (by decide) ?_
            refine v_goto (tgt := 101) C dX10_trait_97 (by decide) ?_
            refine v_val (y := nI (npF x0 x1 x2)) (by simp [npF, c_75, c_84, c_93]) ?_
            exact k101 trivial
        · skip
          refine v_iconst (v := nI 1) C dX10_trait_87 (by decide) ?_
          refine v_goto (tgt := 101) C dX10_trait_88 (by decide) ?_
          refine v_val (y := nI (npF x0 x1 x2)) (by simp [npF, c_75, c_84]) ?_
          exact k101 trivial
      · skip
        refine v_iconst (v := nI 0) C dX10_trait_78 (by decide) ?_
        refine v_goto (tgt := 101) C dX10_trait_79 (by decide) ?_
        refine v_val (y := nI (npF x0 x1 x2)) (by simp [npF, c_75]) ?_
        exact k101 trivial
  · skip
    refine v_aload_n C dX10_trait_0 rfl ?_
    refine v_iload_n C dX10_trait_1 rfl ?_
    refine v_callV (As := [_]) (n := 1) C (rt_X10_mayBeUnder l m0 ad _ _) rfl hk.1 (by decide) rfl ⟨wd236, wd237, wd238, wd5, wd239⟩ ⟨rfl, hy_X10_mayBeUnder⟩ rfl ⟨Nat.le_of_ble_eq_true rfl, Nat.le_of_ble_eq_true rfl⟩ (Nat.le_of_ble_eq_true rfl) ⟨Nat.le_of_ble_eq_true rfl, Nat.le_of_ble_eq_true rfl⟩ dX10_trait_2 ⟨rfl, hk, rv⟩ (fun r_2 S4_2 h_2 => ?_)
    obtain ⟨v2, rfl, p_v2, q_v2⟩ := h_2
    obtain rfl := q_v2.symm
    refine b_if_eq (tgt := 69) C dX10_trait_5 (by decide) (fun c_5 => ?_) (fun c_5 => ?_)
    · skip
      refine v_bipush (v := -2) C dX10_trait_69 (by decide) ?_
      refine v_iret C hr (Nat.le_of_ble_eq_true rfl) (Nat.le_of_ble_eq_true rfl) dX10_trait_71 ?_
      exact ⟨_, _, rfl, hk, E0, (Or.inl ⟨by first | contradiction | (simp only [canF, ← p_v2, c_5]; rfl), rfl, rfl⟩)⟩
    · skip
      refine v_aload_n C dX10_trait_8 rfl ?_
      refine v_iload_n C dX10_trait_9 rfl ?_
      refine v_callV (As := [_]) (n := 1) C (rt_X10_mayBeUnder l m0 ad _ _) rfl hk.1 (by decide) rfl ⟨wd236, wd237, wd238, wd5, wd239⟩ ⟨rfl, hy_X10_mayBeUnder⟩ rfl ⟨Nat.le_of_ble_eq_true rfl, Nat.le_of_ble_eq_true rfl⟩ (Nat.le_of_ble_eq_true rfl) ⟨Nat.le_of_ble_eq_true rfl, Nat.le_of_ble_eq_true rfl⟩ dX10_trait_10 ⟨rfl, hk, rv⟩ (fun r_10 S6_10 h_10 => ?_)
      obtain ⟨v10, rfl, p_v10, q_v10⟩ := h_10
      obtain rfl := q_v10.symm
      refine b_if_eq (tgt := 69) C dX10_trait_13 (by decide) (fun c_13 => ?_) (fun c_13 => ?_)
      · skip
        refine v_bipush (v := -2) C dX10_trait_69 (by decide) ?_
        refine v_iret C hr (Nat.le_of_ble_eq_true rfl) (Nat.le_of_ble_eq_true rfl) dX10_trait_71 ?_
        exact ⟨_, _, rfl, hk, E0, (Or.inl ⟨by first | contradiction | (simp only [canF, ← p_v2, c_5, ← p_v10, c_13]; rfl), rfl, rfl⟩)⟩
      · skip
        refine v_aload_n C dX10_trait_16 rfl ?_
        refine v_iload_n C dX10_trait_17 rfl ?_
        refine v_callV (As := [_]) (n := 1) C (rt_X10_mayBeUnder l m0 ad _ _) rfl hk.1 (by decide) rfl ⟨wd236, wd237, wd238, wd5, wd239⟩ ⟨rfl, hy_X10_mayBeUnder⟩ rfl ⟨Nat.le_of_ble_eq_true rfl, Nat.le_of_ble_eq_true rfl⟩ (Nat.le_of_ble_eq_true rfl) ⟨Nat.le_of_ble_eq_true rfl, Nat.le_of_ble_eq_true rfl⟩ dX10_trait_18 ⟨rfl, hk, rv⟩ (fun r_18 S8_18 h_18 => ?_)
        obtain ⟨v18, rfl, p_v18, q_v18⟩ := h_18
        obtain rfl := q_v18.symm
        refine b_if_eq (tgt := 69) C dX10_trait_21 (by decide) (fun c_21 => ?_) (fun c_21 => ?_)
        · skip
          refine v_bipush (v := -2) C dX10_trait_69 (by decide) ?_
          refine v_iret C hr (Nat.le_of_ble_eq_true rfl) (Nat.le_of_ble_eq_true rfl) dX10_trait_71 ?_
          exact ⟨_, _, rfl, hk, E0, (Or.inl ⟨by first | contradiction | (simp only [canF, ← p_v2, c_5, ← p_v10, c_13, ← p_v18, c_21]; rfl), rfl, rfl⟩)⟩
        · skip
          refine v_iload_n C dX10_trait_24 rfl ?_
          refine v_iconst (v := -1) C dX10_trait_25 (by decide) ?_
          refine v_icmp_ne (tgt := 34) C dX10_trait_26 (by decide) (fun c_26 => ?_) (fun c_26 => ?_)
          · skip
            have d_26 := decide_eq_false c_26
            refine v_iload_n C dX10_trait_34 rfl ?_
            refine v_iconst (v := -1) C dX10_trait_35 (by decide) ?_
            refine v_icmp_ne (tgt := 44) C dX10_trait_36 (by decide) (fun c_36 => ?_) (fun c_36 => ?_)
            · skip
              have d_36 := decide_eq_false c_36
              refine v_iload_n C dX10_trait_44 rfl ?_
              refine v_iconst (v := -1) C dX10_trait_45 (by decide) ?_
              refine v_icmp_eq (tgt := 59) C dX10_trait_46 (by decide) (fun c_46 => ?_) (fun c_46 => ?_)
              · skip
                have d_46 := decide_eq_true c_46
                refine v_iload_n C dX10_trait_59 rfl ?_
                refine v_iconst (v := -1) C dX10_trait_60 (by decide) ?_
                refine v_icmp_eq (tgt := 72) C dX10_trait_61 (by decide) (fun c_61 => ?_) (fun c_61 => ?_)
                · skip
                  have d_61 := decide_eq_true c_61
                  exact k72 (by first | contradiction | (simp only [canF, ← p_v2, c_5, ← p_v10, c_13, ← p_v18, c_21, d_26, d_36, d_46, d_61]; rfl))
                · skip
                  have d_61 := decide_eq_false c_61
                  refine v_iload_n C dX10_trait_64 rfl ?_
                  refine v_iload_n C dX10_trait_65 rfl ?_
                  refine v_icmp_ne (tgt := 72) C dX10_trait_66 (by decide) (fun c_66 => ?_) (fun c_66 => ?_)
                  · skip
                    have d_66 := decide_eq_false c_66
                    exact k72 (by first | contradiction | (simp only [canF, ← p_v2, c_5, ← p_v10, c_13, ← p_v18, c_21, d_26, d_36, d_46, d_61, d_66]; rfl))
                  · skip
                    have d_66 := decide_eq_true c_66
                    refine v_bipush (v := -2) C dX10_trait_69 (by decide) ?_
                    refine v_iret C hr (Nat.le_of_ble_eq_true rfl) (Nat.le_of_ble_eq_true rfl) dX10_trait_71 ?_
                    exact ⟨_, _, rfl, hk, E0, (Or.inl ⟨by first | contradiction | (simp only [canF, ← p_v2, c_5, ← p_v10, c_13, ← p_v18, c_21, d_26, d_36, d_46, d_61, d_66]; rfl), rfl, rfl⟩)⟩
              · skip
                have d_46 := decide_eq_false c_46
                refine v_iload_n C dX10_trait_49 rfl ?_
                refine v_iload_n C dX10_trait_50 rfl ?_
                refine v_icmp_eq (tgt := 69) C dX10_trait_51 (by decide) (fun c_51 => ?_) (fun c_51 => ?_)
                · skip
                  have d_51 := decide_eq_true c_51
                  refine v_bipush (v := -2) C dX10_trait_69 (by decide) ?_
                  refine v_iret C hr (Nat.le_of_ble_eq_true rfl) (Nat.le_of_ble_eq_true rfl) dX10_trait_71 ?_
                  exact ⟨_, _, rfl, hk, E0, (Or.inl ⟨by first | contradiction | (simp only [canF, ← p_v2, c_5, ← p_v10, c_13, ← p_v18, c_21, d_26, d_36, d_46, d_51]; rfl), rfl, rfl⟩)⟩
                · skip
                  have d_51 := decide_eq_false c_51
                  refine v_iload_n C dX10_trait_54 rfl ?_
                  refine v_iload_n C dX10_trait_55 rfl ?_
                  refine v_icmp_eq (tgt := 69) C dX10_trait_56 (by decide) (fun c_56 => ?_) (fun c_56 => ?_)
                  · skip
                    have d_56 := decide_eq_true c_56
                    refine v_bipush (v := -2) C dX10_trait_69 (by decide) ?_
                    refine v_iret C hr (Nat.le_of_ble_eq_true rfl) (Nat.le_of_ble_eq_true rfl) dX10_trait_71 ?_
                    exact ⟨_, _, rfl, hk, E0, (Or.inl ⟨by first | contradiction | (simp only [canF, ← p_v2, c_5, ← p_v10, c_13, ← p_v18, c_21, d_26, d_36, d_46, d_51, d_56]; rfl), rfl, rfl⟩)⟩
                  · skip
                    have d_56 := decide_eq_false c_56
                    refine v_iload_n C dX10_trait_59 rfl ?_
                    refine v_iconst (v := -1) C dX10_trait_60 (by decide) ?_
                    refine v_icmp_eq (tgt := 72) C dX10_trait_61 (by decide) (fun c_61 => ?_) (fun c_61 => ?_)
                    · skip
                      have d_61 := decide_eq_true c_61
                      exact k72 (by first | contradiction | (simp only [canF, ← p_v2, c_5, ← p_v10, c_13, ← p_v18, c_21, d_26, d_36, d_46, d_51, d_56, d_61]; rfl))
                    · skip
                      have d_61 := decide_eq_false c_61
                      refine v_iload_n C dX10_trait_64 rfl ?_
                      refine v_iload_n C dX10_trait_65 rfl ?_
                      refine v_icmp_ne (tgt := 72) C dX10_trait_66 (by decide) (fun c_66 => ?_) (fun c_66 => ?_)
                      · skip
                        have d_66 := decide_eq_false c_66
                        exact k72 (by first | contradiction | (simp only [canF, ← p_v2, c_5, ← p_v10, c_13, ← p_v18, c_21, d_26, d_36, d_46, d_51, d_56, d_61, d_66]; rfl))
                      · skip
                        have d_66 := decide_eq_true c_66
                        refine v_bipush (v := -2) C dX10_trait_69 (by decide) ?_
                        refine v_iret C hr (Nat.le_of_ble_eq_true rfl) (Nat.le_of_ble_eq_true rfl) dX10_trait_71 ?_
                        exact ⟨_, _, rfl, hk, E0, (Or.inl ⟨by first | contradiction | (simp only [canF, ← p_v2, c_5, ← p_v10, c_13, ← p_v18, c_21, d_26, d_36, d_46, d_51, d_56, d_61, d_66]; rfl), rfl, rfl⟩)⟩
            · skip
              have d_36 := decide_eq_true c_36
              refine v_iload_n C dX10_trait_39 rfl ?_
              refine v_iconst (v := -1) C dX10_trait_40 (by decide) ?_
              refine v_icmp_ne (tgt := 69) C dX10_trait_41 (by decide) (fun c_41 => ?_) (fun c_41 => ?_)
              · skip
                have d_41 := decide_eq_false c_41
                refine v_bipush (v := -2) C dX10_trait_69 (by decide) ?_
                refine v_iret C hr (Nat.le_of_ble_eq_true rfl) (Nat.le_of_ble_eq_true rfl) dX10_trait_71 ?_
                exact ⟨_, _, rfl, hk, E0, (Or.inl ⟨by first | contradiction | (simp only [canF, ← p_v2, c_5, ← p_v10, c_13, ← p_v18, c_21, d_26, d_36, d_41]; rfl), rfl, rfl⟩)⟩
              · skip
                have d_41 := decide_eq_true c_41
                refine v_iload_n C dX10_trait_44 rfl ?_
                refine v_iconst (v := -1) C dX10_trait_45 (by decide) ?_
                refine v_icmp_eq (tgt := 59) C dX10_trait_46 (by decide) (fun c_46 => ?_) (fun c_46 => ?_)
                · skip
                  have d_46 := decide_eq_true c_46
                  refine v_iload_n C dX10_trait_59 rfl ?_
                  refine v_iconst (v := -1) C dX10_trait_60 (by decide) ?_
                  refine v_icmp_eq (tgt := 72) C dX10_trait_61 (by decide) (fun c_61 => ?_) (fun c_61 => ?_)
                  · skip
                    have d_61 := decide_eq_true c_61
                    exact k72 (by first | contradiction | (simp only [canF, ← p_v2, c_5, ← p_v10, c_13, ← p_v18, c_21, d_26, d_36, d_41, d_46, d_61]; rfl))
                  · skip
                    have d_61 := decide_eq_false c_61
                    refine v_iload_n C dX10_trait_64 rfl ?_
                    refine v_iload_n C dX10_trait_65 rfl ?_
                    refine v_icmp_ne (tgt := 72) C dX10_trait_66 (by decide) (fun c_66 => ?_) (fun c_66 => ?_)
                    · skip
                      have d_66 := decide_eq_false c_66
                      exact k72 (by first | contradiction | (simp only [canF, ← p_v2, c_5, ← p_v10, c_13, ← p_v18, c_21, d_26, d_36, d_41, d_46, d_61, d_66]; rfl))
                    · skip
                      have d_66 := decide_eq_true c_66
                      refine v_bipush (v := -2) C dX10_trait_69 (by decide) ?_
                      refine v_iret C hr (Nat.le_of_ble_eq_true rfl) (Nat.le_of_ble_eq_true rfl) dX10_trait_71 ?_
                      exact ⟨_, _, rfl, hk, E0, (Or.inl ⟨by first | contradiction | (simp only [canF, ← p_v2, c_5, ← p_v10, c_13, ← p_v18, c_21, d_26, d_36, d_41, d_46, d_61, d_66]; rfl), rfl, rfl⟩)⟩
                · skip
                  have d_46 := decide_eq_false c_46
                  refine v_iload_n C dX10_trait_49 rfl ?_
                  refine v_iload_n C dX10_trait_50 rfl ?_
                  refine v_icmp_eq (tgt := 69) C dX10_trait_51 (by decide) (fun c_51 => ?_) (fun c_51 => ?_)
                  · skip
                    have d_51 := decide_eq_true c_51
                    refine v_bipush (v := -2) C dX10_trait_69 (by decide) ?_
                    refine v_iret C hr (Nat.le_of_ble_eq_true rfl) (Nat.le_of_ble_eq_true rfl) dX10_trait_71 ?_
                    exact ⟨_, _, rfl, hk, E0, (Or.inl ⟨by first | contradiction | (simp only [canF, ← p_v2, c_5, ← p_v10, c_13, ← p_v18, c_21, d_26, d_36, d_41, d_46, d_51]; rfl), rfl, rfl⟩)⟩
                  · skip
                    have d_51 := decide_eq_false c_51
                    refine v_iload_n C dX10_trait_54 rfl ?_
                    refine v_iload_n C dX10_trait_55 rfl ?_
                    refine v_icmp_eq (tgt := 69) C dX10_trait_56 (by decide) (fun c_56 => ?_) (fun c_56 => ?_)
                    · skip
                      have d_56 := decide_eq_true c_56
                      refine v_bipush (v := -2) C dX10_trait_69 (by decide) ?_
                      refine v_iret C hr (Nat.le_of_ble_eq_true rfl) (Nat.le_of_ble_eq_true rfl) dX10_trait_71 ?_
                      exact ⟨_, _, rfl, hk, E0, (Or.inl ⟨by first | contradiction | (simp only [canF, ← p_v2, c_5, ← p_v10, c_13, ← p_v18, c_21, d_26, d_36, d_41, d_46, d_51, d_56]; rfl), rfl, rfl⟩)⟩
                    · skip
                      have d_56 := decide_eq_false c_56
                      refine v_iload_n C dX10_trait_59 rfl ?_
                      refine v_iconst (v := -1) C dX10_trait_60 (by decide) ?_
                      refine v_icmp_eq (tgt := 72) C dX10_trait_61 (by decide) (fun c_61 => ?_) (fun c_61 => ?_)
                      · skip
                        have d_61 := decide_eq_true c_61
                        exact k72 (by first | contradiction | (simp only [canF, ← p_v2, c_5, ← p_v10, c_13, ← p_v18, c_21, d_26, d_36, d_41, d_46, d_51, d_56, d_61]; rfl))
                      · skip
                        have d_61 := decide_eq_false c_61
                        refine v_iload_n C dX10_trait_64 rfl ?_
                        refine v_iload_n C dX10_trait_65 rfl ?_
                        refine v_icmp_ne (tgt := 72) C dX10_trait_66 (by decide) (fun c_66 => ?_) (fun c_66 => ?_)
                        · skip
                          have d_66 := decide_eq_false c_66
                          exact k72 (by first | contradiction | (simp only [canF, ← p_v2, c_5, ← p_v10, c_13, ← p_v18, c_21, d_26, d_36, d_41, d_46, d_51, d_56, d_61, d_66]; rfl))
                        · skip
                          have d_66 := decide_eq_true c_66
                          refine v_bipush (v := -2) C dX10_trait_69 (by decide) ?_
                          refine v_iret C hr (Nat.le_of_ble_eq_true rfl) (Nat.le_of_ble_eq_true rfl) dX10_trait_71 ?_
                          exact ⟨_, _, rfl, hk, E0, (Or.inl ⟨by first | contradiction | (simp only [canF, ← p_v2, c_5, ← p_v10, c_13, ← p_v18, c_21, d_26, d_36, d_41, d_46, d_51, d_56, d_61, d_66]; rfl), rfl, rfl⟩)⟩
          · skip
            have d_26 := decide_eq_true c_26
            refine v_iload_n C dX10_trait_29 rfl ?_
            refine v_iconst (v := -1) C dX10_trait_30 (by decide) ?_
            refine v_icmp_ne (tgt := 69) C dX10_trait_31 (by decide) (fun c_31 => ?_) (fun c_31 => ?_)
            · skip
              have d_31 := decide_eq_false c_31
              refine v_bipush (v := -2) C dX10_trait_69 (by decide) ?_
              refine v_iret C hr (Nat.le_of_ble_eq_true rfl) (Nat.le_of_ble_eq_true rfl) dX10_trait_71 ?_
              exact ⟨_, _, rfl, hk, E0, (Or.inl ⟨by first | contradiction | (simp only [canF, ← p_v2, c_5, ← p_v10, c_13, ← p_v18, c_21, d_26, d_31]; rfl), rfl, rfl⟩)⟩
            · skip
              have d_31 := decide_eq_true c_31
              refine v_iload_n C dX10_trait_34 rfl ?_
              refine v_iconst (v := -1) C dX10_trait_35 (by decide) ?_
              refine v_icmp_ne (tgt := 44) C dX10_trait_36 (by decide) (fun c_36 => ?_) (fun c_36 => ?_)
              · skip
                have d_36 := decide_eq_false c_36
                refine v_iload_n C dX10_trait_44 rfl ?_
                refine v_iconst (v := -1) C dX10_trait_45 (by decide) ?_
                refine v_icmp_eq (tgt := 59) C dX10_trait_46 (by decide) (fun c_46 => ?_) (fun c_46 => ?_)
                · skip
                  have d_46 := decide_eq_true c_46
                  refine v_iload_n C dX10_trait_59 rfl ?_
                  refine v_iconst (v := -1) C dX10_trait_60 (by decide) ?_
                  refine v_icmp_eq (tgt := 72) C dX10_trait_61 (by decide) (fun c_61 => ?_) (fun c_61 => ?_)
                  · skip
                    have d_61 := decide_eq_true c_61
                    exact k72 (by first | contradiction | (simp only [canF, ← p_v2, c_5, ← p_v10, c_13, ← p_v18, c_21, d_26, d_31, d_36, d_46, d_61]; rfl))
                  · skip
                    have d_61 := decide_eq_false c_61
                    refine v_iload_n C dX10_trait_64 rfl ?_
                    refine v_iload_n C dX10_trait_65 rfl ?_
                    refine v_icmp_ne (tgt := 72) C dX10_trait_66 (by decide) (fun c_66 => ?_) (fun c_66 => ?_)
                    · skip
                      have d_66 := decide_eq_false c_66
                      exact k72 (by first | contradiction | (simp only [canF, ← p_v2, c_5, ← p_v10, c_13, ← p_v18, c_21, d_26, d_31, d_36, d_46, d_61, d_66]; rfl))
                    · skip
                      have d_66 := decide_eq_true c_66
                      refine v_bipush (v := -2) C dX10_trait_69 (by decide) ?_
                      refine v_iret C hr (Nat.le_of_ble_eq_true rfl) (Nat.le_of_ble_eq_true rfl) dX10_trait_71 ?_
                      exact ⟨_, _, rfl, hk, E0, (Or.inl ⟨by first | contradiction | (simp only [canF, ← p_v2, c_5, ← p_v10, c_13, ← p_v18, c_21, d_26, d_31, d_36, d_46, d_61, d_66]; rfl), rfl, rfl⟩)⟩
                · skip
                  have d_46 := decide_eq_false c_46
                  refine v_iload_n C dX10_trait_49 rfl ?_
                  refine v_iload_n C dX10_trait_50 rfl ?_
                  refine v_icmp_eq (tgt := 69) C dX10_trait_51 (by decide) (fun c_51 => ?_) (fun c_51 => ?_)
                  · skip
                    have d_51 := decide_eq_true c_51
                    refine v_bipush (v := -2) C dX10_trait_69 (by decide) ?_
                    refine v_iret C hr (Nat.le_of_ble_eq_true rfl) (Nat.le_of_ble_eq_true rfl) dX10_trait_71 ?_
                    exact ⟨_, _, rfl, hk, E0, (Or.inl ⟨by first | contradiction | (simp only [canF, ← p_v2, c_5, ← p_v10, c_13, ← p_v18, c_21, d_26, d_31, d_36, d_46, d_51]; rfl), rfl, rfl⟩)⟩
                  · skip
                    have d_51 := decide_eq_false c_51
                    refine v_iload_n C dX10_trait_54 rfl ?_
                    refine v_iload_n C dX10_trait_55 rfl ?_
                    refine v_icmp_eq (tgt := 69) C dX10_trait_56 (by decide) (fun c_56 => ?_) (fun c_56 => ?_)
                    · skip
                      have d_56 := decide_eq_true c_56
                      refine v_bipush (v := -2) C dX10_trait_69 (by decide) ?_
                      refine v_iret C hr (Nat.le_of_ble_eq_true rfl) (Nat.le_of_ble_eq_true rfl) dX10_trait_71 ?_
                      exact ⟨_, _, rfl, hk, E0, (Or.inl ⟨by first | contradiction | (simp only [canF, ← p_v2, c_5, ← p_v10, c_13, ← p_v18, c_21, d_26, d_31, d_36, d_46, d_51, d_56]; rfl), rfl, rfl⟩)⟩
                    · skip
                      have d_56 := decide_eq_false c_56
                      refine v_iload_n C dX10_trait_59 rfl ?_
                      refine v_iconst (v := -1) C dX10_trait_60 (by decide) ?_
                      refine v_icmp_eq (tgt := 72) C dX10_trait_61 (by decide) (fun c_61 => ?_) (fun c_61 => ?_)
                      · skip
                        have d_61 := decide_eq_true c_61
                        exact k72 (by first | contradiction | (simp only [canF, ← p_v2, c_5, ← p_v10, c_13, ← p_v18, c_21, d_26, d_31, d_36, d_46, d_51, d_56, d_61]; rfl))
                      · skip
                        have d_61 := decide_eq_false c_61
                        refine v_iload_n C dX10_trait_64 rfl ?_
                        refine v_iload_n C dX10_trait_65 rfl ?_
                        refine v_icmp_ne (tgt := 72) C dX10_trait_66 (by decide) (fun c_66 => ?_) (fun c_66 => ?_)
                        · skip
                          have d_66 := decide_eq_false c_66
                          exact k72 (by first | contradiction | (simp only [canF, ← p_v2, c_5, ← p_v10, c_13, ← p_v18, c_21, d_26, d_31, d_36, d_46, d_51, d_56, d_61, d_66]; rfl))
                        · skip
                          have d_66 := decide_eq_true c_66
                          refine v_bipush (v := -2) C dX10_trait_69 (by decide) ?_
                          refine v_iret C hr (Nat.le_of_ble_eq_true rfl) (Nat.le_of_ble_eq_true rfl) dX10_trait_71 ?_
                          exact ⟨_, _, rfl, hk, E0, (Or.inl ⟨by first | contradiction | (simp only [canF, ← p_v2, c_5, ← p_v10, c_13, ← p_v18, c_21, d_26, d_31, d_36, d_46, d_51, d_56, d_61, d_66]; rfl), rfl, rfl⟩)⟩
              · skip
                have d_36 := decide_eq_true c_36
                refine v_iload_n C dX10_trait_39 rfl ?_
                refine v_iconst (v := -1) C dX10_trait_40 (by decide) ?_
                refine v_icmp_ne (tgt := 69) C dX10_trait_41 (by decide) (fun c_41 => ?_) (fun c_41 => ?_)
                · skip
                  have d_41 := decide_eq_false c_41
                  refine v_bipush (v := -2) C dX10_trait_69 (by decide) ?_
                  refine v_iret C hr (Nat.le_of_ble_eq_true rfl) (Nat.le_of_ble_eq_true rfl) dX10_trait_71 ?_
                  exact ⟨_, _, rfl, hk, E0, (Or.inl ⟨by first | contradiction | (simp only [canF, ← p_v2, c_5, ← p_v10, c_13, ← p_v18, c_21, d_26, d_31, d_36, d_41]; rfl), rfl, rfl⟩)⟩
                · skip
                  have d_41 := decide_eq_true c_41
                  refine v_iload_n C dX10_trait_44 rfl ?_
                  refine v_iconst (v := -1) C dX10_trait_45 (by decide) ?_
                  refine v_icmp_eq (tgt := 59) C dX10_trait_46 (by decide) (fun c_46 => ?_) (fun c_46 => ?_)
                  · skip
                    have d_46 := decide_eq_true c_46
                    refine v_iload_n C dX10_trait_59 rfl ?_
                    refine v_iconst (v := -1) C dX10_trait_60 (by decide) ?_
                    refine v_icmp_eq (tgt := 72) C dX10_trait_61 (by decide) (fun c_61 => ?_) (fun c_61 => ?_)
                    · skip
                      have d_61 := decide_eq_true c_61
                      exact k72 (by first | contradiction | (simp only [canF, ← p_v2, c_5, ← p_v10, c_13, ← p_v18, c_21, d_26, d_31, d_36, d_41, d_46, d_61]; rfl))
                    · skip
                      have d_61 := decide_eq_false c_61
                      refine v_iload_n C dX10_trait_64 rfl ?_
                      refine v_iload_n C dX10_trait_65 rfl ?_
                      refine v_icmp_ne (tgt := 72) C dX10_trait_66 (by decide) (fun c_66 => ?_) (fun c_66 => ?_)
                      · skip
                        have d_66 := decide_eq_false c_66
                        exact k72 (by first | contradiction | (simp only [canF, ← p_v2, c_5, ← p_v10, c_13, ← p_v18, c_21, d_26, d_31, d_36, d_41, d_46, d_61, d_66]; rfl))
                      · skip
                        have d_66 := decide_eq_true c_66
                        refine v_bipush (v := -2) C dX10_trait_69 (by decide) ?_
                        refine v_iret C hr (Nat.le_of_ble_eq_true rfl) (Nat.le_of_ble_eq_true rfl) dX10_trait_71 ?_
                        exact ⟨_, _, rfl, hk, E0, (Or.inl ⟨by first | contradiction | (simp only [canF, ← p_v2, c_5, ← p_v10, c_13, ← p_v18, c_21, d_26, d_31, d_36, d_41, d_46, d_61, d_66]; rfl), rfl, rfl⟩)⟩
                  · skip
                    have d_46 := decide_eq_false c_46
                    refine v_iload_n C dX10_trait_49 rfl ?_
                    refine v_iload_n C dX10_trait_50 rfl ?_
                    refine v_icmp_eq (tgt := 69) C dX10_trait_51 (by decide) (fun c_51 => ?_) (fun c_51 => ?_)
                    · skip
                      have d_51 := decide_eq_true c_51
                      refine v_bipush (v := -2) C dX10_trait_69 (by decide) ?_
                      refine v_iret C hr (Nat.le_of_ble_eq_true rfl) (Nat.le_of_ble_eq_true rfl) dX10_trait_71 ?_
                      exact ⟨_, _, rfl, hk, E0, (Or.inl ⟨by first | contradiction | (simp only [canF, ← p_v2, c_5, ← p_v10, c_13, ← p_v18, c_21, d_26, d_31, d_36, d_41, d_46, d_51]; rfl), rfl, rfl⟩)⟩
                    · skip
                      have d_51 := decide_eq_false c_51
                      refine v_iload_n C dX10_trait_54 rfl ?_
                      refine v_iload_n C dX10_trait_55 rfl ?_
                      refine v_icmp_eq (tgt := 69) C dX10_trait_56 (by decide) (fun c_56 => ?_) (fun c_56 => ?_)
                      · skip
                        have d_56 := decide_eq_true c_56
                        refine v_bipush (v := -2) C dX10_trait_69 (by decide) ?_
                        refine v_iret C hr (Nat.le_of_ble_eq_true rfl) (Nat.le_of_ble_eq_true rfl) dX10_trait_71 ?_
                        exact ⟨_, _, rfl, hk, E0, (Or.inl ⟨by first | contradiction | (simp only [canF, ← p_v2, c_5, ← p_v10, c_13, ← p_v18, c_21, d_26, d_31, d_36, d_41, d_46, d_51, d_56]; rfl), rfl, rfl⟩)⟩
                      · skip
                        have d_56 := decide_eq_false c_56
                        refine v_iload_n C dX10_trait_59 rfl ?_
                        refine v_iconst (v := -1) C dX10_trait_60 (by decide) ?_
                        refine v_icmp_eq (tgt := 72) C dX10_trait_61 (by decide) (fun c_61 => ?_) (fun c_61 => ?_)
                        · skip
                          have d_61 := decide_eq_true c_61
                          exact k72 (by first | contradiction | (simp only [canF, ← p_v2, c_5, ← p_v10, c_13, ← p_v18, c_21, d_26, d_31, d_36, d_41, d_46, d_51, d_56, d_61]; rfl))
                        · skip
                          have d_61 := decide_eq_false c_61
                          refine v_iload_n C dX10_trait_64 rfl ?_
                          refine v_iload_n C dX10_trait_65 rfl ?_
                          refine v_icmp_ne (tgt := 72) C dX10_trait_66 (by decide) (fun c_66 => ?_) (fun c_66 => ?_)
                          · skip
                            have d_66 := decide_eq_false c_66
                            exact k72 (by first | contradiction | (simp only [canF, ← p_v2, c_5, ← p_v10, c_13, ← p_v18, c_21, d_26, d_31, d_36, d_41, d_46, d_51, d_56, d_61, d_66]; rfl))
                          · skip
                            have d_66 := decide_eq_true c_66
                            refine v_bipush (v := -2) C dX10_trait_69 (by decide) ?_
                            refine v_iret C hr (Nat.le_of_ble_eq_true rfl) (Nat.le_of_ble_eq_true rfl) dX10_trait_71 ?_
                            exact ⟨_, _, rfl, hk, E0, (Or.inl ⟨by first | contradiction | (simp only [canF, ← p_v2, c_5, ← p_v10, c_13, ← p_v18, c_21, d_26, d_31, d_36, d_41, d_46, d_51, d_56, d_61, d_66]; rfl), rfl, rfl⟩)⟩
theorem dX10_takes_0 : decode cX10_takes 0 = .ok (.aload_n 0, 1) := by decide +kernel
theorem dX10_takes_1 : decode cX10_takes 1 = .ok (.iload_n 1, 1) := by decide +kernel
theorem dX10_takes_2 : decode cX10_takes 2 = .ok (.invokevirtual 176, 3) := by decide +kernel
theorem dX10_takes_5 : decode cX10_takes 5 = .ok (.ifCond .eq 11, 3) := by decide +kernel
theorem dX10_takes_8 : decode cX10_takes 8 = .ok (.aload_n 0, 1) := by decide +kernel
theorem dX10_takes_9 : decode cX10_takes 9 = .ok (.iload_n 2, 1) := by decide +kernel
theorem dX10_takes_10 : decode cX10_takes 10 = .ok (.invokevirtual 166, 3) := by decide +kernel
theorem dX10_takes_13 : decode cX10_takes 13 = .ok (.ifCond .ne 6, 3) := by decide +kernel
theorem dX10_takes_16 : decode cX10_takes 16 = .ok (.bipush (-2), 2) := by decide +kernel
theorem dX10_takes_18 : decode cX10_takes 18 = .ok (.ireturn, 1) := by decide +kernel
theorem dX10_takes_19 : decode cX10_takes 19 = .ok (.aload_n 0, 1) := by decide +kernel
theorem dX10_takes_20 : decode cX10_takes 20 = .ok (.aload_n 0, 1) := by decide +kernel
theorem dX10_takes_21 : decode cX10_takes 21 = .ok (.getfield 22, 3) := by decide +kernel
theorem dX10_takes_24 : decode cX10_takes 24 = .ok (.iload_n 1, 1) := by decide +kernel
theorem dX10_takes_25 : decode cX10_takes 25 = .ok (.iaload, 1) := by decide +kernel
theorem dX10_takes_26 : decode cX10_takes 26 = .ok (.putfield 155, 3) := by decide +kernel
theorem dX10_takes_29 : decode cX10_takes 29 = .ok (.iconst 0, 1) := by decide +kernel
theorem dX10_takes_30 : decode cX10_takes 30 = .ok (.istore_n 3, 1) := by decide +kernel
theorem dX10_takes_31 : decode cX10_takes 31 = .ok (.iload_n 3, 1) := by decide +kernel
theorem dX10_takes_32 : decode cX10_takes 32 = .ok (.aload_n 0, 1) := by decide +kernel
theorem dX10_takes_33 : decode cX10_takes 33 = .ok (.getfield 155, 3) := by decide +kernel
theorem dX10_takes_36 : decode cX10_takes 36 = .ok (.if_icmp .ge 38, 3) := by decide +kernel
theorem dX10_takes_39 : decode cX10_takes 39 = .ok (.aload_n 0, 1) := by decide +kernel
theorem dX10_takes_40 : decode cX10_takes 40 = .ok (.getfield 91, 3) := by decide +kernel
theorem dX10_takes_43 : decode cX10_takes 43 = .ok (.iload_n 3, 1) := by decide +kernel
theorem dX10_takes_44 : decode cX10_takes 44 = .ok (.aload_n 0, 1) := by decide +kernel
theorem dX10_takes_45 : decode cX10_takes 45 = .ok (.getfield 19, 3) := by decide +kernel
theorem dX10_takes_48 : decode cX10_takes 48 = .ok (.iconst 5, 1) := by decide +kernel
theorem dX10_takes_49 : decode cX10_takes 49 = .ok (.iload_n 1, 1) := by decide +kernel
theorem dX10_takes_50 : decode cX10_takes 50 = .ok (.imul, 1) := by decide +kernel
theorem dX10_takes_51 : decode cX10_takes 51 = .ok (.iload_n 3, 1) := by decide +kernel
theorem dX10_takes_52 : decode cX10_takes 52 = .ok (.iadd, 1) := by decide +kernel
theorem dX10_takes_53 : decode cX10_takes 53 = .ok (.iaload, 1) := by decide +kernel
theorem dX10_takes_54 : decode cX10_takes 54 = .ok (.iastore, 1) := by decide +kernel
theorem dX10_takes_55 : decode cX10_takes 55 = .ok (.aload_n 0, 1) := by decide +kernel
theorem dX10_takes_56 : decode cX10_takes 56 = .ok (.getfield 91, 3) := by decide +kernel
theorem dX10_takes_59 : decode cX10_takes 59 = .ok (.iload_n 3, 1) := by decide +kernel
theorem dX10_takes_60 : decode cX10_takes 60 = .ok (.iaload, 1) := by decide +kernel
theorem dX10_takes_61 : decode cX10_takes 61 = .ok (.iload_n 2, 1) := by decide +kernel
theorem dX10_takes_62 : decode cX10_takes 62 = .ok (.if_icmp .ne 6, 3) := by decide +kernel
theorem dX10_takes_65 : decode cX10_takes 65 = .ok (.bipush (-2), 2) := by decide +kernel
theorem dX10_takes_67 : decode cX10_takes 67 = .ok (.ireturn, 1) := by decide +kernel
theorem dX10_takes_68 : decode cX10_takes 68 = .ok (.iinc 3 1, 3) := by decide +kernel
theorem dX10_takes_71 : decode cX10_takes 71 = .ok (.goto (-40), 3) := by decide +kernel
theorem dX10_takes_74 : decode cX10_takes 74 = .ok (.aload_n 0, 1) := by decide +kernel
theorem dX10_takes_75 : decode cX10_takes 75 = .ok (.getfield 91, 3) := by decide +kernel
theorem dX10_takes_78 : decode cX10_takes 78 = .ok (.aload_n 0, 1) := by decide +kernel
theorem dX10_takes_79 : decode cX10_takes 79 = .ok (.getfield 155, 3) := by decide +kernel
theorem dX10_takes_82 : decode cX10_takes 82 = .ok (.iload_n 2, 1) := by decide +kernel
theorem dX10_takes_83 : decode cX10_takes 83 = .ok (.iastore, 1) := by decide +kernel
theorem dX10_takes_84 : decode cX10_takes 84 = .ok (.aload_n 0, 1) := by decide +kernel
theorem dX10_takes_85 : decode cX10_takes 85 = .ok (.dup, 1) := by decide +kernel
theorem dX10_takes_86 : decode cX10_takes 86 = .ok (.getfield 155, 3) := by decide +kernel
theorem dX10_takes_89 : decode cX10_takes 89 = .ok (.iconst 1, 1) := by decide +kernel
theorem dX10_takes_90 : decode cX10_takes 90 = .ok (.iadd, 1) := by decide +kernel
theorem dX10_takes_91 : decode cX10_takes 91 = .ok (.putfield 155, 3) := by decide +kernel
theorem dX10_takes_94 : decode cX10_takes 94 = .ok (.aload_n 0, 1) := by decide +kernel
theorem dX10_takes_95 : decode cX10_takes 95 = .ok (.invokevirtual 172, 3) := by decide +kernel
theorem dX10_takes_98 : decode cX10_takes 98 = .ok (.istore_n 3, 1) := by decide +kernel
theorem dX10_takes_99 : decode cX10_takes 99 = .ok (.iload_n 3, 1) := by decide +kernel
theorem dX10_takes_100 : decode cX10_takes 100 = .ok (.iconst (-1), 1) := by decide +kernel
theorem dX10_takes_101 : decode cX10_takes 101 = .ok (.if_icmp .ne 6, 3) := by decide +kernel
theorem dX10_takes_104 : decode cX10_takes 104 = .ok (.bipush (-3), 2) := by decide +kernel
theorem dX10_takes_106 : decode cX10_takes 106 = .ok (.ireturn, 1) := by decide +kernel
theorem dX10_takes_107 : decode cX10_takes 107 = .ok (.aload_n 0, 1) := by decide +kernel
theorem dX10_takes_108 : decode cX10_takes 108 = .ok (.getfield 155, 3) := by decide +kernel
theorem dX10_takes_111 : decode cX10_takes 111 = .ok (.bipush 6, 2) := by decide +kernel
theorem dX10_takes_113 : decode cX10_takes 113 = .ok (.if_icmp .ne 6, 3) := by decide +kernel
theorem dX10_takes_116 : decode cX10_takes 116 = .ok (.bipush (-4), 2) := by decide +kernel
theorem dX10_takes_118 : decode cX10_takes 118 = .ok (.ireturn, 1) := by decide +kernel
theorem dX10_takes_119 : decode cX10_takes 119 = .ok (.aload_n 0, 1) := by decide +kernel
theorem dX10_takes_120 : decode cX10_takes 120 = .ok (.getfield 19, 3) := by decide +kernel
theorem dX10_takes_123 : decode cX10_takes 123 = .ok (.iconst 5, 1) := by decide +kernel
theorem dX10_takes_124 : decode cX10_takes 124 = .ok (.iload_n 1, 1) := by decide +kernel
theorem dX10_takes_125 : decode cX10_takes 125 = .ok (.imul, 1) := by decide +kernel
theorem dX10_takes_126 : decode cX10_takes 126 = .ok (.aload_n 0, 1) := by decide +kernel
theorem dX10_takes_127 : decode cX10_takes 127 = .ok (.getfield 155, 3) := by decide +kernel
theorem dX10_takes_130 : decode cX10_takes 130 = .ok (.iadd, 1) := by decide +kernel
theorem dX10_takes_131 : decode cX10_takes 131 = .ok (.iconst 1, 1) := by decide +kernel
theorem dX10_takes_132 : decode cX10_takes 132 = .ok (.isub, 1) := by decide +kernel
theorem dX10_takes_133 : decode cX10_takes 133 = .ok (.iload_n 2, 1) := by decide +kernel
theorem dX10_takes_134 : decode cX10_takes 134 = .ok (.iastore, 1) := by decide +kernel
theorem dX10_takes_135 : decode cX10_takes 135 = .ok (.aload_n 0, 1) := by decide +kernel
theorem dX10_takes_136 : decode cX10_takes 136 = .ok (.getfield 22, 3) := by decide +kernel
theorem dX10_takes_139 : decode cX10_takes 139 = .ok (.iload_n 1, 1) := by decide +kernel
theorem dX10_takes_140 : decode cX10_takes 140 = .ok (.aload_n 0, 1) := by decide +kernel
theorem dX10_takes_141 : decode cX10_takes 141 = .ok (.getfield 155, 3) := by decide +kernel
theorem dX10_takes_144 : decode cX10_takes 144 = .ok (.iastore, 1) := by decide +kernel
theorem dX10_takes_145 : decode cX10_takes 145 = .ok (.iconst 0, 1) := by decide +kernel
theorem dX10_takes_146 : decode cX10_takes 146 = .ok (.istore 4, 2) := by decide +kernel
theorem dX10_takes_148 : decode cX10_takes 148 = .ok (.iload 4, 2) := by decide +kernel
theorem dX10_takes_150 : decode cX10_takes 150 = .ok (.iload_n 3, 1) := by decide +kernel
theorem dX10_takes_151 : decode cX10_takes 151 = .ok (.if_icmp .ge 28, 3) := by decide +kernel
theorem dX10_takes_154 : decode cX10_takes 154 = .ok (.aload_n 0, 1) := by decide +kernel
theorem dX10_takes_155 : decode cX10_takes 155 = .ok (.getfield 25, 3) := by decide +kernel
theorem dX10_takes_158 : decode cX10_takes 158 = .ok (.bipush 20, 2) := by decide +kernel
theorem dX10_takes_160 : decode cX10_takes 160 = .ok (.iload_n 1, 1) := by decide +kernel
theorem dX10_takes_161 : decode cX10_takes 161 = .ok (.imul, 1) := by decide +kernel
theorem dX10_takes_162 : decode cX10_takes 162 = .ok (.iload 4, 2) := by decide +kernel
theorem dX10_takes_164 : decode cX10_takes 164 = .ok (.iadd, 1) := by decide +kernel
theorem dX10_takes_165 : decode cX10_takes 165 = .ok (.aload_n 0, 1) := by decide +kernel
theorem dX10_takes_166 : decode cX10_takes 166 = .ok (.getfield 97, 3) := by decide +kernel
theorem dX10_takes_169 : decode cX10_takes 169 = .ok (.iload 4, 2) := by decide +kernel
theorem dX10_takes_171 : decode cX10_takes 171 = .ok (.iaload, 1) := by decide +kernel
theorem dX10_takes_172 : decode cX10_takes 172 = .ok (.iastore, 1) := by decide +kernel
theorem dX10_takes_173 : decode cX10_takes 173 = .ok (.iinc 4 1, 3) := by decide +kernel
theorem dX10_takes_176 : decode cX10_takes 176 = .ok (.goto (-28), 3) := by decide +kernel
theorem dX10_takes_179 : decode cX10_takes 179 = .ok (.aload_n 0, 1) := by decide +kernel
theorem dX10_takes_180 : decode cX10_takes 180 = .ok (.getfield 28, 3) := by decide +kernel
theorem dX10_takes_183 : decode cX10_takes 183 = .ok (.iload_n 1, 1) := by decide +kernel
theorem dX10_takes_184 : decode cX10_takes 184 = .ok (.iload_n 3, 1) := by decide +kernel
theorem dX10_takes_185 : decode cX10_takes 185 = .ok (.iastore, 1) := by decide +kernel
theorem dX10_takes_186 : decode cX10_takes 186 = .ok (.aload_n 0, 1) := by decide +kernel
theorem dX10_takes_187 : decode cX10_takes 187 = .ok (.getfield 155, 3) := by decide +kernel
theorem dX10_takes_190 : decode cX10_takes 190 = .ok (.ireturn, 1) := by decide +kernel
set_option maxRecDepth 100000 in
set_option maxHeartbeats 4000000 in
theorem rt_X10_takes (l : Launch) (m0 : Nat) (ad : Nat → Nat) (K : RS) (x0 : Int32) (x1 : Int32) : Ct l yX10_takes cX10_takes 5 (some .int) 3 0 0 70 (fun S av => av = [.ref m0, .int x0, .int x1] ∧ mdR S m0 ad K ∧ RV K) (fun S _ r S' => ∃ (v : Int32) (K' : RS), r = some (.int v) ∧ mdR S' m0 ad K' ∧ exm S S' m0 ad ∧ takesR K x0 x1 v K') := by
  refine ct_of (by decide) (fun S av h => by obtain ⟨rfl, hk, rv⟩ := h; exact Nat.le_of_ble_eq_true rfl) ?_
  intro p e s m args below meth c D G bs S av C hr hin hpre
  obtain ⟨rfl, hk, rv⟩ := hpre
  have E0 : exm S S m0 ad := exm_rfl
  refine v_aload_n C dX10_takes_0 rfl ?_
  refine v_iload_n C dX10_takes_1 rfl ?_
  refine v_callV (As := [_]) (n := 1) C (rt_X10_isCharacter l m0 ad _ _) rfl hk.1 (by decide) rfl ⟨wd334, wd335, wd336, wd5, wd337⟩ ⟨rfl, hy_X10_isCharacter⟩ rfl ⟨Nat.le_of_ble_eq_true rfl, Nat.le_of_ble_eq_true rfl⟩ (Nat.le_of_ble_eq_true rfl) ⟨Nat.le_of_ble_eq_true rfl, Nat.le_of_ble_eq_true rfl⟩ dX10_takes_2 ⟨rfl, hk, rv⟩ (fun r_2 S2_2 h_2 => ?_)
  obtain ⟨v2, rfl, p_v2, q_v2⟩ := h_2
  obtain rfl := q_v2.symm
  refine b_if_eq (tgt := 16) C dX10_takes_5 (by decide) (fun c_5 => ?_) (fun c_5 => ?_)
  · skip
    refine v_bipush (v := -2) C dX10_takes_16 (by decide) ?_
    refine v_iret C hr (Nat.le_of_ble_eq_true rfl) (Nat.le_of_ble_eq_true rfl) dX10_takes_18 ?_
    exact ⟨_, _, rfl, hk, E0, (Or.inl ⟨by simp [← p_v2, c_5], rfl, rfl⟩)⟩
  · skip
    obtain ⟨u, h0u, rfl⟩ := below_some (p_v2.symm.trans c_5)
    have hu : u < 12 := by have := rv.p2.2; omega
    have e_u := nI_clamp (show u < 2 ^ 31 by omega)
    refine v_aload_n C dX10_takes_8 rfl ?_
    refine v_iload_n C dX10_takes_9 rfl ?_
    refine v_callV (As := [_]) (n := 1) C (rt_X10_isTrait l m0 ad _ _) rfl hk.1 (by decide) rfl ⟨wd240, wd241, wd242, wd5, wd243⟩ ⟨rfl, hy_X10_isTrait⟩ rfl ⟨Nat.le_of_ble_eq_true rfl, Nat.le_of_ble_eq_true rfl⟩ (Nat.le_of_ble_eq_true rfl) ⟨Nat.le_of_ble_eq_true rfl, Nat.le_of_ble_eq_true rfl⟩ dX10_takes_10 ⟨rfl, hk, rv⟩ (fun r_10 S4_10 h_10 => ?_)
    obtain ⟨v10, rfl, p_v10, q_v10⟩ := h_10
    obtain rfl := q_v10.symm
    refine b_if_ne (tgt := 19) C dX10_takes_13 (by decide) (fun c_13 => ?_) (fun c_13 => ?_)
    · skip
      obtain ⟨t, h0t, rfl⟩ := below_some (p_v10.symm.trans c_13)
      have ht : t < 20 := by have := rv.p1.2; omega
      have e_t := nI_clamp (show t < 2 ^ 31 by omega)
      refine v_aload_n C dX10_takes_19 rfl ?_
      refine v_aload_n C dX10_takes_20 rfl ?_
      refine q10_22 C hk dX10_takes_21 ?_
      refine v_iload_n C dX10_takes_24 rfl ?_
      obtain ⟨z1, z2⟩ := rv.p7 u hu
      have zt := rv.p1.2
      refine n_iald C hk (show (6, 11, 12) ∈ mTab by decide +kernel) (by omega) dX10_takes_25 ?_
      refine v_val z1 ?_
      refine w10_155 C hk dX10_takes_26 (fun S6_26 hk' x_26 => ?_)
      have E0 := exm_tr E0 x_26
      have hk := hk'
      clear hk'
      refine v_iconst (v := nI 0) C dX10_takes_29 (by decide) ?_
      refine v_istore_n C dX10_takes_30 (by decide) rfl ?_
      refine V.lits (lv' := [_, _, _, _, _]) rfl ?_
      refine v_loop (fun (tt : (Nat) × (RS)) lv0 => (lv0.set 3 (some (.int (nI tt.1))))) (fun (S1 : Mem) (tt : (Nat) × (RS)) => mdR S1 m0 ad tt.2 ∧ exm S S1 m0 ad ∧ (tt.1 ≤ rN K 6 u) ∧ (rF tt.2 29 = nI (rN K 6 u)) ∧ (∀ j, j < tt.1 → rA tt.2 28 j = rA K 5 (5 * u + j)) ∧ (hasF K u t = (sc (fun i => decide (rA K 5 (5 * u + i) = nI t)) (rN K 6 u - tt.1) tt.1).isSome) ∧ (keep [29] [28] [] [] K tt.2)) (fun (S1 : Mem) (tt : (Nat) × (RS)) => rN K 6 u - tt.1) (t := (0, (wF K 29 (nI (rN K 6 u))))) rfl ⟨hk, E0, (Nat.zero_le _), (by rw [rF_wF, if_pos rfl]), (fun j h => absurd h (Nat.not_lt_zero j)), rfl, (keep_wF keep_rfl (by decide))⟩ ?_
      intro L31 tt h_31 ih_31
      obtain ⟨k, KA⟩ := tt
      obtain ⟨hk, E0, hk3, h29, h28, hh, kA⟩ := h_31
      try dsimp only at *
      refine v_iload_n C dX10_takes_31 rfl ?_
      refine v_aload_n C dX10_takes_32 rfl ?_
      refine q10_155 C hk dX10_takes_33 ?_
      refine v_val h29 ?_
      refine n_icmp_ge (tgt := 74) C (by omega) (by omega) dX10_takes_36 (by decide) (fun c_36 => ?_) (fun c_36 => ?_)
      · skip
        obtain rfl : k = rN K 6 u := by omega
        have hno : hasF K u t = false := by rw [hh, sc_end (Nat.le_refl _)]; rfl
        refine v_aload_n C dX10_takes_74 rfl ?_
        refine q10_91 C hk dX10_takes_75 ?_
        refine v_aload_n C dX10_takes_78 rfl ?_
        refine q10_155 C hk dX10_takes_79 ?_
        refine v_val h29 ?_
        refine v_iload_n C dX10_takes_82 rfl ?_
        refine n_iast C hk (show (28, 11, 6) ∈ mTab by decide +kernel) (by omega) dX10_takes_83 (fun S2_83 hk' x_83 => ?_)
        have E0 := exm_tr E0 x_83
        have hk := hk'
        clear hk'
        refine v_aload_n C dX10_takes_84 rfl ?_
        refine v_dup C dX10_takes_85 rfl ?_
        refine q10_155 C hk dX10_takes_86 ?_
        refine v_val h29 ?_
        refine v_iconst (v := nI 1) C dX10_takes_89 (by decide) ?_
        refine n_iadd C dX10_takes_90 ?_
        refine w10_155 C hk dX10_takes_91 (fun S2_91 hk' x_91 => ?_)
        have E0 := exm_tr E0 x_91
        have hk := hk'
        clear hk'
        refine v_aload_n C dX10_takes_94 rfl ?_
        have htp : tkPre K u t (wF (wA KA 28 (rN K 6 u) (nI t)) 29 (nI (rN K 6 u + 1))) := ⟨by rw [rF_wF, if_pos rfl], fun j hj => by rw [rA_wF, rA_wA, if_neg (fun z => by omega)]; exact h28 j hj, by rw [rA_wF, rA_wA, if_pos ⟨rfl, rfl⟩], keep_wF (keep_wA kA (by decide)) (by decide)⟩
        obtain ⟨v1, m1⟩ := tk_MPre rv hu h0t htp
        generalize hK1 : wF (wA KA 28 (rN K 6 u) (nI t)) 29 (nI (rN K 6 u + 1)) = K1 at hk htp v1 m1
        refine v_callV (As := []) (n := 0) C (rt_X10_merge l m0 ad _) rfl hk.1 (by decide) rfl ⟨wd247, wd248, wd249, wd5, wd250⟩ ⟨rfl, hy_X10_merge⟩ rfl ⟨Nat.le_of_ble_eq_true rfl, Nat.le_of_ble_eq_true rfl⟩ (Nat.le_of_ble_eq_true rfl) ⟨Nat.le_of_ble_eq_true rfl, Nat.le_of_ble_eq_true rfl⟩ dX10_takes_95 ⟨rfl, hk, v1, m1⟩ (fun r_95 S2_95 h_95 => ?_)
        obtain ⟨v95, K95, rfl, hk', x_95, p_v95, b_v95⟩ := h_95
        have E0 := exm_tr E0 x_95
        have hk := hk'
        clear hk'
        obtain ⟨q1, q2, q3⟩ := p_v95
        have kk : keep [29] [28, 30, 31] [] [] K K95 := keep_tr (keep_mono htp.2.2.2 (by decide) (by decide) (by decide) (by decide)) (keep_mono q3 (by decide) (by decide) (by decide) (by decide))
        have f29 : rF K95 29 = nI (rN K 6 u + 1) := (q3.1 29 (by decide)).trans htp.1
        have f01 : fN K1 0 = fN K 0 := keep_fN htp.2.2.2 (by decide)
        rw [f01] at b_v95
        refine v_istore_n C dX10_takes_98 (by decide) rfl ?_
        refine v_iload_n C dX10_takes_99 rfl ?_
        refine v_iconst (v := -1) C dX10_takes_100 (by decide) ?_
        refine o_icmp_ne (tgt := 107) C (fun k z => by have := b_v95 k z; omega) dX10_takes_101 (by decide) (fun k101 c_101 => ?_) (fun c_101 => ?_)
        · skip
          have b_k101 := b_v95 k101 c_101
          subst c_101
          obtain ⟨L, hL, hlen⟩ := mapS q1
          obtain ⟨n1, n2⟩ := mgF_some v1 m1 hL
          rw [f01] at n2
          have n3 := nodup_lt _ L n1 n2
          refine v_aload_n C dX10_takes_107 rfl ?_
          refine q10_155 C hk dX10_takes_108 ?_
          refine v_val f29 ?_
          refine v_bipush (v := nI 6) C dX10_takes_111 (by decide) ?_
          refine n_icmp_ne (tgt := 119) C (by omega) (by omega) dX10_takes_113 (by decide) (fun c_113 => ?_) (fun c_113 => ?_)
          · skip
            refine v_aload_n C dX10_takes_119 rfl ?_
            refine q10_19 C hk dX10_takes_120 ?_
            refine v_iconst (v := nI 5) C dX10_takes_123 (by decide) ?_
            refine v_iload_n C dX10_takes_124 rfl ?_
            refine n_imul C dX10_takes_125 ?_
            refine v_aload_n C dX10_takes_126 rfl ?_
            refine q10_155 C hk dX10_takes_127 ?_
            refine v_val f29 ?_
            refine n_iadd C dX10_takes_130 ?_
            refine v_iconst (v := nI 1) C dX10_takes_131 (by decide) ?_
            refine n_isub C (by omega) dX10_takes_132 ?_
            refine v_val (y := nI (5 * u + rN K 6 u)) rfl ?_
            refine v_iload_n C dX10_takes_133 rfl ?_
            refine n_iast C hk (show (5, 11, 60) ∈ mTab by decide +kernel) (by omega) dX10_takes_134 (fun S6_134 hk' x_134 => ?_)
            have E0 := exm_tr E0 x_134
            have hk := hk'
            clear hk'
            refine v_aload_n C dX10_takes_135 rfl ?_
            refine q10_22 C hk dX10_takes_136 ?_
            refine v_iload_n C dX10_takes_139 rfl ?_
            refine v_aload_n C dX10_takes_140 rfl ?_
            refine q10_155 C hk dX10_takes_141 ?_
            refine v_val f29 ?_
            refine n_iast C hk (show (6, 11, 12) ∈ mTab by decide +kernel) (by omega) dX10_takes_144 (fun S6_144 hk' x_144 => ?_)
            have E0 := exm_tr E0 x_144
            have hk := hk'
            clear hk'
            refine v_iconst (v := nI 0) C dX10_takes_145 (by decide) ?_
            refine v_istore C dX10_takes_146 (by decide) rfl ?_
            refine V.lits (lv' := [_, _, _, _, _]) rfl ?_
            refine v_loop (fun (tt : (Nat) × (RS)) lv0 => (lv0.set 4 (some (.int (nI tt.1))))) (fun (S1 : Mem) (tt : (Nat) × (RS)) => mdR S1 m0 ad tt.2 ∧ exm S S1 m0 ad ∧ (tt.1 ≤ k101) ∧ (rF tt.2 29 = nI (rN K 6 u + 1)) ∧ (rA tt.2 5 (5 * u + rN K 6 u) = nI t) ∧ (rA tt.2 6 u = nI (rN K 6 u + 1)) ∧ (∀ j, j < tt.1 → ∀ x, L[j]? = some x → rA tt.2 7 (20 * u + j) = nI x) ∧ (∀ j, j ≠ 5 * u + rN K 6 u → rA tt.2 5 j = rA K 5 j) ∧ (∀ c, c ≠ u → rA tt.2 6 c = rA K 6 c) ∧ (∀ j, j < 20 * u ∨ 20 * u + 20 ≤ j → rA tt.2 7 j = rA K 7 j) ∧ (∀ j x, L[j]? = some x → rA tt.2 31 j = nI x) ∧ (keep [29] [5, 6, 7, 28, 30, 31] [] [] K tt.2)) (fun (S1 : Mem) (tt : (Nat) × (RS)) => k101 - tt.1) (t := (0, (wA (wA K95 5 (5 * u + rN K 6 u) (nI t)) 6 u (nI (rN K 6 u + 1))))) rfl ⟨hk, E0, (Nat.zero_le _), f29, (by rw [rA_wA, if_neg (fun z => absurd z.1 (by decide)), rA_wA, if_pos ⟨rfl, rfl⟩]), (by rw [rA_wA, if_pos ⟨rfl, rfl⟩]), (fun j h => absurd h (Nat.not_lt_zero j)), (fun j hj => by rw [rA_wA, if_neg (fun z => absurd z.1 (by decide)), rA_wA, if_neg (fun z => hj z.2)]; exact kk.2.1 5 (by decide) j), (fun c hc => by rw [rA_wA, if_neg (fun z => hc z.2), rA_wA, if_neg (fun z => absurd z.1 (by decide))]; exact kk.2.1 6 (by decide) c), (fun j hj => by rw [rA_wA, if_neg (fun z => absurd z.1 (by decide)), rA_wA, if_neg (fun z => absurd z.1 (by decide))]; exact kk.2.1 7 (by decide) j), (fun j x hx => by rw [rA_wA, if_neg (fun z => absurd z.1 (by decide)), rA_wA, if_neg (fun z => absurd z.1 (by decide))]; exact q2 L hL j x hx), (keep_wA (keep_wA (keep_mono kk (by decide) (by decide) (by decide) (by decide)) (by decide)) (by decide))⟩ ?_
            intro L148 tt h_148 ih_148
            obtain ⟨i, KB⟩ := tt
            obtain ⟨hk, E0, hi, g29, g1, g2, g3, g5, g6, g7, g31, kB⟩ := h_148
            try dsimp only at *
            refine v_iload C dX10_takes_148 rfl ?_
            refine v_iload_n C dX10_takes_150 rfl ?_
            refine n_icmp_ge (tgt := 179) C (by omega) (by omega) dX10_takes_151 (by decide) (fun c_151 => ?_) (fun c_151 => ?_)
            · skip
              refine v_aload_n C dX10_takes_179 rfl ?_
              refine q10_28 C hk dX10_takes_180 ?_
              refine v_iload_n C dX10_takes_183 rfl ?_
              refine v_iload_n C dX10_takes_184 rfl ?_
              refine n_iast C hk (show (8, 11, 12) ∈ mTab by decide +kernel) (by omega) dX10_takes_185 (fun S2_185 hk' x_185 => ?_)
              have E0 := exm_tr E0 x_185
              have hk := hk'
              clear hk'
              refine v_aload_n C dX10_takes_186 rfl ?_
              refine q10_155 C hk dX10_takes_187 ?_
              refine v_val g29 ?_
              refine v_iret C hr (Nat.le_of_ble_eq_true rfl) (Nat.le_of_ble_eq_true rfl) dX10_takes_190 ?_
              exact ⟨_, _, rfl, hk, E0, (Or.inr ⟨u, t, h0u, h0t, rfl, rfl, Or.inr ⟨hno, K1, htp, Or.inr ⟨L, hL, Or.inr ⟨by omega, rfl, by rw [rA_wA, if_neg (fun z => absurd z.1 (by decide))]; exact g1, by rw [rA_wA, if_neg (fun z => absurd z.1 (by decide))]; exact g2, fun j x hx => by rw [rA_wA, if_neg (fun z => absurd z.1 (by decide))]; exact g3 j (by have := (List.getElem?_eq_some_iff.mp hx).1; omega) x hx, by rw [rA_wA, if_pos ⟨rfl, rfl⟩, hlen]; rfl, fun j hj => by rw [rA_wA, if_neg (fun z => absurd z.1 (by decide))]; exact g5 j hj, fun c hc => by rw [rA_wA, if_neg (fun z => absurd z.1 (by decide))]; exact g6 c hc, fun j hj => by rw [rA_wA, if_neg (fun z => absurd z.1 (by decide))]; exact g7 j hj, fun c hc => by rw [rA_wA, if_neg (fun z => hc z.2)]; exact kB.2.1 8 (by decide) c, keep_wA (keep_mono kB (by decide) (by decide) (by decide) (by decide)) (by decide)⟩⟩⟩⟩)⟩
            · skip
              refine v_aload_n C dX10_takes_154 rfl ?_
              refine q10_25 C hk dX10_takes_155 ?_
              refine v_bipush (v := nI 20) C dX10_takes_158 (by decide) ?_
              refine v_iload_n C dX10_takes_160 rfl ?_
              refine n_imul C dX10_takes_161 ?_
              refine v_iload C dX10_takes_162 rfl ?_
              refine n_iadd C dX10_takes_164 ?_
              refine v_aload_n C dX10_takes_165 rfl ?_
              refine q10_97 C hk dX10_takes_166 ?_
              refine v_iload C dX10_takes_169 rfl ?_
              refine n_iald C hk (show (31, 11, 20) ∈ mTab by decide +kernel) (by omega) dX10_takes_171 ?_
              refine n_iast C hk (show (7, 11, 240) ∈ mTab by decide +kernel) (by omega) dX10_takes_172 (fun S2_172 hk' x_172 => ?_)
              have E0 := exm_tr E0 x_172
              have hk := hk'
              clear hk'
              refine v_iinc C dX10_takes_173 rfl (nI_inc _) (by decide) rfl ?_
              refine v_goto (tgt := 148) C dX10_takes_176 (by decide) ?_
              refine V.lits (lv' := [_, _, _, _, _]) rfl ?_
              have g3' : ∀ j, j < i + 1 → ∀ x, L[j]? = some x → rA (wA KB 7 (20 * u + i) (rA KB 31 i)) 7 (20 * u + j) = nI x := by
                intro j hj x hx
                rw [rA_wA]
                by_cases hz : j = i
                · rw [if_pos ⟨rfl, by omega⟩]; subst hz; exact g31 _ x hx
                · rw [if_neg (fun z => hz (by omega))]; exact g3 j (by omega) x hx
              exact ih_148 _ ((i + 1), (wA KB 7 (20 * u + i) (rA KB 31 i))) (by first | omega | (dsimp only; omega)) ⟨hk, E0, (by omega), g29, (by rw [rA_wA, if_neg (fun z => absurd z.1 (by decide))]; exact g1), (by rw [rA_wA, if_neg (fun z => absurd z.1 (by decide))]; exact g2), g3', (fun j hj => by rw [rA_wA, if_neg (fun z => absurd z.1 (by decide))]; exact g5 j hj), (fun c hc => by rw [rA_wA, if_neg (fun z => absurd z.1 (by decide))]; exact g6 c hc), (fun j hj => by rw [rA_wA, if_neg (fun z => by omega)]; exact g7 j hj), (fun j x hx => by rw [rA_wA, if_neg (fun z => absurd z.1 (by decide))]; exact g31 j x hx), (keep_wA kB (by decide))⟩
          · skip
            refine v_bipush (v := -4) C dX10_takes_116 (by decide) ?_
            refine v_iret C hr (Nat.le_of_ble_eq_true rfl) (Nat.le_of_ble_eq_true rfl) dX10_takes_118 ?_
            exact ⟨_, _, rfl, hk, E0, (Or.inr ⟨u, t, h0u, h0t, rfl, rfl, Or.inr ⟨hno, K1, htp, Or.inr ⟨L, hL, Or.inl ⟨by omega, rfl, kk⟩⟩⟩⟩)⟩
        · skip
          subst c_101
          have hm := mapN q1
          refine v_bipush (v := -3) C dX10_takes_104 (by decide) ?_
          refine v_iret C hr (Nat.le_of_ble_eq_true rfl) (Nat.le_of_ble_eq_true rfl) dX10_takes_106 ?_
          exact ⟨_, _, rfl, hk, E0, (Or.inr ⟨u, t, h0u, h0t, rfl, rfl, Or.inr ⟨hno, K1, htp, Or.inl ⟨hm, rfl, kk⟩⟩⟩)⟩
      · skip
        refine v_aload_n C dX10_takes_39 rfl ?_
        refine q10_91 C hk dX10_takes_40 ?_
        refine v_iload_n C dX10_takes_43 rfl ?_
        refine v_aload_n C dX10_takes_44 rfl ?_
        refine q10_19 C hk dX10_takes_45 ?_
        refine v_iconst (v := nI 5) C dX10_takes_48 (by decide) ?_
        refine v_iload_n C dX10_takes_49 rfl ?_
        refine n_imul C dX10_takes_50 ?_
        refine v_iload_n C dX10_takes_51 rfl ?_
        refine n_iadd C dX10_takes_52 ?_
        refine n_iald C hk (show (5, 11, 60) ∈ mTab by decide +kernel) (by omega) dX10_takes_53 ?_
        refine n_iast C hk (show (28, 11, 6) ∈ mTab by decide +kernel) (by omega) dX10_takes_54 (fun S2_54 hk' x_54 => ?_)
        have E0 := exm_tr E0 x_54
        have hk := hk'
        clear hk'
        refine v_aload_n C dX10_takes_55 rfl ?_
        refine q10_91 C hk dX10_takes_56 ?_
        refine v_iload_n C dX10_takes_59 rfl ?_
        refine n_iald C hk (show (28, 11, 6) ∈ mTab by decide +kernel) (by omega) dX10_takes_60 ?_
        refine v_val (y := rA K 5 (5 * u + k)) (by rw [rA_wA, if_pos ⟨rfl, rfl⟩]; exact kA.2.1 5 (by decide) _) ?_
        refine v_iload_n C dX10_takes_61 rfl ?_
        refine v_icmp_ne (tgt := 68) C dX10_takes_62 (by decide) (fun c_62 => ?_) (fun c_62 => ?_)
        · skip
          refine v_iinc C dX10_takes_68 rfl (nI_inc _) (by decide) rfl ?_
          refine v_goto (tgt := 31) C dX10_takes_71 (by decide) ?_
          refine V.lits (lv' := [_, _, _, _, _]) rfl ?_
          have hX : rA KA 5 (5 * u + k) = rA K 5 (5 * u + k) := kA.2.1 5 (by decide) _
          have h28' : ∀ j, j < k + 1 → rA (wA KA 28 k (rA KA 5 (5 * u + k))) 28 j = rA K 5 (5 * u + j) := by
            intro j hj
            rw [rA_wA]
            by_cases hz : j = k
            · rw [if_pos ⟨rfl, hz⟩, hz]; exact hX
            · rw [if_neg (fun z => hz z.2)]; exact h28 j (by omega)
          exact ih_31 _ ((k + 1), (wA KA 28 k (rA KA 5 (5 * u + k)))) (by first | omega | (dsimp only; omega)) ⟨hk, E0, (by omega), h29, h28', (hh.trans (congrArg Option.isSome (sc_step (by omega) (decide_eq_false c_62)))), (keep_wA kA (by decide))⟩
        · skip
          refine v_bipush (v := -2) C dX10_takes_65 (by decide) ?_
          refine v_iret C hr (Nat.le_of_ble_eq_true rfl) (Nat.le_of_ble_eq_true rfl) dX10_takes_67 ?_
          exact ⟨_, _, rfl, hk, E0, (Or.inr ⟨u, t, h0u, h0t, rfl, rfl, Or.inl ⟨by rw [hh, sc_hit (by omega) (decide_eq_true c_62)]; rfl, rfl, keep_wA kA (by decide)⟩⟩)⟩
    · skip
      refine v_bipush (v := -2) C dX10_takes_16 (by decide) ?_
      refine v_iret C hr (Nat.le_of_ble_eq_true rfl) (Nat.le_of_ble_eq_true rfl) dX10_takes_18 ?_
      exact ⟨_, _, rfl, hk, E0, (Or.inl ⟨by simp [← p_v2, c_5, e_u, ← p_v10, c_13], rfl, rfl⟩)⟩
