/-! PLAY: the group of four, by induction on d = 40 less what is open -/
theorem op_next {o : Int32} {d : Nat} (h : 40 ≤ o.toInt + ((d + 1 : Nat) : Int) ∧ o.toInt ≤ 40) (c : o < 40) : 40 ≤ (o + 1).toInt + (d : Int) ∧ (o + 1).toInt ≤ 40 := by
  rw [Int32.lt_iff_toInt_lt, show (40 : Int32).toInt = 40 from rfl] at c
  have h3 := i32_lo o
  have e : (o + 1).toInt = o.toInt + 1 := by
    rw [Int32.toInt_add, show (1 : Int32).toInt = 1 from rfl, Int.bmod_def]
    split <;> omega
  rw [e]
  omega
theorem op_zero {o : Int32} (h : 40 ≤ o.toInt + ((0 : Nat) : Int) ∧ o.toInt ≤ 40) : ¬ o < 40 := by
  rw [Int32.lt_iff_toInt_lt, show (40 : Int32).toInt = 40 from rfl]
  omega
theorem pl_next {o : Int32} (h : 0 ≤ o.toInt ∧ o.toInt ≤ 20) : 0 ≤ (o + 1).toInt ∧ (o + 1).toInt ≤ 21 := by
  have e : (o + 1).toInt = o.toInt + 1 := by
    rw [Int32.toInt_add, show (1 : Int32).toInt = 1 from rfl, Int.bmod_def]
    split <;> omega
  rw [e]
  omega
theorem pl_in {i y : Int32} (h : 0 ≤ i.toInt) (c : ¬ y ≤ i) (hy : 0 ≤ y.toInt ∧ y.toInt ≤ 20) : 0 ≤ i.toInt ∧ i.toInt ≤ 20 := by
  rw [Int32.le_iff_toInt_le] at c; omega
theorem pl_dn {y : Int32} (hy : 0 ≤ y.toInt ∧ y.toInt ≤ 20) : -1 ≤ (y - 1).toInt ∧ (y - 1).toInt ≤ 20 := by
  have e : (y - 1).toInt = y.toInt - 1 := by
    rw [Int32.toInt_sub, show (1 : Int32).toInt = 1 from rfl, Int.bmod_def]
    split <;> omega
  rw [e]
  omega
theorem pl_ge {i f : Int32} (h : -1 ≤ i.toInt ∧ i.toInt ≤ 20) (hf : 0 ≤ f.toInt ∧ f.toInt ≤ 21) (c : ¬ i < f) : 0 ≤ i.toInt ∧ i.toInt ≤ 20 := by
  rw [Int32.lt_iff_toInt_lt] at c; omega
theorem pl_dec {i : Int32} (h : 0 ≤ i.toInt ∧ i.toInt ≤ 20) : (i + Int32.ofInt (-1)).toInt = i.toInt - 1 := by
  rw [Int32.toInt_add, show (Int32.ofInt (-1)).toInt = -1 from rfl, Int.bmod_def]
  split <;> omega
def dnm (i : Int32) : Nat := (i.toInt + 1).toNat
theorem dnm_lt {i : Int32} (h : 0 ≤ i.toInt ∧ i.toInt ≤ 20) : dnm (i + Int32.ofInt (-1)) < dnm i := by
  have := pl_dec h
  unfold dnm
  omega
theorem pl_dn2 {i : Int32} (h : 0 ≤ i.toInt ∧ i.toInt ≤ 20) : -1 ≤ (i + Int32.ofInt (-1)).toInt ∧ (i + Int32.ofInt (-1)).toInt ≤ 20 := by
  rw [pl_dec h]; omega
def KO (d : Nat) : Prop := ∀ (l : Launch) (M : Nat → Prop) (h : Nat) (p0 : Nat) (p1 : Int32) (p2 : Nat) (p3 : Int32) (p4 : Int32) (p5 : Int64) (p6 : Int32), Ct l yX6_doOpening cX6_doOpening 14 (some .long) (4 * d + 5) 0 0 (125 * d + 119) (fun S av => av = [.ref h, .ref p0, .int p1, .ref p2, .int p3, .int p4, .long p5, .int p6] ∧ INV M [] S ∧ is S h 6 ∧ is S p0 5 ∧ is S p2 2 ∧ (0 ≤ p4.toInt ∧ p4.toInt ≤ 20) ∧ (40 ≤ p6.toInt + (d : Int) ∧ p6.toInt ≤ 40)) (fun S _ r S' => ∃ v, r = some (.long v) ∧ INV M [] S' ∧ ext S S' (fun a => ¬ M a ∧ mK S a ∈ [0, 6, 7, 12]))
def KD (d : Nat) : Prop := ∀ (l : Launch) (M : Nat → Prop) (h : Nat) (p0 : Nat) (p1 : Nat) (p2 : Int32) (p3 : Int32) (p4 : Int64) (p5 : Int32), Ct l yX6_doOps cX6_doOps 13 (some .long) (4 * d + 6) 0 0 (125 * d + 152) (fun S av => av = [.ref h, .ref p0, .ref p1, .int p2, .int p3, .long p4, .int p5] ∧ INV M [] S ∧ is S h 6 ∧ is S p0 5 ∧ is S p1 2 ∧ (0 ≤ p3.toInt ∧ p3.toInt ≤ 20) ∧ (40 ≤ p5.toInt + (d : Int) ∧ p5.toInt ≤ 40)) (fun S _ r S' => ∃ v, r = some (.long v) ∧ INV M [] S' ∧ ext S S' (fun a => ¬ M a ∧ mK S a ∈ [0, 6, 7, 12]))
def KG (d : Nat) : Prop := ∀ (l : Launch) (M : Nat → Prop) (h : Nat) (p0 : Nat) (p1 : Int32) (p2 : Int32) (p3 : Int64) (p4 : Int32), Ct l yX6_goWithin cX6_goWithin 13 (some .long) (4 * d + 7) 0 0 (125 * d + 184) (fun S av => av = [.ref h, .ref p0, .int p1, .int p2, .long p3, .int p4] ∧ INV M [] S ∧ is S h 6 ∧ is S p0 2 ∧ (0 ≤ p2.toInt ∧ p2.toInt ≤ 21) ∧ (40 ≤ p4.toInt + (d : Int) ∧ p4.toInt ≤ 40)) (fun S _ r S' => ∃ v, r = some (.long v) ∧ INV M [] S' ∧ ext S S' (fun a => ¬ M a ∧ mK S a ∈ [0, 6, 7, 12]))
def KC (d : Nat) : Prop := ∀ (l : Launch) (M : Nat → Prop) (h : Nat) (p0 : Nat) (p1 : Nat) (p2 : Int32) (p3 : Int64) (p4 : Int32), Ct l yX6_callAct cX6_callAct 9 (some .long) (4 * d + 8) 0 0 (125 * d + 216) (fun S av => av = [.ref h, .ref p0, .ref p1, .int p2, .long p3, .int p4] ∧ INV M [] S ∧ is S h 6 ∧ is S p0 2 ∧ is S p1 2 ∧ (40 ≤ p4.toInt + (d : Int) ∧ p4.toInt ≤ 40)) (fun S _ r S' => ∃ v, r = some (.long v) ∧ INV M [] S' ∧ ext S S' (fun a => ¬ M a ∧ mK S a ∈ [0, 6, 7, 12]))
theorem dX6_doOpening_0 : decode cX6_doOpening 0 = .ok (.iload 8, 2) := by decide +kernel
theorem dX6_doOpening_2 : decode cX6_doOpening 2 = .ok (.bipush 40, 2) := by decide +kernel
theorem dX6_doOpening_4 : decode cX6_doOpening 4 = .ok (.if_icmp .lt 9, 3) := by decide +kernel
theorem dX6_doOpening_7 : decode cX6_doOpening 7 = .ok (.aload_n 0, 1) := by decide +kernel
theorem dX6_doOpening_8 : decode cX6_doOpening 8 = .ok (.iconst 2, 1) := by decide +kernel
theorem dX6_doOpening_9 : decode cX6_doOpening 9 = .ok (.invokevirtual 61, 3) := by decide +kernel
theorem dX6_doOpening_12 : decode cX6_doOpening 12 = .ok (.lreturn, 1) := by decide +kernel
set_option maxRecDepth 100000 in
set_option maxHeartbeats 4000000 in
theorem k_open0  : KO 0 := by
  intro l M h p0 p1 p2 p3 p4 p5 p6
  refine ct_of (by decide) (fun S av h => by obtain ⟨rfl, iv, i_this, i_p0, i_p2, hz⟩ := h; exact by first | exact Nat.le_of_ble_eq_true rfl | omega | (dsimp only; omega)) ?_
  intro p e s m args below meth c D G bs S av C hr hin hpre
  obtain ⟨rfl, iv, i_this, i_p0, i_p2, hz⟩ := hpre
  have E0 : ext S S (fun a => ¬ M a ∧ mK S a ∈ [0, 6, 7, 12]) := ext_rfl
  refine v_iload C dX6_doOpening_0 rfl ?_
  refine v_bipush (v := 40) C dX6_doOpening_2 (by decide) ?_
  refine v_icmp_lt (tgt := 13) C dX6_doOpening_4 (by decide) (fun c_4 => ?_) (fun c_4 => ?_)
  · skip
    exact absurd c_4 (op_zero hz.2)
  · skip
    refine v_aload_n C dX6_doOpening_7 rfl ?_
    refine v_iconst (v := 2) C dX6_doOpening_8 (by decide) ?_
    refine v_callV (As := [_]) (n := 1) C (st_X6_fail l _ _ _) rfl i_this (by decide) rfl ⟨wd733, wd734, wd735, wd19, wd736⟩ ⟨rfl, hy_X6_fail⟩ rfl ⟨by first | exact Nat.le_of_ble_eq_true rfl | omega | (dsimp only; omega), by first | exact Nat.le_of_ble_eq_true rfl | omega | (dsimp only; omega)⟩ (by first | exact Nat.le_of_ble_eq_true rfl | omega | (dsimp only; omega)) ⟨by first | exact Nat.le_of_ble_eq_true rfl | omega | (dsimp only; omega), by first | exact Nat.le_of_ble_eq_true rfl | omega | (dsimp only; omega)⟩ dX6_doOpening_9 ⟨rfl, iv, i_this⟩ (fun r_9 S4_9 h_9 => ?_)
    obtain ⟨v9, rfl, iv2, x_9⟩ := h_9
    have i_this := is_ext x_9 i_this
    have i_p0 := is_ext x_9 i_p0
    have i_p2 := is_ext x_9 i_p2
    have E0' := ext_tr E0 x_9 (xk_call E0 (by decide))
    have E0 := E0'
    have iv := iv2
    refine v_lret C hr (by first | exact Nat.le_of_ble_eq_true rfl | omega | (dsimp only; omega)) (by first | exact Nat.le_of_ble_eq_true rfl | omega | (dsimp only; omega)) dX6_doOpening_12 ?_
    exact ⟨_, rfl, iv, E0⟩
theorem dX6_doOpening_13 : decode cX6_doOpening 13 = .ok (.iload 8, 2) := by decide +kernel
theorem dX6_doOpening_15 : decode cX6_doOpening 15 = .ok (.iconst 1, 1) := by decide +kernel
theorem dX6_doOpening_16 : decode cX6_doOpening 16 = .ok (.iadd, 1) := by decide +kernel
theorem dX6_doOpening_17 : decode cX6_doOpening 17 = .ok (.istore 9, 2) := by decide +kernel
theorem dX6_doOpening_19 : decode cX6_doOpening 19 = .ok (.aload_n 0, 1) := by decide +kernel
theorem dX6_doOpening_20 : decode cX6_doOpening 20 = .ok (.aload_n 0, 1) := by decide +kernel
theorem dX6_doOpening_21 : decode cX6_doOpening 21 = .ok (.getfield 32, 3) := by decide +kernel
theorem dX6_doOpening_24 : decode cX6_doOpening 24 = .ok (.iload 9, 2) := by decide +kernel
theorem dX6_doOpening_26 : decode cX6_doOpening 26 = .ok (.invokestatic 144, 3) := by decide +kernel
theorem dX6_doOpening_29 : decode cX6_doOpening 29 = .ok (.putfield 32, 3) := by decide +kernel
theorem dX6_doOpening_32 : decode cX6_doOpening 32 = .ok (.aload_n 1, 1) := by decide +kernel
theorem dX6_doOpening_33 : decode cX6_doOpening 33 = .ok (.iload_n 2, 1) := by decide +kernel
theorem dX6_doOpening_34 : decode cX6_doOpening 34 = .ok (.invokevirtual 127, 3) := by decide +kernel
theorem dX6_doOpening_37 : decode cX6_doOpening 37 = .ok (.istore 10, 2) := by decide +kernel
theorem dX6_doOpening_39 : decode cX6_doOpening 39 = .ok (.aload_n 1, 1) := by decide +kernel
theorem dX6_doOpening_40 : decode cX6_doOpening 40 = .ok (.iload_n 2, 1) := by decide +kernel
theorem dX6_doOpening_41 : decode cX6_doOpening 41 = .ok (.invokevirtual 111, 3) := by decide +kernel
theorem dX6_doOpening_44 : decode cX6_doOpening 44 = .ok (.tableswitch 178 5 12 #[48, 178, 135, 78, 178, 61, 178, 119], 48) := by decide +kernel
theorem dX6_doOpening_92 : decode cX6_doOpening 92 = .ok (.aload_n 0, 1) := by decide +kernel
theorem dX6_doOpening_93 : decode cX6_doOpening 93 = .ok (.aload_n 3, 1) := by decide +kernel
theorem dX6_doOpening_94 : decode cX6_doOpening 94 = .ok (.aload_n 3, 1) := by decide +kernel
theorem dX6_doOpening_95 : decode cX6_doOpening 95 = .ok (.iload 10, 2) := by decide +kernel
theorem dX6_doOpening_97 : decode cX6_doOpening 97 = .ok (.lload 6, 2) := by decide +kernel
theorem dX6_doOpening_99 : decode cX6_doOpening 99 = .ok (.iload 9, 2) := by decide +kernel
theorem dX6_doOpening_101 : decode cX6_doOpening 101 = .ok (.invokevirtual 35, 3) := by decide +kernel
theorem dX6_doOpening_104 : decode cX6_doOpening 104 = .ok (.lreturn, 1) := by decide +kernel
theorem dX6_doOpening_105 : decode cX6_doOpening 105 = .ok (.aload_n 0, 1) := by decide +kernel
theorem dX6_doOpening_106 : decode cX6_doOpening 106 = .ok (.aload_n 0, 1) := by decide +kernel
theorem dX6_doOpening_107 : decode cX6_doOpening 107 = .ok (.aload_n 3, 1) := by decide +kernel
theorem dX6_doOpening_108 : decode cX6_doOpening 108 = .ok (.aload_n 3, 1) := by decide +kernel
theorem dX6_doOpening_109 : decode cX6_doOpening 109 = .ok (.iload 10, 2) := by decide +kernel
theorem dX6_doOpening_111 : decode cX6_doOpening 111 = .ok (.lload 6, 2) := by decide +kernel
theorem dX6_doOpening_113 : decode cX6_doOpening 113 = .ok (.iload 9, 2) := by decide +kernel
theorem dX6_doOpening_115 : decode cX6_doOpening 115 = .ok (.invokevirtual 35, 3) := by decide +kernel
theorem dX6_doOpening_118 : decode cX6_doOpening 118 = .ok (.invokevirtual 150, 3) := by decide +kernel
theorem dX6_doOpening_121 : decode cX6_doOpening 121 = .ok (.lreturn, 1) := by decide +kernel
theorem dX6_doOpening_122 : decode cX6_doOpening 122 = .ok (.aload_n 0, 1) := by decide +kernel
theorem dX6_doOpening_123 : decode cX6_doOpening 123 = .ok (.getfield 18, 3) := by decide +kernel
theorem dX6_doOpening_126 : decode cX6_doOpening 126 = .ok (.iload 10, 2) := by decide +kernel
theorem dX6_doOpening_128 : decode cX6_doOpening 128 = .ok (.invokevirtual 154, 3) := by decide +kernel
theorem dX6_doOpening_131 : decode cX6_doOpening 131 = .ok (.astore 11, 2) := by decide +kernel
theorem dX6_doOpening_133 : decode cX6_doOpening 133 = .ok (.aload 11, 2) := by decide +kernel
theorem dX6_doOpening_135 : decode cX6_doOpening 135 = .ok (.ifnonnull 11, 3) := by decide +kernel
theorem dX6_doOpening_138 : decode cX6_doOpening 138 = .ok (.aload_n 0, 1) := by decide +kernel
theorem dX6_doOpening_139 : decode cX6_doOpening 139 = .ok (.iconst 4, 1) := by decide +kernel
theorem dX6_doOpening_140 : decode cX6_doOpening 140 = .ok (.invokevirtual 61, 3) := by decide +kernel
theorem dX6_doOpening_143 : decode cX6_doOpening 143 = .ok (.goto 19, 3) := by decide +kernel
theorem dX6_doOpening_146 : decode cX6_doOpening 146 = .ok (.aload_n 0, 1) := by decide +kernel
theorem dX6_doOpening_147 : decode cX6_doOpening 147 = .ok (.aload 11, 2) := by decide +kernel
theorem dX6_doOpening_149 : decode cX6_doOpening 149 = .ok (.aload_n 3, 1) := by decide +kernel
theorem dX6_doOpening_150 : decode cX6_doOpening 150 = .ok (.aload_n 1, 1) := by decide +kernel
theorem dX6_doOpening_151 : decode cX6_doOpening 151 = .ok (.iload_n 2, 1) := by decide +kernel
theorem dX6_doOpening_152 : decode cX6_doOpening 152 = .ok (.invokevirtual 158, 3) := by decide +kernel
theorem dX6_doOpening_155 : decode cX6_doOpening 155 = .ok (.lload 6, 2) := by decide +kernel
theorem dX6_doOpening_157 : decode cX6_doOpening 157 = .ok (.iload 9, 2) := by decide +kernel
theorem dX6_doOpening_159 : decode cX6_doOpening 159 = .ok (.invokevirtual 35, 3) := by decide +kernel
theorem dX6_doOpening_162 : decode cX6_doOpening 162 = .ok (.lreturn, 1) := by decide +kernel
theorem dX6_doOpening_163 : decode cX6_doOpening 163 = .ok (.aload_n 0, 1) := by decide +kernel
theorem dX6_doOpening_164 : decode cX6_doOpening 164 = .ok (.aload_n 3, 1) := by decide +kernel
theorem dX6_doOpening_165 : decode cX6_doOpening 165 = .ok (.iload 4, 2) := by decide +kernel
theorem dX6_doOpening_167 : decode cX6_doOpening 167 = .ok (.iload 5, 2) := by decide +kernel
theorem dX6_doOpening_169 : decode cX6_doOpening 169 = .ok (.iconst 1, 1) := by decide +kernel
theorem dX6_doOpening_170 : decode cX6_doOpening 170 = .ok (.iadd, 1) := by decide +kernel
theorem dX6_doOpening_171 : decode cX6_doOpening 171 = .ok (.lload 6, 2) := by decide +kernel
theorem dX6_doOpening_173 : decode cX6_doOpening 173 = .ok (.iload 9, 2) := by decide +kernel
theorem dX6_doOpening_175 : decode cX6_doOpening 175 = .ok (.invokevirtual 74, 3) := by decide +kernel
theorem dX6_doOpening_178 : decode cX6_doOpening 178 = .ok (.lreturn, 1) := by decide +kernel
theorem dX6_doOpening_179 : decode cX6_doOpening 179 = .ok (.aload_n 0, 1) := by decide +kernel
theorem dX6_doOpening_180 : decode cX6_doOpening 180 = .ok (.getfield 18, 3) := by decide +kernel
theorem dX6_doOpening_183 : decode cX6_doOpening 183 = .ok (.aload_n 3, 1) := by decide +kernel
theorem dX6_doOpening_184 : decode cX6_doOpening 184 = .ok (.iload 10, 2) := by decide +kernel
theorem dX6_doOpening_186 : decode cX6_doOpening 186 = .ok (.iload 4, 2) := by decide +kernel
theorem dX6_doOpening_188 : decode cX6_doOpening 188 = .ok (.invokevirtual 161, 3) := by decide +kernel
theorem dX6_doOpening_191 : decode cX6_doOpening 191 = .ok (.astore 12, 2) := by decide +kernel
theorem dX6_doOpening_193 : decode cX6_doOpening 193 = .ok (.aload 12, 2) := by decide +kernel
theorem dX6_doOpening_195 : decode cX6_doOpening 195 = .ok (.ifnonnull 11, 3) := by decide +kernel
theorem dX6_doOpening_198 : decode cX6_doOpening 198 = .ok (.aload_n 0, 1) := by decide +kernel
theorem dX6_doOpening_199 : decode cX6_doOpening 199 = .ok (.iconst 4, 1) := by decide +kernel
theorem dX6_doOpening_200 : decode cX6_doOpening 200 = .ok (.invokevirtual 61, 3) := by decide +kernel
theorem dX6_doOpening_203 : decode cX6_doOpening 203 = .ok (.goto 18, 3) := by decide +kernel
theorem dX6_doOpening_206 : decode cX6_doOpening 206 = .ok (.aload_n 0, 1) := by decide +kernel
theorem dX6_doOpening_207 : decode cX6_doOpening 207 = .ok (.aload 12, 2) := by decide +kernel
theorem dX6_doOpening_209 : decode cX6_doOpening 209 = .ok (.aload_n 3, 1) := by decide +kernel
theorem dX6_doOpening_210 : decode cX6_doOpening 210 = .ok (.iload 4, 2) := by decide +kernel
theorem dX6_doOpening_212 : decode cX6_doOpening 212 = .ok (.iload 5, 2) := by decide +kernel
theorem dX6_doOpening_214 : decode cX6_doOpening 214 = .ok (.lload 6, 2) := by decide +kernel
theorem dX6_doOpening_216 : decode cX6_doOpening 216 = .ok (.iload 9, 2) := by decide +kernel
theorem dX6_doOpening_218 : decode cX6_doOpening 218 = .ok (.invokevirtual 97, 3) := by decide +kernel
theorem dX6_doOpening_221 : decode cX6_doOpening 221 = .ok (.lreturn, 1) := by decide +kernel
theorem dX6_doOpening_222 : decode cX6_doOpening 222 = .ok (.aload_n 0, 1) := by decide +kernel
theorem dX6_doOpening_223 : decode cX6_doOpening 223 = .ok (.aload_n 1, 1) := by decide +kernel
theorem dX6_doOpening_224 : decode cX6_doOpening 224 = .ok (.aload_n 3, 1) := by decide +kernel
theorem dX6_doOpening_225 : decode cX6_doOpening 225 = .ok (.iload 4, 2) := by decide +kernel
theorem dX6_doOpening_227 : decode cX6_doOpening 227 = .ok (.invokevirtual 164, 3) := by decide +kernel
theorem dX6_doOpening_230 : decode cX6_doOpening 230 = .ok (.astore 13, 2) := by decide +kernel
theorem dX6_doOpening_232 : decode cX6_doOpening 232 = .ok (.aload 13, 2) := by decide +kernel
theorem dX6_doOpening_234 : decode cX6_doOpening 234 = .ok (.ifnonnull 11, 3) := by decide +kernel
theorem dX6_doOpening_237 : decode cX6_doOpening 237 = .ok (.aload_n 0, 1) := by decide +kernel
theorem dX6_doOpening_238 : decode cX6_doOpening 238 = .ok (.iconst 4, 1) := by decide +kernel
theorem dX6_doOpening_239 : decode cX6_doOpening 239 = .ok (.invokevirtual 61, 3) := by decide +kernel
theorem dX6_doOpening_242 : decode cX6_doOpening 242 = .ok (.goto 18, 3) := by decide +kernel
theorem dX6_doOpening_245 : decode cX6_doOpening 245 = .ok (.aload_n 0, 1) := by decide +kernel
theorem dX6_doOpening_246 : decode cX6_doOpening 246 = .ok (.aload 13, 2) := by decide +kernel
theorem dX6_doOpening_248 : decode cX6_doOpening 248 = .ok (.aload_n 3, 1) := by decide +kernel
theorem dX6_doOpening_249 : decode cX6_doOpening 249 = .ok (.iload 4, 2) := by decide +kernel
theorem dX6_doOpening_251 : decode cX6_doOpening 251 = .ok (.iload 5, 2) := by decide +kernel
theorem dX6_doOpening_253 : decode cX6_doOpening 253 = .ok (.lload 6, 2) := by decide +kernel
theorem dX6_doOpening_255 : decode cX6_doOpening 255 = .ok (.iload 9, 2) := by decide +kernel
theorem dX6_doOpening_257 : decode cX6_doOpening 257 = .ok (.invokevirtual 97, 3) := by decide +kernel
theorem dX6_doOpening_260 : decode cX6_doOpening 260 = .ok (.lreturn, 1) := by decide +kernel
set_option maxRecDepth 100000 in
set_option maxHeartbeats 4000000 in
theorem k_open {d : Nat} (hC : KC d) (hG : KG d) (hD : KD d) : KO (d + 1) := by
  intro l M h p0 p1 p2 p3 p4 p5 p6
  refine ct_of (by decide) (fun S av h => by obtain ⟨rfl, iv, i_this, i_p0, i_p2, hz⟩ := h; exact by first | exact Nat.le_of_ble_eq_true rfl | omega | (dsimp only; omega)) ?_
  intro p e s m args below meth c D G bs S av C hr hin hpre
  obtain ⟨rfl, iv, i_this, i_p0, i_p2, hz⟩ := hpre
  have E0 : ext S S (fun a => ¬ M a ∧ mK S a ∈ [0, 6, 7, 12]) := ext_rfl
  refine v_iload C dX6_doOpening_0 rfl ?_
  refine v_bipush (v := 40) C dX6_doOpening_2 (by decide) ?_
  refine v_icmp_lt (tgt := 13) C dX6_doOpening_4 (by decide) (fun c_4 => ?_) (fun c_4 => ?_)
  · skip
    refine v_iload C dX6_doOpening_13 rfl ?_
    refine v_iconst (v := 1) C dX6_doOpening_15 (by decide) ?_
    refine v_iadd C dX6_doOpening_16 ?_
    refine v_istore C dX6_doOpening_17 (by decide) (by first | rfl | exact cat_ok _ | simp [okS, cat_rf]) ?_
    refine v_aload_n C dX6_doOpening_19 rfl ?_
    refine v_aload_n C dX6_doOpening_20 rfl ?_
    refine g6_32 C i_this dX6_doOpening_21 ?_
    refine v_topi (fun v21 e_v21 => ?_)
    refine v_iload C dX6_doOpening_24 rfl ?_
    refine v_max C wd746 wd747 wd748 wd749 dX6_doOpening_26 (by first | exact Nat.le_of_ble_eq_true rfl | omega | (dsimp only; omega)) (by first | exact Nat.le_of_ble_eq_true rfl | omega | (dsimp only; omega)) (by first | exact Nat.le_of_ble_eq_true rfl | omega | (dsimp only; omega)) (by first | exact Nat.le_of_ble_eq_true rfl | omega | (dsimp only; omega)) ?_
    refine p6_32 C i_this dX6_doOpening_29 ?_
    refine V.gen (fun S4_29 e_29 => ?_)
    have iv' := inv_sI e_29 iv (by decide) (by decide)
    have x_29 := x_sI e_29
    have E0' := ext_tr E0 x_29 (xk_is E0 i_this iv (by decide) (by decide))
    have E0 := E0'
    have i_this := is_ext x_29 i_this
    have i_p0 := is_ext x_29 i_p0
    have i_p2 := is_ext x_29 i_p2
    have iv := iv'
    refine v_aload_n C dX6_doOpening_32 rfl ?_
    refine v_iload_n C dX6_doOpening_33 rfl ?_
    refine v_callV (As := [_]) (n := 1) C (st_X5_firstAt l _ _ _) rfl i_p0 (by decide) rfl ⟨wd750, wd751, wd752, wd344, wd753⟩ ⟨rfl, hy_X5_firstAt⟩ rfl ⟨by first | exact Nat.le_of_ble_eq_true rfl | omega | (dsimp only; omega), by first | exact Nat.le_of_ble_eq_true rfl | omega | (dsimp only; omega)⟩ (by first | exact Nat.le_of_ble_eq_true rfl | omega | (dsimp only; omega)) ⟨by first | exact Nat.le_of_ble_eq_true rfl | omega | (dsimp only; omega), by first | exact Nat.le_of_ble_eq_true rfl | omega | (dsimp only; omega)⟩ dX6_doOpening_34 ⟨rfl, iv, i_p0⟩ (fun r_34 S4_34 h_34 => ?_)
    obtain ⟨v34, rfl, q_v34⟩ := h_34
    obtain rfl := q_v34.symm
    refine v_istore C dX6_doOpening_37 (by decide) (by first | rfl | exact cat_ok _ | simp [okS, cat_rf]) ?_
    refine v_aload_n C dX6_doOpening_39 rfl ?_
    refine v_iload_n C dX6_doOpening_40 rfl ?_
    refine v_callV (As := [_]) (n := 1) C (st_X5_kindAt l _ _ _) rfl i_p0 (by decide) rfl ⟨wd754, wd755, wd756, wd344, wd757⟩ ⟨rfl, hy_X5_kindAt⟩ rfl ⟨by first | exact Nat.le_of_ble_eq_true rfl | omega | (dsimp only; omega), by first | exact Nat.le_of_ble_eq_true rfl | omega | (dsimp only; omega)⟩ (by first | exact Nat.le_of_ble_eq_true rfl | omega | (dsimp only; omega)) ⟨by first | exact Nat.le_of_ble_eq_true rfl | omega | (dsimp only; omega), by first | exact Nat.le_of_ble_eq_true rfl | omega | (dsimp only; omega)⟩ dX6_doOpening_41 ⟨rfl, iv, i_p0⟩ (fun r_41 S4_41 h_41 => ?_)
    obtain ⟨v41, rfl, q_v41⟩ := h_41
    obtain rfl := q_v41.symm
    refine v_topi (fun k44 ek44 => ?_)
    by_cases k_5 : k44 = 5
    · skip
      refine v_tableIn (off := 48) (tgt := 92) C dX6_doOpening_44 (by rw [k_5]; decide) (by rw [k_5]; decide) (by rw [k_5]; rfl) (by decide) ?_
      refine v_aload_n C dX6_doOpening_92 rfl ?_
      refine v_aload_n C dX6_doOpening_93 rfl ?_
      refine v_aload_n C dX6_doOpening_94 rfl ?_
      refine v_iload C dX6_doOpening_95 rfl ?_
      refine v_lload C dX6_doOpening_97 rfl ?_
      refine v_iload C dX6_doOpening_99 rfl ?_
      refine v_callV (As := [_, _, _, _, _]) (n := 5) C (hC l _ _ _ _ _ _ _) rfl i_this (by decide) rfl ⟨wd725, wd726, wd727, wd19, wd728⟩ ⟨rfl, hy_X6_callAct⟩ rfl ⟨by first | exact Nat.le_of_ble_eq_true rfl | omega | (dsimp only; omega), by first | exact Nat.le_of_ble_eq_true rfl | omega | (dsimp only; omega)⟩ (by first | exact Nat.le_of_ble_eq_true rfl | omega | (dsimp only; omega)) ⟨by first | exact Nat.le_of_ble_eq_true rfl | omega | (dsimp only; omega), by first | exact Nat.le_of_ble_eq_true rfl | omega | (dsimp only; omega)⟩ dX6_doOpening_101 ⟨rfl, iv, i_this, i_p2, i_p2, (op_next hz.2 c_4)⟩ (fun r_101 S6_101 h_101 => ?_)
      obtain ⟨v101, rfl, iv2, x_101⟩ := h_101
      have i_this := is_ext x_101 i_this
      have i_p0 := is_ext x_101 i_p0
      have i_p2 := is_ext x_101 i_p2
      have E0' := ext_tr E0 x_101 (xk_call E0 (by decide))
      have E0 := E0'
      have iv := iv2
      refine v_lret C hr (by first | exact Nat.le_of_ble_eq_true rfl | omega | (dsimp only; omega)) (by first | exact Nat.le_of_ble_eq_true rfl | omega | (dsimp only; omega)) dX6_doOpening_104 ?_
      exact ⟨_, rfl, iv, E0⟩
    by_cases k_6 : k44 = 6
    · skip
      refine v_tableIn (off := 178) (tgt := 222) C dX6_doOpening_44 (by rw [k_6]; decide) (by rw [k_6]; decide) (by rw [k_6]; rfl) (by decide) ?_
      refine v_aload_n C dX6_doOpening_222 rfl ?_
      refine v_aload_n C dX6_doOpening_223 rfl ?_
      refine v_aload_n C dX6_doOpening_224 rfl ?_
      refine v_iload C dX6_doOpening_225 rfl ?_
      refine v_callV (As := [_, _, _]) (n := 3) C (st_X6_partAbove l _ _ _ _ _) rfl i_this (by decide) rfl ⟨wd776, wd777, wd778, wd19, wd779⟩ ⟨rfl, hy_X6_partAbove⟩ rfl ⟨by first | exact Nat.le_of_ble_eq_true rfl | omega | (dsimp only; omega), by first | exact Nat.le_of_ble_eq_true rfl | omega | (dsimp only; omega)⟩ (by first | exact Nat.le_of_ble_eq_true rfl | omega | (dsimp only; omega)) ⟨by first | exact Nat.le_of_ble_eq_true rfl | omega | (dsimp only; omega), by first | exact Nat.le_of_ble_eq_true rfl | omega | (dsimp only; omega)⟩ dX6_doOpening_227 ⟨rfl, iv, i_this, i_p0, i_p2⟩ (fun r_227 S6_227 h_227 => ?_)
      obtain ⟨v227, rfl, n_v227, iv2, x_227⟩ := h_227
      have i_this := is_ext x_227 i_this
      have i_p0 := is_ext x_227 i_p0
      have i_p2 := is_ext x_227 i_p2
      have E0' := ext_tr E0 x_227 (xk_call E0 (by decide))
      have E0 := E0'
      have iv := iv2
      refine v_qstore C dX6_doOpening_230 (by decide) (by first | rfl | exact cat_ok _ | simp [okS, cat_rf]) ?_
      refine v_qload C dX6_doOpening_232 rfl ?_
      refine v_ifnonnull (tgt := 245) C dX6_doOpening_234 (by decide) (fun b234 c_234 => ?_) (fun c_234 => ?_)
      · skip
        subst c_234
        have i_b234 := nOK_some n_v227 rfl
        refine v_aload_n C dX6_doOpening_245 rfl ?_
        refine v_aload C dX6_doOpening_246 rfl ?_
        refine v_aload_n C dX6_doOpening_248 rfl ?_
        refine v_iload C dX6_doOpening_249 rfl ?_
        refine v_iload C dX6_doOpening_251 rfl ?_
        refine v_lload C dX6_doOpening_253 rfl ?_
        refine v_iload C dX6_doOpening_255 rfl ?_
        refine v_callV (As := [_, _, _, _, _, _]) (n := 6) C (hD l _ _ _ _ _ _ _ _) rfl i_this (by decide) rfl ⟨wd773, wd774, wd775, wd19, wd786⟩ ⟨rfl, hy_X6_doOps⟩ rfl ⟨by first | exact Nat.le_of_ble_eq_true rfl | omega | (dsimp only; omega), by first | exact Nat.le_of_ble_eq_true rfl | omega | (dsimp only; omega)⟩ (by first | exact Nat.le_of_ble_eq_true rfl | omega | (dsimp only; omega)) ⟨by first | exact Nat.le_of_ble_eq_true rfl | omega | (dsimp only; omega), by first | exact Nat.le_of_ble_eq_true rfl | omega | (dsimp only; omega)⟩ dX6_doOpening_257 ⟨rfl, iv, i_this, i_b234, i_p2, hz.1, (op_next hz.2 c_4)⟩ (fun r_257 S8_257 h_257 => ?_)
        obtain ⟨v257, rfl, iv2, x_257⟩ := h_257
        have i_this := is_ext x_257 i_this
        have i_p0 := is_ext x_257 i_p0
        have i_p2 := is_ext x_257 i_p2
        have i_b234 := is_ext x_257 i_b234
        have E0' := ext_tr E0 x_257 (xk_call E0 (by decide))
        have E0 := E0'
        have iv := iv2
        refine v_lret C hr (by first | exact Nat.le_of_ble_eq_true rfl | omega | (dsimp only; omega)) (by first | exact Nat.le_of_ble_eq_true rfl | omega | (dsimp only; omega)) dX6_doOpening_260 ?_
        exact ⟨_, rfl, iv, E0⟩
      · skip
        subst c_234
        refine v_aload_n C dX6_doOpening_237 rfl ?_
        refine v_iconst (v := 4) C dX6_doOpening_238 (by decide) ?_
        refine v_callV (As := [_]) (n := 1) C (st_X6_fail l _ _ _) rfl i_this (by decide) rfl ⟨wd733, wd734, wd735, wd19, wd736⟩ ⟨rfl, hy_X6_fail⟩ rfl ⟨by first | exact Nat.le_of_ble_eq_true rfl | omega | (dsimp only; omega), by first | exact Nat.le_of_ble_eq_true rfl | omega | (dsimp only; omega)⟩ (by first | exact Nat.le_of_ble_eq_true rfl | omega | (dsimp only; omega)) ⟨by first | exact Nat.le_of_ble_eq_true rfl | omega | (dsimp only; omega), by first | exact Nat.le_of_ble_eq_true rfl | omega | (dsimp only; omega)⟩ dX6_doOpening_239 ⟨rfl, iv, i_this⟩ (fun r_239 S8_239 h_239 => ?_)
        obtain ⟨v239, rfl, iv2, x_239⟩ := h_239
        have i_this := is_ext x_239 i_this
        have i_p0 := is_ext x_239 i_p0
        have i_p2 := is_ext x_239 i_p2
        have E0' := ext_tr E0 x_239 (xk_call E0 (by decide))
        have E0 := E0'
        have iv := iv2
        refine v_goto (tgt := 260) C dX6_doOpening_242 (by decide) ?_
        refine v_lret C hr (by first | exact Nat.le_of_ble_eq_true rfl | omega | (dsimp only; omega)) (by first | exact Nat.le_of_ble_eq_true rfl | omega | (dsimp only; omega)) dX6_doOpening_260 ?_
        exact ⟨_, rfl, iv, E0⟩
    by_cases k_7 : k44 = 7
    · skip
      refine v_tableIn (off := 135) (tgt := 179) C dX6_doOpening_44 (by rw [k_7]; decide) (by rw [k_7]; decide) (by rw [k_7]; rfl) (by decide) ?_
      refine v_aload_n C dX6_doOpening_179 rfl ?_
      obtain ⟨a180, e_a180, i_a180⟩ := T384 iv i_this List.not_mem_nil
      refine r6_18 (b := a180) C i_this e_a180 dX6_doOpening_180 ?_
      refine v_aload_n C dX6_doOpening_183 rfl ?_
      refine v_iload C dX6_doOpening_184 rfl ?_
      refine v_iload C dX6_doOpening_186 rfl ?_
      refine v_callV (As := [_, _, _]) (n := 3) C (st_X1_bodyBy l _ _ _ _ _) rfl i_a180 (by decide) rfl ⟨wd768, wd769, wd770, wd15, wd771⟩ ⟨rfl, hy_X1_bodyBy⟩ rfl ⟨by first | exact Nat.le_of_ble_eq_true rfl | omega | (dsimp only; omega), by first | exact Nat.le_of_ble_eq_true rfl | omega | (dsimp only; omega)⟩ (by first | exact Nat.le_of_ble_eq_true rfl | omega | (dsimp only; omega)) ⟨by first | exact Nat.le_of_ble_eq_true rfl | omega | (dsimp only; omega), by first | exact Nat.le_of_ble_eq_true rfl | omega | (dsimp only; omega)⟩ dX6_doOpening_188 ⟨rfl, iv, i_a180, i_p2⟩ (fun r_188 S6_188 h_188 => ?_)
      obtain ⟨v188, rfl, n_v188, q_v188⟩ := h_188
      obtain rfl := q_v188.symm
      refine v_qstore C dX6_doOpening_191 (by decide) (by first | rfl | exact cat_ok _ | simp [okS, cat_rf]) ?_
      refine v_qload C dX6_doOpening_193 rfl ?_
      refine v_ifnonnull (tgt := 206) C dX6_doOpening_195 (by decide) (fun b195 c_195 => ?_) (fun c_195 => ?_)
      · skip
        subst c_195
        have i_b195 := nOK_some n_v188 rfl
        refine v_aload_n C dX6_doOpening_206 rfl ?_
        refine v_aload C dX6_doOpening_207 rfl ?_
        refine v_aload_n C dX6_doOpening_209 rfl ?_
        refine v_iload C dX6_doOpening_210 rfl ?_
        refine v_iload C dX6_doOpening_212 rfl ?_
        refine v_lload C dX6_doOpening_214 rfl ?_
        refine v_iload C dX6_doOpening_216 rfl ?_
        refine v_callV (As := [_, _, _, _, _, _]) (n := 6) C (hD l _ _ _ _ _ _ _ _) rfl i_this (by decide) rfl ⟨wd773, wd774, wd775, wd19, wd786⟩ ⟨rfl, hy_X6_doOps⟩ rfl ⟨by first | exact Nat.le_of_ble_eq_true rfl | omega | (dsimp only; omega), by first | exact Nat.le_of_ble_eq_true rfl | omega | (dsimp only; omega)⟩ (by first | exact Nat.le_of_ble_eq_true rfl | omega | (dsimp only; omega)) ⟨by first | exact Nat.le_of_ble_eq_true rfl | omega | (dsimp only; omega), by first | exact Nat.le_of_ble_eq_true rfl | omega | (dsimp only; omega)⟩ dX6_doOpening_218 ⟨rfl, iv, i_this, i_b195, i_p2, hz.1, (op_next hz.2 c_4)⟩ (fun r_218 S8_218 h_218 => ?_)
        obtain ⟨v218, rfl, iv2, x_218⟩ := h_218
        have i_this := is_ext x_218 i_this
        have i_p0 := is_ext x_218 i_p0
        have i_p2 := is_ext x_218 i_p2
        have i_a180 := is_ext x_218 i_a180
        have i_b195 := is_ext x_218 i_b195
        have E0' := ext_tr E0 x_218 (xk_call E0 (by decide))
        have E0 := E0'
        have iv := iv2
        refine v_lret C hr (by first | exact Nat.le_of_ble_eq_true rfl | omega | (dsimp only; omega)) (by first | exact Nat.le_of_ble_eq_true rfl | omega | (dsimp only; omega)) dX6_doOpening_221 ?_
        exact ⟨_, rfl, iv, E0⟩
      · skip
        subst c_195
        refine v_aload_n C dX6_doOpening_198 rfl ?_
        refine v_iconst (v := 4) C dX6_doOpening_199 (by decide) ?_
        refine v_callV (As := [_]) (n := 1) C (st_X6_fail l _ _ _) rfl i_this (by decide) rfl ⟨wd733, wd734, wd735, wd19, wd736⟩ ⟨rfl, hy_X6_fail⟩ rfl ⟨by first | exact Nat.le_of_ble_eq_true rfl | omega | (dsimp only; omega), by first | exact Nat.le_of_ble_eq_true rfl | omega | (dsimp only; omega)⟩ (by first | exact Nat.le_of_ble_eq_true rfl | omega | (dsimp only; omega)) ⟨by first | exact Nat.le_of_ble_eq_true rfl | omega | (dsimp only; omega), by first | exact Nat.le_of_ble_eq_true rfl | omega | (dsimp only; omega)⟩ dX6_doOpening_200 ⟨rfl, iv, i_this⟩ (fun r_200 S8_200 h_200 => ?_)
        obtain ⟨v200, rfl, iv2, x_200⟩ := h_200
        have i_this := is_ext x_200 i_this
        have i_p0 := is_ext x_200 i_p0
        have i_p2 := is_ext x_200 i_p2
        have i_a180 := is_ext x_200 i_a180
        have E0' := ext_tr E0 x_200 (xk_call E0 (by decide))
        have E0 := E0'
        have iv := iv2
        refine v_goto (tgt := 221) C dX6_doOpening_203 (by decide) ?_
        refine v_lret C hr (by first | exact Nat.le_of_ble_eq_true rfl | omega | (dsimp only; omega)) (by first | exact Nat.le_of_ble_eq_true rfl | omega | (dsimp only; omega)) dX6_doOpening_221 ?_
        exact ⟨_, rfl, iv, E0⟩
    by_cases k_8 : k44 = 8
    · skip
      refine v_tableIn (off := 78) (tgt := 122) C dX6_doOpening_44 (by rw [k_8]; decide) (by rw [k_8]; decide) (by rw [k_8]; rfl) (by decide) ?_
      refine v_aload_n C dX6_doOpening_122 rfl ?_
      obtain ⟨a123, e_a123, i_a123⟩ := T384 iv i_this List.not_mem_nil
      refine r6_18 (b := a123) C i_this e_a123 dX6_doOpening_123 ?_
      refine v_iload C dX6_doOpening_126 rfl ?_
      refine v_callV (As := [_]) (n := 1) C (st_X1_figureAt l _ _ _) rfl i_a123 (by decide) rfl ⟨wd763, wd301, wd302, wd15, wd303⟩ ⟨rfl, hy_X1_figureAt⟩ rfl ⟨by first | exact Nat.le_of_ble_eq_true rfl | omega | (dsimp only; omega), by first | exact Nat.le_of_ble_eq_true rfl | omega | (dsimp only; omega)⟩ (by first | exact Nat.le_of_ble_eq_true rfl | omega | (dsimp only; omega)) ⟨by first | exact Nat.le_of_ble_eq_true rfl | omega | (dsimp only; omega), by first | exact Nat.le_of_ble_eq_true rfl | omega | (dsimp only; omega)⟩ dX6_doOpening_128 ⟨rfl, iv, i_a123⟩ (fun r_128 S6_128 h_128 => ?_)
      obtain ⟨v128, rfl, n_v128, q_v128⟩ := h_128
      obtain rfl := q_v128.symm
      refine v_qstore C dX6_doOpening_131 (by decide) (by first | rfl | exact cat_ok _ | simp [okS, cat_rf]) ?_
      refine v_qload C dX6_doOpening_133 rfl ?_
      refine v_ifnonnull (tgt := 146) C dX6_doOpening_135 (by decide) (fun b135 c_135 => ?_) (fun c_135 => ?_)
      · skip
        subst c_135
        have i_b135 := nOK_some n_v128 rfl
        refine v_aload_n C dX6_doOpening_146 rfl ?_
        refine v_aload C dX6_doOpening_147 rfl ?_
        refine v_aload_n C dX6_doOpening_149 rfl ?_
        refine v_aload_n C dX6_doOpening_150 rfl ?_
        refine v_iload_n C dX6_doOpening_151 rfl ?_
        refine v_callV (As := [_]) (n := 1) C (st_X5_secondAt l _ _ _) rfl i_p0 (by decide) rfl ⟨wd764, wd765, wd766, wd344, wd767⟩ ⟨rfl, hy_X5_secondAt⟩ rfl ⟨by first | exact Nat.le_of_ble_eq_true rfl | omega | (dsimp only; omega), by first | exact Nat.le_of_ble_eq_true rfl | omega | (dsimp only; omega)⟩ (by first | exact Nat.le_of_ble_eq_true rfl | omega | (dsimp only; omega)) ⟨by first | exact Nat.le_of_ble_eq_true rfl | omega | (dsimp only; omega), by first | exact Nat.le_of_ble_eq_true rfl | omega | (dsimp only; omega)⟩ dX6_doOpening_152 ⟨rfl, iv, i_p0⟩ (fun r_152 S8_152 h_152 => ?_)
        obtain ⟨v152, rfl, q_v152⟩ := h_152
        obtain rfl := q_v152.symm
        refine v_lload C dX6_doOpening_155 rfl ?_
        refine v_iload C dX6_doOpening_157 rfl ?_
        refine v_callV (As := [_, _, _, _, _]) (n := 5) C (hC l _ _ _ _ _ _ _) rfl i_this (by decide) rfl ⟨wd725, wd726, wd727, wd19, wd728⟩ ⟨rfl, hy_X6_callAct⟩ rfl ⟨by first | exact Nat.le_of_ble_eq_true rfl | omega | (dsimp only; omega), by first | exact Nat.le_of_ble_eq_true rfl | omega | (dsimp only; omega)⟩ (by first | exact Nat.le_of_ble_eq_true rfl | omega | (dsimp only; omega)) ⟨by first | exact Nat.le_of_ble_eq_true rfl | omega | (dsimp only; omega), by first | exact Nat.le_of_ble_eq_true rfl | omega | (dsimp only; omega)⟩ dX6_doOpening_159 ⟨rfl, iv, i_this, i_b135, i_p2, (op_next hz.2 c_4)⟩ (fun r_159 S8_159 h_159 => ?_)
        obtain ⟨v159, rfl, iv2, x_159⟩ := h_159
        have i_this := is_ext x_159 i_this
        have i_p0 := is_ext x_159 i_p0
        have i_p2 := is_ext x_159 i_p2
        have i_a123 := is_ext x_159 i_a123
        have i_b135 := is_ext x_159 i_b135
        have E0' := ext_tr E0 x_159 (xk_call E0 (by decide))
        have E0 := E0'
        have iv := iv2
        refine v_lret C hr (by first | exact Nat.le_of_ble_eq_true rfl | omega | (dsimp only; omega)) (by first | exact Nat.le_of_ble_eq_true rfl | omega | (dsimp only; omega)) dX6_doOpening_162 ?_
        exact ⟨_, rfl, iv, E0⟩
      · skip
        subst c_135
        refine v_aload_n C dX6_doOpening_138 rfl ?_
        refine v_iconst (v := 4) C dX6_doOpening_139 (by decide) ?_
        refine v_callV (As := [_]) (n := 1) C (st_X6_fail l _ _ _) rfl i_this (by decide) rfl ⟨wd733, wd734, wd735, wd19, wd736⟩ ⟨rfl, hy_X6_fail⟩ rfl ⟨by first | exact Nat.le_of_ble_eq_true rfl | omega | (dsimp only; omega), by first | exact Nat.le_of_ble_eq_true rfl | omega | (dsimp only; omega)⟩ (by first | exact Nat.le_of_ble_eq_true rfl | omega | (dsimp only; omega)) ⟨by first | exact Nat.le_of_ble_eq_true rfl | omega | (dsimp only; omega), by first | exact Nat.le_of_ble_eq_true rfl | omega | (dsimp only; omega)⟩ dX6_doOpening_140 ⟨rfl, iv, i_this⟩ (fun r_140 S8_140 h_140 => ?_)
        obtain ⟨v140, rfl, iv2, x_140⟩ := h_140
        have i_this := is_ext x_140 i_this
        have i_p0 := is_ext x_140 i_p0
        have i_p2 := is_ext x_140 i_p2
        have i_a123 := is_ext x_140 i_a123
        have E0' := ext_tr E0 x_140 (xk_call E0 (by decide))
        have E0 := E0'
        have iv := iv2
        refine v_goto (tgt := 162) C dX6_doOpening_143 (by decide) ?_
        refine v_lret C hr (by first | exact Nat.le_of_ble_eq_true rfl | omega | (dsimp only; omega)) (by first | exact Nat.le_of_ble_eq_true rfl | omega | (dsimp only; omega)) dX6_doOpening_162 ?_
        exact ⟨_, rfl, iv, E0⟩
    by_cases k_9 : k44 = 9
    · skip
      refine v_tableIn (off := 178) (tgt := 222) C dX6_doOpening_44 (by rw [k_9]; decide) (by rw [k_9]; decide) (by rw [k_9]; rfl) (by decide) ?_
      refine v_aload_n C dX6_doOpening_222 rfl ?_
      refine v_aload_n C dX6_doOpening_223 rfl ?_
      refine v_aload_n C dX6_doOpening_224 rfl ?_
      refine v_iload C dX6_doOpening_225 rfl ?_
      refine v_callV (As := [_, _, _]) (n := 3) C (st_X6_partAbove l _ _ _ _ _) rfl i_this (by decide) rfl ⟨wd776, wd777, wd778, wd19, wd779⟩ ⟨rfl, hy_X6_partAbove⟩ rfl ⟨by first | exact Nat.le_of_ble_eq_true rfl | omega | (dsimp only; omega), by first | exact Nat.le_of_ble_eq_true rfl | omega | (dsimp only; omega)⟩ (by first | exact Nat.le_of_ble_eq_true rfl | omega | (dsimp only; omega)) ⟨by first | exact Nat.le_of_ble_eq_true rfl | omega | (dsimp only; omega), by first | exact Nat.le_of_ble_eq_true rfl | omega | (dsimp only; omega)⟩ dX6_doOpening_227 ⟨rfl, iv, i_this, i_p0, i_p2⟩ (fun r_227 S6_227 h_227 => ?_)
      obtain ⟨v227, rfl, n_v227, iv2, x_227⟩ := h_227
      have i_this := is_ext x_227 i_this
      have i_p0 := is_ext x_227 i_p0
      have i_p2 := is_ext x_227 i_p2
      have E0' := ext_tr E0 x_227 (xk_call E0 (by decide))
      have E0 := E0'
      have iv := iv2
      refine v_qstore C dX6_doOpening_230 (by decide) (by first | rfl | exact cat_ok _ | simp [okS, cat_rf]) ?_
      refine v_qload C dX6_doOpening_232 rfl ?_
      refine v_ifnonnull (tgt := 245) C dX6_doOpening_234 (by decide) (fun b234 c_234 => ?_) (fun c_234 => ?_)
      · skip
        subst c_234
        have i_b234 := nOK_some n_v227 rfl
        refine v_aload_n C dX6_doOpening_245 rfl ?_
        refine v_aload C dX6_doOpening_246 rfl ?_
        refine v_aload_n C dX6_doOpening_248 rfl ?_
        refine v_iload C dX6_doOpening_249 rfl ?_
        refine v_iload C dX6_doOpening_251 rfl ?_
        refine v_lload C dX6_doOpening_253 rfl ?_
        refine v_iload C dX6_doOpening_255 rfl ?_
        refine v_callV (As := [_, _, _, _, _, _]) (n := 6) C (hD l _ _ _ _ _ _ _ _) rfl i_this (by decide) rfl ⟨wd773, wd774, wd775, wd19, wd786⟩ ⟨rfl, hy_X6_doOps⟩ rfl ⟨by first | exact Nat.le_of_ble_eq_true rfl | omega | (dsimp only; omega), by first | exact Nat.le_of_ble_eq_true rfl | omega | (dsimp only; omega)⟩ (by first | exact Nat.le_of_ble_eq_true rfl | omega | (dsimp only; omega)) ⟨by first | exact Nat.le_of_ble_eq_true rfl | omega | (dsimp only; omega), by first | exact Nat.le_of_ble_eq_true rfl | omega | (dsimp only; omega)⟩ dX6_doOpening_257 ⟨rfl, iv, i_this, i_b234, i_p2, hz.1, (op_next hz.2 c_4)⟩ (fun r_257 S8_257 h_257 => ?_)
        obtain ⟨v257, rfl, iv2, x_257⟩ := h_257
        have i_this := is_ext x_257 i_this
        have i_p0 := is_ext x_257 i_p0
        have i_p2 := is_ext x_257 i_p2
        have i_b234 := is_ext x_257 i_b234
        have E0' := ext_tr E0 x_257 (xk_call E0 (by decide))
        have E0 := E0'
        have iv := iv2
        refine v_lret C hr (by first | exact Nat.le_of_ble_eq_true rfl | omega | (dsimp only; omega)) (by first | exact Nat.le_of_ble_eq_true rfl | omega | (dsimp only; omega)) dX6_doOpening_260 ?_
        exact ⟨_, rfl, iv, E0⟩
      · skip
        subst c_234
        refine v_aload_n C dX6_doOpening_237 rfl ?_
        refine v_iconst (v := 4) C dX6_doOpening_238 (by decide) ?_
        refine v_callV (As := [_]) (n := 1) C (st_X6_fail l _ _ _) rfl i_this (by decide) rfl ⟨wd733, wd734, wd735, wd19, wd736⟩ ⟨rfl, hy_X6_fail⟩ rfl ⟨by first | exact Nat.le_of_ble_eq_true rfl | omega | (dsimp only; omega), by first | exact Nat.le_of_ble_eq_true rfl | omega | (dsimp only; omega)⟩ (by first | exact Nat.le_of_ble_eq_true rfl | omega | (dsimp only; omega)) ⟨by first | exact Nat.le_of_ble_eq_true rfl | omega | (dsimp only; omega), by first | exact Nat.le_of_ble_eq_true rfl | omega | (dsimp only; omega)⟩ dX6_doOpening_239 ⟨rfl, iv, i_this⟩ (fun r_239 S8_239 h_239 => ?_)
        obtain ⟨v239, rfl, iv2, x_239⟩ := h_239
        have i_this := is_ext x_239 i_this
        have i_p0 := is_ext x_239 i_p0
        have i_p2 := is_ext x_239 i_p2
        have E0' := ext_tr E0 x_239 (xk_call E0 (by decide))
        have E0 := E0'
        have iv := iv2
        refine v_goto (tgt := 260) C dX6_doOpening_242 (by decide) ?_
        refine v_lret C hr (by first | exact Nat.le_of_ble_eq_true rfl | omega | (dsimp only; omega)) (by first | exact Nat.le_of_ble_eq_true rfl | omega | (dsimp only; omega)) dX6_doOpening_260 ?_
        exact ⟨_, rfl, iv, E0⟩
    by_cases k_10 : k44 = 10
    · skip
      refine v_tableIn (off := 61) (tgt := 105) C dX6_doOpening_44 (by rw [k_10]; decide) (by rw [k_10]; decide) (by rw [k_10]; rfl) (by decide) ?_
      refine v_aload_n C dX6_doOpening_105 rfl ?_
      refine v_aload_n C dX6_doOpening_106 rfl ?_
      refine v_aload_n C dX6_doOpening_107 rfl ?_
      refine v_aload_n C dX6_doOpening_108 rfl ?_
      refine v_iload C dX6_doOpening_109 rfl ?_
      refine v_lload C dX6_doOpening_111 rfl ?_
      refine v_iload C dX6_doOpening_113 rfl ?_
      refine v_callV (As := [_, _, _, _, _]) (n := 5) C (hC l _ _ _ _ _ _ _) rfl i_this (by decide) rfl ⟨wd725, wd726, wd727, wd19, wd728⟩ ⟨rfl, hy_X6_callAct⟩ rfl ⟨by first | exact Nat.le_of_ble_eq_true rfl | omega | (dsimp only; omega), by first | exact Nat.le_of_ble_eq_true rfl | omega | (dsimp only; omega)⟩ (by first | exact Nat.le_of_ble_eq_true rfl | omega | (dsimp only; omega)) ⟨by first | exact Nat.le_of_ble_eq_true rfl | omega | (dsimp only; omega), by first | exact Nat.le_of_ble_eq_true rfl | omega | (dsimp only; omega)⟩ dX6_doOpening_115 ⟨rfl, iv, i_this, i_p2, i_p2, (op_next hz.2 c_4)⟩ (fun r_115 S6_115 h_115 => ?_)
      obtain ⟨v115, rfl, iv2, x_115⟩ := h_115
      have i_this := is_ext x_115 i_this
      have i_p0 := is_ext x_115 i_p0
      have i_p2 := is_ext x_115 i_p2
      have E0' := ext_tr E0 x_115 (xk_call E0 (by decide))
      have E0 := E0'
      have iv := iv2
      refine v_callV (As := [_]) (n := 1) C (st_X6_takeFailureAway l _ _ _) rfl i_this (by decide) rfl ⟨wd758, wd759, wd760, wd19, wd761⟩ ⟨rfl, hy_X6_takeFailureAway⟩ rfl ⟨by first | exact Nat.le_of_ble_eq_true rfl | omega | (dsimp only; omega), by first | exact Nat.le_of_ble_eq_true rfl | omega | (dsimp only; omega)⟩ (by first | exact Nat.le_of_ble_eq_true rfl | omega | (dsimp only; omega)) ⟨by first | exact Nat.le_of_ble_eq_true rfl | omega | (dsimp only; omega), by first | exact Nat.le_of_ble_eq_true rfl | omega | (dsimp only; omega)⟩ dX6_doOpening_118 ⟨rfl, iv, i_this⟩ (fun r_118 S6_118 h_118 => ?_)
      obtain ⟨v118, rfl, iv2, x_118⟩ := h_118
      have i_this := is_ext x_118 i_this
      have i_p0 := is_ext x_118 i_p0
      have i_p2 := is_ext x_118 i_p2
      have E0' := ext_tr E0 x_118 (xk_call E0 (by decide))
      have E0 := E0'
      have iv := iv2
      refine v_lret C hr (by first | exact Nat.le_of_ble_eq_true rfl | omega | (dsimp only; omega)) (by first | exact Nat.le_of_ble_eq_true rfl | omega | (dsimp only; omega)) dX6_doOpening_121 ?_
      exact ⟨_, rfl, iv, E0⟩
    by_cases k_11 : k44 = 11
    · skip
      refine v_tableIn (off := 178) (tgt := 222) C dX6_doOpening_44 (by rw [k_11]; decide) (by rw [k_11]; decide) (by rw [k_11]; rfl) (by decide) ?_
      refine v_aload_n C dX6_doOpening_222 rfl ?_
      refine v_aload_n C dX6_doOpening_223 rfl ?_
      refine v_aload_n C dX6_doOpening_224 rfl ?_
      refine v_iload C dX6_doOpening_225 rfl ?_
      refine v_callV (As := [_, _, _]) (n := 3) C (st_X6_partAbove l _ _ _ _ _) rfl i_this (by decide) rfl ⟨wd776, wd777, wd778, wd19, wd779⟩ ⟨rfl, hy_X6_partAbove⟩ rfl ⟨by first | exact Nat.le_of_ble_eq_true rfl | omega | (dsimp only; omega), by first | exact Nat.le_of_ble_eq_true rfl | omega | (dsimp only; omega)⟩ (by first | exact Nat.le_of_ble_eq_true rfl | omega | (dsimp only; omega)) ⟨by first | exact Nat.le_of_ble_eq_true rfl | omega | (dsimp only; omega), by first | exact Nat.le_of_ble_eq_true rfl | omega | (dsimp only; omega)⟩ dX6_doOpening_227 ⟨rfl, iv, i_this, i_p0, i_p2⟩ (fun r_227 S6_227 h_227 => ?_)
      obtain ⟨v227, rfl, n_v227, iv2, x_227⟩ := h_227
      have i_this := is_ext x_227 i_this
      have i_p0 := is_ext x_227 i_p0
      have i_p2 := is_ext x_227 i_p2
      have E0' := ext_tr E0 x_227 (xk_call E0 (by decide))
      have E0 := E0'
      have iv := iv2
      refine v_qstore C dX6_doOpening_230 (by decide) (by first | rfl | exact cat_ok _ | simp [okS, cat_rf]) ?_
      refine v_qload C dX6_doOpening_232 rfl ?_
      refine v_ifnonnull (tgt := 245) C dX6_doOpening_234 (by decide) (fun b234 c_234 => ?_) (fun c_234 => ?_)
      · skip
        subst c_234
        have i_b234 := nOK_some n_v227 rfl
        refine v_aload_n C dX6_doOpening_245 rfl ?_
        refine v_aload C dX6_doOpening_246 rfl ?_
        refine v_aload_n C dX6_doOpening_248 rfl ?_
        refine v_iload C dX6_doOpening_249 rfl ?_
        refine v_iload C dX6_doOpening_251 rfl ?_
        refine v_lload C dX6_doOpening_253 rfl ?_
        refine v_iload C dX6_doOpening_255 rfl ?_
        refine v_callV (As := [_, _, _, _, _, _]) (n := 6) C (hD l _ _ _ _ _ _ _ _) rfl i_this (by decide) rfl ⟨wd773, wd774, wd775, wd19, wd786⟩ ⟨rfl, hy_X6_doOps⟩ rfl ⟨by first | exact Nat.le_of_ble_eq_true rfl | omega | (dsimp only; omega), by first | exact Nat.le_of_ble_eq_true rfl | omega | (dsimp only; omega)⟩ (by first | exact Nat.le_of_ble_eq_true rfl | omega | (dsimp only; omega)) ⟨by first | exact Nat.le_of_ble_eq_true rfl | omega | (dsimp only; omega), by first | exact Nat.le_of_ble_eq_true rfl | omega | (dsimp only; omega)⟩ dX6_doOpening_257 ⟨rfl, iv, i_this, i_b234, i_p2, hz.1, (op_next hz.2 c_4)⟩ (fun r_257 S8_257 h_257 => ?_)
        obtain ⟨v257, rfl, iv2, x_257⟩ := h_257
        have i_this := is_ext x_257 i_this
        have i_p0 := is_ext x_257 i_p0
        have i_p2 := is_ext x_257 i_p2
        have i_b234 := is_ext x_257 i_b234
        have E0' := ext_tr E0 x_257 (xk_call E0 (by decide))
        have E0 := E0'
        have iv := iv2
        refine v_lret C hr (by first | exact Nat.le_of_ble_eq_true rfl | omega | (dsimp only; omega)) (by first | exact Nat.le_of_ble_eq_true rfl | omega | (dsimp only; omega)) dX6_doOpening_260 ?_
        exact ⟨_, rfl, iv, E0⟩
      · skip
        subst c_234
        refine v_aload_n C dX6_doOpening_237 rfl ?_
        refine v_iconst (v := 4) C dX6_doOpening_238 (by decide) ?_
        refine v_callV (As := [_]) (n := 1) C (st_X6_fail l _ _ _) rfl i_this (by decide) rfl ⟨wd733, wd734, wd735, wd19, wd736⟩ ⟨rfl, hy_X6_fail⟩ rfl ⟨by first | exact Nat.le_of_ble_eq_true rfl | omega | (dsimp only; omega), by first | exact Nat.le_of_ble_eq_true rfl | omega | (dsimp only; omega)⟩ (by first | exact Nat.le_of_ble_eq_true rfl | omega | (dsimp only; omega)) ⟨by first | exact Nat.le_of_ble_eq_true rfl | omega | (dsimp only; omega), by first | exact Nat.le_of_ble_eq_true rfl | omega | (dsimp only; omega)⟩ dX6_doOpening_239 ⟨rfl, iv, i_this⟩ (fun r_239 S8_239 h_239 => ?_)
        obtain ⟨v239, rfl, iv2, x_239⟩ := h_239
        have i_this := is_ext x_239 i_this
        have i_p0 := is_ext x_239 i_p0
        have i_p2 := is_ext x_239 i_p2
        have E0' := ext_tr E0 x_239 (xk_call E0 (by decide))
        have E0 := E0'
        have iv := iv2
        refine v_goto (tgt := 260) C dX6_doOpening_242 (by decide) ?_
        refine v_lret C hr (by first | exact Nat.le_of_ble_eq_true rfl | omega | (dsimp only; omega)) (by first | exact Nat.le_of_ble_eq_true rfl | omega | (dsimp only; omega)) dX6_doOpening_260 ?_
        exact ⟨_, rfl, iv, E0⟩
    by_cases k_12 : k44 = 12
    · skip
      refine v_tableIn (off := 119) (tgt := 163) C dX6_doOpening_44 (by rw [k_12]; decide) (by rw [k_12]; decide) (by rw [k_12]; rfl) (by decide) ?_
      refine v_aload_n C dX6_doOpening_163 rfl ?_
      refine v_aload_n C dX6_doOpening_164 rfl ?_
      refine v_iload C dX6_doOpening_165 rfl ?_
      refine v_iload C dX6_doOpening_167 rfl ?_
      refine v_iconst (v := 1) C dX6_doOpening_169 (by decide) ?_
      refine v_iadd C dX6_doOpening_170 ?_
      refine v_lload C dX6_doOpening_171 rfl ?_
      refine v_iload C dX6_doOpening_173 rfl ?_
      refine v_callV (As := [_, _, _, _, _]) (n := 5) C (hG l _ _ _ _ _ _ _) rfl i_this (by decide) rfl ⟨wd742, wd743, wd744, wd19, wd812⟩ ⟨rfl, hy_X6_goWithin⟩ rfl ⟨by first | exact Nat.le_of_ble_eq_true rfl | omega | (dsimp only; omega), by first | exact Nat.le_of_ble_eq_true rfl | omega | (dsimp only; omega)⟩ (by first | exact Nat.le_of_ble_eq_true rfl | omega | (dsimp only; omega)) ⟨by first | exact Nat.le_of_ble_eq_true rfl | omega | (dsimp only; omega), by first | exact Nat.le_of_ble_eq_true rfl | omega | (dsimp only; omega)⟩ dX6_doOpening_175 ⟨rfl, iv, i_this, i_p2, (pl_next hz.1), (op_next hz.2 c_4)⟩ (fun r_175 S6_175 h_175 => ?_)
      obtain ⟨v175, rfl, iv2, x_175⟩ := h_175
      have i_this := is_ext x_175 i_this
      have i_p0 := is_ext x_175 i_p0
      have i_p2 := is_ext x_175 i_p2
      have E0' := ext_tr E0 x_175 (xk_call E0 (by decide))
      have E0 := E0'
      have iv := iv2
      refine v_lret C hr (by first | exact Nat.le_of_ble_eq_true rfl | omega | (dsimp only; omega)) (by first | exact Nat.le_of_ble_eq_true rfl | omega | (dsimp only; omega)) dX6_doOpening_178 ?_
      exact ⟨_, rfl, iv, E0⟩
    refine v_tableOut (tgt := 222) C dX6_doOpening_44 (by have q5 := lv_neT k_5 (a := 5) rfl ; have q6 := lv_neT k_6 (a := 6) rfl ; have q7 := lv_neT k_7 (a := 7) rfl ; have q8 := lv_neT k_8 (a := 8) rfl ; have q9 := lv_neT k_9 (a := 9) rfl ; have q10 := lv_neT k_10 (a := 10) rfl ; have q11 := lv_neT k_11 (a := 11) rfl ; have q12 := lv_neT k_12 (a := 12) rfl ; omega) (by decide) ?_
    refine v_aload_n C dX6_doOpening_222 rfl ?_
    refine v_aload_n C dX6_doOpening_223 rfl ?_
    refine v_aload_n C dX6_doOpening_224 rfl ?_
    refine v_iload C dX6_doOpening_225 rfl ?_
    refine v_callV (As := [_, _, _]) (n := 3) C (st_X6_partAbove l _ _ _ _ _) rfl i_this (by decide) rfl ⟨wd776, wd777, wd778, wd19, wd779⟩ ⟨rfl, hy_X6_partAbove⟩ rfl ⟨by first | exact Nat.le_of_ble_eq_true rfl | omega | (dsimp only; omega), by first | exact Nat.le_of_ble_eq_true rfl | omega | (dsimp only; omega)⟩ (by first | exact Nat.le_of_ble_eq_true rfl | omega | (dsimp only; omega)) ⟨by first | exact Nat.le_of_ble_eq_true rfl | omega | (dsimp only; omega), by first | exact Nat.le_of_ble_eq_true rfl | omega | (dsimp only; omega)⟩ dX6_doOpening_227 ⟨rfl, iv, i_this, i_p0, i_p2⟩ (fun r_227 S4_227 h_227 => ?_)
    obtain ⟨v227, rfl, n_v227, iv2, x_227⟩ := h_227
    have i_this := is_ext x_227 i_this
    have i_p0 := is_ext x_227 i_p0
    have i_p2 := is_ext x_227 i_p2
    have E0' := ext_tr E0 x_227 (xk_call E0 (by decide))
    have E0 := E0'
    have iv := iv2
    refine v_qstore C dX6_doOpening_230 (by decide) (by first | rfl | exact cat_ok _ | simp [okS, cat_rf]) ?_
    refine v_qload C dX6_doOpening_232 rfl ?_
    refine v_ifnonnull (tgt := 245) C dX6_doOpening_234 (by decide) (fun b234 c_234 => ?_) (fun c_234 => ?_)
    · skip
      subst c_234
      have i_b234 := nOK_some n_v227 rfl
      refine v_aload_n C dX6_doOpening_245 rfl ?_
      refine v_aload C dX6_doOpening_246 rfl ?_
      refine v_aload_n C dX6_doOpening_248 rfl ?_
      refine v_iload C dX6_doOpening_249 rfl ?_
      refine v_iload C dX6_doOpening_251 rfl ?_
      refine v_lload C dX6_doOpening_253 rfl ?_
      refine v_iload C dX6_doOpening_255 rfl ?_
      refine v_callV (As := [_, _, _, _, _, _]) (n := 6) C (hD l _ _ _ _ _ _ _ _) rfl i_this (by decide) rfl ⟨wd773, wd774, wd775, wd19, wd786⟩ ⟨rfl, hy_X6_doOps⟩ rfl ⟨by first | exact Nat.le_of_ble_eq_true rfl | omega | (dsimp only; omega), by first | exact Nat.le_of_ble_eq_true rfl | omega | (dsimp only; omega)⟩ (by first | exact Nat.le_of_ble_eq_true rfl | omega | (dsimp only; omega)) ⟨by first | exact Nat.le_of_ble_eq_true rfl | omega | (dsimp only; omega), by first | exact Nat.le_of_ble_eq_true rfl | omega | (dsimp only; omega)⟩ dX6_doOpening_257 ⟨rfl, iv, i_this, i_b234, i_p2, hz.1, (op_next hz.2 c_4)⟩ (fun r_257 S6_257 h_257 => ?_)
      obtain ⟨v257, rfl, iv2, x_257⟩ := h_257
      have i_this := is_ext x_257 i_this
      have i_p0 := is_ext x_257 i_p0
      have i_p2 := is_ext x_257 i_p2
      have i_b234 := is_ext x_257 i_b234
      have E0' := ext_tr E0 x_257 (xk_call E0 (by decide))
      have E0 := E0'
      have iv := iv2
      refine v_lret C hr (by first | exact Nat.le_of_ble_eq_true rfl | omega | (dsimp only; omega)) (by first | exact Nat.le_of_ble_eq_true rfl | omega | (dsimp only; omega)) dX6_doOpening_260 ?_
      exact ⟨_, rfl, iv, E0⟩
    · skip
      subst c_234
      refine v_aload_n C dX6_doOpening_237 rfl ?_
      refine v_iconst (v := 4) C dX6_doOpening_238 (by decide) ?_
      refine v_callV (As := [_]) (n := 1) C (st_X6_fail l _ _ _) rfl i_this (by decide) rfl ⟨wd733, wd734, wd735, wd19, wd736⟩ ⟨rfl, hy_X6_fail⟩ rfl ⟨by first | exact Nat.le_of_ble_eq_true rfl | omega | (dsimp only; omega), by first | exact Nat.le_of_ble_eq_true rfl | omega | (dsimp only; omega)⟩ (by first | exact Nat.le_of_ble_eq_true rfl | omega | (dsimp only; omega)) ⟨by first | exact Nat.le_of_ble_eq_true rfl | omega | (dsimp only; omega), by first | exact Nat.le_of_ble_eq_true rfl | omega | (dsimp only; omega)⟩ dX6_doOpening_239 ⟨rfl, iv, i_this⟩ (fun r_239 S6_239 h_239 => ?_)
      obtain ⟨v239, rfl, iv2, x_239⟩ := h_239
      have i_this := is_ext x_239 i_this
      have i_p0 := is_ext x_239 i_p0
      have i_p2 := is_ext x_239 i_p2
      have E0' := ext_tr E0 x_239 (xk_call E0 (by decide))
      have E0 := E0'
      have iv := iv2
      refine v_goto (tgt := 260) C dX6_doOpening_242 (by decide) ?_
      refine v_lret C hr (by first | exact Nat.le_of_ble_eq_true rfl | omega | (dsimp only; omega)) (by first | exact Nat.le_of_ble_eq_true rfl | omega | (dsimp only; omega)) dX6_doOpening_260 ?_
      exact ⟨_, rfl, iv, E0⟩
  · skip
    refine v_aload_n C dX6_doOpening_7 rfl ?_
    refine v_iconst (v := 2) C dX6_doOpening_8 (by decide) ?_
    refine v_callV (As := [_]) (n := 1) C (st_X6_fail l _ _ _) rfl i_this (by decide) rfl ⟨wd733, wd734, wd735, wd19, wd736⟩ ⟨rfl, hy_X6_fail⟩ rfl ⟨by first | exact Nat.le_of_ble_eq_true rfl | omega | (dsimp only; omega), by first | exact Nat.le_of_ble_eq_true rfl | omega | (dsimp only; omega)⟩ (by first | exact Nat.le_of_ble_eq_true rfl | omega | (dsimp only; omega)) ⟨by first | exact Nat.le_of_ble_eq_true rfl | omega | (dsimp only; omega), by first | exact Nat.le_of_ble_eq_true rfl | omega | (dsimp only; omega)⟩ dX6_doOpening_9 ⟨rfl, iv, i_this⟩ (fun r_9 S4_9 h_9 => ?_)
    obtain ⟨v9, rfl, iv2, x_9⟩ := h_9
    have i_this := is_ext x_9 i_this
    have i_p0 := is_ext x_9 i_p0
    have i_p2 := is_ext x_9 i_p2
    have E0' := ext_tr E0 x_9 (xk_call E0 (by decide))
    have E0 := E0'
    have iv := iv2
    refine v_lret C hr (by first | exact Nat.le_of_ble_eq_true rfl | omega | (dsimp only; omega)) (by first | exact Nat.le_of_ble_eq_true rfl | omega | (dsimp only; omega)) dX6_doOpening_12 ?_
    exact ⟨_, rfl, iv, E0⟩
theorem dX6_doOps_0 : decode cX6_doOps 0 = .ok (.lload 5, 2) := by decide +kernel
theorem dX6_doOps_2 : decode cX6_doOps 2 = .ok (.lstore 8, 2) := by decide +kernel
theorem dX6_doOps_4 : decode cX6_doOps 4 = .ok (.iconst 0, 1) := by decide +kernel
theorem dX6_doOps_5 : decode cX6_doOps 5 = .ok (.istore 10, 2) := by decide +kernel
theorem dX6_doOps_7 : decode cX6_doOps 7 = .ok (.iconst 0, 1) := by decide +kernel
theorem dX6_doOps_8 : decode cX6_doOps 8 = .ok (.istore 11, 2) := by decide +kernel
theorem dX6_doOps_10 : decode cX6_doOps 10 = .ok (.iload 11, 2) := by decide +kernel
theorem dX6_doOps_12 : decode cX6_doOps 12 = .ok (.aload_n 1, 1) := by decide +kernel
theorem dX6_doOps_13 : decode cX6_doOps 13 = .ok (.getfield 110, 3) := by decide +kernel
theorem dX6_doOps_16 : decode cX6_doOps 16 = .ok (.if_icmp .ge 127, 3) := by decide +kernel
theorem dX6_doOps_19 : decode cX6_doOps 19 = .ok (.aload_n 0, 1) := by decide +kernel
theorem dX6_doOps_20 : decode cX6_doOps 20 = .ok (.getfield 26, 3) := by decide +kernel
theorem dX6_doOps_23 : decode cX6_doOps 23 = .ok (.ifCond .ne 120, 3) := by decide +kernel
theorem dX6_doOps_26 : decode cX6_doOps 26 = .ok (.aload_n 1, 1) := by decide +kernel
theorem dX6_doOps_27 : decode cX6_doOps 27 = .ok (.iload 11, 2) := by decide +kernel
theorem dX6_doOps_29 : decode cX6_doOps 29 = .ok (.invokevirtual 111, 3) := by decide +kernel
theorem dX6_doOps_32 : decode cX6_doOps 32 = .ok (.istore 12, 2) := by decide +kernel
theorem dX6_doOps_34 : decode cX6_doOps 34 = .ok (.iload 10, 2) := by decide +kernel
theorem dX6_doOps_36 : decode cX6_doOps 36 = .ok (.ifCond .eq 9, 3) := by decide +kernel
theorem dX6_doOps_39 : decode cX6_doOps 39 = .ok (.iconst 0, 1) := by decide +kernel
theorem dX6_doOps_40 : decode cX6_doOps 40 = .ok (.istore 10, 2) := by decide +kernel
theorem dX6_doOps_42 : decode cX6_doOps 42 = .ok (.goto 95, 3) := by decide +kernel
theorem dX6_doOps_45 : decode cX6_doOps 45 = .ok (.aload_n 0, 1) := by decide +kernel
theorem dX6_doOps_46 : decode cX6_doOps 46 = .ok (.getfield 29, 3) := by decide +kernel
theorem dX6_doOps_49 : decode cX6_doOps 49 = .ok (.sipush 600, 3) := by decide +kernel
theorem dX6_doOps_52 : decode cX6_doOps 52 = .ok (.if_icmp .lt 14, 3) := by decide +kernel
theorem dX6_doOps_55 : decode cX6_doOps 55 = .ok (.aload_n 0, 1) := by decide +kernel
theorem dX6_doOps_56 : decode cX6_doOps 56 = .ok (.bipush 6, 2) := by decide +kernel
theorem dX6_doOps_58 : decode cX6_doOps 58 = .ok (.invokevirtual 61, 3) := by decide +kernel
theorem dX6_doOps_61 : decode cX6_doOps 61 = .ok (.lstore 8, 2) := by decide +kernel
theorem dX6_doOps_63 : decode cX6_doOps 63 = .ok (.goto 74, 3) := by decide +kernel
theorem dX6_doOps_66 : decode cX6_doOps 66 = .ok (.aload_n 0, 1) := by decide +kernel
theorem dX6_doOps_67 : decode cX6_doOps 67 = .ok (.dup, 1) := by decide +kernel
theorem dX6_doOps_68 : decode cX6_doOps 68 = .ok (.getfield 29, 3) := by decide +kernel
theorem dX6_doOps_71 : decode cX6_doOps 71 = .ok (.iconst 1, 1) := by decide +kernel
theorem dX6_doOps_72 : decode cX6_doOps 72 = .ok (.iadd, 1) := by decide +kernel
theorem dX6_doOps_73 : decode cX6_doOps 73 = .ok (.putfield 29, 3) := by decide +kernel
theorem dX6_doOps_76 : decode cX6_doOps 76 = .ok (.iload 12, 2) := by decide +kernel
theorem dX6_doOps_78 : decode cX6_doOps 78 = .ok (.bipush 11, 2) := by decide +kernel
theorem dX6_doOps_80 : decode cX6_doOps 80 = .ok (.if_icmp .ne 14, 3) := by decide +kernel
theorem dX6_doOps_83 : decode cX6_doOps 83 = .ok (.lload 8, 2) := by decide +kernel
theorem dX6_doOps_85 : decode cX6_doOps 85 = .ok (.lconst 1, 1) := by decide +kernel
theorem dX6_doOps_86 : decode cX6_doOps 86 = .ok (.lcmp, 1) := by decide +kernel
theorem dX6_doOps_87 : decode cX6_doOps 87 = .ok (.ifCond .ge 7, 3) := by decide +kernel
theorem dX6_doOps_90 : decode cX6_doOps 90 = .ok (.iconst 1, 1) := by decide +kernel
theorem dX6_doOps_91 : decode cX6_doOps 91 = .ok (.goto 4, 3) := by decide +kernel
theorem dX6_doOps_94 : decode cX6_doOps 94 = .ok (.iconst 0, 1) := by decide +kernel
theorem dX6_doOps_95 : decode cX6_doOps 95 = .ok (.istore 10, 2) := by decide +kernel
theorem dX6_doOps_97 : decode cX6_doOps 97 = .ok (.aload_n 1, 1) := by decide +kernel
theorem dX6_doOps_98 : decode cX6_doOps 98 = .ok (.iload 12, 2) := by decide +kernel
theorem dX6_doOps_100 : decode cX6_doOps 100 = .ok (.invokevirtual 115, 3) := by decide +kernel
theorem dX6_doOps_103 : decode cX6_doOps 103 = .ok (.ifCond .eq 21, 3) := by decide +kernel
theorem dX6_doOps_106 : decode cX6_doOps 106 = .ok (.aload_n 0, 1) := by decide +kernel
theorem dX6_doOps_107 : decode cX6_doOps 107 = .ok (.aload_n 1, 1) := by decide +kernel
theorem dX6_doOps_108 : decode cX6_doOps 108 = .ok (.iload 11, 2) := by decide +kernel
theorem dX6_doOps_110 : decode cX6_doOps 110 = .ok (.aload_n 2, 1) := by decide +kernel
theorem dX6_doOps_111 : decode cX6_doOps 111 = .ok (.iload_n 3, 1) := by decide +kernel
theorem dX6_doOps_112 : decode cX6_doOps 112 = .ok (.iload 4, 2) := by decide +kernel
theorem dX6_doOps_114 : decode cX6_doOps 114 = .ok (.lload 8, 2) := by decide +kernel
theorem dX6_doOps_116 : decode cX6_doOps 116 = .ok (.iload 7, 2) := by decide +kernel
theorem dX6_doOps_118 : decode cX6_doOps 118 = .ok (.invokevirtual 119, 3) := by decide +kernel
theorem dX6_doOps_121 : decode cX6_doOps 121 = .ok (.goto 14, 3) := by decide +kernel
theorem dX6_doOps_124 : decode cX6_doOps 124 = .ok (.aload_n 0, 1) := by decide +kernel
theorem dX6_doOps_125 : decode cX6_doOps 125 = .ok (.aload_n 1, 1) := by decide +kernel
theorem dX6_doOps_126 : decode cX6_doOps 126 = .ok (.iload 11, 2) := by decide +kernel
theorem dX6_doOps_128 : decode cX6_doOps 128 = .ok (.aload_n 2, 1) := by decide +kernel
theorem dX6_doOps_129 : decode cX6_doOps 129 = .ok (.iload_n 3, 1) := by decide +kernel
theorem dX6_doOps_130 : decode cX6_doOps 130 = .ok (.lload 8, 2) := by decide +kernel
theorem dX6_doOps_132 : decode cX6_doOps 132 = .ok (.invokevirtual 123, 3) := by decide +kernel
theorem dX6_doOps_135 : decode cX6_doOps 135 = .ok (.lstore 8, 2) := by decide +kernel
theorem dX6_doOps_137 : decode cX6_doOps 137 = .ok (.iinc 11 1, 3) := by decide +kernel
theorem dX6_doOps_140 : decode cX6_doOps 140 = .ok (.goto (-130), 3) := by decide +kernel
theorem dX6_doOps_143 : decode cX6_doOps 143 = .ok (.lload 8, 2) := by decide +kernel
theorem dX6_doOps_145 : decode cX6_doOps 145 = .ok (.lreturn, 1) := by decide +kernel
set_option maxRecDepth 100000 in
set_option maxHeartbeats 4000000 in
theorem k_ops {d : Nat} (hO : KO d) : KD d := by
  intro l M h p0 p1 p2 p3 p4 p5
  refine ct_of (by decide) (fun S av h => by obtain ⟨rfl, iv, i_this, i_p0, i_p1, hz⟩ := h; exact by first | exact Nat.le_of_ble_eq_true rfl | omega | (dsimp only; omega)) ?_
  intro p e s m args below meth c D G bs S av C hr hin hpre
  obtain ⟨rfl, iv, i_this, i_p0, i_p1, hz⟩ := hpre
  have E0 : ext S S (fun a => ¬ M a ∧ mK S a ∈ [0, 6, 7, 12]) := ext_rfl
  refine v_lload C dX6_doOps_0 rfl ?_
  refine v_lstore C dX6_doOps_2 (by decide) (by first | rfl | exact cat_ok _ | simp [okS, cat_rf]) ?_
  refine v_iconst (v := 0) C dX6_doOps_4 (by decide) ?_
  refine v_istore C dX6_doOps_5 (by decide) (by first | rfl | exact cat_ok _ | simp [okS, cat_rf]) ?_
  refine v_iconst (v := 0) C dX6_doOps_7 (by decide) ?_
  refine v_istore C dX6_doOps_8 (by decide) (by first | rfl | exact cat_ok _ | simp [okS, cat_rf]) ?_
  refine V.lits (lv' := [_, _, _, _, _, _, _, _, _, _, _, _, _]) rfl ?_
  refine v_loop (fun (t : Int64 × Int32 × Int32) lv0 => (((lv0.set 8 (some (.long t.1))).set 10 (some (.int t.2.1))).set 11 (some (.int t.2.2)))) (fun (S1 : Mem) (t : Int64 × Int32 × Int32) => INV M [] S1 ∧ is S1 h 6 ∧ is S1 p0 5 ∧ is S1 p1 2 ∧ ext S S1 (fun a => ¬ M a ∧ mK S a ∈ [0, 6, 7, 12])) (fun (S1 : Mem) (t : Int64 × Int32 × Int32) => upm t.2.2) (t := (_, _, _)) rfl ⟨iv, i_this, i_p0, i_p1, E0⟩ ?_
  intro L10 t h_10 ih_10
  obtain ⟨t0_10, t1_10, t2_10⟩ := t
  obtain ⟨iv, i_this, i_p0, i_p1, E0⟩ := h_10
  try dsimp only
  refine v_iload C dX6_doOps_10 rfl ?_
  refine v_aload_n C dX6_doOps_12 rfl ?_
  refine g6_110 C i_p0 dX6_doOps_13 ?_
  refine v_topi (fun v13 e_v13 => ?_)
  refine v_icmp_ge (tgt := 143) C dX6_doOps_16 (by decide) (fun c_16 => ?_) (fun c_16 => ?_)
  · skip
    refine v_lload C dX6_doOps_143 rfl ?_
    refine v_lret C hr (by first | exact Nat.le_of_ble_eq_true rfl | omega | (dsimp only; omega)) (by first | exact Nat.le_of_ble_eq_true rfl | omega | (dsimp only; omega)) dX6_doOps_145 ?_
    exact ⟨_, rfl, iv, E0⟩
  · skip
    refine v_aload_n C dX6_doOps_19 rfl ?_
    refine g6_26 C i_this dX6_doOps_20 ?_
    refine v_topi (fun v20 e_v20 => ?_)
    refine v_if_ne (tgt := 143) C dX6_doOps_23 (by decide) (fun c_23 => ?_) (fun c_23 => ?_)
    · skip
      refine v_lload C dX6_doOps_143 rfl ?_
      refine v_lret C hr (by first | exact Nat.le_of_ble_eq_true rfl | omega | (dsimp only; omega)) (by first | exact Nat.le_of_ble_eq_true rfl | omega | (dsimp only; omega)) dX6_doOps_145 ?_
      exact ⟨_, rfl, iv, E0⟩
    · skip
      refine v_aload_n C dX6_doOps_26 rfl ?_
      refine v_iload C dX6_doOps_27 rfl ?_
      refine v_callV (As := [_]) (n := 1) C (st_X5_kindAt l _ _ _) rfl i_p0 (by decide) rfl ⟨wd754, wd755, wd756, wd344, wd757⟩ ⟨rfl, hy_X5_kindAt⟩ rfl ⟨by first | exact Nat.le_of_ble_eq_true rfl | omega | (dsimp only; omega), by first | exact Nat.le_of_ble_eq_true rfl | omega | (dsimp only; omega)⟩ (by first | exact Nat.le_of_ble_eq_true rfl | omega | (dsimp only; omega)) ⟨by first | exact Nat.le_of_ble_eq_true rfl | omega | (dsimp only; omega), by first | exact Nat.le_of_ble_eq_true rfl | omega | (dsimp only; omega)⟩ dX6_doOps_29 ⟨rfl, iv, i_p0⟩ (fun r_29 S4_29 h_29 => ?_)
      obtain ⟨v29, rfl, q_v29⟩ := h_29
      obtain rfl := q_v29.symm
      refine v_istore C dX6_doOps_32 (by decide) (by first | rfl | exact cat_ok _ | simp [okS, cat_rf]) ?_
      refine v_iload C dX6_doOps_34 rfl ?_
      refine v_if_eq (tgt := 45) C dX6_doOps_36 (by decide) (fun c_36 => ?_) (fun c_36 => ?_)
      · skip
        refine v_aload_n C dX6_doOps_45 rfl ?_
        refine g6_29 C i_this dX6_doOps_46 ?_
        refine v_topi (fun v46 e_v46 => ?_)
        refine v_sipush (v := 600) C dX6_doOps_49 (by decide) ?_
        refine v_icmp_lt (tgt := 66) C dX6_doOps_52 (by decide) (fun c_52 => ?_) (fun c_52 => ?_)
        · skip
          refine v_aload_n C dX6_doOps_66 rfl ?_
          refine v_dup C dX6_doOps_67 rfl ?_
          refine g6_29 C i_this dX6_doOps_68 ?_
          refine v_topi (fun v68 e_v68 => ?_)
          refine v_iconst (v := 1) C dX6_doOps_71 (by decide) ?_
          refine v_iadd C dX6_doOps_72 ?_
          refine p6_29 C i_this dX6_doOps_73 ?_
          refine V.gen (fun S8_73 e_73 => ?_)
          have iv' := inv_sI e_73 iv (by decide) (by decide)
          have x_73 := x_sI e_73
          have E0' := ext_tr E0 x_73 (xk_is E0 i_this iv (by decide) (by decide))
          have E0 := E0'
          have i_this := is_ext x_73 i_this
          have i_p0 := is_ext x_73 i_p0
          have i_p1 := is_ext x_73 i_p1
          have iv := iv'
          refine v_iload C dX6_doOps_76 rfl ?_
          refine v_bipush (v := 11) C dX6_doOps_78 (by decide) ?_
          refine v_icmp_ne (tgt := 94) C dX6_doOps_80 (by decide) (fun c_80 => ?_) (fun c_80 => ?_)
          · skip
            refine v_iconst (v := 0) C dX6_doOps_94 (by decide) ?_
            refine v_istore C dX6_doOps_95 (by decide) (by first | rfl | exact cat_ok _ | simp [okS, cat_rf]) ?_
            refine v_aload_n C dX6_doOps_97 rfl ?_
            refine v_iload C dX6_doOps_98 rfl ?_
            refine v_callV (As := [_]) (n := 1) C (st_X5_opens l _ _ _) rfl i_p0 (by decide) rfl ⟨wd788, wd789, wd790, wd344, wd791⟩ ⟨rfl, hy_X5_opens⟩ rfl ⟨by first | exact Nat.le_of_ble_eq_true rfl | omega | (dsimp only; omega), by first | exact Nat.le_of_ble_eq_true rfl | omega | (dsimp only; omega)⟩ (by first | exact Nat.le_of_ble_eq_true rfl | omega | (dsimp only; omega)) ⟨by first | exact Nat.le_of_ble_eq_true rfl | omega | (dsimp only; omega), by first | exact Nat.le_of_ble_eq_true rfl | omega | (dsimp only; omega)⟩ dX6_doOps_100 ⟨rfl, iv, i_p0⟩ (fun r_100 S10_100 h_100 => ?_)
            obtain ⟨v100, rfl, q_v100⟩ := h_100
            obtain rfl := q_v100.symm
            refine v_if_eq (tgt := 124) C dX6_doOps_103 (by decide) (fun c_103 => ?_) (fun c_103 => ?_)
            · skip
              refine v_aload_n C dX6_doOps_124 rfl ?_
              refine v_aload_n C dX6_doOps_125 rfl ?_
              refine v_iload C dX6_doOps_126 rfl ?_
              refine v_aload_n C dX6_doOps_128 rfl ?_
              refine v_iload_n C dX6_doOps_129 rfl ?_
              refine v_lload C dX6_doOps_130 rfl ?_
              refine v_callV (As := [_, _, _, _, _]) (n := 5) C (st_X6_doPlain l _ _ _ _ _ _ _) rfl i_this (by decide) rfl ⟨wd795, wd796, wd797, wd19, wd798⟩ ⟨rfl, hy_X6_doPlain⟩ rfl ⟨by first | exact Nat.le_of_ble_eq_true rfl | omega | (dsimp only; omega), by first | exact Nat.le_of_ble_eq_true rfl | omega | (dsimp only; omega)⟩ (by first | exact Nat.le_of_ble_eq_true rfl | omega | (dsimp only; omega)) ⟨by first | exact Nat.le_of_ble_eq_true rfl | omega | (dsimp only; omega), by first | exact Nat.le_of_ble_eq_true rfl | omega | (dsimp only; omega)⟩ dX6_doOps_132 ⟨rfl, iv, i_this, i_p0, i_p1⟩ (fun r_132 S12_132 h_132 => ?_)
              obtain ⟨v132, rfl, iv2, x_132⟩ := h_132
              have i_this := is_ext x_132 i_this
              have i_p0 := is_ext x_132 i_p0
              have i_p1 := is_ext x_132 i_p1
              have E0' := ext_tr E0 x_132 (xk_call E0 (by decide))
              have E0 := E0'
              have iv := iv2
              refine v_lstore C dX6_doOps_135 (by decide) (by first | rfl | exact cat_ok _ | simp [okS, cat_rf]) ?_
              refine v_iinc C dX6_doOps_137 rfl rfl (by decide) (by first | rfl | exact cat_ok _ | simp [okS, cat_rf]) ?_
              refine v_goto (tgt := 10) C dX6_doOps_140 (by decide) ?_
              refine V.drop 12 ?_
              refine V.lits (lv' := [_, _, _, _, _, _, _, _, _, _, _, _, _]) rfl ?_
              exact ih_10 _ (_, _, _) (upm_lt c_16) ⟨iv, i_this, i_p0, i_p1, E0⟩
            · skip
              refine v_aload_n C dX6_doOps_106 rfl ?_
              refine v_aload_n C dX6_doOps_107 rfl ?_
              refine v_iload C dX6_doOps_108 rfl ?_
              refine v_aload_n C dX6_doOps_110 rfl ?_
              refine v_iload_n C dX6_doOps_111 rfl ?_
              refine v_iload C dX6_doOps_112 rfl ?_
              refine v_lload C dX6_doOps_114 rfl ?_
              refine v_iload C dX6_doOps_116 rfl ?_
              refine v_callV (As := [_, _, _, _, _, _, _]) (n := 7) C (hO l _ _ _ _ _ _ _ _ _) rfl i_this (by decide) rfl ⟨wd792, wd793, wd794, wd19, wd745⟩ ⟨rfl, hy_X6_doOpening⟩ rfl ⟨by first | exact Nat.le_of_ble_eq_true rfl | omega | (dsimp only; omega), by first | exact Nat.le_of_ble_eq_true rfl | omega | (dsimp only; omega)⟩ (by first | exact Nat.le_of_ble_eq_true rfl | omega | (dsimp only; omega)) ⟨by first | exact Nat.le_of_ble_eq_true rfl | omega | (dsimp only; omega), by first | exact Nat.le_of_ble_eq_true rfl | omega | (dsimp only; omega)⟩ dX6_doOps_118 ⟨rfl, iv, i_this, i_p0, i_p1, hz.1, hz.2⟩ (fun r_118 S12_118 h_118 => ?_)
              obtain ⟨v118, rfl, iv2, x_118⟩ := h_118
              have i_this := is_ext x_118 i_this
              have i_p0 := is_ext x_118 i_p0
              have i_p1 := is_ext x_118 i_p1
              have E0' := ext_tr E0 x_118 (xk_call E0 (by decide))
              have E0 := E0'
              have iv := iv2
              refine v_goto (tgt := 135) C dX6_doOps_121 (by decide) ?_
              refine v_lstore C dX6_doOps_135 (by decide) (by first | rfl | exact cat_ok _ | simp [okS, cat_rf]) ?_
              refine v_iinc C dX6_doOps_137 rfl rfl (by decide) (by first | rfl | exact cat_ok _ | simp [okS, cat_rf]) ?_
              refine v_goto (tgt := 10) C dX6_doOps_140 (by decide) ?_
              refine V.drop 12 ?_
              refine V.lits (lv' := [_, _, _, _, _, _, _, _, _, _, _, _, _]) rfl ?_
              exact ih_10 _ (_, _, _) (upm_lt c_16) ⟨iv, i_this, i_p0, i_p1, E0⟩
          · skip
            refine v_lload C dX6_doOps_83 rfl ?_
            refine v_lconst (v := 1) C dX6_doOps_85 (by decide) ?_
            refine v_lcmp C dX6_doOps_86 ?_
            refine v_if_ge (tgt := 94) C dX6_doOps_87 (by decide) (fun c_87 => ?_) (fun c_87 => ?_)
            · skip
              refine v_iconst (v := 0) C dX6_doOps_94 (by decide) ?_
              refine v_istore C dX6_doOps_95 (by decide) (by first | rfl | exact cat_ok _ | simp [okS, cat_rf]) ?_
              refine v_aload_n C dX6_doOps_97 rfl ?_
              refine v_iload C dX6_doOps_98 rfl ?_
              refine v_callV (As := [_]) (n := 1) C (st_X5_opens l _ _ _) rfl i_p0 (by decide) rfl ⟨wd788, wd789, wd790, wd344, wd791⟩ ⟨rfl, hy_X5_opens⟩ rfl ⟨by first | exact Nat.le_of_ble_eq_true rfl | omega | (dsimp only; omega), by first | exact Nat.le_of_ble_eq_true rfl | omega | (dsimp only; omega)⟩ (by first | exact Nat.le_of_ble_eq_true rfl | omega | (dsimp only; omega)) ⟨by first | exact Nat.le_of_ble_eq_true rfl | omega | (dsimp only; omega), by first | exact Nat.le_of_ble_eq_true rfl | omega | (dsimp only; omega)⟩ dX6_doOps_100 ⟨rfl, iv, i_p0⟩ (fun r_100 S12_100 h_100 => ?_)
              obtain ⟨v100, rfl, q_v100⟩ := h_100
              obtain rfl := q_v100.symm
              refine v_if_eq (tgt := 124) C dX6_doOps_103 (by decide) (fun c_103 => ?_) (fun c_103 => ?_)
              · skip
                refine v_aload_n C dX6_doOps_124 rfl ?_
                refine v_aload_n C dX6_doOps_125 rfl ?_
                refine v_iload C dX6_doOps_126 rfl ?_
                refine v_aload_n C dX6_doOps_128 rfl ?_
                refine v_iload_n C dX6_doOps_129 rfl ?_
                refine v_lload C dX6_doOps_130 rfl ?_
                refine v_callV (As := [_, _, _, _, _]) (n := 5) C (st_X6_doPlain l _ _ _ _ _ _ _) rfl i_this (by decide) rfl ⟨wd795, wd796, wd797, wd19, wd798⟩ ⟨rfl, hy_X6_doPlain⟩ rfl ⟨by first | exact Nat.le_of_ble_eq_true rfl | omega | (dsimp only; omega), by first | exact Nat.le_of_ble_eq_true rfl | omega | (dsimp only; omega)⟩ (by first | exact Nat.le_of_ble_eq_true rfl | omega | (dsimp only; omega)) ⟨by first | exact Nat.le_of_ble_eq_true rfl | omega | (dsimp only; omega), by first | exact Nat.le_of_ble_eq_true rfl | omega | (dsimp only; omega)⟩ dX6_doOps_132 ⟨rfl, iv, i_this, i_p0, i_p1⟩ (fun r_132 S14_132 h_132 => ?_)
                obtain ⟨v132, rfl, iv2, x_132⟩ := h_132
                have i_this := is_ext x_132 i_this
                have i_p0 := is_ext x_132 i_p0
                have i_p1 := is_ext x_132 i_p1
                have E0' := ext_tr E0 x_132 (xk_call E0 (by decide))
                have E0 := E0'
                have iv := iv2
                refine v_lstore C dX6_doOps_135 (by decide) (by first | rfl | exact cat_ok _ | simp [okS, cat_rf]) ?_
                refine v_iinc C dX6_doOps_137 rfl rfl (by decide) (by first | rfl | exact cat_ok _ | simp [okS, cat_rf]) ?_
                refine v_goto (tgt := 10) C dX6_doOps_140 (by decide) ?_
                refine V.drop 12 ?_
                refine V.lits (lv' := [_, _, _, _, _, _, _, _, _, _, _, _, _]) rfl ?_
                exact ih_10 _ (_, _, _) (upm_lt c_16) ⟨iv, i_this, i_p0, i_p1, E0⟩
              · skip
                refine v_aload_n C dX6_doOps_106 rfl ?_
                refine v_aload_n C dX6_doOps_107 rfl ?_
                refine v_iload C dX6_doOps_108 rfl ?_
                refine v_aload_n C dX6_doOps_110 rfl ?_
                refine v_iload_n C dX6_doOps_111 rfl ?_
                refine v_iload C dX6_doOps_112 rfl ?_
                refine v_lload C dX6_doOps_114 rfl ?_
                refine v_iload C dX6_doOps_116 rfl ?_
                refine v_callV (As := [_, _, _, _, _, _, _]) (n := 7) C (hO l _ _ _ _ _ _ _ _ _) rfl i_this (by decide) rfl ⟨wd792, wd793, wd794, wd19, wd745⟩ ⟨rfl, hy_X6_doOpening⟩ rfl ⟨by first | exact Nat.le_of_ble_eq_true rfl | omega | (dsimp only; omega), by first | exact Nat.le_of_ble_eq_true rfl | omega | (dsimp only; omega)⟩ (by first | exact Nat.le_of_ble_eq_true rfl | omega | (dsimp only; omega)) ⟨by first | exact Nat.le_of_ble_eq_true rfl | omega | (dsimp only; omega), by first | exact Nat.le_of_ble_eq_true rfl | omega | (dsimp only; omega)⟩ dX6_doOps_118 ⟨rfl, iv, i_this, i_p0, i_p1, hz.1, hz.2⟩ (fun r_118 S14_118 h_118 => ?_)
                obtain ⟨v118, rfl, iv2, x_118⟩ := h_118
                have i_this := is_ext x_118 i_this
                have i_p0 := is_ext x_118 i_p0
                have i_p1 := is_ext x_118 i_p1
                have E0' := ext_tr E0 x_118 (xk_call E0 (by decide))
                have E0 := E0'
                have iv := iv2
                refine v_goto (tgt := 135) C dX6_doOps_121 (by decide) ?_
                refine v_lstore C dX6_doOps_135 (by decide) (by first | rfl | exact cat_ok _ | simp [okS, cat_rf]) ?_
                refine v_iinc C dX6_doOps_137 rfl rfl (by decide) (by first | rfl | exact cat_ok _ | simp [okS, cat_rf]) ?_
                refine v_goto (tgt := 10) C dX6_doOps_140 (by decide) ?_
                refine V.drop 12 ?_
                refine V.lits (lv' := [_, _, _, _, _, _, _, _, _, _, _, _, _]) rfl ?_
                exact ih_10 _ (_, _, _) (upm_lt c_16) ⟨iv, i_this, i_p0, i_p1, E0⟩
            · skip
              refine v_iconst (v := 1) C dX6_doOps_90 (by decide) ?_
              refine v_goto (tgt := 95) C dX6_doOps_91 (by decide) ?_
              refine v_istore C dX6_doOps_95 (by decide) (by first | rfl | exact cat_ok _ | simp [okS, cat_rf]) ?_
              refine v_aload_n C dX6_doOps_97 rfl ?_
              refine v_iload C dX6_doOps_98 rfl ?_
              refine v_callV (As := [_]) (n := 1) C (st_X5_opens l _ _ _) rfl i_p0 (by decide) rfl ⟨wd788, wd789, wd790, wd344, wd791⟩ ⟨rfl, hy_X5_opens⟩ rfl ⟨by first | exact Nat.le_of_ble_eq_true rfl | omega | (dsimp only; omega), by first | exact Nat.le_of_ble_eq_true rfl | omega | (dsimp only; omega)⟩ (by first | exact Nat.le_of_ble_eq_true rfl | omega | (dsimp only; omega)) ⟨by first | exact Nat.le_of_ble_eq_true rfl | omega | (dsimp only; omega), by first | exact Nat.le_of_ble_eq_true rfl | omega | (dsimp only; omega)⟩ dX6_doOps_100 ⟨rfl, iv, i_p0⟩ (fun r_100 S12_100 h_100 => ?_)
              obtain ⟨v100, rfl, q_v100⟩ := h_100
              obtain rfl := q_v100.symm
              refine v_if_eq (tgt := 124) C dX6_doOps_103 (by decide) (fun c_103 => ?_) (fun c_103 => ?_)
              · skip
                refine v_aload_n C dX6_doOps_124 rfl ?_
                refine v_aload_n C dX6_doOps_125 rfl ?_
                refine v_iload C dX6_doOps_126 rfl ?_
                refine v_aload_n C dX6_doOps_128 rfl ?_
                refine v_iload_n C dX6_doOps_129 rfl ?_
                refine v_lload C dX6_doOps_130 rfl ?_
                refine v_callV (As := [_, _, _, _, _]) (n := 5) C (st_X6_doPlain l _ _ _ _ _ _ _) rfl i_this (by decide) rfl ⟨wd795, wd796, wd797, wd19, wd798⟩ ⟨rfl, hy_X6_doPlain⟩ rfl ⟨by first | exact Nat.le_of_ble_eq_true rfl | omega | (dsimp only; omega), by first | exact Nat.le_of_ble_eq_true rfl | omega | (dsimp only; omega)⟩ (by first | exact Nat.le_of_ble_eq_true rfl | omega | (dsimp only; omega)) ⟨by first | exact Nat.le_of_ble_eq_true rfl | omega | (dsimp only; omega), by first | exact Nat.le_of_ble_eq_true rfl | omega | (dsimp only; omega)⟩ dX6_doOps_132 ⟨rfl, iv, i_this, i_p0, i_p1⟩ (fun r_132 S14_132 h_132 => ?_)
                obtain ⟨v132, rfl, iv2, x_132⟩ := h_132
                have i_this := is_ext x_132 i_this
                have i_p0 := is_ext x_132 i_p0
                have i_p1 := is_ext x_132 i_p1
                have E0' := ext_tr E0 x_132 (xk_call E0 (by decide))
                have E0 := E0'
                have iv := iv2
                refine v_lstore C dX6_doOps_135 (by decide) (by first | rfl | exact cat_ok _ | simp [okS, cat_rf]) ?_
                refine v_iinc C dX6_doOps_137 rfl rfl (by decide) (by first | rfl | exact cat_ok _ | simp [okS, cat_rf]) ?_
                refine v_goto (tgt := 10) C dX6_doOps_140 (by decide) ?_
                refine V.drop 12 ?_
                refine V.lits (lv' := [_, _, _, _, _, _, _, _, _, _, _, _, _]) rfl ?_
                exact ih_10 _ (_, _, _) (upm_lt c_16) ⟨iv, i_this, i_p0, i_p1, E0⟩
              · skip
                refine v_aload_n C dX6_doOps_106 rfl ?_
                refine v_aload_n C dX6_doOps_107 rfl ?_
                refine v_iload C dX6_doOps_108 rfl ?_
                refine v_aload_n C dX6_doOps_110 rfl ?_
                refine v_iload_n C dX6_doOps_111 rfl ?_
                refine v_iload C dX6_doOps_112 rfl ?_
                refine v_lload C dX6_doOps_114 rfl ?_
                refine v_iload C dX6_doOps_116 rfl ?_
                refine v_callV (As := [_, _, _, _, _, _, _]) (n := 7) C (hO l _ _ _ _ _ _ _ _ _) rfl i_this (by decide) rfl ⟨wd792, wd793, wd794, wd19, wd745⟩ ⟨rfl, hy_X6_doOpening⟩ rfl ⟨by first | exact Nat.le_of_ble_eq_true rfl | omega | (dsimp only; omega), by first | exact Nat.le_of_ble_eq_true rfl | omega | (dsimp only; omega)⟩ (by first | exact Nat.le_of_ble_eq_true rfl | omega | (dsimp only; omega)) ⟨by first | exact Nat.le_of_ble_eq_true rfl | omega | (dsimp only; omega), by first | exact Nat.le_of_ble_eq_true rfl | omega | (dsimp only; omega)⟩ dX6_doOps_118 ⟨rfl, iv, i_this, i_p0, i_p1, hz.1, hz.2⟩ (fun r_118 S14_118 h_118 => ?_)
                obtain ⟨v118, rfl, iv2, x_118⟩ := h_118
                have i_this := is_ext x_118 i_this
                have i_p0 := is_ext x_118 i_p0
                have i_p1 := is_ext x_118 i_p1
                have E0' := ext_tr E0 x_118 (xk_call E0 (by decide))
                have E0 := E0'
                have iv := iv2
                refine v_goto (tgt := 135) C dX6_doOps_121 (by decide) ?_
                refine v_lstore C dX6_doOps_135 (by decide) (by first | rfl | exact cat_ok _ | simp [okS, cat_rf]) ?_
                refine v_iinc C dX6_doOps_137 rfl rfl (by decide) (by first | rfl | exact cat_ok _ | simp [okS, cat_rf]) ?_
                refine v_goto (tgt := 10) C dX6_doOps_140 (by decide) ?_
                refine V.drop 12 ?_
                refine V.lits (lv' := [_, _, _, _, _, _, _, _, _, _, _, _, _]) rfl ?_
                exact ih_10 _ (_, _, _) (upm_lt c_16) ⟨iv, i_this, i_p0, i_p1, E0⟩
        · skip
          refine v_aload_n C dX6_doOps_55 rfl ?_
          refine v_bipush (v := 6) C dX6_doOps_56 (by decide) ?_
          refine v_callV (As := [_]) (n := 1) C (st_X6_fail l _ _ _) rfl i_this (by decide) rfl ⟨wd733, wd734, wd735, wd19, wd736⟩ ⟨rfl, hy_X6_fail⟩ rfl ⟨by first | exact Nat.le_of_ble_eq_true rfl | omega | (dsimp only; omega), by first | exact Nat.le_of_ble_eq_true rfl | omega | (dsimp only; omega)⟩ (by first | exact Nat.le_of_ble_eq_true rfl | omega | (dsimp only; omega)) ⟨by first | exact Nat.le_of_ble_eq_true rfl | omega | (dsimp only; omega), by first | exact Nat.le_of_ble_eq_true rfl | omega | (dsimp only; omega)⟩ dX6_doOps_58 ⟨rfl, iv, i_this⟩ (fun r_58 S8_58 h_58 => ?_)
          obtain ⟨v58, rfl, iv2, x_58⟩ := h_58
          have i_this := is_ext x_58 i_this
          have i_p0 := is_ext x_58 i_p0
          have i_p1 := is_ext x_58 i_p1
          have E0' := ext_tr E0 x_58 (xk_call E0 (by decide))
          have E0 := E0'
          have iv := iv2
          refine v_lstore C dX6_doOps_61 (by decide) (by first | rfl | exact cat_ok _ | simp [okS, cat_rf]) ?_
          refine v_goto (tgt := 137) C dX6_doOps_63 (by decide) ?_
          refine v_iinc C dX6_doOps_137 rfl rfl (by decide) (by first | rfl | exact cat_ok _ | simp [okS, cat_rf]) ?_
          refine v_goto (tgt := 10) C dX6_doOps_140 (by decide) ?_
          refine V.drop 12 ?_
          refine V.lits (lv' := [_, _, _, _, _, _, _, _, _, _, _, _, _]) rfl ?_
          exact ih_10 _ (_, _, _) (upm_lt c_16) ⟨iv, i_this, i_p0, i_p1, E0⟩
      · skip
        refine v_iconst (v := 0) C dX6_doOps_39 (by decide) ?_
        refine v_istore C dX6_doOps_40 (by decide) (by first | rfl | exact cat_ok _ | simp [okS, cat_rf]) ?_
        refine v_goto (tgt := 137) C dX6_doOps_42 (by decide) ?_
        refine v_iinc C dX6_doOps_137 rfl rfl (by decide) (by first | rfl | exact cat_ok _ | simp [okS, cat_rf]) ?_
        refine v_goto (tgt := 10) C dX6_doOps_140 (by decide) ?_
        refine V.drop 12 ?_
        refine V.lits (lv' := [_, _, _, _, _, _, _, _, _, _, _, _, _]) rfl ?_
        exact ih_10 _ (_, _, _) (upm_lt c_16) ⟨iv, i_this, i_p0, i_p1, E0⟩
theorem dX6_goWithin_0 : decode cX6_goWithin 0 = .ok (.aload_n 0, 1) := by decide +kernel
theorem dX6_goWithin_1 : decode cX6_goWithin 1 = .ok (.getfield 18, 3) := by decide +kernel
theorem dX6_goWithin_4 : decode cX6_goWithin 4 = .ok (.aload_n 1, 1) := by decide +kernel
theorem dX6_goWithin_5 : decode cX6_goWithin 5 = .ok (.iload_n 2, 1) := by decide +kernel
theorem dX6_goWithin_6 : decode cX6_goWithin 6 = .ok (.iload_n 3, 1) := by decide +kernel
theorem dX6_goWithin_7 : decode cX6_goWithin 7 = .ok (.invokevirtual 86, 3) := by decide +kernel
theorem dX6_goWithin_10 : decode cX6_goWithin 10 = .ok (.istore 7, 2) := by decide +kernel
theorem dX6_goWithin_12 : decode cX6_goWithin 12 = .ok (.lload 4, 2) := by decide +kernel
theorem dX6_goWithin_14 : decode cX6_goWithin 14 = .ok (.lstore 8, 2) := by decide +kernel
theorem dX6_goWithin_16 : decode cX6_goWithin 16 = .ok (.iload_n 3, 1) := by decide +kernel
theorem dX6_goWithin_17 : decode cX6_goWithin 17 = .ok (.istore 10, 2) := by decide +kernel
theorem dX6_goWithin_19 : decode cX6_goWithin 19 = .ok (.iload 10, 2) := by decide +kernel
theorem dX6_goWithin_21 : decode cX6_goWithin 21 = .ok (.iload 7, 2) := by decide +kernel
theorem dX6_goWithin_23 : decode cX6_goWithin 23 = .ok (.if_icmp .ge 58, 3) := by decide +kernel
theorem dX6_goWithin_26 : decode cX6_goWithin 26 = .ok (.aload_n 0, 1) := by decide +kernel
theorem dX6_goWithin_27 : decode cX6_goWithin 27 = .ok (.getfield 26, 3) := by decide +kernel
theorem dX6_goWithin_30 : decode cX6_goWithin 30 = .ok (.ifCond .ne 51, 3) := by decide +kernel
theorem dX6_goWithin_33 : decode cX6_goWithin 33 = .ok (.aload_n 0, 1) := by decide +kernel
theorem dX6_goWithin_34 : decode cX6_goWithin 34 = .ok (.getfield 18, 3) := by decide +kernel
theorem dX6_goWithin_37 : decode cX6_goWithin 37 = .ok (.aload_n 1, 1) := by decide +kernel
theorem dX6_goWithin_38 : decode cX6_goWithin 38 = .ok (.iload 10, 2) := by decide +kernel
theorem dX6_goWithin_40 : decode cX6_goWithin 40 = .ok (.iload_n 2, 1) := by decide +kernel
theorem dX6_goWithin_41 : decode cX6_goWithin 41 = .ok (.invokevirtual 90, 3) := by decide +kernel
theorem dX6_goWithin_44 : decode cX6_goWithin 44 = .ok (.astore 11, 2) := by decide +kernel
theorem dX6_goWithin_46 : decode cX6_goWithin 46 = .ok (.aload 11, 2) := by decide +kernel
theorem dX6_goWithin_48 : decode cX6_goWithin 48 = .ok (.ifnull 27, 3) := by decide +kernel
theorem dX6_goWithin_51 : decode cX6_goWithin 51 = .ok (.aload 11, 2) := by decide +kernel
theorem dX6_goWithin_53 : decode cX6_goWithin 53 = .ok (.getfield 94, 3) := by decide +kernel
theorem dX6_goWithin_56 : decode cX6_goWithin 56 = .ok (.ifCond .ne 19, 3) := by decide +kernel
theorem dX6_goWithin_59 : decode cX6_goWithin 59 = .ok (.aload_n 0, 1) := by decide +kernel
theorem dX6_goWithin_60 : decode cX6_goWithin 60 = .ok (.aload 11, 2) := by decide +kernel
theorem dX6_goWithin_62 : decode cX6_goWithin 62 = .ok (.aload_n 1, 1) := by decide +kernel
theorem dX6_goWithin_63 : decode cX6_goWithin 63 = .ok (.iload_n 2, 1) := by decide +kernel
theorem dX6_goWithin_64 : decode cX6_goWithin 64 = .ok (.iload 10, 2) := by decide +kernel
theorem dX6_goWithin_66 : decode cX6_goWithin 66 = .ok (.lload 8, 2) := by decide +kernel
theorem dX6_goWithin_68 : decode cX6_goWithin 68 = .ok (.iload 6, 2) := by decide +kernel
theorem dX6_goWithin_70 : decode cX6_goWithin 70 = .ok (.invokevirtual 97, 3) := by decide +kernel
theorem dX6_goWithin_73 : decode cX6_goWithin 73 = .ok (.lstore 8, 2) := by decide +kernel
theorem dX6_goWithin_75 : decode cX6_goWithin 75 = .ok (.iinc 10 1, 3) := by decide +kernel
theorem dX6_goWithin_78 : decode cX6_goWithin 78 = .ok (.goto (-59), 3) := by decide +kernel
theorem dX6_goWithin_81 : decode cX6_goWithin 81 = .ok (.iload 7, 2) := by decide +kernel
theorem dX6_goWithin_83 : decode cX6_goWithin 83 = .ok (.aload_n 1, 1) := by decide +kernel
theorem dX6_goWithin_84 : decode cX6_goWithin 84 = .ok (.getfield 101, 3) := by decide +kernel
theorem dX6_goWithin_87 : decode cX6_goWithin 87 = .ok (.getfield 105, 3) := by decide +kernel
theorem dX6_goWithin_90 : decode cX6_goWithin 90 = .ok (.if_icmp .ge 17, 3) := by decide +kernel
theorem dX6_goWithin_93 : decode cX6_goWithin 93 = .ok (.aload_n 0, 1) := by decide +kernel
theorem dX6_goWithin_94 : decode cX6_goWithin 94 = .ok (.getfield 18, 3) := by decide +kernel
theorem dX6_goWithin_97 : decode cX6_goWithin 97 = .ok (.aload_n 1, 1) := by decide +kernel
theorem dX6_goWithin_98 : decode cX6_goWithin 98 = .ok (.iload 7, 2) := by decide +kernel
theorem dX6_goWithin_100 : decode cX6_goWithin 100 = .ok (.iload_n 2, 1) := by decide +kernel
theorem dX6_goWithin_101 : decode cX6_goWithin 101 = .ok (.invokevirtual 90, 3) := by decide +kernel
theorem dX6_goWithin_104 : decode cX6_goWithin 104 = .ok (.goto 15, 3) := by decide +kernel
theorem dX6_goWithin_107 : decode cX6_goWithin 107 = .ok (.aload_n 0, 1) := by decide +kernel
theorem dX6_goWithin_108 : decode cX6_goWithin 108 = .ok (.getfield 18, 3) := by decide +kernel
theorem dX6_goWithin_111 : decode cX6_goWithin 111 = .ok (.aload_n 1, 1) := by decide +kernel
theorem dX6_goWithin_112 : decode cX6_goWithin 112 = .ok (.iload_n 2, 1) := by decide +kernel
theorem dX6_goWithin_113 : decode cX6_goWithin 113 = .ok (.invokevirtual 46, 3) := by decide +kernel
theorem dX6_goWithin_116 : decode cX6_goWithin 116 = .ok (.getfield 52, 3) := by decide +kernel
theorem dX6_goWithin_119 : decode cX6_goWithin 119 = .ok (.astore 10, 2) := by decide +kernel
theorem dX6_goWithin_121 : decode cX6_goWithin 121 = .ok (.aload 10, 2) := by decide +kernel
theorem dX6_goWithin_123 : decode cX6_goWithin 123 = .ok (.ifnull 26, 3) := by decide +kernel
theorem dX6_goWithin_126 : decode cX6_goWithin 126 = .ok (.aload_n 0, 1) := by decide +kernel
theorem dX6_goWithin_127 : decode cX6_goWithin 127 = .ok (.getfield 26, 3) := by decide +kernel
theorem dX6_goWithin_130 : decode cX6_goWithin 130 = .ok (.ifCond .ne 19, 3) := by decide +kernel
theorem dX6_goWithin_133 : decode cX6_goWithin 133 = .ok (.aload_n 0, 1) := by decide +kernel
theorem dX6_goWithin_134 : decode cX6_goWithin 134 = .ok (.aload 10, 2) := by decide +kernel
theorem dX6_goWithin_136 : decode cX6_goWithin 136 = .ok (.aload_n 1, 1) := by decide +kernel
theorem dX6_goWithin_137 : decode cX6_goWithin 137 = .ok (.iload_n 2, 1) := by decide +kernel
theorem dX6_goWithin_138 : decode cX6_goWithin 138 = .ok (.iload 7, 2) := by decide +kernel
theorem dX6_goWithin_140 : decode cX6_goWithin 140 = .ok (.lload 8, 2) := by decide +kernel
theorem dX6_goWithin_142 : decode cX6_goWithin 142 = .ok (.iload 6, 2) := by decide +kernel
theorem dX6_goWithin_144 : decode cX6_goWithin 144 = .ok (.invokevirtual 97, 3) := by decide +kernel
theorem dX6_goWithin_147 : decode cX6_goWithin 147 = .ok (.lstore 8, 2) := by decide +kernel
theorem dX6_goWithin_149 : decode cX6_goWithin 149 = .ok (.iload 7, 2) := by decide +kernel
theorem dX6_goWithin_151 : decode cX6_goWithin 151 = .ok (.iconst 1, 1) := by decide +kernel
theorem dX6_goWithin_152 : decode cX6_goWithin 152 = .ok (.isub, 1) := by decide +kernel
theorem dX6_goWithin_153 : decode cX6_goWithin 153 = .ok (.istore 11, 2) := by decide +kernel
theorem dX6_goWithin_155 : decode cX6_goWithin 155 = .ok (.iload 11, 2) := by decide +kernel
theorem dX6_goWithin_157 : decode cX6_goWithin 157 = .ok (.iload_n 3, 1) := by decide +kernel
theorem dX6_goWithin_158 : decode cX6_goWithin 158 = .ok (.if_icmp .lt 59, 3) := by decide +kernel
theorem dX6_goWithin_161 : decode cX6_goWithin 161 = .ok (.aload_n 0, 1) := by decide +kernel
theorem dX6_goWithin_162 : decode cX6_goWithin 162 = .ok (.getfield 26, 3) := by decide +kernel
theorem dX6_goWithin_165 : decode cX6_goWithin 165 = .ok (.ifCond .ne 52, 3) := by decide +kernel
theorem dX6_goWithin_168 : decode cX6_goWithin 168 = .ok (.aload_n 0, 1) := by decide +kernel
theorem dX6_goWithin_169 : decode cX6_goWithin 169 = .ok (.getfield 18, 3) := by decide +kernel
theorem dX6_goWithin_172 : decode cX6_goWithin 172 = .ok (.aload_n 1, 1) := by decide +kernel
theorem dX6_goWithin_173 : decode cX6_goWithin 173 = .ok (.iload 11, 2) := by decide +kernel
theorem dX6_goWithin_175 : decode cX6_goWithin 175 = .ok (.iload_n 2, 1) := by decide +kernel
theorem dX6_goWithin_176 : decode cX6_goWithin 176 = .ok (.invokevirtual 90, 3) := by decide +kernel
theorem dX6_goWithin_179 : decode cX6_goWithin 179 = .ok (.astore 12, 2) := by decide +kernel
theorem dX6_goWithin_181 : decode cX6_goWithin 181 = .ok (.aload 12, 2) := by decide +kernel
theorem dX6_goWithin_183 : decode cX6_goWithin 183 = .ok (.ifnull 28, 3) := by decide +kernel
theorem dX6_goWithin_186 : decode cX6_goWithin 186 = .ok (.aload 12, 2) := by decide +kernel
theorem dX6_goWithin_188 : decode cX6_goWithin 188 = .ok (.getfield 94, 3) := by decide +kernel
theorem dX6_goWithin_191 : decode cX6_goWithin 191 = .ok (.iconst 2, 1) := by decide +kernel
theorem dX6_goWithin_192 : decode cX6_goWithin 192 = .ok (.if_icmp .ne 19, 3) := by decide +kernel
theorem dX6_goWithin_195 : decode cX6_goWithin 195 = .ok (.aload_n 0, 1) := by decide +kernel
theorem dX6_goWithin_196 : decode cX6_goWithin 196 = .ok (.aload 12, 2) := by decide +kernel
theorem dX6_goWithin_198 : decode cX6_goWithin 198 = .ok (.aload_n 1, 1) := by decide +kernel
theorem dX6_goWithin_199 : decode cX6_goWithin 199 = .ok (.iload_n 2, 1) := by decide +kernel
theorem dX6_goWithin_200 : decode cX6_goWithin 200 = .ok (.iload 11, 2) := by decide +kernel
theorem dX6_goWithin_202 : decode cX6_goWithin 202 = .ok (.lload 8, 2) := by decide +kernel
theorem dX6_goWithin_204 : decode cX6_goWithin 204 = .ok (.iload 6, 2) := by decide +kernel
theorem dX6_goWithin_206 : decode cX6_goWithin 206 = .ok (.invokevirtual 97, 3) := by decide +kernel
theorem dX6_goWithin_209 : decode cX6_goWithin 209 = .ok (.lstore 8, 2) := by decide +kernel
theorem dX6_goWithin_211 : decode cX6_goWithin 211 = .ok (.iinc 11 (-1), 3) := by decide +kernel
theorem dX6_goWithin_214 : decode cX6_goWithin 214 = .ok (.goto (-59), 3) := by decide +kernel
theorem dX6_goWithin_217 : decode cX6_goWithin 217 = .ok (.lload 8, 2) := by decide +kernel
theorem dX6_goWithin_219 : decode cX6_goWithin 219 = .ok (.lreturn, 1) := by decide +kernel
set_option maxRecDepth 100000 in
set_option maxHeartbeats 4000000 in
theorem k_within {d : Nat} (hD : KD d) : KG d := by
  intro l M h p0 p1 p2 p3 p4
  refine ct_of (by decide) (fun S av h => by obtain ⟨rfl, iv, i_this, i_p0, hz⟩ := h; exact by first | exact Nat.le_of_ble_eq_true rfl | omega | (dsimp only; omega)) ?_
  intro p e s m args below meth c D G bs S av C hr hin hpre
  obtain ⟨rfl, iv, i_this, i_p0, hz⟩ := hpre
  have E0 : ext S S (fun a => ¬ M a ∧ mK S a ∈ [0, 6, 7, 12]) := ext_rfl
  refine v_aload_n C dX6_goWithin_0 rfl ?_
  obtain ⟨a1, e_a1, i_a1⟩ := T384 iv i_this List.not_mem_nil
  refine r6_18 (b := a1) C i_this e_a1 dX6_goWithin_1 ?_
  refine v_aload_n C dX6_goWithin_4 rfl ?_
  refine v_iload_n C dX6_goWithin_5 rfl ?_
  refine v_iload_n C dX6_goWithin_6 rfl ?_
  refine v_callV (As := [_, _, _]) (n := 3) C (st_X1_insteadPlace l _ _ _ _ _) rfl i_a1 (by decide) rfl ⟨wd816, wd817, wd818, wd15, wd819⟩ ⟨rfl, hy_X1_insteadPlace⟩ rfl ⟨by first | exact Nat.le_of_ble_eq_true rfl | omega | (dsimp only; omega), by first | exact Nat.le_of_ble_eq_true rfl | omega | (dsimp only; omega)⟩ (by first | exact Nat.le_of_ble_eq_true rfl | omega | (dsimp only; omega)) ⟨by first | exact Nat.le_of_ble_eq_true rfl | omega | (dsimp only; omega), by first | exact Nat.le_of_ble_eq_true rfl | omega | (dsimp only; omega)⟩ dX6_goWithin_7 ⟨rfl, iv, i_a1, i_p0⟩ (fun r_7 S2_7 h_7 => ?_)
  obtain ⟨v7, rfl, p_v7, q_v7⟩ := h_7
  obtain rfl := q_v7.symm
  refine v_istore C dX6_goWithin_10 (by decide) (by first | rfl | exact cat_ok _ | simp [okS, cat_rf]) ?_
  refine v_lload C dX6_goWithin_12 rfl ?_
  refine v_lstore C dX6_goWithin_14 (by decide) (by first | rfl | exact cat_ok _ | simp [okS, cat_rf]) ?_
  refine v_iload_n C dX6_goWithin_16 rfl ?_
  refine v_istore C dX6_goWithin_17 (by decide) (by first | rfl | exact cat_ok _ | simp [okS, cat_rf]) ?_
  refine V.lits (lv' := [_, _, _, _, _, _, _, _, _, _, _, _, _]) rfl ?_
  refine v_loop (fun (t : Int64 × Int32) lv0 => ((lv0.set 8 (some (.long t.1))).set 10 (some (.int t.2)))) (fun (S1 : Mem) (t : Int64 × Int32) => INV M [] S1 ∧ is S1 h 6 ∧ is S1 p0 2 ∧ 0 ≤ t.2.toInt ∧ ext S S1 (fun a => ¬ M a ∧ mK S a ∈ [0, 6, 7, 12])) (fun (S1 : Mem) (t : Int64 × Int32) => upm t.2) (t := (_, _)) rfl ⟨iv, i_this, i_p0, hz.1.1, E0⟩ ?_
  intro L19 t h_19 ih_19
  obtain ⟨t0_19, t1_19⟩ := t
  obtain ⟨iv, i_this, i_p0, z1, E0⟩ := h_19
  try dsimp only
  refine v_iload C dX6_goWithin_19 rfl ?_
  refine v_iload C dX6_goWithin_21 rfl ?_
  refine v_icmp_ge (tgt := 81) C dX6_goWithin_23 (by decide) (fun c_23 => ?_) (fun c_23 => ?_)
  · skip
    refine v_iload C dX6_goWithin_81 rfl ?_
    refine v_aload_n C dX6_goWithin_83 rfl ?_
    obtain ⟨a84, e_a84, i_a84⟩ := T130 iv i_p0 List.not_mem_nil
    refine r6_101 (b := a84) C i_p0 e_a84 dX6_goWithin_84 ?_
    refine g6_105 C i_a84 dX6_goWithin_87 ?_
    refine v_topi (fun v87 e_v87 => ?_)
    refine v_icmp_ge (tgt := 107) C dX6_goWithin_90 (by decide) (fun c_90 => ?_) (fun c_90 => ?_)
    · skip
      refine v_aload_n C dX6_goWithin_107 rfl ?_
      obtain ⟨a108, e_a108, i_a108⟩ := T384 iv i_this List.not_mem_nil
      refine r6_18 (b := a108) C i_this e_a108 dX6_goWithin_108 ?_
      refine v_aload_n C dX6_goWithin_111 rfl ?_
      refine v_iload_n C dX6_goWithin_112 rfl ?_
      refine v_callV (As := [_, _]) (n := 2) C (st_X1_weigh l _ _ _ _) rfl i_a108 (by decide) rfl ⟨wd732, wd523, wd524, wd15, wd525⟩ ⟨rfl, hy_X1_weigh⟩ rfl ⟨by first | exact Nat.le_of_ble_eq_true rfl | omega | (dsimp only; omega), by first | exact Nat.le_of_ble_eq_true rfl | omega | (dsimp only; omega)⟩ (by first | exact Nat.le_of_ble_eq_true rfl | omega | (dsimp only; omega)) ⟨by first | exact Nat.le_of_ble_eq_true rfl | omega | (dsimp only; omega), by first | exact Nat.le_of_ble_eq_true rfl | omega | (dsimp only; omega)⟩ dX6_goWithin_113 ⟨rfl, iv, i_a108, i_p0⟩ (fun r_113 S4_113 h_113 => ?_)
      obtain ⟨v113, rfl, i_v113, iv2, x_113⟩ := h_113
      have i_this := is_ext x_113 i_this
      have i_p0 := is_ext x_113 i_p0
      have i_a84 := is_ext x_113 i_a84
      have i_a108 := is_ext x_113 i_a108
      have E0' := ext_tr E0 x_113 (xk_call E0 (by decide))
      have E0 := E0'
      have iv := iv2
      have n_o116 := T1 iv i_v113 List.not_mem_nil
      refine g6_52 C i_v113 dX6_goWithin_116 ?_
      refine v_topq n_o116 (fun o116 n_o116 => ?_)
      refine v_qstore C dX6_goWithin_119 (by decide) (by first | rfl | exact cat_ok _ | simp [okS, cat_rf]) ?_
      refine v_qload C dX6_goWithin_121 rfl ?_
      refine v_ifnull (tgt := 149) C dX6_goWithin_123 (by decide) (fun c_123 => ?_) (fun b123 c_123 => ?_)
      · skip
        subst c_123
        refine v_iload C dX6_goWithin_149 rfl ?_
        refine v_iconst (v := 1) C dX6_goWithin_151 (by decide) ?_
        refine v_isub C dX6_goWithin_152 ?_
        refine v_istore C dX6_goWithin_153 (by decide) (by first | rfl | exact cat_ok _ | simp [okS, cat_rf]) ?_
        refine V.drop 10 ?_
        refine V.lits (lv' := [_, _, _, _, _, _, _, _, _, _, _, _, _]) rfl ?_
        refine v_loop (fun (t : Int64 × Int32) lv0 => ((lv0.set 8 (some (.long t.1))).set 11 (some (.int t.2)))) (fun (S1 : Mem) (t : Int64 × Int32) => INV M [] S1 ∧ is S1 h 6 ∧ is S1 p0 2 ∧ (-1 ≤ t.2.toInt ∧ t.2.toInt ≤ 20) ∧ ext S S1 (fun a => ¬ M a ∧ mK S a ∈ [0, 6, 7, 12])) (fun (S1 : Mem) (t : Int64 × Int32) => dnm t.2) (t := (_, _)) rfl ⟨iv, i_this, i_p0, (pl_dn (p_v7 hz.1.1)), E0⟩ ?_
        intro L155 t h_155 ih_155
        obtain ⟨t0_155, t1_155⟩ := t
        obtain ⟨iv, i_this, i_p0, z2, E0⟩ := h_155
        try dsimp only
        refine v_iload C dX6_goWithin_155 rfl ?_
        refine v_iload_n C dX6_goWithin_157 rfl ?_
        refine v_icmp_lt (tgt := 217) C dX6_goWithin_158 (by decide) (fun c_158 => ?_) (fun c_158 => ?_)
        · skip
          refine v_lload C dX6_goWithin_217 rfl ?_
          refine v_lret C hr (by first | exact Nat.le_of_ble_eq_true rfl | omega | (dsimp only; omega)) (by first | exact Nat.le_of_ble_eq_true rfl | omega | (dsimp only; omega)) dX6_goWithin_219 ?_
          exact ⟨_, rfl, iv, E0⟩
        · skip
          refine v_aload_n C dX6_goWithin_161 rfl ?_
          refine g6_26 C i_this dX6_goWithin_162 ?_
          refine v_topi (fun v162 e_v162 => ?_)
          refine v_if_ne (tgt := 217) C dX6_goWithin_165 (by decide) (fun c_165 => ?_) (fun c_165 => ?_)
          · skip
            refine v_lload C dX6_goWithin_217 rfl ?_
            refine v_lret C hr (by first | exact Nat.le_of_ble_eq_true rfl | omega | (dsimp only; omega)) (by first | exact Nat.le_of_ble_eq_true rfl | omega | (dsimp only; omega)) dX6_goWithin_219 ?_
            exact ⟨_, rfl, iv, E0⟩
          · skip
            refine v_aload_n C dX6_goWithin_168 rfl ?_
            obtain ⟨a169, e_a169, i_a169⟩ := T384 iv i_this List.not_mem_nil
            refine r6_18 (b := a169) C i_this e_a169 dX6_goWithin_169 ?_
            refine v_aload_n C dX6_goWithin_172 rfl ?_
            refine v_iload C dX6_goWithin_173 rfl ?_
            refine v_iload_n C dX6_goWithin_175 rfl ?_
            refine v_callV (As := [_, _, _]) (n := 3) C (st_X1_guardAt l _ _ _ _ _) rfl i_a169 (by decide) rfl ⟨wd821, wd639, wd640, wd15, wd641⟩ ⟨rfl, hy_X1_guardAt⟩ rfl ⟨by first | exact Nat.le_of_ble_eq_true rfl | omega | (dsimp only; omega), by first | exact Nat.le_of_ble_eq_true rfl | omega | (dsimp only; omega)⟩ (by first | exact Nat.le_of_ble_eq_true rfl | omega | (dsimp only; omega)) ⟨by first | exact Nat.le_of_ble_eq_true rfl | omega | (dsimp only; omega), by first | exact Nat.le_of_ble_eq_true rfl | omega | (dsimp only; omega)⟩ dX6_goWithin_176 ⟨rfl, iv, i_a169, i_p0⟩ (fun r_176 S4_176 h_176 => ?_)
            obtain ⟨v176, rfl, n_v176, q_v176⟩ := h_176
            obtain rfl := q_v176.symm
            refine v_qstore C dX6_goWithin_179 (by decide) (by first | rfl | exact cat_ok _ | simp [okS, cat_rf]) ?_
            refine v_qload C dX6_goWithin_181 rfl ?_
            refine v_ifnull (tgt := 211) C dX6_goWithin_183 (by decide) (fun c_183 => ?_) (fun b183 c_183 => ?_)
            · skip
              subst c_183
              refine v_iinc C dX6_goWithin_211 rfl rfl (by decide) (by first | rfl | exact cat_ok _ | simp [okS, cat_rf]) ?_
              refine v_goto (tgt := 155) C dX6_goWithin_214 (by decide) ?_
              refine V.drop 12 ?_
              refine V.lits (lv' := [_, _, _, _, _, _, _, _, _, _, _, _, _]) rfl ?_
              exact ih_155 _ (_, _) (dnm_lt (pl_ge z2 hz.1 c_158)) ⟨iv, i_this, i_p0, (pl_dn2 (pl_ge z2 hz.1 c_158)), E0⟩
            · skip
              subst c_183
              have i_b183 := nOK_some n_v176 rfl
              refine v_aload C dX6_goWithin_186 rfl ?_
              refine g6_94 C i_b183 dX6_goWithin_188 ?_
              refine v_topi (fun v188 e_v188 => ?_)
              refine v_iconst (v := 2) C dX6_goWithin_191 (by decide) ?_
              refine v_icmp_ne (tgt := 211) C dX6_goWithin_192 (by decide) (fun c_192 => ?_) (fun c_192 => ?_)
              · skip
                refine v_iinc C dX6_goWithin_211 rfl rfl (by decide) (by first | rfl | exact cat_ok _ | simp [okS, cat_rf]) ?_
                refine v_goto (tgt := 155) C dX6_goWithin_214 (by decide) ?_
                refine V.drop 12 ?_
                refine V.lits (lv' := [_, _, _, _, _, _, _, _, _, _, _, _, _]) rfl ?_
                exact ih_155 _ (_, _) (dnm_lt (pl_ge z2 hz.1 c_158)) ⟨iv, i_this, i_p0, (pl_dn2 (pl_ge z2 hz.1 c_158)), E0⟩
              · skip
                refine v_aload_n C dX6_goWithin_195 rfl ?_
                refine v_aload C dX6_goWithin_196 rfl ?_
                refine v_aload_n C dX6_goWithin_198 rfl ?_
                refine v_iload_n C dX6_goWithin_199 rfl ?_
                refine v_iload C dX6_goWithin_200 rfl ?_
                refine v_lload C dX6_goWithin_202 rfl ?_
                refine v_iload C dX6_goWithin_204 rfl ?_
                refine v_callV (As := [_, _, _, _, _, _]) (n := 6) C (hD l _ _ _ _ _ _ _ _) rfl i_this (by decide) rfl ⟨wd773, wd774, wd775, wd19, wd786⟩ ⟨rfl, hy_X6_doOps⟩ rfl ⟨by first | exact Nat.le_of_ble_eq_true rfl | omega | (dsimp only; omega), by first | exact Nat.le_of_ble_eq_true rfl | omega | (dsimp only; omega)⟩ (by first | exact Nat.le_of_ble_eq_true rfl | omega | (dsimp only; omega)) ⟨by first | exact Nat.le_of_ble_eq_true rfl | omega | (dsimp only; omega), by first | exact Nat.le_of_ble_eq_true rfl | omega | (dsimp only; omega)⟩ dX6_goWithin_206 ⟨rfl, iv, i_this, i_b183, i_p0, (pl_ge z2 hz.1 c_158), hz.2⟩ (fun r_206 S8_206 h_206 => ?_)
                obtain ⟨v206, rfl, iv2, x_206⟩ := h_206
                have i_this := is_ext x_206 i_this
                have i_p0 := is_ext x_206 i_p0
                have i_a169 := is_ext x_206 i_a169
                have i_b183 := is_ext x_206 i_b183
                have E0' := ext_tr E0 x_206 (xk_call E0 (by decide))
                have E0 := E0'
                have iv := iv2
                refine v_lstore C dX6_goWithin_209 (by decide) (by first | rfl | exact cat_ok _ | simp [okS, cat_rf]) ?_
                refine v_iinc C dX6_goWithin_211 rfl rfl (by decide) (by first | rfl | exact cat_ok _ | simp [okS, cat_rf]) ?_
                refine v_goto (tgt := 155) C dX6_goWithin_214 (by decide) ?_
                refine V.drop 12 ?_
                refine V.lits (lv' := [_, _, _, _, _, _, _, _, _, _, _, _, _]) rfl ?_
                exact ih_155 _ (_, _) (dnm_lt (pl_ge z2 hz.1 c_158)) ⟨iv, i_this, i_p0, (pl_dn2 (pl_ge z2 hz.1 c_158)), E0⟩
      · skip
        subst c_123
        have i_b123 := nOK_some n_o116 rfl
        refine v_aload_n C dX6_goWithin_126 rfl ?_
        refine g6_26 C i_this dX6_goWithin_127 ?_
        refine v_topi (fun v127 e_v127 => ?_)
        refine v_if_ne (tgt := 149) C dX6_goWithin_130 (by decide) (fun c_130 => ?_) (fun c_130 => ?_)
        · skip
          refine v_iload C dX6_goWithin_149 rfl ?_
          refine v_iconst (v := 1) C dX6_goWithin_151 (by decide) ?_
          refine v_isub C dX6_goWithin_152 ?_
          refine v_istore C dX6_goWithin_153 (by decide) (by first | rfl | exact cat_ok _ | simp [okS, cat_rf]) ?_
          refine V.drop 10 ?_
          refine V.lits (lv' := [_, _, _, _, _, _, _, _, _, _, _, _, _]) rfl ?_
          refine v_loop (fun (t : Int64 × Int32) lv0 => ((lv0.set 8 (some (.long t.1))).set 11 (some (.int t.2)))) (fun (S1 : Mem) (t : Int64 × Int32) => INV M [] S1 ∧ is S1 h 6 ∧ is S1 p0 2 ∧ (-1 ≤ t.2.toInt ∧ t.2.toInt ≤ 20) ∧ ext S S1 (fun a => ¬ M a ∧ mK S a ∈ [0, 6, 7, 12])) (fun (S1 : Mem) (t : Int64 × Int32) => dnm t.2) (t := (_, _)) rfl ⟨iv, i_this, i_p0, (pl_dn (p_v7 hz.1.1)), E0⟩ ?_
          intro L155 t h_155 ih_155
          obtain ⟨t0_155, t1_155⟩ := t
          obtain ⟨iv, i_this, i_p0, z2, E0⟩ := h_155
          try dsimp only
          refine v_iload C dX6_goWithin_155 rfl ?_
          refine v_iload_n C dX6_goWithin_157 rfl ?_
          refine v_icmp_lt (tgt := 217) C dX6_goWithin_158 (by decide) (fun c_158 => ?_) (fun c_158 => ?_)
          · skip
            refine v_lload C dX6_goWithin_217 rfl ?_
            refine v_lret C hr (by first | exact Nat.le_of_ble_eq_true rfl | omega | (dsimp only; omega)) (by first | exact Nat.le_of_ble_eq_true rfl | omega | (dsimp only; omega)) dX6_goWithin_219 ?_
            exact ⟨_, rfl, iv, E0⟩
          · skip
            refine v_aload_n C dX6_goWithin_161 rfl ?_
            refine g6_26 C i_this dX6_goWithin_162 ?_
            refine v_topi (fun v162 e_v162 => ?_)
            refine v_if_ne (tgt := 217) C dX6_goWithin_165 (by decide) (fun c_165 => ?_) (fun c_165 => ?_)
            · skip
              refine v_lload C dX6_goWithin_217 rfl ?_
              refine v_lret C hr (by first | exact Nat.le_of_ble_eq_true rfl | omega | (dsimp only; omega)) (by first | exact Nat.le_of_ble_eq_true rfl | omega | (dsimp only; omega)) dX6_goWithin_219 ?_
              exact ⟨_, rfl, iv, E0⟩
            · skip
              refine v_aload_n C dX6_goWithin_168 rfl ?_
              obtain ⟨a169, e_a169, i_a169⟩ := T384 iv i_this List.not_mem_nil
              refine r6_18 (b := a169) C i_this e_a169 dX6_goWithin_169 ?_
              refine v_aload_n C dX6_goWithin_172 rfl ?_
              refine v_iload C dX6_goWithin_173 rfl ?_
              refine v_iload_n C dX6_goWithin_175 rfl ?_
              refine v_callV (As := [_, _, _]) (n := 3) C (st_X1_guardAt l _ _ _ _ _) rfl i_a169 (by decide) rfl ⟨wd821, wd639, wd640, wd15, wd641⟩ ⟨rfl, hy_X1_guardAt⟩ rfl ⟨by first | exact Nat.le_of_ble_eq_true rfl | omega | (dsimp only; omega), by first | exact Nat.le_of_ble_eq_true rfl | omega | (dsimp only; omega)⟩ (by first | exact Nat.le_of_ble_eq_true rfl | omega | (dsimp only; omega)) ⟨by first | exact Nat.le_of_ble_eq_true rfl | omega | (dsimp only; omega), by first | exact Nat.le_of_ble_eq_true rfl | omega | (dsimp only; omega)⟩ dX6_goWithin_176 ⟨rfl, iv, i_a169, i_p0⟩ (fun r_176 S4_176 h_176 => ?_)
              obtain ⟨v176, rfl, n_v176, q_v176⟩ := h_176
              obtain rfl := q_v176.symm
              refine v_qstore C dX6_goWithin_179 (by decide) (by first | rfl | exact cat_ok _ | simp [okS, cat_rf]) ?_
              refine v_qload C dX6_goWithin_181 rfl ?_
              refine v_ifnull (tgt := 211) C dX6_goWithin_183 (by decide) (fun c_183 => ?_) (fun b183 c_183 => ?_)
              · skip
                subst c_183
                refine v_iinc C dX6_goWithin_211 rfl rfl (by decide) (by first | rfl | exact cat_ok _ | simp [okS, cat_rf]) ?_
                refine v_goto (tgt := 155) C dX6_goWithin_214 (by decide) ?_
                refine V.drop 12 ?_
                refine V.lits (lv' := [_, _, _, _, _, _, _, _, _, _, _, _, _]) rfl ?_
                exact ih_155 _ (_, _) (dnm_lt (pl_ge z2 hz.1 c_158)) ⟨iv, i_this, i_p0, (pl_dn2 (pl_ge z2 hz.1 c_158)), E0⟩
              · skip
                subst c_183
                have i_b183 := nOK_some n_v176 rfl
                refine v_aload C dX6_goWithin_186 rfl ?_
                refine g6_94 C i_b183 dX6_goWithin_188 ?_
                refine v_topi (fun v188 e_v188 => ?_)
                refine v_iconst (v := 2) C dX6_goWithin_191 (by decide) ?_
                refine v_icmp_ne (tgt := 211) C dX6_goWithin_192 (by decide) (fun c_192 => ?_) (fun c_192 => ?_)
                · skip
                  refine v_iinc C dX6_goWithin_211 rfl rfl (by decide) (by first | rfl | exact cat_ok _ | simp [okS, cat_rf]) ?_
                  refine v_goto (tgt := 155) C dX6_goWithin_214 (by decide) ?_
                  refine V.drop 12 ?_
                  refine V.lits (lv' := [_, _, _, _, _, _, _, _, _, _, _, _, _]) rfl ?_
                  exact ih_155 _ (_, _) (dnm_lt (pl_ge z2 hz.1 c_158)) ⟨iv, i_this, i_p0, (pl_dn2 (pl_ge z2 hz.1 c_158)), E0⟩
                · skip
                  refine v_aload_n C dX6_goWithin_195 rfl ?_
                  refine v_aload C dX6_goWithin_196 rfl ?_
                  refine v_aload_n C dX6_goWithin_198 rfl ?_
                  refine v_iload_n C dX6_goWithin_199 rfl ?_
                  refine v_iload C dX6_goWithin_200 rfl ?_
                  refine v_lload C dX6_goWithin_202 rfl ?_
                  refine v_iload C dX6_goWithin_204 rfl ?_
                  refine v_callV (As := [_, _, _, _, _, _]) (n := 6) C (hD l _ _ _ _ _ _ _ _) rfl i_this (by decide) rfl ⟨wd773, wd774, wd775, wd19, wd786⟩ ⟨rfl, hy_X6_doOps⟩ rfl ⟨by first | exact Nat.le_of_ble_eq_true rfl | omega | (dsimp only; omega), by first | exact Nat.le_of_ble_eq_true rfl | omega | (dsimp only; omega)⟩ (by first | exact Nat.le_of_ble_eq_true rfl | omega | (dsimp only; omega)) ⟨by first | exact Nat.le_of_ble_eq_true rfl | omega | (dsimp only; omega), by first | exact Nat.le_of_ble_eq_true rfl | omega | (dsimp only; omega)⟩ dX6_goWithin_206 ⟨rfl, iv, i_this, i_b183, i_p0, (pl_ge z2 hz.1 c_158), hz.2⟩ (fun r_206 S8_206 h_206 => ?_)
                  obtain ⟨v206, rfl, iv2, x_206⟩ := h_206
                  have i_this := is_ext x_206 i_this
                  have i_p0 := is_ext x_206 i_p0
                  have i_a169 := is_ext x_206 i_a169
                  have i_b183 := is_ext x_206 i_b183
                  have E0' := ext_tr E0 x_206 (xk_call E0 (by decide))
                  have E0 := E0'
                  have iv := iv2
                  refine v_lstore C dX6_goWithin_209 (by decide) (by first | rfl | exact cat_ok _ | simp [okS, cat_rf]) ?_
                  refine v_iinc C dX6_goWithin_211 rfl rfl (by decide) (by first | rfl | exact cat_ok _ | simp [okS, cat_rf]) ?_
                  refine v_goto (tgt := 155) C dX6_goWithin_214 (by decide) ?_
                  refine V.drop 12 ?_
                  refine V.lits (lv' := [_, _, _, _, _, _, _, _, _, _, _, _, _]) rfl ?_
                  exact ih_155 _ (_, _) (dnm_lt (pl_ge z2 hz.1 c_158)) ⟨iv, i_this, i_p0, (pl_dn2 (pl_ge z2 hz.1 c_158)), E0⟩
        · skip
          refine v_aload_n C dX6_goWithin_133 rfl ?_
          refine v_aload C dX6_goWithin_134 rfl ?_
          refine v_aload_n C dX6_goWithin_136 rfl ?_
          refine v_iload_n C dX6_goWithin_137 rfl ?_
          refine v_iload C dX6_goWithin_138 rfl ?_
          refine v_lload C dX6_goWithin_140 rfl ?_
          refine v_iload C dX6_goWithin_142 rfl ?_
          refine v_callV (As := [_, _, _, _, _, _]) (n := 6) C (hD l _ _ _ _ _ _ _ _) rfl i_this (by decide) rfl ⟨wd773, wd774, wd775, wd19, wd786⟩ ⟨rfl, hy_X6_doOps⟩ rfl ⟨by first | exact Nat.le_of_ble_eq_true rfl | omega | (dsimp only; omega), by first | exact Nat.le_of_ble_eq_true rfl | omega | (dsimp only; omega)⟩ (by first | exact Nat.le_of_ble_eq_true rfl | omega | (dsimp only; omega)) ⟨by first | exact Nat.le_of_ble_eq_true rfl | omega | (dsimp only; omega), by first | exact Nat.le_of_ble_eq_true rfl | omega | (dsimp only; omega)⟩ dX6_goWithin_144 ⟨rfl, iv, i_this, i_b123, i_p0, (p_v7 hz.1.1), hz.2⟩ (fun r_144 S8_144 h_144 => ?_)
          obtain ⟨v144, rfl, iv2, x_144⟩ := h_144
          have i_this := is_ext x_144 i_this
          have i_p0 := is_ext x_144 i_p0
          have i_a84 := is_ext x_144 i_a84
          have i_a108 := is_ext x_144 i_a108
          have i_v113 := is_ext x_144 i_v113
          have i_b123 := is_ext x_144 i_b123
          have E0' := ext_tr E0 x_144 (xk_call E0 (by decide))
          have E0 := E0'
          have iv := iv2
          refine v_lstore C dX6_goWithin_147 (by decide) (by first | rfl | exact cat_ok _ | simp [okS, cat_rf]) ?_
          refine v_iload C dX6_goWithin_149 rfl ?_
          refine v_iconst (v := 1) C dX6_goWithin_151 (by decide) ?_
          refine v_isub C dX6_goWithin_152 ?_
          refine v_istore C dX6_goWithin_153 (by decide) (by first | rfl | exact cat_ok _ | simp [okS, cat_rf]) ?_
          refine V.drop 10 ?_
          refine V.lits (lv' := [_, _, _, _, _, _, _, _, _, _, _, _, _]) rfl ?_
          refine v_loop (fun (t : Int64 × Int32) lv0 => ((lv0.set 8 (some (.long t.1))).set 11 (some (.int t.2)))) (fun (S1 : Mem) (t : Int64 × Int32) => INV M [] S1 ∧ is S1 h 6 ∧ is S1 p0 2 ∧ (-1 ≤ t.2.toInt ∧ t.2.toInt ≤ 20) ∧ ext S S1 (fun a => ¬ M a ∧ mK S a ∈ [0, 6, 7, 12])) (fun (S1 : Mem) (t : Int64 × Int32) => dnm t.2) (t := (_, _)) rfl ⟨iv, i_this, i_p0, (pl_dn (p_v7 hz.1.1)), E0⟩ ?_
          intro L155 t h_155 ih_155
          obtain ⟨t0_155, t1_155⟩ := t
          obtain ⟨iv, i_this, i_p0, z2, E0⟩ := h_155
          try dsimp only
          refine v_iload C dX6_goWithin_155 rfl ?_
          refine v_iload_n C dX6_goWithin_157 rfl ?_
          refine v_icmp_lt (tgt := 217) C dX6_goWithin_158 (by decide) (fun c_158 => ?_) (fun c_158 => ?_)
          · skip
            refine v_lload C dX6_goWithin_217 rfl ?_
            refine v_lret C hr (by first | exact Nat.le_of_ble_eq_true rfl | omega | (dsimp only; omega)) (by first | exact Nat.le_of_ble_eq_true rfl | omega | (dsimp only; omega)) dX6_goWithin_219 ?_
            exact ⟨_, rfl, iv, E0⟩
          · skip
            refine v_aload_n C dX6_goWithin_161 rfl ?_
            refine g6_26 C i_this dX6_goWithin_162 ?_
            refine v_topi (fun v162 e_v162 => ?_)
            refine v_if_ne (tgt := 217) C dX6_goWithin_165 (by decide) (fun c_165 => ?_) (fun c_165 => ?_)
            · skip
              refine v_lload C dX6_goWithin_217 rfl ?_
              refine v_lret C hr (by first | exact Nat.le_of_ble_eq_true rfl | omega | (dsimp only; omega)) (by first | exact Nat.le_of_ble_eq_true rfl | omega | (dsimp only; omega)) dX6_goWithin_219 ?_
              exact ⟨_, rfl, iv, E0⟩
            · skip
              refine v_aload_n C dX6_goWithin_168 rfl ?_
              obtain ⟨a169, e_a169, i_a169⟩ := T384 iv i_this List.not_mem_nil
              refine r6_18 (b := a169) C i_this e_a169 dX6_goWithin_169 ?_
              refine v_aload_n C dX6_goWithin_172 rfl ?_
              refine v_iload C dX6_goWithin_173 rfl ?_
              refine v_iload_n C dX6_goWithin_175 rfl ?_
              refine v_callV (As := [_, _, _]) (n := 3) C (st_X1_guardAt l _ _ _ _ _) rfl i_a169 (by decide) rfl ⟨wd821, wd639, wd640, wd15, wd641⟩ ⟨rfl, hy_X1_guardAt⟩ rfl ⟨by first | exact Nat.le_of_ble_eq_true rfl | omega | (dsimp only; omega), by first | exact Nat.le_of_ble_eq_true rfl | omega | (dsimp only; omega)⟩ (by first | exact Nat.le_of_ble_eq_true rfl | omega | (dsimp only; omega)) ⟨by first | exact Nat.le_of_ble_eq_true rfl | omega | (dsimp only; omega), by first | exact Nat.le_of_ble_eq_true rfl | omega | (dsimp only; omega)⟩ dX6_goWithin_176 ⟨rfl, iv, i_a169, i_p0⟩ (fun r_176 S4_176 h_176 => ?_)
              obtain ⟨v176, rfl, n_v176, q_v176⟩ := h_176
              obtain rfl := q_v176.symm
              refine v_qstore C dX6_goWithin_179 (by decide) (by first | rfl | exact cat_ok _ | simp [okS, cat_rf]) ?_
              refine v_qload C dX6_goWithin_181 rfl ?_
              refine v_ifnull (tgt := 211) C dX6_goWithin_183 (by decide) (fun c_183 => ?_) (fun b183 c_183 => ?_)
              · skip
                subst c_183
                refine v_iinc C dX6_goWithin_211 rfl rfl (by decide) (by first | rfl | exact cat_ok _ | simp [okS, cat_rf]) ?_
                refine v_goto (tgt := 155) C dX6_goWithin_214 (by decide) ?_
                refine V.drop 12 ?_
                refine V.lits (lv' := [_, _, _, _, _, _, _, _, _, _, _, _, _]) rfl ?_
                exact ih_155 _ (_, _) (dnm_lt (pl_ge z2 hz.1 c_158)) ⟨iv, i_this, i_p0, (pl_dn2 (pl_ge z2 hz.1 c_158)), E0⟩
              · skip
                subst c_183
                have i_b183 := nOK_some n_v176 rfl
                refine v_aload C dX6_goWithin_186 rfl ?_
                refine g6_94 C i_b183 dX6_goWithin_188 ?_
                refine v_topi (fun v188 e_v188 => ?_)
                refine v_iconst (v := 2) C dX6_goWithin_191 (by decide) ?_
                refine v_icmp_ne (tgt := 211) C dX6_goWithin_192 (by decide) (fun c_192 => ?_) (fun c_192 => ?_)
                · skip
                  refine v_iinc C dX6_goWithin_211 rfl rfl (by decide) (by first | rfl | exact cat_ok _ | simp [okS, cat_rf]) ?_
                  refine v_goto (tgt := 155) C dX6_goWithin_214 (by decide) ?_
                  refine V.drop 12 ?_
                  refine V.lits (lv' := [_, _, _, _, _, _, _, _, _, _, _, _, _]) rfl ?_
                  exact ih_155 _ (_, _) (dnm_lt (pl_ge z2 hz.1 c_158)) ⟨iv, i_this, i_p0, (pl_dn2 (pl_ge z2 hz.1 c_158)), E0⟩
                · skip
                  refine v_aload_n C dX6_goWithin_195 rfl ?_
                  refine v_aload C dX6_goWithin_196 rfl ?_
                  refine v_aload_n C dX6_goWithin_198 rfl ?_
                  refine v_iload_n C dX6_goWithin_199 rfl ?_
                  refine v_iload C dX6_goWithin_200 rfl ?_
                  refine v_lload C dX6_goWithin_202 rfl ?_
                  refine v_iload C dX6_goWithin_204 rfl ?_
                  refine v_callV (As := [_, _, _, _, _, _]) (n := 6) C (hD l _ _ _ _ _ _ _ _) rfl i_this (by decide) rfl ⟨wd773, wd774, wd775, wd19, wd786⟩ ⟨rfl, hy_X6_doOps⟩ rfl ⟨by first | exact Nat.le_of_ble_eq_true rfl | omega | (dsimp only; omega), by first | exact Nat.le_of_ble_eq_true rfl | omega | (dsimp only; omega)⟩ (by first | exact Nat.le_of_ble_eq_true rfl | omega | (dsimp only; omega)) ⟨by first | exact Nat.le_of_ble_eq_true rfl | omega | (dsimp only; omega), by first | exact Nat.le_of_ble_eq_true rfl | omega | (dsimp only; omega)⟩ dX6_goWithin_206 ⟨rfl, iv, i_this, i_b183, i_p0, (pl_ge z2 hz.1 c_158), hz.2⟩ (fun r_206 S8_206 h_206 => ?_)
                  obtain ⟨v206, rfl, iv2, x_206⟩ := h_206
                  have i_this := is_ext x_206 i_this
                  have i_p0 := is_ext x_206 i_p0
                  have i_a169 := is_ext x_206 i_a169
                  have i_b183 := is_ext x_206 i_b183
                  have E0' := ext_tr E0 x_206 (xk_call E0 (by decide))
                  have E0 := E0'
                  have iv := iv2
                  refine v_lstore C dX6_goWithin_209 (by decide) (by first | rfl | exact cat_ok _ | simp [okS, cat_rf]) ?_
                  refine v_iinc C dX6_goWithin_211 rfl rfl (by decide) (by first | rfl | exact cat_ok _ | simp [okS, cat_rf]) ?_
                  refine v_goto (tgt := 155) C dX6_goWithin_214 (by decide) ?_
                  refine V.drop 12 ?_
                  refine V.lits (lv' := [_, _, _, _, _, _, _, _, _, _, _, _, _]) rfl ?_
                  exact ih_155 _ (_, _) (dnm_lt (pl_ge z2 hz.1 c_158)) ⟨iv, i_this, i_p0, (pl_dn2 (pl_ge z2 hz.1 c_158)), E0⟩
    · skip
      refine v_aload_n C dX6_goWithin_93 rfl ?_
      obtain ⟨a94, e_a94, i_a94⟩ := T384 iv i_this List.not_mem_nil
      refine r6_18 (b := a94) C i_this e_a94 dX6_goWithin_94 ?_
      refine v_aload_n C dX6_goWithin_97 rfl ?_
      refine v_iload C dX6_goWithin_98 rfl ?_
      refine v_iload_n C dX6_goWithin_100 rfl ?_
      refine v_callV (As := [_, _, _]) (n := 3) C (st_X1_guardAt l _ _ _ _ _) rfl i_a94 (by decide) rfl ⟨wd821, wd639, wd640, wd15, wd641⟩ ⟨rfl, hy_X1_guardAt⟩ rfl ⟨by first | exact Nat.le_of_ble_eq_true rfl | omega | (dsimp only; omega), by first | exact Nat.le_of_ble_eq_true rfl | omega | (dsimp only; omega)⟩ (by first | exact Nat.le_of_ble_eq_true rfl | omega | (dsimp only; omega)) ⟨by first | exact Nat.le_of_ble_eq_true rfl | omega | (dsimp only; omega), by first | exact Nat.le_of_ble_eq_true rfl | omega | (dsimp only; omega)⟩ dX6_goWithin_101 ⟨rfl, iv, i_a94, i_p0⟩ (fun r_101 S4_101 h_101 => ?_)
      obtain ⟨v101, rfl, n_v101, q_v101⟩ := h_101
      obtain rfl := q_v101.symm
      refine v_goto (tgt := 119) C dX6_goWithin_104 (by decide) ?_
      refine v_qstore C dX6_goWithin_119 (by decide) (by first | rfl | exact cat_ok _ | simp [okS, cat_rf]) ?_
      refine v_qload C dX6_goWithin_121 rfl ?_
      refine v_ifnull (tgt := 149) C dX6_goWithin_123 (by decide) (fun c_123 => ?_) (fun b123 c_123 => ?_)
      · skip
        subst c_123
        refine v_iload C dX6_goWithin_149 rfl ?_
        refine v_iconst (v := 1) C dX6_goWithin_151 (by decide) ?_
        refine v_isub C dX6_goWithin_152 ?_
        refine v_istore C dX6_goWithin_153 (by decide) (by first | rfl | exact cat_ok _ | simp [okS, cat_rf]) ?_
        refine V.drop 10 ?_
        refine V.lits (lv' := [_, _, _, _, _, _, _, _, _, _, _, _, _]) rfl ?_
        refine v_loop (fun (t : Int64 × Int32) lv0 => ((lv0.set 8 (some (.long t.1))).set 11 (some (.int t.2)))) (fun (S1 : Mem) (t : Int64 × Int32) => INV M [] S1 ∧ is S1 h 6 ∧ is S1 p0 2 ∧ (-1 ≤ t.2.toInt ∧ t.2.toInt ≤ 20) ∧ ext S S1 (fun a => ¬ M a ∧ mK S a ∈ [0, 6, 7, 12])) (fun (S1 : Mem) (t : Int64 × Int32) => dnm t.2) (t := (_, _)) rfl ⟨iv, i_this, i_p0, (pl_dn (p_v7 hz.1.1)), E0⟩ ?_
        intro L155 t h_155 ih_155
        obtain ⟨t0_155, t1_155⟩ := t
        obtain ⟨iv, i_this, i_p0, z2, E0⟩ := h_155
        try dsimp only
        refine v_iload C dX6_goWithin_155 rfl ?_
        refine v_iload_n C dX6_goWithin_157 rfl ?_
        refine v_icmp_lt (tgt := 217) C dX6_goWithin_158 (by decide) (fun c_158 => ?_) (fun c_158 => ?_)
        · skip
          refine v_lload C dX6_goWithin_217 rfl ?_
          refine v_lret C hr (by first | exact Nat.le_of_ble_eq_true rfl | omega | (dsimp only; omega)) (by first | exact Nat.le_of_ble_eq_true rfl | omega | (dsimp only; omega)) dX6_goWithin_219 ?_
          exact ⟨_, rfl, iv, E0⟩
        · skip
          refine v_aload_n C dX6_goWithin_161 rfl ?_
          refine g6_26 C i_this dX6_goWithin_162 ?_
          refine v_topi (fun v162 e_v162 => ?_)
          refine v_if_ne (tgt := 217) C dX6_goWithin_165 (by decide) (fun c_165 => ?_) (fun c_165 => ?_)
          · skip
            refine v_lload C dX6_goWithin_217 rfl ?_
            refine v_lret C hr (by first | exact Nat.le_of_ble_eq_true rfl | omega | (dsimp only; omega)) (by first | exact Nat.le_of_ble_eq_true rfl | omega | (dsimp only; omega)) dX6_goWithin_219 ?_
            exact ⟨_, rfl, iv, E0⟩
          · skip
            refine v_aload_n C dX6_goWithin_168 rfl ?_
            obtain ⟨a169, e_a169, i_a169⟩ := T384 iv i_this List.not_mem_nil
            refine r6_18 (b := a169) C i_this e_a169 dX6_goWithin_169 ?_
            refine v_aload_n C dX6_goWithin_172 rfl ?_
            refine v_iload C dX6_goWithin_173 rfl ?_
            refine v_iload_n C dX6_goWithin_175 rfl ?_
            refine v_callV (As := [_, _, _]) (n := 3) C (st_X1_guardAt l _ _ _ _ _) rfl i_a169 (by decide) rfl ⟨wd821, wd639, wd640, wd15, wd641⟩ ⟨rfl, hy_X1_guardAt⟩ rfl ⟨by first | exact Nat.le_of_ble_eq_true rfl | omega | (dsimp only; omega), by first | exact Nat.le_of_ble_eq_true rfl | omega | (dsimp only; omega)⟩ (by first | exact Nat.le_of_ble_eq_true rfl | omega | (dsimp only; omega)) ⟨by first | exact Nat.le_of_ble_eq_true rfl | omega | (dsimp only; omega), by first | exact Nat.le_of_ble_eq_true rfl | omega | (dsimp only; omega)⟩ dX6_goWithin_176 ⟨rfl, iv, i_a169, i_p0⟩ (fun r_176 S4_176 h_176 => ?_)
            obtain ⟨v176, rfl, n_v176, q_v176⟩ := h_176
            obtain rfl := q_v176.symm
            refine v_qstore C dX6_goWithin_179 (by decide) (by first | rfl | exact cat_ok _ | simp [okS, cat_rf]) ?_
            refine v_qload C dX6_goWithin_181 rfl ?_
            refine v_ifnull (tgt := 211) C dX6_goWithin_183 (by decide) (fun c_183 => ?_) (fun b183 c_183 => ?_)
            · skip
              subst c_183
              refine v_iinc C dX6_goWithin_211 rfl rfl (by decide) (by first | rfl | exact cat_ok _ | simp [okS, cat_rf]) ?_
              refine v_goto (tgt := 155) C dX6_goWithin_214 (by decide) ?_
              refine V.drop 12 ?_
              refine V.lits (lv' := [_, _, _, _, _, _, _, _, _, _, _, _, _]) rfl ?_
              exact ih_155 _ (_, _) (dnm_lt (pl_ge z2 hz.1 c_158)) ⟨iv, i_this, i_p0, (pl_dn2 (pl_ge z2 hz.1 c_158)), E0⟩
            · skip
              subst c_183
              have i_b183 := nOK_some n_v176 rfl
              refine v_aload C dX6_goWithin_186 rfl ?_
              refine g6_94 C i_b183 dX6_goWithin_188 ?_
              refine v_topi (fun v188 e_v188 => ?_)
              refine v_iconst (v := 2) C dX6_goWithin_191 (by decide) ?_
              refine v_icmp_ne (tgt := 211) C dX6_goWithin_192 (by decide) (fun c_192 => ?_) (fun c_192 => ?_)
              · skip
                refine v_iinc C dX6_goWithin_211 rfl rfl (by decide) (by first | rfl | exact cat_ok _ | simp [okS, cat_rf]) ?_
                refine v_goto (tgt := 155) C dX6_goWithin_214 (by decide) ?_
                refine V.drop 12 ?_
                refine V.lits (lv' := [_, _, _, _, _, _, _, _, _, _, _, _, _]) rfl ?_
                exact ih_155 _ (_, _) (dnm_lt (pl_ge z2 hz.1 c_158)) ⟨iv, i_this, i_p0, (pl_dn2 (pl_ge z2 hz.1 c_158)), E0⟩
              · skip
                refine v_aload_n C dX6_goWithin_195 rfl ?_
                refine v_aload C dX6_goWithin_196 rfl ?_
                refine v_aload_n C dX6_goWithin_198 rfl ?_
                refine v_iload_n C dX6_goWithin_199 rfl ?_
                refine v_iload C dX6_goWithin_200 rfl ?_
                refine v_lload C dX6_goWithin_202 rfl ?_
                refine v_iload C dX6_goWithin_204 rfl ?_
                refine v_callV (As := [_, _, _, _, _, _]) (n := 6) C (hD l _ _ _ _ _ _ _ _) rfl i_this (by decide) rfl ⟨wd773, wd774, wd775, wd19, wd786⟩ ⟨rfl, hy_X6_doOps⟩ rfl ⟨by first | exact Nat.le_of_ble_eq_true rfl | omega | (dsimp only; omega), by first | exact Nat.le_of_ble_eq_true rfl | omega | (dsimp only; omega)⟩ (by first | exact Nat.le_of_ble_eq_true rfl | omega | (dsimp only; omega)) ⟨by first | exact Nat.le_of_ble_eq_true rfl | omega | (dsimp only; omega), by first | exact Nat.le_of_ble_eq_true rfl | omega | (dsimp only; omega)⟩ dX6_goWithin_206 ⟨rfl, iv, i_this, i_b183, i_p0, (pl_ge z2 hz.1 c_158), hz.2⟩ (fun r_206 S8_206 h_206 => ?_)
                obtain ⟨v206, rfl, iv2, x_206⟩ := h_206
                have i_this := is_ext x_206 i_this
                have i_p0 := is_ext x_206 i_p0
                have i_a169 := is_ext x_206 i_a169
                have i_b183 := is_ext x_206 i_b183
                have E0' := ext_tr E0 x_206 (xk_call E0 (by decide))
                have E0 := E0'
                have iv := iv2
                refine v_lstore C dX6_goWithin_209 (by decide) (by first | rfl | exact cat_ok _ | simp [okS, cat_rf]) ?_
                refine v_iinc C dX6_goWithin_211 rfl rfl (by decide) (by first | rfl | exact cat_ok _ | simp [okS, cat_rf]) ?_
                refine v_goto (tgt := 155) C dX6_goWithin_214 (by decide) ?_
                refine V.drop 12 ?_
                refine V.lits (lv' := [_, _, _, _, _, _, _, _, _, _, _, _, _]) rfl ?_
                exact ih_155 _ (_, _) (dnm_lt (pl_ge z2 hz.1 c_158)) ⟨iv, i_this, i_p0, (pl_dn2 (pl_ge z2 hz.1 c_158)), E0⟩
      · skip
        subst c_123
        have i_b123 := nOK_some n_v101 rfl
        refine v_aload_n C dX6_goWithin_126 rfl ?_
        refine g6_26 C i_this dX6_goWithin_127 ?_
        refine v_topi (fun v127 e_v127 => ?_)
        refine v_if_ne (tgt := 149) C dX6_goWithin_130 (by decide) (fun c_130 => ?_) (fun c_130 => ?_)
        · skip
          refine v_iload C dX6_goWithin_149 rfl ?_
          refine v_iconst (v := 1) C dX6_goWithin_151 (by decide) ?_
          refine v_isub C dX6_goWithin_152 ?_
          refine v_istore C dX6_goWithin_153 (by decide) (by first | rfl | exact cat_ok _ | simp [okS, cat_rf]) ?_
          refine V.drop 10 ?_
          refine V.lits (lv' := [_, _, _, _, _, _, _, _, _, _, _, _, _]) rfl ?_
          refine v_loop (fun (t : Int64 × Int32) lv0 => ((lv0.set 8 (some (.long t.1))).set 11 (some (.int t.2)))) (fun (S1 : Mem) (t : Int64 × Int32) => INV M [] S1 ∧ is S1 h 6 ∧ is S1 p0 2 ∧ (-1 ≤ t.2.toInt ∧ t.2.toInt ≤ 20) ∧ ext S S1 (fun a => ¬ M a ∧ mK S a ∈ [0, 6, 7, 12])) (fun (S1 : Mem) (t : Int64 × Int32) => dnm t.2) (t := (_, _)) rfl ⟨iv, i_this, i_p0, (pl_dn (p_v7 hz.1.1)), E0⟩ ?_
          intro L155 t h_155 ih_155
          obtain ⟨t0_155, t1_155⟩ := t
          obtain ⟨iv, i_this, i_p0, z2, E0⟩ := h_155
          try dsimp only
          refine v_iload C dX6_goWithin_155 rfl ?_
          refine v_iload_n C dX6_goWithin_157 rfl ?_
          refine v_icmp_lt (tgt := 217) C dX6_goWithin_158 (by decide) (fun c_158 => ?_) (fun c_158 => ?_)
          · skip
            refine v_lload C dX6_goWithin_217 rfl ?_
            refine v_lret C hr (by first | exact Nat.le_of_ble_eq_true rfl | omega | (dsimp only; omega)) (by first | exact Nat.le_of_ble_eq_true rfl | omega | (dsimp only; omega)) dX6_goWithin_219 ?_
            exact ⟨_, rfl, iv, E0⟩
          · skip
            refine v_aload_n C dX6_goWithin_161 rfl ?_
            refine g6_26 C i_this dX6_goWithin_162 ?_
            refine v_topi (fun v162 e_v162 => ?_)
            refine v_if_ne (tgt := 217) C dX6_goWithin_165 (by decide) (fun c_165 => ?_) (fun c_165 => ?_)
            · skip
              refine v_lload C dX6_goWithin_217 rfl ?_
              refine v_lret C hr (by first | exact Nat.le_of_ble_eq_true rfl | omega | (dsimp only; omega)) (by first | exact Nat.le_of_ble_eq_true rfl | omega | (dsimp only; omega)) dX6_goWithin_219 ?_
              exact ⟨_, rfl, iv, E0⟩
            · skip
              refine v_aload_n C dX6_goWithin_168 rfl ?_
              obtain ⟨a169, e_a169, i_a169⟩ := T384 iv i_this List.not_mem_nil
              refine r6_18 (b := a169) C i_this e_a169 dX6_goWithin_169 ?_
              refine v_aload_n C dX6_goWithin_172 rfl ?_
              refine v_iload C dX6_goWithin_173 rfl ?_
              refine v_iload_n C dX6_goWithin_175 rfl ?_
              refine v_callV (As := [_, _, _]) (n := 3) C (st_X1_guardAt l _ _ _ _ _) rfl i_a169 (by decide) rfl ⟨wd821, wd639, wd640, wd15, wd641⟩ ⟨rfl, hy_X1_guardAt⟩ rfl ⟨by first | exact Nat.le_of_ble_eq_true rfl | omega | (dsimp only; omega), by first | exact Nat.le_of_ble_eq_true rfl | omega | (dsimp only; omega)⟩ (by first | exact Nat.le_of_ble_eq_true rfl | omega | (dsimp only; omega)) ⟨by first | exact Nat.le_of_ble_eq_true rfl | omega | (dsimp only; omega), by first | exact Nat.le_of_ble_eq_true rfl | omega | (dsimp only; omega)⟩ dX6_goWithin_176 ⟨rfl, iv, i_a169, i_p0⟩ (fun r_176 S4_176 h_176 => ?_)
              obtain ⟨v176, rfl, n_v176, q_v176⟩ := h_176
              obtain rfl := q_v176.symm
              refine v_qstore C dX6_goWithin_179 (by decide) (by first | rfl | exact cat_ok _ | simp [okS, cat_rf]) ?_
              refine v_qload C dX6_goWithin_181 rfl ?_
              refine v_ifnull (tgt := 211) C dX6_goWithin_183 (by decide) (fun c_183 => ?_) (fun b183 c_183 => ?_)
              · skip
                subst c_183
                refine v_iinc C dX6_goWithin_211 rfl rfl (by decide) (by first | rfl | exact cat_ok _ | simp [okS, cat_rf]) ?_
                refine v_goto (tgt := 155) C dX6_goWithin_214 (by decide) ?_
                refine V.drop 12 ?_
                refine V.lits (lv' := [_, _, _, _, _, _, _, _, _, _, _, _, _]) rfl ?_
                exact ih_155 _ (_, _) (dnm_lt (pl_ge z2 hz.1 c_158)) ⟨iv, i_this, i_p0, (pl_dn2 (pl_ge z2 hz.1 c_158)), E0⟩
              · skip
                subst c_183
                have i_b183 := nOK_some n_v176 rfl
                refine v_aload C dX6_goWithin_186 rfl ?_
                refine g6_94 C i_b183 dX6_goWithin_188 ?_
                refine v_topi (fun v188 e_v188 => ?_)
                refine v_iconst (v := 2) C dX6_goWithin_191 (by decide) ?_
                refine v_icmp_ne (tgt := 211) C dX6_goWithin_192 (by decide) (fun c_192 => ?_) (fun c_192 => ?_)
                · skip
                  refine v_iinc C dX6_goWithin_211 rfl rfl (by decide) (by first | rfl | exact cat_ok _ | simp [okS, cat_rf]) ?_
                  refine v_goto (tgt := 155) C dX6_goWithin_214 (by decide) ?_
                  refine V.drop 12 ?_
                  refine V.lits (lv' := [_, _, _, _, _, _, _, _, _, _, _, _, _]) rfl ?_
                  exact ih_155 _ (_, _) (dnm_lt (pl_ge z2 hz.1 c_158)) ⟨iv, i_this, i_p0, (pl_dn2 (pl_ge z2 hz.1 c_158)), E0⟩
                · skip
                  refine v_aload_n C dX6_goWithin_195 rfl ?_
                  refine v_aload C dX6_goWithin_196 rfl ?_
                  refine v_aload_n C dX6_goWithin_198 rfl ?_
                  refine v_iload_n C dX6_goWithin_199 rfl ?_
                  refine v_iload C dX6_goWithin_200 rfl ?_
                  refine v_lload C dX6_goWithin_202 rfl ?_
                  refine v_iload C dX6_goWithin_204 rfl ?_
                  refine v_callV (As := [_, _, _, _, _, _]) (n := 6) C (hD l _ _ _ _ _ _ _ _) rfl i_this (by decide) rfl ⟨wd773, wd774, wd775, wd19, wd786⟩ ⟨rfl, hy_X6_doOps⟩ rfl ⟨by first | exact Nat.le_of_ble_eq_true rfl | omega | (dsimp only; omega), by first | exact Nat.le_of_ble_eq_true rfl | omega | (dsimp only; omega)⟩ (by first | exact Nat.le_of_ble_eq_true rfl | omega | (dsimp only; omega)) ⟨by first | exact Nat.le_of_ble_eq_true rfl | omega | (dsimp only; omega), by first | exact Nat.le_of_ble_eq_true rfl | omega | (dsimp only; omega)⟩ dX6_goWithin_206 ⟨rfl, iv, i_this, i_b183, i_p0, (pl_ge z2 hz.1 c_158), hz.2⟩ (fun r_206 S8_206 h_206 => ?_)
                  obtain ⟨v206, rfl, iv2, x_206⟩ := h_206
                  have i_this := is_ext x_206 i_this
                  have i_p0 := is_ext x_206 i_p0
                  have i_a169 := is_ext x_206 i_a169
                  have i_b183 := is_ext x_206 i_b183
                  have E0' := ext_tr E0 x_206 (xk_call E0 (by decide))
                  have E0 := E0'
                  have iv := iv2
                  refine v_lstore C dX6_goWithin_209 (by decide) (by first | rfl | exact cat_ok _ | simp [okS, cat_rf]) ?_
                  refine v_iinc C dX6_goWithin_211 rfl rfl (by decide) (by first | rfl | exact cat_ok _ | simp [okS, cat_rf]) ?_
                  refine v_goto (tgt := 155) C dX6_goWithin_214 (by decide) ?_
                  refine V.drop 12 ?_
                  refine V.lits (lv' := [_, _, _, _, _, _, _, _, _, _, _, _, _]) rfl ?_
                  exact ih_155 _ (_, _) (dnm_lt (pl_ge z2 hz.1 c_158)) ⟨iv, i_this, i_p0, (pl_dn2 (pl_ge z2 hz.1 c_158)), E0⟩
        · skip
          refine v_aload_n C dX6_goWithin_133 rfl ?_
          refine v_aload C dX6_goWithin_134 rfl ?_
          refine v_aload_n C dX6_goWithin_136 rfl ?_
          refine v_iload_n C dX6_goWithin_137 rfl ?_
          refine v_iload C dX6_goWithin_138 rfl ?_
          refine v_lload C dX6_goWithin_140 rfl ?_
          refine v_iload C dX6_goWithin_142 rfl ?_
          refine v_callV (As := [_, _, _, _, _, _]) (n := 6) C (hD l _ _ _ _ _ _ _ _) rfl i_this (by decide) rfl ⟨wd773, wd774, wd775, wd19, wd786⟩ ⟨rfl, hy_X6_doOps⟩ rfl ⟨by first | exact Nat.le_of_ble_eq_true rfl | omega | (dsimp only; omega), by first | exact Nat.le_of_ble_eq_true rfl | omega | (dsimp only; omega)⟩ (by first | exact Nat.le_of_ble_eq_true rfl | omega | (dsimp only; omega)) ⟨by first | exact Nat.le_of_ble_eq_true rfl | omega | (dsimp only; omega), by first | exact Nat.le_of_ble_eq_true rfl | omega | (dsimp only; omega)⟩ dX6_goWithin_144 ⟨rfl, iv, i_this, i_b123, i_p0, (p_v7 hz.1.1), hz.2⟩ (fun r_144 S8_144 h_144 => ?_)
          obtain ⟨v144, rfl, iv2, x_144⟩ := h_144
          have i_this := is_ext x_144 i_this
          have i_p0 := is_ext x_144 i_p0
          have i_a84 := is_ext x_144 i_a84
          have i_a94 := is_ext x_144 i_a94
          have i_b123 := is_ext x_144 i_b123
          have E0' := ext_tr E0 x_144 (xk_call E0 (by decide))
          have E0 := E0'
          have iv := iv2
          refine v_lstore C dX6_goWithin_147 (by decide) (by first | rfl | exact cat_ok _ | simp [okS, cat_rf]) ?_
          refine v_iload C dX6_goWithin_149 rfl ?_
          refine v_iconst (v := 1) C dX6_goWithin_151 (by decide) ?_
          refine v_isub C dX6_goWithin_152 ?_
          refine v_istore C dX6_goWithin_153 (by decide) (by first | rfl | exact cat_ok _ | simp [okS, cat_rf]) ?_
          refine V.drop 10 ?_
          refine V.lits (lv' := [_, _, _, _, _, _, _, _, _, _, _, _, _]) rfl ?_
          refine v_loop (fun (t : Int64 × Int32) lv0 => ((lv0.set 8 (some (.long t.1))).set 11 (some (.int t.2)))) (fun (S1 : Mem) (t : Int64 × Int32) => INV M [] S1 ∧ is S1 h 6 ∧ is S1 p0 2 ∧ (-1 ≤ t.2.toInt ∧ t.2.toInt ≤ 20) ∧ ext S S1 (fun a => ¬ M a ∧ mK S a ∈ [0, 6, 7, 12])) (fun (S1 : Mem) (t : Int64 × Int32) => dnm t.2) (t := (_, _)) rfl ⟨iv, i_this, i_p0, (pl_dn (p_v7 hz.1.1)), E0⟩ ?_
          intro L155 t h_155 ih_155
          obtain ⟨t0_155, t1_155⟩ := t
          obtain ⟨iv, i_this, i_p0, z2, E0⟩ := h_155
          try dsimp only
          refine v_iload C dX6_goWithin_155 rfl ?_
          refine v_iload_n C dX6_goWithin_157 rfl ?_
          refine v_icmp_lt (tgt := 217) C dX6_goWithin_158 (by decide) (fun c_158 => ?_) (fun c_158 => ?_)
          · skip
            refine v_lload C dX6_goWithin_217 rfl ?_
            refine v_lret C hr (by first | exact Nat.le_of_ble_eq_true rfl | omega | (dsimp only; omega)) (by first | exact Nat.le_of_ble_eq_true rfl | omega | (dsimp only; omega)) dX6_goWithin_219 ?_
            exact ⟨_, rfl, iv, E0⟩
          · skip
            refine v_aload_n C dX6_goWithin_161 rfl ?_
            refine g6_26 C i_this dX6_goWithin_162 ?_
            refine v_topi (fun v162 e_v162 => ?_)
            refine v_if_ne (tgt := 217) C dX6_goWithin_165 (by decide) (fun c_165 => ?_) (fun c_165 => ?_)
            · skip
              refine v_lload C dX6_goWithin_217 rfl ?_
              refine v_lret C hr (by first | exact Nat.le_of_ble_eq_true rfl | omega | (dsimp only; omega)) (by first | exact Nat.le_of_ble_eq_true rfl | omega | (dsimp only; omega)) dX6_goWithin_219 ?_
              exact ⟨_, rfl, iv, E0⟩
            · skip
              refine v_aload_n C dX6_goWithin_168 rfl ?_
              obtain ⟨a169, e_a169, i_a169⟩ := T384 iv i_this List.not_mem_nil
              refine r6_18 (b := a169) C i_this e_a169 dX6_goWithin_169 ?_
              refine v_aload_n C dX6_goWithin_172 rfl ?_
              refine v_iload C dX6_goWithin_173 rfl ?_
              refine v_iload_n C dX6_goWithin_175 rfl ?_
              refine v_callV (As := [_, _, _]) (n := 3) C (st_X1_guardAt l _ _ _ _ _) rfl i_a169 (by decide) rfl ⟨wd821, wd639, wd640, wd15, wd641⟩ ⟨rfl, hy_X1_guardAt⟩ rfl ⟨by first | exact Nat.le_of_ble_eq_true rfl | omega | (dsimp only; omega), by first | exact Nat.le_of_ble_eq_true rfl | omega | (dsimp only; omega)⟩ (by first | exact Nat.le_of_ble_eq_true rfl | omega | (dsimp only; omega)) ⟨by first | exact Nat.le_of_ble_eq_true rfl | omega | (dsimp only; omega), by first | exact Nat.le_of_ble_eq_true rfl | omega | (dsimp only; omega)⟩ dX6_goWithin_176 ⟨rfl, iv, i_a169, i_p0⟩ (fun r_176 S4_176 h_176 => ?_)
              obtain ⟨v176, rfl, n_v176, q_v176⟩ := h_176
              obtain rfl := q_v176.symm
              refine v_qstore C dX6_goWithin_179 (by decide) (by first | rfl | exact cat_ok _ | simp [okS, cat_rf]) ?_
              refine v_qload C dX6_goWithin_181 rfl ?_
              refine v_ifnull (tgt := 211) C dX6_goWithin_183 (by decide) (fun c_183 => ?_) (fun b183 c_183 => ?_)
              · skip
                subst c_183
                refine v_iinc C dX6_goWithin_211 rfl rfl (by decide) (by first | rfl | exact cat_ok _ | simp [okS, cat_rf]) ?_
                refine v_goto (tgt := 155) C dX6_goWithin_214 (by decide) ?_
                refine V.drop 12 ?_
                refine V.lits (lv' := [_, _, _, _, _, _, _, _, _, _, _, _, _]) rfl ?_
                exact ih_155 _ (_, _) (dnm_lt (pl_ge z2 hz.1 c_158)) ⟨iv, i_this, i_p0, (pl_dn2 (pl_ge z2 hz.1 c_158)), E0⟩
              · skip
                subst c_183
                have i_b183 := nOK_some n_v176 rfl
                refine v_aload C dX6_goWithin_186 rfl ?_
                refine g6_94 C i_b183 dX6_goWithin_188 ?_
                refine v_topi (fun v188 e_v188 => ?_)
                refine v_iconst (v := 2) C dX6_goWithin_191 (by decide) ?_
                refine v_icmp_ne (tgt := 211) C dX6_goWithin_192 (by decide) (fun c_192 => ?_) (fun c_192 => ?_)
                · skip
                  refine v_iinc C dX6_goWithin_211 rfl rfl (by decide) (by first | rfl | exact cat_ok _ | simp [okS, cat_rf]) ?_
                  refine v_goto (tgt := 155) C dX6_goWithin_214 (by decide) ?_
                  refine V.drop 12 ?_
                  refine V.lits (lv' := [_, _, _, _, _, _, _, _, _, _, _, _, _]) rfl ?_
                  exact ih_155 _ (_, _) (dnm_lt (pl_ge z2 hz.1 c_158)) ⟨iv, i_this, i_p0, (pl_dn2 (pl_ge z2 hz.1 c_158)), E0⟩
                · skip
                  refine v_aload_n C dX6_goWithin_195 rfl ?_
                  refine v_aload C dX6_goWithin_196 rfl ?_
                  refine v_aload_n C dX6_goWithin_198 rfl ?_
                  refine v_iload_n C dX6_goWithin_199 rfl ?_
                  refine v_iload C dX6_goWithin_200 rfl ?_
                  refine v_lload C dX6_goWithin_202 rfl ?_
                  refine v_iload C dX6_goWithin_204 rfl ?_
                  refine v_callV (As := [_, _, _, _, _, _]) (n := 6) C (hD l _ _ _ _ _ _ _ _) rfl i_this (by decide) rfl ⟨wd773, wd774, wd775, wd19, wd786⟩ ⟨rfl, hy_X6_doOps⟩ rfl ⟨by first | exact Nat.le_of_ble_eq_true rfl | omega | (dsimp only; omega), by first | exact Nat.le_of_ble_eq_true rfl | omega | (dsimp only; omega)⟩ (by first | exact Nat.le_of_ble_eq_true rfl | omega | (dsimp only; omega)) ⟨by first | exact Nat.le_of_ble_eq_true rfl | omega | (dsimp only; omega), by first | exact Nat.le_of_ble_eq_true rfl | omega | (dsimp only; omega)⟩ dX6_goWithin_206 ⟨rfl, iv, i_this, i_b183, i_p0, (pl_ge z2 hz.1 c_158), hz.2⟩ (fun r_206 S8_206 h_206 => ?_)
                  obtain ⟨v206, rfl, iv2, x_206⟩ := h_206
                  have i_this := is_ext x_206 i_this
                  have i_p0 := is_ext x_206 i_p0
                  have i_a169 := is_ext x_206 i_a169
                  have i_b183 := is_ext x_206 i_b183
                  have E0' := ext_tr E0 x_206 (xk_call E0 (by decide))
                  have E0 := E0'
                  have iv := iv2
                  refine v_lstore C dX6_goWithin_209 (by decide) (by first | rfl | exact cat_ok _ | simp [okS, cat_rf]) ?_
                  refine v_iinc C dX6_goWithin_211 rfl rfl (by decide) (by first | rfl | exact cat_ok _ | simp [okS, cat_rf]) ?_
                  refine v_goto (tgt := 155) C dX6_goWithin_214 (by decide) ?_
                  refine V.drop 12 ?_
                  refine V.lits (lv' := [_, _, _, _, _, _, _, _, _, _, _, _, _]) rfl ?_
                  exact ih_155 _ (_, _) (dnm_lt (pl_ge z2 hz.1 c_158)) ⟨iv, i_this, i_p0, (pl_dn2 (pl_ge z2 hz.1 c_158)), E0⟩
  · skip
    refine v_aload_n C dX6_goWithin_26 rfl ?_
    refine g6_26 C i_this dX6_goWithin_27 ?_
    refine v_topi (fun v27 e_v27 => ?_)
    refine v_if_ne (tgt := 81) C dX6_goWithin_30 (by decide) (fun c_30 => ?_) (fun c_30 => ?_)
    · skip
      refine v_iload C dX6_goWithin_81 rfl ?_
      refine v_aload_n C dX6_goWithin_83 rfl ?_
      obtain ⟨a84, e_a84, i_a84⟩ := T130 iv i_p0 List.not_mem_nil
      refine r6_101 (b := a84) C i_p0 e_a84 dX6_goWithin_84 ?_
      refine g6_105 C i_a84 dX6_goWithin_87 ?_
      refine v_topi (fun v87 e_v87 => ?_)
      refine v_icmp_ge (tgt := 107) C dX6_goWithin_90 (by decide) (fun c_90 => ?_) (fun c_90 => ?_)
      · skip
        refine v_aload_n C dX6_goWithin_107 rfl ?_
        obtain ⟨a108, e_a108, i_a108⟩ := T384 iv i_this List.not_mem_nil
        refine r6_18 (b := a108) C i_this e_a108 dX6_goWithin_108 ?_
        refine v_aload_n C dX6_goWithin_111 rfl ?_
        refine v_iload_n C dX6_goWithin_112 rfl ?_
        refine v_callV (As := [_, _]) (n := 2) C (st_X1_weigh l _ _ _ _) rfl i_a108 (by decide) rfl ⟨wd732, wd523, wd524, wd15, wd525⟩ ⟨rfl, hy_X1_weigh⟩ rfl ⟨by first | exact Nat.le_of_ble_eq_true rfl | omega | (dsimp only; omega), by first | exact Nat.le_of_ble_eq_true rfl | omega | (dsimp only; omega)⟩ (by first | exact Nat.le_of_ble_eq_true rfl | omega | (dsimp only; omega)) ⟨by first | exact Nat.le_of_ble_eq_true rfl | omega | (dsimp only; omega), by first | exact Nat.le_of_ble_eq_true rfl | omega | (dsimp only; omega)⟩ dX6_goWithin_113 ⟨rfl, iv, i_a108, i_p0⟩ (fun r_113 S6_113 h_113 => ?_)
        obtain ⟨v113, rfl, i_v113, iv2, x_113⟩ := h_113
        have i_this := is_ext x_113 i_this
        have i_p0 := is_ext x_113 i_p0
        have i_a84 := is_ext x_113 i_a84
        have i_a108 := is_ext x_113 i_a108
        have E0' := ext_tr E0 x_113 (xk_call E0 (by decide))
        have E0 := E0'
        have iv := iv2
        have n_o116 := T1 iv i_v113 List.not_mem_nil
        refine g6_52 C i_v113 dX6_goWithin_116 ?_
        refine v_topq n_o116 (fun o116 n_o116 => ?_)
        refine v_qstore C dX6_goWithin_119 (by decide) (by first | rfl | exact cat_ok _ | simp [okS, cat_rf]) ?_
        refine v_qload C dX6_goWithin_121 rfl ?_
        refine v_ifnull (tgt := 149) C dX6_goWithin_123 (by decide) (fun c_123 => ?_) (fun b123 c_123 => ?_)
        · skip
          subst c_123
          refine v_iload C dX6_goWithin_149 rfl ?_
          refine v_iconst (v := 1) C dX6_goWithin_151 (by decide) ?_
          refine v_isub C dX6_goWithin_152 ?_
          refine v_istore C dX6_goWithin_153 (by decide) (by first | rfl | exact cat_ok _ | simp [okS, cat_rf]) ?_
          refine V.drop 10 ?_
          refine V.lits (lv' := [_, _, _, _, _, _, _, _, _, _, _, _, _]) rfl ?_
          refine v_loop (fun (t : Int64 × Int32) lv0 => ((lv0.set 8 (some (.long t.1))).set 11 (some (.int t.2)))) (fun (S1 : Mem) (t : Int64 × Int32) => INV M [] S1 ∧ is S1 h 6 ∧ is S1 p0 2 ∧ (-1 ≤ t.2.toInt ∧ t.2.toInt ≤ 20) ∧ ext S S1 (fun a => ¬ M a ∧ mK S a ∈ [0, 6, 7, 12])) (fun (S1 : Mem) (t : Int64 × Int32) => dnm t.2) (t := (_, _)) rfl ⟨iv, i_this, i_p0, (pl_dn (p_v7 hz.1.1)), E0⟩ ?_
          intro L155 t h_155 ih_155
          obtain ⟨t0_155, t1_155⟩ := t
          obtain ⟨iv, i_this, i_p0, z2, E0⟩ := h_155
          try dsimp only
          refine v_iload C dX6_goWithin_155 rfl ?_
          refine v_iload_n C dX6_goWithin_157 rfl ?_
          refine v_icmp_lt (tgt := 217) C dX6_goWithin_158 (by decide) (fun c_158 => ?_) (fun c_158 => ?_)
          · skip
            refine v_lload C dX6_goWithin_217 rfl ?_
            refine v_lret C hr (by first | exact Nat.le_of_ble_eq_true rfl | omega | (dsimp only; omega)) (by first | exact Nat.le_of_ble_eq_true rfl | omega | (dsimp only; omega)) dX6_goWithin_219 ?_
            exact ⟨_, rfl, iv, E0⟩
          · skip
            refine v_aload_n C dX6_goWithin_161 rfl ?_
            refine g6_26 C i_this dX6_goWithin_162 ?_
            refine v_topi (fun v162 e_v162 => ?_)
            refine v_if_ne (tgt := 217) C dX6_goWithin_165 (by decide) (fun c_165 => ?_) (fun c_165 => ?_)
            · skip
              refine v_lload C dX6_goWithin_217 rfl ?_
              refine v_lret C hr (by first | exact Nat.le_of_ble_eq_true rfl | omega | (dsimp only; omega)) (by first | exact Nat.le_of_ble_eq_true rfl | omega | (dsimp only; omega)) dX6_goWithin_219 ?_
              exact ⟨_, rfl, iv, E0⟩
            · skip
              refine v_aload_n C dX6_goWithin_168 rfl ?_
              obtain ⟨a169, e_a169, i_a169⟩ := T384 iv i_this List.not_mem_nil
              refine r6_18 (b := a169) C i_this e_a169 dX6_goWithin_169 ?_
              refine v_aload_n C dX6_goWithin_172 rfl ?_
              refine v_iload C dX6_goWithin_173 rfl ?_
              refine v_iload_n C dX6_goWithin_175 rfl ?_
              refine v_callV (As := [_, _, _]) (n := 3) C (st_X1_guardAt l _ _ _ _ _) rfl i_a169 (by decide) rfl ⟨wd821, wd639, wd640, wd15, wd641⟩ ⟨rfl, hy_X1_guardAt⟩ rfl ⟨by first | exact Nat.le_of_ble_eq_true rfl | omega | (dsimp only; omega), by first | exact Nat.le_of_ble_eq_true rfl | omega | (dsimp only; omega)⟩ (by first | exact Nat.le_of_ble_eq_true rfl | omega | (dsimp only; omega)) ⟨by first | exact Nat.le_of_ble_eq_true rfl | omega | (dsimp only; omega), by first | exact Nat.le_of_ble_eq_true rfl | omega | (dsimp only; omega)⟩ dX6_goWithin_176 ⟨rfl, iv, i_a169, i_p0⟩ (fun r_176 S4_176 h_176 => ?_)
              obtain ⟨v176, rfl, n_v176, q_v176⟩ := h_176
              obtain rfl := q_v176.symm
              refine v_qstore C dX6_goWithin_179 (by decide) (by first | rfl | exact cat_ok _ | simp [okS, cat_rf]) ?_
              refine v_qload C dX6_goWithin_181 rfl ?_
              refine v_ifnull (tgt := 211) C dX6_goWithin_183 (by decide) (fun c_183 => ?_) (fun b183 c_183 => ?_)
              · skip
                subst c_183
                refine v_iinc C dX6_goWithin_211 rfl rfl (by decide) (by first | rfl | exact cat_ok _ | simp [okS, cat_rf]) ?_
                refine v_goto (tgt := 155) C dX6_goWithin_214 (by decide) ?_
                refine V.drop 12 ?_
                refine V.lits (lv' := [_, _, _, _, _, _, _, _, _, _, _, _, _]) rfl ?_
                exact ih_155 _ (_, _) (dnm_lt (pl_ge z2 hz.1 c_158)) ⟨iv, i_this, i_p0, (pl_dn2 (pl_ge z2 hz.1 c_158)), E0⟩
              · skip
                subst c_183
                have i_b183 := nOK_some n_v176 rfl
                refine v_aload C dX6_goWithin_186 rfl ?_
                refine g6_94 C i_b183 dX6_goWithin_188 ?_
                refine v_topi (fun v188 e_v188 => ?_)
                refine v_iconst (v := 2) C dX6_goWithin_191 (by decide) ?_
                refine v_icmp_ne (tgt := 211) C dX6_goWithin_192 (by decide) (fun c_192 => ?_) (fun c_192 => ?_)
                · skip
                  refine v_iinc C dX6_goWithin_211 rfl rfl (by decide) (by first | rfl | exact cat_ok _ | simp [okS, cat_rf]) ?_
                  refine v_goto (tgt := 155) C dX6_goWithin_214 (by decide) ?_
                  refine V.drop 12 ?_
                  refine V.lits (lv' := [_, _, _, _, _, _, _, _, _, _, _, _, _]) rfl ?_
                  exact ih_155 _ (_, _) (dnm_lt (pl_ge z2 hz.1 c_158)) ⟨iv, i_this, i_p0, (pl_dn2 (pl_ge z2 hz.1 c_158)), E0⟩
                · skip
                  refine v_aload_n C dX6_goWithin_195 rfl ?_
                  refine v_aload C dX6_goWithin_196 rfl ?_
                  refine v_aload_n C dX6_goWithin_198 rfl ?_
                  refine v_iload_n C dX6_goWithin_199 rfl ?_
                  refine v_iload C dX6_goWithin_200 rfl ?_
                  refine v_lload C dX6_goWithin_202 rfl ?_
                  refine v_iload C dX6_goWithin_204 rfl ?_
                  refine v_callV (As := [_, _, _, _, _, _]) (n := 6) C (hD l _ _ _ _ _ _ _ _) rfl i_this (by decide) rfl ⟨wd773, wd774, wd775, wd19, wd786⟩ ⟨rfl, hy_X6_doOps⟩ rfl ⟨by first | exact Nat.le_of_ble_eq_true rfl | omega | (dsimp only; omega), by first | exact Nat.le_of_ble_eq_true rfl | omega | (dsimp only; omega)⟩ (by first | exact Nat.le_of_ble_eq_true rfl | omega | (dsimp only; omega)) ⟨by first | exact Nat.le_of_ble_eq_true rfl | omega | (dsimp only; omega), by first | exact Nat.le_of_ble_eq_true rfl | omega | (dsimp only; omega)⟩ dX6_goWithin_206 ⟨rfl, iv, i_this, i_b183, i_p0, (pl_ge z2 hz.1 c_158), hz.2⟩ (fun r_206 S8_206 h_206 => ?_)
                  obtain ⟨v206, rfl, iv2, x_206⟩ := h_206
                  have i_this := is_ext x_206 i_this
                  have i_p0 := is_ext x_206 i_p0
                  have i_a169 := is_ext x_206 i_a169
                  have i_b183 := is_ext x_206 i_b183
                  have E0' := ext_tr E0 x_206 (xk_call E0 (by decide))
                  have E0 := E0'
                  have iv := iv2
                  refine v_lstore C dX6_goWithin_209 (by decide) (by first | rfl | exact cat_ok _ | simp [okS, cat_rf]) ?_
                  refine v_iinc C dX6_goWithin_211 rfl rfl (by decide) (by first | rfl | exact cat_ok _ | simp [okS, cat_rf]) ?_
                  refine v_goto (tgt := 155) C dX6_goWithin_214 (by decide) ?_
                  refine V.drop 12 ?_
                  refine V.lits (lv' := [_, _, _, _, _, _, _, _, _, _, _, _, _]) rfl ?_
                  exact ih_155 _ (_, _) (dnm_lt (pl_ge z2 hz.1 c_158)) ⟨iv, i_this, i_p0, (pl_dn2 (pl_ge z2 hz.1 c_158)), E0⟩
        · skip
          subst c_123
          have i_b123 := nOK_some n_o116 rfl
          refine v_aload_n C dX6_goWithin_126 rfl ?_
          refine g6_26 C i_this dX6_goWithin_127 ?_
          refine v_topi (fun v127 e_v127 => ?_)
          refine v_if_ne (tgt := 149) C dX6_goWithin_130 (by decide) (fun c_130 => ?_) (fun c_130 => ?_)
          · skip
            refine v_iload C dX6_goWithin_149 rfl ?_
            refine v_iconst (v := 1) C dX6_goWithin_151 (by decide) ?_
            refine v_isub C dX6_goWithin_152 ?_
            refine v_istore C dX6_goWithin_153 (by decide) (by first | rfl | exact cat_ok _ | simp [okS, cat_rf]) ?_
            refine V.drop 10 ?_
            refine V.lits (lv' := [_, _, _, _, _, _, _, _, _, _, _, _, _]) rfl ?_
            refine v_loop (fun (t : Int64 × Int32) lv0 => ((lv0.set 8 (some (.long t.1))).set 11 (some (.int t.2)))) (fun (S1 : Mem) (t : Int64 × Int32) => INV M [] S1 ∧ is S1 h 6 ∧ is S1 p0 2 ∧ (-1 ≤ t.2.toInt ∧ t.2.toInt ≤ 20) ∧ ext S S1 (fun a => ¬ M a ∧ mK S a ∈ [0, 6, 7, 12])) (fun (S1 : Mem) (t : Int64 × Int32) => dnm t.2) (t := (_, _)) rfl ⟨iv, i_this, i_p0, (pl_dn (p_v7 hz.1.1)), E0⟩ ?_
            intro L155 t h_155 ih_155
            obtain ⟨t0_155, t1_155⟩ := t
            obtain ⟨iv, i_this, i_p0, z2, E0⟩ := h_155
            try dsimp only
            refine v_iload C dX6_goWithin_155 rfl ?_
            refine v_iload_n C dX6_goWithin_157 rfl ?_
            refine v_icmp_lt (tgt := 217) C dX6_goWithin_158 (by decide) (fun c_158 => ?_) (fun c_158 => ?_)
            · skip
              refine v_lload C dX6_goWithin_217 rfl ?_
              refine v_lret C hr (by first | exact Nat.le_of_ble_eq_true rfl | omega | (dsimp only; omega)) (by first | exact Nat.le_of_ble_eq_true rfl | omega | (dsimp only; omega)) dX6_goWithin_219 ?_
              exact ⟨_, rfl, iv, E0⟩
            · skip
              refine v_aload_n C dX6_goWithin_161 rfl ?_
              refine g6_26 C i_this dX6_goWithin_162 ?_
              refine v_topi (fun v162 e_v162 => ?_)
              refine v_if_ne (tgt := 217) C dX6_goWithin_165 (by decide) (fun c_165 => ?_) (fun c_165 => ?_)
              · skip
                refine v_lload C dX6_goWithin_217 rfl ?_
                refine v_lret C hr (by first | exact Nat.le_of_ble_eq_true rfl | omega | (dsimp only; omega)) (by first | exact Nat.le_of_ble_eq_true rfl | omega | (dsimp only; omega)) dX6_goWithin_219 ?_
                exact ⟨_, rfl, iv, E0⟩
              · skip
                refine v_aload_n C dX6_goWithin_168 rfl ?_
                obtain ⟨a169, e_a169, i_a169⟩ := T384 iv i_this List.not_mem_nil
                refine r6_18 (b := a169) C i_this e_a169 dX6_goWithin_169 ?_
                refine v_aload_n C dX6_goWithin_172 rfl ?_
                refine v_iload C dX6_goWithin_173 rfl ?_
                refine v_iload_n C dX6_goWithin_175 rfl ?_
                refine v_callV (As := [_, _, _]) (n := 3) C (st_X1_guardAt l _ _ _ _ _) rfl i_a169 (by decide) rfl ⟨wd821, wd639, wd640, wd15, wd641⟩ ⟨rfl, hy_X1_guardAt⟩ rfl ⟨by first | exact Nat.le_of_ble_eq_true rfl | omega | (dsimp only; omega), by first | exact Nat.le_of_ble_eq_true rfl | omega | (dsimp only; omega)⟩ (by first | exact Nat.le_of_ble_eq_true rfl | omega | (dsimp only; omega)) ⟨by first | exact Nat.le_of_ble_eq_true rfl | omega | (dsimp only; omega), by first | exact Nat.le_of_ble_eq_true rfl | omega | (dsimp only; omega)⟩ dX6_goWithin_176 ⟨rfl, iv, i_a169, i_p0⟩ (fun r_176 S4_176 h_176 => ?_)
                obtain ⟨v176, rfl, n_v176, q_v176⟩ := h_176
                obtain rfl := q_v176.symm
                refine v_qstore C dX6_goWithin_179 (by decide) (by first | rfl | exact cat_ok _ | simp [okS, cat_rf]) ?_
                refine v_qload C dX6_goWithin_181 rfl ?_
                refine v_ifnull (tgt := 211) C dX6_goWithin_183 (by decide) (fun c_183 => ?_) (fun b183 c_183 => ?_)
                · skip
                  subst c_183
                  refine v_iinc C dX6_goWithin_211 rfl rfl (by decide) (by first | rfl | exact cat_ok _ | simp [okS, cat_rf]) ?_
                  refine v_goto (tgt := 155) C dX6_goWithin_214 (by decide) ?_
                  refine V.drop 12 ?_
                  refine V.lits (lv' := [_, _, _, _, _, _, _, _, _, _, _, _, _]) rfl ?_
                  exact ih_155 _ (_, _) (dnm_lt (pl_ge z2 hz.1 c_158)) ⟨iv, i_this, i_p0, (pl_dn2 (pl_ge z2 hz.1 c_158)), E0⟩
                · skip
                  subst c_183
                  have i_b183 := nOK_some n_v176 rfl
                  refine v_aload C dX6_goWithin_186 rfl ?_
                  refine g6_94 C i_b183 dX6_goWithin_188 ?_
                  refine v_topi (fun v188 e_v188 => ?_)
                  refine v_iconst (v := 2) C dX6_goWithin_191 (by decide) ?_
                  refine v_icmp_ne (tgt := 211) C dX6_goWithin_192 (by decide) (fun c_192 => ?_) (fun c_192 => ?_)
                  · skip
                    refine v_iinc C dX6_goWithin_211 rfl rfl (by decide) (by first | rfl | exact cat_ok _ | simp [okS, cat_rf]) ?_
                    refine v_goto (tgt := 155) C dX6_goWithin_214 (by decide) ?_
                    refine V.drop 12 ?_
                    refine V.lits (lv' := [_, _, _, _, _, _, _, _, _, _, _, _, _]) rfl ?_
                    exact ih_155 _ (_, _) (dnm_lt (pl_ge z2 hz.1 c_158)) ⟨iv, i_this, i_p0, (pl_dn2 (pl_ge z2 hz.1 c_158)), E0⟩
                  · skip
                    refine v_aload_n C dX6_goWithin_195 rfl ?_
                    refine v_aload C dX6_goWithin_196 rfl ?_
                    refine v_aload_n C dX6_goWithin_198 rfl ?_
                    refine v_iload_n C dX6_goWithin_199 rfl ?_
                    refine v_iload C dX6_goWithin_200 rfl ?_
                    refine v_lload C dX6_goWithin_202 rfl ?_
                    refine v_iload C dX6_goWithin_204 rfl ?_
                    refine v_callV (As := [_, _, _, _, _, _]) (n := 6) C (hD l _ _ _ _ _ _ _ _) rfl i_this (by decide) rfl ⟨wd773, wd774, wd775, wd19, wd786⟩ ⟨rfl, hy_X6_doOps⟩ rfl ⟨by first | exact Nat.le_of_ble_eq_true rfl | omega | (dsimp only; omega), by first | exact Nat.le_of_ble_eq_true rfl | omega | (dsimp only; omega)⟩ (by first | exact Nat.le_of_ble_eq_true rfl | omega | (dsimp only; omega)) ⟨by first | exact Nat.le_of_ble_eq_true rfl | omega | (dsimp only; omega), by first | exact Nat.le_of_ble_eq_true rfl | omega | (dsimp only; omega)⟩ dX6_goWithin_206 ⟨rfl, iv, i_this, i_b183, i_p0, (pl_ge z2 hz.1 c_158), hz.2⟩ (fun r_206 S8_206 h_206 => ?_)
                    obtain ⟨v206, rfl, iv2, x_206⟩ := h_206
                    have i_this := is_ext x_206 i_this
                    have i_p0 := is_ext x_206 i_p0
                    have i_a169 := is_ext x_206 i_a169
                    have i_b183 := is_ext x_206 i_b183
                    have E0' := ext_tr E0 x_206 (xk_call E0 (by decide))
                    have E0 := E0'
                    have iv := iv2
                    refine v_lstore C dX6_goWithin_209 (by decide) (by first | rfl | exact cat_ok _ | simp [okS, cat_rf]) ?_
                    refine v_iinc C dX6_goWithin_211 rfl rfl (by decide) (by first | rfl | exact cat_ok _ | simp [okS, cat_rf]) ?_
                    refine v_goto (tgt := 155) C dX6_goWithin_214 (by decide) ?_
                    refine V.drop 12 ?_
                    refine V.lits (lv' := [_, _, _, _, _, _, _, _, _, _, _, _, _]) rfl ?_
                    exact ih_155 _ (_, _) (dnm_lt (pl_ge z2 hz.1 c_158)) ⟨iv, i_this, i_p0, (pl_dn2 (pl_ge z2 hz.1 c_158)), E0⟩
          · skip
            refine v_aload_n C dX6_goWithin_133 rfl ?_
            refine v_aload C dX6_goWithin_134 rfl ?_
            refine v_aload_n C dX6_goWithin_136 rfl ?_
            refine v_iload_n C dX6_goWithin_137 rfl ?_
            refine v_iload C dX6_goWithin_138 rfl ?_
            refine v_lload C dX6_goWithin_140 rfl ?_
            refine v_iload C dX6_goWithin_142 rfl ?_
            refine v_callV (As := [_, _, _, _, _, _]) (n := 6) C (hD l _ _ _ _ _ _ _ _) rfl i_this (by decide) rfl ⟨wd773, wd774, wd775, wd19, wd786⟩ ⟨rfl, hy_X6_doOps⟩ rfl ⟨by first | exact Nat.le_of_ble_eq_true rfl | omega | (dsimp only; omega), by first | exact Nat.le_of_ble_eq_true rfl | omega | (dsimp only; omega)⟩ (by first | exact Nat.le_of_ble_eq_true rfl | omega | (dsimp only; omega)) ⟨by first | exact Nat.le_of_ble_eq_true rfl | omega | (dsimp only; omega), by first | exact Nat.le_of_ble_eq_true rfl | omega | (dsimp only; omega)⟩ dX6_goWithin_144 ⟨rfl, iv, i_this, i_b123, i_p0, (p_v7 hz.1.1), hz.2⟩ (fun r_144 S10_144 h_144 => ?_)
            obtain ⟨v144, rfl, iv2, x_144⟩ := h_144
            have i_this := is_ext x_144 i_this
            have i_p0 := is_ext x_144 i_p0
            have i_a84 := is_ext x_144 i_a84
            have i_a108 := is_ext x_144 i_a108
            have i_v113 := is_ext x_144 i_v113
            have i_b123 := is_ext x_144 i_b123
            have E0' := ext_tr E0 x_144 (xk_call E0 (by decide))
            have E0 := E0'
            have iv := iv2
            refine v_lstore C dX6_goWithin_147 (by decide) (by first | rfl | exact cat_ok _ | simp [okS, cat_rf]) ?_
            refine v_iload C dX6_goWithin_149 rfl ?_
            refine v_iconst (v := 1) C dX6_goWithin_151 (by decide) ?_
            refine v_isub C dX6_goWithin_152 ?_
            refine v_istore C dX6_goWithin_153 (by decide) (by first | rfl | exact cat_ok _ | simp [okS, cat_rf]) ?_
            refine V.drop 10 ?_
            refine V.lits (lv' := [_, _, _, _, _, _, _, _, _, _, _, _, _]) rfl ?_
            refine v_loop (fun (t : Int64 × Int32) lv0 => ((lv0.set 8 (some (.long t.1))).set 11 (some (.int t.2)))) (fun (S1 : Mem) (t : Int64 × Int32) => INV M [] S1 ∧ is S1 h 6 ∧ is S1 p0 2 ∧ (-1 ≤ t.2.toInt ∧ t.2.toInt ≤ 20) ∧ ext S S1 (fun a => ¬ M a ∧ mK S a ∈ [0, 6, 7, 12])) (fun (S1 : Mem) (t : Int64 × Int32) => dnm t.2) (t := (_, _)) rfl ⟨iv, i_this, i_p0, (pl_dn (p_v7 hz.1.1)), E0⟩ ?_
            intro L155 t h_155 ih_155
            obtain ⟨t0_155, t1_155⟩ := t
            obtain ⟨iv, i_this, i_p0, z2, E0⟩ := h_155
            try dsimp only
            refine v_iload C dX6_goWithin_155 rfl ?_
            refine v_iload_n C dX6_goWithin_157 rfl ?_
            refine v_icmp_lt (tgt := 217) C dX6_goWithin_158 (by decide) (fun c_158 => ?_) (fun c_158 => ?_)
            · skip
              refine v_lload C dX6_goWithin_217 rfl ?_
              refine v_lret C hr (by first | exact Nat.le_of_ble_eq_true rfl | omega | (dsimp only; omega)) (by first | exact Nat.le_of_ble_eq_true rfl | omega | (dsimp only; omega)) dX6_goWithin_219 ?_
              exact ⟨_, rfl, iv, E0⟩
            · skip
              refine v_aload_n C dX6_goWithin_161 rfl ?_
              refine g6_26 C i_this dX6_goWithin_162 ?_
              refine v_topi (fun v162 e_v162 => ?_)
              refine v_if_ne (tgt := 217) C dX6_goWithin_165 (by decide) (fun c_165 => ?_) (fun c_165 => ?_)
              · skip
                refine v_lload C dX6_goWithin_217 rfl ?_
                refine v_lret C hr (by first | exact Nat.le_of_ble_eq_true rfl | omega | (dsimp only; omega)) (by first | exact Nat.le_of_ble_eq_true rfl | omega | (dsimp only; omega)) dX6_goWithin_219 ?_
                exact ⟨_, rfl, iv, E0⟩
              · skip
                refine v_aload_n C dX6_goWithin_168 rfl ?_
                obtain ⟨a169, e_a169, i_a169⟩ := T384 iv i_this List.not_mem_nil
                refine r6_18 (b := a169) C i_this e_a169 dX6_goWithin_169 ?_
                refine v_aload_n C dX6_goWithin_172 rfl ?_
                refine v_iload C dX6_goWithin_173 rfl ?_
                refine v_iload_n C dX6_goWithin_175 rfl ?_
                refine v_callV (As := [_, _, _]) (n := 3) C (st_X1_guardAt l _ _ _ _ _) rfl i_a169 (by decide) rfl ⟨wd821, wd639, wd640, wd15, wd641⟩ ⟨rfl, hy_X1_guardAt⟩ rfl ⟨by first | exact Nat.le_of_ble_eq_true rfl | omega | (dsimp only; omega), by first | exact Nat.le_of_ble_eq_true rfl | omega | (dsimp only; omega)⟩ (by first | exact Nat.le_of_ble_eq_true rfl | omega | (dsimp only; omega)) ⟨by first | exact Nat.le_of_ble_eq_true rfl | omega | (dsimp only; omega), by first | exact Nat.le_of_ble_eq_true rfl | omega | (dsimp only; omega)⟩ dX6_goWithin_176 ⟨rfl, iv, i_a169, i_p0⟩ (fun r_176 S4_176 h_176 => ?_)
                obtain ⟨v176, rfl, n_v176, q_v176⟩ := h_176
                obtain rfl := q_v176.symm
                refine v_qstore C dX6_goWithin_179 (by decide) (by first | rfl | exact cat_ok _ | simp [okS, cat_rf]) ?_
                refine v_qload C dX6_goWithin_181 rfl ?_
                refine v_ifnull (tgt := 211) C dX6_goWithin_183 (by decide) (fun c_183 => ?_) (fun b183 c_183 => ?_)
                · skip
                  subst c_183
                  refine v_iinc C dX6_goWithin_211 rfl rfl (by decide) (by first | rfl | exact cat_ok _ | simp [okS, cat_rf]) ?_
                  refine v_goto (tgt := 155) C dX6_goWithin_214 (by decide) ?_
                  refine V.drop 12 ?_
                  refine V.lits (lv' := [_, _, _, _, _, _, _, _, _, _, _, _, _]) rfl ?_
                  exact ih_155 _ (_, _) (dnm_lt (pl_ge z2 hz.1 c_158)) ⟨iv, i_this, i_p0, (pl_dn2 (pl_ge z2 hz.1 c_158)), E0⟩
                · skip
                  subst c_183
                  have i_b183 := nOK_some n_v176 rfl
                  refine v_aload C dX6_goWithin_186 rfl ?_
                  refine g6_94 C i_b183 dX6_goWithin_188 ?_
                  refine v_topi (fun v188 e_v188 => ?_)
                  refine v_iconst (v := 2) C dX6_goWithin_191 (by decide) ?_
                  refine v_icmp_ne (tgt := 211) C dX6_goWithin_192 (by decide) (fun c_192 => ?_) (fun c_192 => ?_)
                  · skip
                    refine v_iinc C dX6_goWithin_211 rfl rfl (by decide) (by first | rfl | exact cat_ok _ | simp [okS, cat_rf]) ?_
                    refine v_goto (tgt := 155) C dX6_goWithin_214 (by decide) ?_
                    refine V.drop 12 ?_
                    refine V.lits (lv' := [_, _, _, _, _, _, _, _, _, _, _, _, _]) rfl ?_
                    exact ih_155 _ (_, _) (dnm_lt (pl_ge z2 hz.1 c_158)) ⟨iv, i_this, i_p0, (pl_dn2 (pl_ge z2 hz.1 c_158)), E0⟩
                  · skip
                    refine v_aload_n C dX6_goWithin_195 rfl ?_
                    refine v_aload C dX6_goWithin_196 rfl ?_
                    refine v_aload_n C dX6_goWithin_198 rfl ?_
                    refine v_iload_n C dX6_goWithin_199 rfl ?_
                    refine v_iload C dX6_goWithin_200 rfl ?_
                    refine v_lload C dX6_goWithin_202 rfl ?_
                    refine v_iload C dX6_goWithin_204 rfl ?_
                    refine v_callV (As := [_, _, _, _, _, _]) (n := 6) C (hD l _ _ _ _ _ _ _ _) rfl i_this (by decide) rfl ⟨wd773, wd774, wd775, wd19, wd786⟩ ⟨rfl, hy_X6_doOps⟩ rfl ⟨by first | exact Nat.le_of_ble_eq_true rfl | omega | (dsimp only; omega), by first | exact Nat.le_of_ble_eq_true rfl | omega | (dsimp only; omega)⟩ (by first | exact Nat.le_of_ble_eq_true rfl | omega | (dsimp only; omega)) ⟨by first | exact Nat.le_of_ble_eq_true rfl | omega | (dsimp only; omega), by first | exact Nat.le_of_ble_eq_true rfl | omega | (dsimp only; omega)⟩ dX6_goWithin_206 ⟨rfl, iv, i_this, i_b183, i_p0, (pl_ge z2 hz.1 c_158), hz.2⟩ (fun r_206 S8_206 h_206 => ?_)
                    obtain ⟨v206, rfl, iv2, x_206⟩ := h_206
                    have i_this := is_ext x_206 i_this
                    have i_p0 := is_ext x_206 i_p0
                    have i_a169 := is_ext x_206 i_a169
                    have i_b183 := is_ext x_206 i_b183
                    have E0' := ext_tr E0 x_206 (xk_call E0 (by decide))
                    have E0 := E0'
                    have iv := iv2
                    refine v_lstore C dX6_goWithin_209 (by decide) (by first | rfl | exact cat_ok _ | simp [okS, cat_rf]) ?_
                    refine v_iinc C dX6_goWithin_211 rfl rfl (by decide) (by first | rfl | exact cat_ok _ | simp [okS, cat_rf]) ?_
                    refine v_goto (tgt := 155) C dX6_goWithin_214 (by decide) ?_
                    refine V.drop 12 ?_
                    refine V.lits (lv' := [_, _, _, _, _, _, _, _, _, _, _, _, _]) rfl ?_
                    exact ih_155 _ (_, _) (dnm_lt (pl_ge z2 hz.1 c_158)) ⟨iv, i_this, i_p0, (pl_dn2 (pl_ge z2 hz.1 c_158)), E0⟩
      · skip
        refine v_aload_n C dX6_goWithin_93 rfl ?_
        obtain ⟨a94, e_a94, i_a94⟩ := T384 iv i_this List.not_mem_nil
        refine r6_18 (b := a94) C i_this e_a94 dX6_goWithin_94 ?_
        refine v_aload_n C dX6_goWithin_97 rfl ?_
        refine v_iload C dX6_goWithin_98 rfl ?_
        refine v_iload_n C dX6_goWithin_100 rfl ?_
        refine v_callV (As := [_, _, _]) (n := 3) C (st_X1_guardAt l _ _ _ _ _) rfl i_a94 (by decide) rfl ⟨wd821, wd639, wd640, wd15, wd641⟩ ⟨rfl, hy_X1_guardAt⟩ rfl ⟨by first | exact Nat.le_of_ble_eq_true rfl | omega | (dsimp only; omega), by first | exact Nat.le_of_ble_eq_true rfl | omega | (dsimp only; omega)⟩ (by first | exact Nat.le_of_ble_eq_true rfl | omega | (dsimp only; omega)) ⟨by first | exact Nat.le_of_ble_eq_true rfl | omega | (dsimp only; omega), by first | exact Nat.le_of_ble_eq_true rfl | omega | (dsimp only; omega)⟩ dX6_goWithin_101 ⟨rfl, iv, i_a94, i_p0⟩ (fun r_101 S6_101 h_101 => ?_)
        obtain ⟨v101, rfl, n_v101, q_v101⟩ := h_101
        obtain rfl := q_v101.symm
        refine v_goto (tgt := 119) C dX6_goWithin_104 (by decide) ?_
        refine v_qstore C dX6_goWithin_119 (by decide) (by first | rfl | exact cat_ok _ | simp [okS, cat_rf]) ?_
        refine v_qload C dX6_goWithin_121 rfl ?_
        refine v_ifnull (tgt := 149) C dX6_goWithin_123 (by decide) (fun c_123 => ?_) (fun b123 c_123 => ?_)
        · skip
          subst c_123
          refine v_iload C dX6_goWithin_149 rfl ?_
          refine v_iconst (v := 1) C dX6_goWithin_151 (by decide) ?_
          refine v_isub C dX6_goWithin_152 ?_
          refine v_istore C dX6_goWithin_153 (by decide) (by first | rfl | exact cat_ok _ | simp [okS, cat_rf]) ?_
          refine V.drop 10 ?_
          refine V.lits (lv' := [_, _, _, _, _, _, _, _, _, _, _, _, _]) rfl ?_
          refine v_loop (fun (t : Int64 × Int32) lv0 => ((lv0.set 8 (some (.long t.1))).set 11 (some (.int t.2)))) (fun (S1 : Mem) (t : Int64 × Int32) => INV M [] S1 ∧ is S1 h 6 ∧ is S1 p0 2 ∧ (-1 ≤ t.2.toInt ∧ t.2.toInt ≤ 20) ∧ ext S S1 (fun a => ¬ M a ∧ mK S a ∈ [0, 6, 7, 12])) (fun (S1 : Mem) (t : Int64 × Int32) => dnm t.2) (t := (_, _)) rfl ⟨iv, i_this, i_p0, (pl_dn (p_v7 hz.1.1)), E0⟩ ?_
          intro L155 t h_155 ih_155
          obtain ⟨t0_155, t1_155⟩ := t
          obtain ⟨iv, i_this, i_p0, z2, E0⟩ := h_155
          try dsimp only
          refine v_iload C dX6_goWithin_155 rfl ?_
          refine v_iload_n C dX6_goWithin_157 rfl ?_
          refine v_icmp_lt (tgt := 217) C dX6_goWithin_158 (by decide) (fun c_158 => ?_) (fun c_158 => ?_)
          · skip
            refine v_lload C dX6_goWithin_217 rfl ?_
            refine v_lret C hr (by first | exact Nat.le_of_ble_eq_true rfl | omega | (dsimp only; omega)) (by first | exact Nat.le_of_ble_eq_true rfl | omega | (dsimp only; omega)) dX6_goWithin_219 ?_
            exact ⟨_, rfl, iv, E0⟩
          · skip
            refine v_aload_n C dX6_goWithin_161 rfl ?_
            refine g6_26 C i_this dX6_goWithin_162 ?_
            refine v_topi (fun v162 e_v162 => ?_)
            refine v_if_ne (tgt := 217) C dX6_goWithin_165 (by decide) (fun c_165 => ?_) (fun c_165 => ?_)
            · skip
              refine v_lload C dX6_goWithin_217 rfl ?_
              refine v_lret C hr (by first | exact Nat.le_of_ble_eq_true rfl | omega | (dsimp only; omega)) (by first | exact Nat.le_of_ble_eq_true rfl | omega | (dsimp only; omega)) dX6_goWithin_219 ?_
              exact ⟨_, rfl, iv, E0⟩
            · skip
              refine v_aload_n C dX6_goWithin_168 rfl ?_
              obtain ⟨a169, e_a169, i_a169⟩ := T384 iv i_this List.not_mem_nil
              refine r6_18 (b := a169) C i_this e_a169 dX6_goWithin_169 ?_
              refine v_aload_n C dX6_goWithin_172 rfl ?_
              refine v_iload C dX6_goWithin_173 rfl ?_
              refine v_iload_n C dX6_goWithin_175 rfl ?_
              refine v_callV (As := [_, _, _]) (n := 3) C (st_X1_guardAt l _ _ _ _ _) rfl i_a169 (by decide) rfl ⟨wd821, wd639, wd640, wd15, wd641⟩ ⟨rfl, hy_X1_guardAt⟩ rfl ⟨by first | exact Nat.le_of_ble_eq_true rfl | omega | (dsimp only; omega), by first | exact Nat.le_of_ble_eq_true rfl | omega | (dsimp only; omega)⟩ (by first | exact Nat.le_of_ble_eq_true rfl | omega | (dsimp only; omega)) ⟨by first | exact Nat.le_of_ble_eq_true rfl | omega | (dsimp only; omega), by first | exact Nat.le_of_ble_eq_true rfl | omega | (dsimp only; omega)⟩ dX6_goWithin_176 ⟨rfl, iv, i_a169, i_p0⟩ (fun r_176 S4_176 h_176 => ?_)
              obtain ⟨v176, rfl, n_v176, q_v176⟩ := h_176
              obtain rfl := q_v176.symm
              refine v_qstore C dX6_goWithin_179 (by decide) (by first | rfl | exact cat_ok _ | simp [okS, cat_rf]) ?_
              refine v_qload C dX6_goWithin_181 rfl ?_
              refine v_ifnull (tgt := 211) C dX6_goWithin_183 (by decide) (fun c_183 => ?_) (fun b183 c_183 => ?_)
              · skip
                subst c_183
                refine v_iinc C dX6_goWithin_211 rfl rfl (by decide) (by first | rfl | exact cat_ok _ | simp [okS, cat_rf]) ?_
                refine v_goto (tgt := 155) C dX6_goWithin_214 (by decide) ?_
                refine V.drop 12 ?_
                refine V.lits (lv' := [_, _, _, _, _, _, _, _, _, _, _, _, _]) rfl ?_
                exact ih_155 _ (_, _) (dnm_lt (pl_ge z2 hz.1 c_158)) ⟨iv, i_this, i_p0, (pl_dn2 (pl_ge z2 hz.1 c_158)), E0⟩
              · skip
                subst c_183
                have i_b183 := nOK_some n_v176 rfl
                refine v_aload C dX6_goWithin_186 rfl ?_
                refine g6_94 C i_b183 dX6_goWithin_188 ?_
                refine v_topi (fun v188 e_v188 => ?_)
                refine v_iconst (v := 2) C dX6_goWithin_191 (by decide) ?_
                refine v_icmp_ne (tgt := 211) C dX6_goWithin_192 (by decide) (fun c_192 => ?_) (fun c_192 => ?_)
                · skip
                  refine v_iinc C dX6_goWithin_211 rfl rfl (by decide) (by first | rfl | exact cat_ok _ | simp [okS, cat_rf]) ?_
                  refine v_goto (tgt := 155) C dX6_goWithin_214 (by decide) ?_
                  refine V.drop 12 ?_
                  refine V.lits (lv' := [_, _, _, _, _, _, _, _, _, _, _, _, _]) rfl ?_
                  exact ih_155 _ (_, _) (dnm_lt (pl_ge z2 hz.1 c_158)) ⟨iv, i_this, i_p0, (pl_dn2 (pl_ge z2 hz.1 c_158)), E0⟩
                · skip
                  refine v_aload_n C dX6_goWithin_195 rfl ?_
                  refine v_aload C dX6_goWithin_196 rfl ?_
                  refine v_aload_n C dX6_goWithin_198 rfl ?_
                  refine v_iload_n C dX6_goWithin_199 rfl ?_
                  refine v_iload C dX6_goWithin_200 rfl ?_
                  refine v_lload C dX6_goWithin_202 rfl ?_
                  refine v_iload C dX6_goWithin_204 rfl ?_
                  refine v_callV (As := [_, _, _, _, _, _]) (n := 6) C (hD l _ _ _ _ _ _ _ _) rfl i_this (by decide) rfl ⟨wd773, wd774, wd775, wd19, wd786⟩ ⟨rfl, hy_X6_doOps⟩ rfl ⟨by first | exact Nat.le_of_ble_eq_true rfl | omega | (dsimp only; omega), by first | exact Nat.le_of_ble_eq_true rfl | omega | (dsimp only; omega)⟩ (by first | exact Nat.le_of_ble_eq_true rfl | omega | (dsimp only; omega)) ⟨by first | exact Nat.le_of_ble_eq_true rfl | omega | (dsimp only; omega), by first | exact Nat.le_of_ble_eq_true rfl | omega | (dsimp only; omega)⟩ dX6_goWithin_206 ⟨rfl, iv, i_this, i_b183, i_p0, (pl_ge z2 hz.1 c_158), hz.2⟩ (fun r_206 S8_206 h_206 => ?_)
                  obtain ⟨v206, rfl, iv2, x_206⟩ := h_206
                  have i_this := is_ext x_206 i_this
                  have i_p0 := is_ext x_206 i_p0
                  have i_a169 := is_ext x_206 i_a169
                  have i_b183 := is_ext x_206 i_b183
                  have E0' := ext_tr E0 x_206 (xk_call E0 (by decide))
                  have E0 := E0'
                  have iv := iv2
                  refine v_lstore C dX6_goWithin_209 (by decide) (by first | rfl | exact cat_ok _ | simp [okS, cat_rf]) ?_
                  refine v_iinc C dX6_goWithin_211 rfl rfl (by decide) (by first | rfl | exact cat_ok _ | simp [okS, cat_rf]) ?_
                  refine v_goto (tgt := 155) C dX6_goWithin_214 (by decide) ?_
                  refine V.drop 12 ?_
                  refine V.lits (lv' := [_, _, _, _, _, _, _, _, _, _, _, _, _]) rfl ?_
                  exact ih_155 _ (_, _) (dnm_lt (pl_ge z2 hz.1 c_158)) ⟨iv, i_this, i_p0, (pl_dn2 (pl_ge z2 hz.1 c_158)), E0⟩
        · skip
          subst c_123
          have i_b123 := nOK_some n_v101 rfl
          refine v_aload_n C dX6_goWithin_126 rfl ?_
          refine g6_26 C i_this dX6_goWithin_127 ?_
          refine v_topi (fun v127 e_v127 => ?_)
          refine v_if_ne (tgt := 149) C dX6_goWithin_130 (by decide) (fun c_130 => ?_) (fun c_130 => ?_)
          · skip
            refine v_iload C dX6_goWithin_149 rfl ?_
            refine v_iconst (v := 1) C dX6_goWithin_151 (by decide) ?_
            refine v_isub C dX6_goWithin_152 ?_
            refine v_istore C dX6_goWithin_153 (by decide) (by first | rfl | exact cat_ok _ | simp [okS, cat_rf]) ?_
            refine V.drop 10 ?_
            refine V.lits (lv' := [_, _, _, _, _, _, _, _, _, _, _, _, _]) rfl ?_
            refine v_loop (fun (t : Int64 × Int32) lv0 => ((lv0.set 8 (some (.long t.1))).set 11 (some (.int t.2)))) (fun (S1 : Mem) (t : Int64 × Int32) => INV M [] S1 ∧ is S1 h 6 ∧ is S1 p0 2 ∧ (-1 ≤ t.2.toInt ∧ t.2.toInt ≤ 20) ∧ ext S S1 (fun a => ¬ M a ∧ mK S a ∈ [0, 6, 7, 12])) (fun (S1 : Mem) (t : Int64 × Int32) => dnm t.2) (t := (_, _)) rfl ⟨iv, i_this, i_p0, (pl_dn (p_v7 hz.1.1)), E0⟩ ?_
            intro L155 t h_155 ih_155
            obtain ⟨t0_155, t1_155⟩ := t
            obtain ⟨iv, i_this, i_p0, z2, E0⟩ := h_155
            try dsimp only
            refine v_iload C dX6_goWithin_155 rfl ?_
            refine v_iload_n C dX6_goWithin_157 rfl ?_
            refine v_icmp_lt (tgt := 217) C dX6_goWithin_158 (by decide) (fun c_158 => ?_) (fun c_158 => ?_)
            · skip
              refine v_lload C dX6_goWithin_217 rfl ?_
              refine v_lret C hr (by first | exact Nat.le_of_ble_eq_true rfl | omega | (dsimp only; omega)) (by first | exact Nat.le_of_ble_eq_true rfl | omega | (dsimp only; omega)) dX6_goWithin_219 ?_
              exact ⟨_, rfl, iv, E0⟩
            · skip
              refine v_aload_n C dX6_goWithin_161 rfl ?_
              refine g6_26 C i_this dX6_goWithin_162 ?_
              refine v_topi (fun v162 e_v162 => ?_)
              refine v_if_ne (tgt := 217) C dX6_goWithin_165 (by decide) (fun c_165 => ?_) (fun c_165 => ?_)
              · skip
                refine v_lload C dX6_goWithin_217 rfl ?_
                refine v_lret C hr (by first | exact Nat.le_of_ble_eq_true rfl | omega | (dsimp only; omega)) (by first | exact Nat.le_of_ble_eq_true rfl | omega | (dsimp only; omega)) dX6_goWithin_219 ?_
                exact ⟨_, rfl, iv, E0⟩
              · skip
                refine v_aload_n C dX6_goWithin_168 rfl ?_
                obtain ⟨a169, e_a169, i_a169⟩ := T384 iv i_this List.not_mem_nil
                refine r6_18 (b := a169) C i_this e_a169 dX6_goWithin_169 ?_
                refine v_aload_n C dX6_goWithin_172 rfl ?_
                refine v_iload C dX6_goWithin_173 rfl ?_
                refine v_iload_n C dX6_goWithin_175 rfl ?_
                refine v_callV (As := [_, _, _]) (n := 3) C (st_X1_guardAt l _ _ _ _ _) rfl i_a169 (by decide) rfl ⟨wd821, wd639, wd640, wd15, wd641⟩ ⟨rfl, hy_X1_guardAt⟩ rfl ⟨by first | exact Nat.le_of_ble_eq_true rfl | omega | (dsimp only; omega), by first | exact Nat.le_of_ble_eq_true rfl | omega | (dsimp only; omega)⟩ (by first | exact Nat.le_of_ble_eq_true rfl | omega | (dsimp only; omega)) ⟨by first | exact Nat.le_of_ble_eq_true rfl | omega | (dsimp only; omega), by first | exact Nat.le_of_ble_eq_true rfl | omega | (dsimp only; omega)⟩ dX6_goWithin_176 ⟨rfl, iv, i_a169, i_p0⟩ (fun r_176 S4_176 h_176 => ?_)
                obtain ⟨v176, rfl, n_v176, q_v176⟩ := h_176
                obtain rfl := q_v176.symm
                refine v_qstore C dX6_goWithin_179 (by decide) (by first | rfl | exact cat_ok _ | simp [okS, cat_rf]) ?_
                refine v_qload C dX6_goWithin_181 rfl ?_
                refine v_ifnull (tgt := 211) C dX6_goWithin_183 (by decide) (fun c_183 => ?_) (fun b183 c_183 => ?_)
                · skip
                  subst c_183
                  refine v_iinc C dX6_goWithin_211 rfl rfl (by decide) (by first | rfl | exact cat_ok _ | simp [okS, cat_rf]) ?_
                  refine v_goto (tgt := 155) C dX6_goWithin_214 (by decide) ?_
                  refine V.drop 12 ?_
                  refine V.lits (lv' := [_, _, _, _, _, _, _, _, _, _, _, _, _]) rfl ?_
                  exact ih_155 _ (_, _) (dnm_lt (pl_ge z2 hz.1 c_158)) ⟨iv, i_this, i_p0, (pl_dn2 (pl_ge z2 hz.1 c_158)), E0⟩
                · skip
                  subst c_183
                  have i_b183 := nOK_some n_v176 rfl
                  refine v_aload C dX6_goWithin_186 rfl ?_
                  refine g6_94 C i_b183 dX6_goWithin_188 ?_
                  refine v_topi (fun v188 e_v188 => ?_)
                  refine v_iconst (v := 2) C dX6_goWithin_191 (by decide) ?_
                  refine v_icmp_ne (tgt := 211) C dX6_goWithin_192 (by decide) (fun c_192 => ?_) (fun c_192 => ?_)
                  · skip
                    refine v_iinc C dX6_goWithin_211 rfl rfl (by decide) (by first | rfl | exact cat_ok _ | simp [okS, cat_rf]) ?_
                    refine v_goto (tgt := 155) C dX6_goWithin_214 (by decide) ?_
                    refine V.drop 12 ?_
                    refine V.lits (lv' := [_, _, _, _, _, _, _, _, _, _, _, _, _]) rfl ?_
                    exact ih_155 _ (_, _) (dnm_lt (pl_ge z2 hz.1 c_158)) ⟨iv, i_this, i_p0, (pl_dn2 (pl_ge z2 hz.1 c_158)), E0⟩
                  · skip
                    refine v_aload_n C dX6_goWithin_195 rfl ?_
                    refine v_aload C dX6_goWithin_196 rfl ?_
                    refine v_aload_n C dX6_goWithin_198 rfl ?_
                    refine v_iload_n C dX6_goWithin_199 rfl ?_
                    refine v_iload C dX6_goWithin_200 rfl ?_
                    refine v_lload C dX6_goWithin_202 rfl ?_
                    refine v_iload C dX6_goWithin_204 rfl ?_
                    refine v_callV (As := [_, _, _, _, _, _]) (n := 6) C (hD l _ _ _ _ _ _ _ _) rfl i_this (by decide) rfl ⟨wd773, wd774, wd775, wd19, wd786⟩ ⟨rfl, hy_X6_doOps⟩ rfl ⟨by first | exact Nat.le_of_ble_eq_true rfl | omega | (dsimp only; omega), by first | exact Nat.le_of_ble_eq_true rfl | omega | (dsimp only; omega)⟩ (by first | exact Nat.le_of_ble_eq_true rfl | omega | (dsimp only; omega)) ⟨by first | exact Nat.le_of_ble_eq_true rfl | omega | (dsimp only; omega), by first | exact Nat.le_of_ble_eq_true rfl | omega | (dsimp only; omega)⟩ dX6_goWithin_206 ⟨rfl, iv, i_this, i_b183, i_p0, (pl_ge z2 hz.1 c_158), hz.2⟩ (fun r_206 S8_206 h_206 => ?_)
                    obtain ⟨v206, rfl, iv2, x_206⟩ := h_206
                    have i_this := is_ext x_206 i_this
                    have i_p0 := is_ext x_206 i_p0
                    have i_a169 := is_ext x_206 i_a169
                    have i_b183 := is_ext x_206 i_b183
                    have E0' := ext_tr E0 x_206 (xk_call E0 (by decide))
                    have E0 := E0'
                    have iv := iv2
                    refine v_lstore C dX6_goWithin_209 (by decide) (by first | rfl | exact cat_ok _ | simp [okS, cat_rf]) ?_
                    refine v_iinc C dX6_goWithin_211 rfl rfl (by decide) (by first | rfl | exact cat_ok _ | simp [okS, cat_rf]) ?_
                    refine v_goto (tgt := 155) C dX6_goWithin_214 (by decide) ?_
                    refine V.drop 12 ?_
                    refine V.lits (lv' := [_, _, _, _, _, _, _, _, _, _, _, _, _]) rfl ?_
                    exact ih_155 _ (_, _) (dnm_lt (pl_ge z2 hz.1 c_158)) ⟨iv, i_this, i_p0, (pl_dn2 (pl_ge z2 hz.1 c_158)), E0⟩
          · skip
            refine v_aload_n C dX6_goWithin_133 rfl ?_
            refine v_aload C dX6_goWithin_134 rfl ?_
            refine v_aload_n C dX6_goWithin_136 rfl ?_
            refine v_iload_n C dX6_goWithin_137 rfl ?_
            refine v_iload C dX6_goWithin_138 rfl ?_
            refine v_lload C dX6_goWithin_140 rfl ?_
            refine v_iload C dX6_goWithin_142 rfl ?_
            refine v_callV (As := [_, _, _, _, _, _]) (n := 6) C (hD l _ _ _ _ _ _ _ _) rfl i_this (by decide) rfl ⟨wd773, wd774, wd775, wd19, wd786⟩ ⟨rfl, hy_X6_doOps⟩ rfl ⟨by first | exact Nat.le_of_ble_eq_true rfl | omega | (dsimp only; omega), by first | exact Nat.le_of_ble_eq_true rfl | omega | (dsimp only; omega)⟩ (by first | exact Nat.le_of_ble_eq_true rfl | omega | (dsimp only; omega)) ⟨by first | exact Nat.le_of_ble_eq_true rfl | omega | (dsimp only; omega), by first | exact Nat.le_of_ble_eq_true rfl | omega | (dsimp only; omega)⟩ dX6_goWithin_144 ⟨rfl, iv, i_this, i_b123, i_p0, (p_v7 hz.1.1), hz.2⟩ (fun r_144 S10_144 h_144 => ?_)
            obtain ⟨v144, rfl, iv2, x_144⟩ := h_144
            have i_this := is_ext x_144 i_this
            have i_p0 := is_ext x_144 i_p0
            have i_a84 := is_ext x_144 i_a84
            have i_a94 := is_ext x_144 i_a94
            have i_b123 := is_ext x_144 i_b123
            have E0' := ext_tr E0 x_144 (xk_call E0 (by decide))
            have E0 := E0'
            have iv := iv2
            refine v_lstore C dX6_goWithin_147 (by decide) (by first | rfl | exact cat_ok _ | simp [okS, cat_rf]) ?_
            refine v_iload C dX6_goWithin_149 rfl ?_
            refine v_iconst (v := 1) C dX6_goWithin_151 (by decide) ?_
            refine v_isub C dX6_goWithin_152 ?_
            refine v_istore C dX6_goWithin_153 (by decide) (by first | rfl | exact cat_ok _ | simp [okS, cat_rf]) ?_
            refine V.drop 10 ?_
            refine V.lits (lv' := [_, _, _, _, _, _, _, _, _, _, _, _, _]) rfl ?_
            refine v_loop (fun (t : Int64 × Int32) lv0 => ((lv0.set 8 (some (.long t.1))).set 11 (some (.int t.2)))) (fun (S1 : Mem) (t : Int64 × Int32) => INV M [] S1 ∧ is S1 h 6 ∧ is S1 p0 2 ∧ (-1 ≤ t.2.toInt ∧ t.2.toInt ≤ 20) ∧ ext S S1 (fun a => ¬ M a ∧ mK S a ∈ [0, 6, 7, 12])) (fun (S1 : Mem) (t : Int64 × Int32) => dnm t.2) (t := (_, _)) rfl ⟨iv, i_this, i_p0, (pl_dn (p_v7 hz.1.1)), E0⟩ ?_
            intro L155 t h_155 ih_155
            obtain ⟨t0_155, t1_155⟩ := t
            obtain ⟨iv, i_this, i_p0, z2, E0⟩ := h_155
            try dsimp only
            refine v_iload C dX6_goWithin_155 rfl ?_
            refine v_iload_n C dX6_goWithin_157 rfl ?_
            refine v_icmp_lt (tgt := 217) C dX6_goWithin_158 (by decide) (fun c_158 => ?_) (fun c_158 => ?_)
            · skip
              refine v_lload C dX6_goWithin_217 rfl ?_
              refine v_lret C hr (by first | exact Nat.le_of_ble_eq_true rfl | omega | (dsimp only; omega)) (by first | exact Nat.le_of_ble_eq_true rfl | omega | (dsimp only; omega)) dX6_goWithin_219 ?_
              exact ⟨_, rfl, iv, E0⟩
            · skip
              refine v_aload_n C dX6_goWithin_161 rfl ?_
              refine g6_26 C i_this dX6_goWithin_162 ?_
              refine v_topi (fun v162 e_v162 => ?_)
              refine v_if_ne (tgt := 217) C dX6_goWithin_165 (by decide) (fun c_165 => ?_) (fun c_165 => ?_)
              · skip
                refine v_lload C dX6_goWithin_217 rfl ?_
                refine v_lret C hr (by first | exact Nat.le_of_ble_eq_true rfl | omega | (dsimp only; omega)) (by first | exact Nat.le_of_ble_eq_true rfl | omega | (dsimp only; omega)) dX6_goWithin_219 ?_
                exact ⟨_, rfl, iv, E0⟩
              · skip
                refine v_aload_n C dX6_goWithin_168 rfl ?_
                obtain ⟨a169, e_a169, i_a169⟩ := T384 iv i_this List.not_mem_nil
                refine r6_18 (b := a169) C i_this e_a169 dX6_goWithin_169 ?_
                refine v_aload_n C dX6_goWithin_172 rfl ?_
                refine v_iload C dX6_goWithin_173 rfl ?_
                refine v_iload_n C dX6_goWithin_175 rfl ?_
                refine v_callV (As := [_, _, _]) (n := 3) C (st_X1_guardAt l _ _ _ _ _) rfl i_a169 (by decide) rfl ⟨wd821, wd639, wd640, wd15, wd641⟩ ⟨rfl, hy_X1_guardAt⟩ rfl ⟨by first | exact Nat.le_of_ble_eq_true rfl | omega | (dsimp only; omega), by first | exact Nat.le_of_ble_eq_true rfl | omega | (dsimp only; omega)⟩ (by first | exact Nat.le_of_ble_eq_true rfl | omega | (dsimp only; omega)) ⟨by first | exact Nat.le_of_ble_eq_true rfl | omega | (dsimp only; omega), by first | exact Nat.le_of_ble_eq_true rfl | omega | (dsimp only; omega)⟩ dX6_goWithin_176 ⟨rfl, iv, i_a169, i_p0⟩ (fun r_176 S4_176 h_176 => ?_)
                obtain ⟨v176, rfl, n_v176, q_v176⟩ := h_176
                obtain rfl := q_v176.symm
                refine v_qstore C dX6_goWithin_179 (by decide) (by first | rfl | exact cat_ok _ | simp [okS, cat_rf]) ?_
                refine v_qload C dX6_goWithin_181 rfl ?_
                refine v_ifnull (tgt := 211) C dX6_goWithin_183 (by decide) (fun c_183 => ?_) (fun b183 c_183 => ?_)
                · skip
                  subst c_183
                  refine v_iinc C dX6_goWithin_211 rfl rfl (by decide) (by first | rfl | exact cat_ok _ | simp [okS, cat_rf]) ?_
                  refine v_goto (tgt := 155) C dX6_goWithin_214 (by decide) ?_
                  refine V.drop 12 ?_
                  refine V.lits (lv' := [_, _, _, _, _, _, _, _, _, _, _, _, _]) rfl ?_
                  exact ih_155 _ (_, _) (dnm_lt (pl_ge z2 hz.1 c_158)) ⟨iv, i_this, i_p0, (pl_dn2 (pl_ge z2 hz.1 c_158)), E0⟩
                · skip
                  subst c_183
                  have i_b183 := nOK_some n_v176 rfl
                  refine v_aload C dX6_goWithin_186 rfl ?_
                  refine g6_94 C i_b183 dX6_goWithin_188 ?_
                  refine v_topi (fun v188 e_v188 => ?_)
                  refine v_iconst (v := 2) C dX6_goWithin_191 (by decide) ?_
                  refine v_icmp_ne (tgt := 211) C dX6_goWithin_192 (by decide) (fun c_192 => ?_) (fun c_192 => ?_)
                  · skip
                    refine v_iinc C dX6_goWithin_211 rfl rfl (by decide) (by first | rfl | exact cat_ok _ | simp [okS, cat_rf]) ?_
                    refine v_goto (tgt := 155) C dX6_goWithin_214 (by decide) ?_
                    refine V.drop 12 ?_
                    refine V.lits (lv' := [_, _, _, _, _, _, _, _, _, _, _, _, _]) rfl ?_
                    exact ih_155 _ (_, _) (dnm_lt (pl_ge z2 hz.1 c_158)) ⟨iv, i_this, i_p0, (pl_dn2 (pl_ge z2 hz.1 c_158)), E0⟩
                  · skip
                    refine v_aload_n C dX6_goWithin_195 rfl ?_
                    refine v_aload C dX6_goWithin_196 rfl ?_
                    refine v_aload_n C dX6_goWithin_198 rfl ?_
                    refine v_iload_n C dX6_goWithin_199 rfl ?_
                    refine v_iload C dX6_goWithin_200 rfl ?_
                    refine v_lload C dX6_goWithin_202 rfl ?_
                    refine v_iload C dX6_goWithin_204 rfl ?_
                    refine v_callV (As := [_, _, _, _, _, _]) (n := 6) C (hD l _ _ _ _ _ _ _ _) rfl i_this (by decide) rfl ⟨wd773, wd774, wd775, wd19, wd786⟩ ⟨rfl, hy_X6_doOps⟩ rfl ⟨by first | exact Nat.le_of_ble_eq_true rfl | omega | (dsimp only; omega), by first | exact Nat.le_of_ble_eq_true rfl | omega | (dsimp only; omega)⟩ (by first | exact Nat.le_of_ble_eq_true rfl | omega | (dsimp only; omega)) ⟨by first | exact Nat.le_of_ble_eq_true rfl | omega | (dsimp only; omega), by first | exact Nat.le_of_ble_eq_true rfl | omega | (dsimp only; omega)⟩ dX6_goWithin_206 ⟨rfl, iv, i_this, i_b183, i_p0, (pl_ge z2 hz.1 c_158), hz.2⟩ (fun r_206 S8_206 h_206 => ?_)
                    obtain ⟨v206, rfl, iv2, x_206⟩ := h_206
                    have i_this := is_ext x_206 i_this
                    have i_p0 := is_ext x_206 i_p0
                    have i_a169 := is_ext x_206 i_a169
                    have i_b183 := is_ext x_206 i_b183
                    have E0' := ext_tr E0 x_206 (xk_call E0 (by decide))
                    have E0 := E0'
                    have iv := iv2
                    refine v_lstore C dX6_goWithin_209 (by decide) (by first | rfl | exact cat_ok _ | simp [okS, cat_rf]) ?_
                    refine v_iinc C dX6_goWithin_211 rfl rfl (by decide) (by first | rfl | exact cat_ok _ | simp [okS, cat_rf]) ?_
                    refine v_goto (tgt := 155) C dX6_goWithin_214 (by decide) ?_
                    refine V.drop 12 ?_
                    refine V.lits (lv' := [_, _, _, _, _, _, _, _, _, _, _, _, _]) rfl ?_
                    exact ih_155 _ (_, _) (dnm_lt (pl_ge z2 hz.1 c_158)) ⟨iv, i_this, i_p0, (pl_dn2 (pl_ge z2 hz.1 c_158)), E0⟩
    · skip
      refine v_aload_n C dX6_goWithin_33 rfl ?_
      obtain ⟨a34, e_a34, i_a34⟩ := T384 iv i_this List.not_mem_nil
      refine r6_18 (b := a34) C i_this e_a34 dX6_goWithin_34 ?_
      refine v_aload_n C dX6_goWithin_37 rfl ?_
      refine v_iload C dX6_goWithin_38 rfl ?_
      refine v_iload_n C dX6_goWithin_40 rfl ?_
      refine v_callV (As := [_, _, _]) (n := 3) C (st_X1_guardAt l _ _ _ _ _) rfl i_a34 (by decide) rfl ⟨wd821, wd639, wd640, wd15, wd641⟩ ⟨rfl, hy_X1_guardAt⟩ rfl ⟨by first | exact Nat.le_of_ble_eq_true rfl | omega | (dsimp only; omega), by first | exact Nat.le_of_ble_eq_true rfl | omega | (dsimp only; omega)⟩ (by first | exact Nat.le_of_ble_eq_true rfl | omega | (dsimp only; omega)) ⟨by first | exact Nat.le_of_ble_eq_true rfl | omega | (dsimp only; omega), by first | exact Nat.le_of_ble_eq_true rfl | omega | (dsimp only; omega)⟩ dX6_goWithin_41 ⟨rfl, iv, i_a34, i_p0⟩ (fun r_41 S4_41 h_41 => ?_)
      obtain ⟨v41, rfl, n_v41, q_v41⟩ := h_41
      obtain rfl := q_v41.symm
      refine v_qstore C dX6_goWithin_44 (by decide) (by first | rfl | exact cat_ok _ | simp [okS, cat_rf]) ?_
      refine v_qload C dX6_goWithin_46 rfl ?_
      refine v_ifnull (tgt := 75) C dX6_goWithin_48 (by decide) (fun c_48 => ?_) (fun b48 c_48 => ?_)
      · skip
        subst c_48
        refine v_iinc C dX6_goWithin_75 rfl rfl (by decide) (by first | rfl | exact cat_ok _ | simp [okS, cat_rf]) ?_
        refine v_goto (tgt := 19) C dX6_goWithin_78 (by decide) ?_
        refine V.drop 11 ?_
        refine V.lits (lv' := [_, _, _, _, _, _, _, _, _, _, _, _, _]) rfl ?_
        exact ih_19 _ (_, _) (upm_lt c_23) ⟨iv, i_this, i_p0, (up0 z1 c_23), E0⟩
      · skip
        subst c_48
        have i_b48 := nOK_some n_v41 rfl
        refine v_aload C dX6_goWithin_51 rfl ?_
        refine g6_94 C i_b48 dX6_goWithin_53 ?_
        refine v_topi (fun v53 e_v53 => ?_)
        refine v_if_ne (tgt := 75) C dX6_goWithin_56 (by decide) (fun c_56 => ?_) (fun c_56 => ?_)
        · skip
          refine v_iinc C dX6_goWithin_75 rfl rfl (by decide) (by first | rfl | exact cat_ok _ | simp [okS, cat_rf]) ?_
          refine v_goto (tgt := 19) C dX6_goWithin_78 (by decide) ?_
          refine V.drop 11 ?_
          refine V.lits (lv' := [_, _, _, _, _, _, _, _, _, _, _, _, _]) rfl ?_
          exact ih_19 _ (_, _) (upm_lt c_23) ⟨iv, i_this, i_p0, (up0 z1 c_23), E0⟩
        · skip
          refine v_aload_n C dX6_goWithin_59 rfl ?_
          refine v_aload C dX6_goWithin_60 rfl ?_
          refine v_aload_n C dX6_goWithin_62 rfl ?_
          refine v_iload_n C dX6_goWithin_63 rfl ?_
          refine v_iload C dX6_goWithin_64 rfl ?_
          refine v_lload C dX6_goWithin_66 rfl ?_
          refine v_iload C dX6_goWithin_68 rfl ?_
          refine v_callV (As := [_, _, _, _, _, _]) (n := 6) C (hD l _ _ _ _ _ _ _ _) rfl i_this (by decide) rfl ⟨wd773, wd774, wd775, wd19, wd786⟩ ⟨rfl, hy_X6_doOps⟩ rfl ⟨by first | exact Nat.le_of_ble_eq_true rfl | omega | (dsimp only; omega), by first | exact Nat.le_of_ble_eq_true rfl | omega | (dsimp only; omega)⟩ (by first | exact Nat.le_of_ble_eq_true rfl | omega | (dsimp only; omega)) ⟨by first | exact Nat.le_of_ble_eq_true rfl | omega | (dsimp only; omega), by first | exact Nat.le_of_ble_eq_true rfl | omega | (dsimp only; omega)⟩ dX6_goWithin_70 ⟨rfl, iv, i_this, i_b48, i_p0, (pl_in z1 c_23 (p_v7 hz.1.1)), hz.2⟩ (fun r_70 S8_70 h_70 => ?_)
          obtain ⟨v70, rfl, iv2, x_70⟩ := h_70
          have i_this := is_ext x_70 i_this
          have i_p0 := is_ext x_70 i_p0
          have i_a34 := is_ext x_70 i_a34
          have i_b48 := is_ext x_70 i_b48
          have E0' := ext_tr E0 x_70 (xk_call E0 (by decide))
          have E0 := E0'
          have iv := iv2
          refine v_lstore C dX6_goWithin_73 (by decide) (by first | rfl | exact cat_ok _ | simp [okS, cat_rf]) ?_
          refine v_iinc C dX6_goWithin_75 rfl rfl (by decide) (by first | rfl | exact cat_ok _ | simp [okS, cat_rf]) ?_
          refine v_goto (tgt := 19) C dX6_goWithin_78 (by decide) ?_
          refine V.drop 11 ?_
          refine V.lits (lv' := [_, _, _, _, _, _, _, _, _, _, _, _, _]) rfl ?_
          exact ih_19 _ (_, _) (upm_lt c_23) ⟨iv, i_this, i_p0, (up0 z1 c_23), E0⟩
theorem dX6_callAct_0 : decode cX6_callAct 0 = .ok (.aload_n 0, 1) := by decide +kernel
theorem dX6_callAct_1 : decode cX6_callAct 1 = .ok (.getfield 18, 3) := by decide +kernel
theorem dX6_callAct_4 : decode cX6_callAct 4 = .ok (.aload_n 1, 1) := by decide +kernel
theorem dX6_callAct_5 : decode cX6_callAct 5 = .ok (.iload_n 3, 1) := by decide +kernel
theorem dX6_callAct_6 : decode cX6_callAct 6 = .ok (.invokevirtual 46, 3) := by decide +kernel
theorem dX6_callAct_9 : decode cX6_callAct 9 = .ok (.astore 7, 2) := by decide +kernel
theorem dX6_callAct_11 : decode cX6_callAct 11 = .ok (.aload 7, 2) := by decide +kernel
theorem dX6_callAct_13 : decode cX6_callAct 13 = .ok (.getfield 52, 3) := by decide +kernel
theorem dX6_callAct_16 : decode cX6_callAct 16 = .ok (.astore 8, 2) := by decide +kernel
theorem dX6_callAct_18 : decode cX6_callAct 18 = .ok (.aload 7, 2) := by decide +kernel
theorem dX6_callAct_20 : decode cX6_callAct 20 = .ok (.getfield 58, 3) := by decide +kernel
theorem dX6_callAct_23 : decode cX6_callAct 23 = .ok (.ifCond .eq 9, 3) := by decide +kernel
theorem dX6_callAct_26 : decode cX6_callAct 26 = .ok (.aload_n 0, 1) := by decide +kernel
theorem dX6_callAct_27 : decode cX6_callAct 27 = .ok (.iconst 5, 1) := by decide +kernel
theorem dX6_callAct_28 : decode cX6_callAct 28 = .ok (.invokevirtual 61, 3) := by decide +kernel
theorem dX6_callAct_31 : decode cX6_callAct 31 = .ok (.lreturn, 1) := by decide +kernel
theorem dX6_callAct_32 : decode cX6_callAct 32 = .ok (.aload 8, 2) := by decide +kernel
theorem dX6_callAct_34 : decode cX6_callAct 34 = .ok (.ifnonnull 9, 3) := by decide +kernel
theorem dX6_callAct_37 : decode cX6_callAct 37 = .ok (.aload_n 0, 1) := by decide +kernel
theorem dX6_callAct_38 : decode cX6_callAct 38 = .ok (.iconst 4, 1) := by decide +kernel
theorem dX6_callAct_39 : decode cX6_callAct 39 = .ok (.invokevirtual 61, 3) := by decide +kernel
theorem dX6_callAct_42 : decode cX6_callAct 42 = .ok (.lreturn, 1) := by decide +kernel
theorem dX6_callAct_43 : decode cX6_callAct 43 = .ok (.aload 8, 2) := by decide +kernel
theorem dX6_callAct_45 : decode cX6_callAct 45 = .ok (.getfield 65, 3) := by decide +kernel
theorem dX6_callAct_48 : decode cX6_callAct 48 = .ok (.aload_n 1, 1) := by decide +kernel
theorem dX6_callAct_49 : decode cX6_callAct 49 = .ok (.aload_n 2, 1) := by decide +kernel
theorem dX6_callAct_50 : decode cX6_callAct 50 = .ok (.invokestatic 70, 3) := by decide +kernel
theorem dX6_callAct_53 : decode cX6_callAct 53 = .ok (.ifCond .ne 9, 3) := by decide +kernel
theorem dX6_callAct_56 : decode cX6_callAct 56 = .ok (.aload_n 0, 1) := by decide +kernel
theorem dX6_callAct_57 : decode cX6_callAct 57 = .ok (.iconst 3, 1) := by decide +kernel
theorem dX6_callAct_58 : decode cX6_callAct 58 = .ok (.invokevirtual 61, 3) := by decide +kernel
theorem dX6_callAct_61 : decode cX6_callAct 61 = .ok (.lreturn, 1) := by decide +kernel
theorem dX6_callAct_62 : decode cX6_callAct 62 = .ok (.aload_n 0, 1) := by decide +kernel
theorem dX6_callAct_63 : decode cX6_callAct 63 = .ok (.aload_n 1, 1) := by decide +kernel
theorem dX6_callAct_64 : decode cX6_callAct 64 = .ok (.iload_n 3, 1) := by decide +kernel
theorem dX6_callAct_65 : decode cX6_callAct 65 = .ok (.iconst 0, 1) := by decide +kernel
theorem dX6_callAct_66 : decode cX6_callAct 66 = .ok (.lload 4, 2) := by decide +kernel
theorem dX6_callAct_68 : decode cX6_callAct 68 = .ok (.iload 6, 2) := by decide +kernel
theorem dX6_callAct_70 : decode cX6_callAct 70 = .ok (.invokevirtual 74, 3) := by decide +kernel
theorem dX6_callAct_73 : decode cX6_callAct 73 = .ok (.lreturn, 1) := by decide +kernel
set_option maxRecDepth 100000 in
set_option maxHeartbeats 4000000 in
theorem k_call {d : Nat} (hG : KG d) : KC d := by
  intro l M h p0 p1 p2 p3 p4
  refine ct_of (by decide) (fun S av h => by obtain ⟨rfl, iv, i_this, i_p0, i_p1, hz⟩ := h; exact by first | exact Nat.le_of_ble_eq_true rfl | omega | (dsimp only; omega)) ?_
  intro p e s m args below meth c D G bs S av C hr hin hpre
  obtain ⟨rfl, iv, i_this, i_p0, i_p1, hz⟩ := hpre
  have E0 : ext S S (fun a => ¬ M a ∧ mK S a ∈ [0, 6, 7, 12]) := ext_rfl
  refine v_aload_n C dX6_callAct_0 rfl ?_
  obtain ⟨a1, e_a1, i_a1⟩ := T384 iv i_this List.not_mem_nil
  refine r6_18 (b := a1) C i_this e_a1 dX6_callAct_1 ?_
  refine v_aload_n C dX6_callAct_4 rfl ?_
  refine v_iload_n C dX6_callAct_5 rfl ?_
  refine v_callV (As := [_, _]) (n := 2) C (st_X1_weigh l _ _ _ _) rfl i_a1 (by decide) rfl ⟨wd732, wd523, wd524, wd15, wd525⟩ ⟨rfl, hy_X1_weigh⟩ rfl ⟨by first | exact Nat.le_of_ble_eq_true rfl | omega | (dsimp only; omega), by first | exact Nat.le_of_ble_eq_true rfl | omega | (dsimp only; omega)⟩ (by first | exact Nat.le_of_ble_eq_true rfl | omega | (dsimp only; omega)) ⟨by first | exact Nat.le_of_ble_eq_true rfl | omega | (dsimp only; omega), by first | exact Nat.le_of_ble_eq_true rfl | omega | (dsimp only; omega)⟩ dX6_callAct_6 ⟨rfl, iv, i_a1, i_p0⟩ (fun r_6 S2_6 h_6 => ?_)
  obtain ⟨v6, rfl, i_v6, iv2, x_6⟩ := h_6
  have i_this := is_ext x_6 i_this
  have i_p0 := is_ext x_6 i_p0
  have i_p1 := is_ext x_6 i_p1
  have i_a1 := is_ext x_6 i_a1
  have E0' := ext_tr E0 x_6 (xk_call E0 (by decide))
  have E0 := E0'
  have iv := iv2
  refine v_astore C dX6_callAct_9 (by decide) (by first | rfl | exact cat_ok _ | simp [okS, cat_rf]) ?_
  refine v_aload C dX6_callAct_11 rfl ?_
  have n_o13 := T1 iv i_v6 List.not_mem_nil
  refine g6_52 C i_v6 dX6_callAct_13 ?_
  refine v_topq n_o13 (fun o13 n_o13 => ?_)
  refine v_qstore C dX6_callAct_16 (by decide) (by first | rfl | exact cat_ok _ | simp [okS, cat_rf]) ?_
  refine v_aload C dX6_callAct_18 rfl ?_
  refine g6_58 C i_v6 dX6_callAct_20 ?_
  refine v_topi (fun v20 e_v20 => ?_)
  refine v_if_eq (tgt := 32) C dX6_callAct_23 (by decide) (fun c_23 => ?_) (fun c_23 => ?_)
  · skip
    refine v_qload C dX6_callAct_32 rfl ?_
    refine v_ifnonnull (tgt := 43) C dX6_callAct_34 (by decide) (fun b34 c_34 => ?_) (fun c_34 => ?_)
    · skip
      subst c_34
      have i_b34 := nOK_some n_o13 rfl
      refine v_aload C dX6_callAct_43 rfl ?_
      refine g6_65 C i_b34 dX6_callAct_45 ?_
      refine v_topi (fun v45 e_v45 => ?_)
      refine v_aload_n C dX6_callAct_48 rfl ?_
      refine v_aload_n C dX6_callAct_49 rfl ?_
      refine v_callS (As := [_, _, _]) (n := 3) C (st_X6_isInReach l _ _ _ _) rfl ⟨wd737, wd738, wd19, wd739⟩ hy_X6_isInReach rfl ⟨by first | exact Nat.le_of_ble_eq_true rfl | omega | (dsimp only; omega), by first | exact Nat.le_of_ble_eq_true rfl | omega | (dsimp only; omega)⟩ (by first | exact Nat.le_of_ble_eq_true rfl | omega | (dsimp only; omega)) ⟨by first | exact Nat.le_of_ble_eq_true rfl | omega | (dsimp only; omega), by first | exact Nat.le_of_ble_eq_true rfl | omega | (dsimp only; omega)⟩ dX6_callAct_50 ⟨rfl, iv, i_p0, i_p1⟩ (fun r_50 S6_50 h_50 => ?_)
      obtain ⟨v50, rfl, q_v50⟩ := h_50
      obtain rfl := q_v50.symm
      refine v_if_ne (tgt := 62) C dX6_callAct_53 (by decide) (fun c_53 => ?_) (fun c_53 => ?_)
      · skip
        refine v_aload_n C dX6_callAct_62 rfl ?_
        refine v_aload_n C dX6_callAct_63 rfl ?_
        refine v_iload_n C dX6_callAct_64 rfl ?_
        refine v_iconst (v := 0) C dX6_callAct_65 (by decide) ?_
        refine v_lload C dX6_callAct_66 rfl ?_
        refine v_iload C dX6_callAct_68 rfl ?_
        refine v_callV (As := [_, _, _, _, _]) (n := 5) C (hG l _ _ _ _ _ _ _) rfl i_this (by decide) rfl ⟨wd742, wd743, wd744, wd19, wd812⟩ ⟨rfl, hy_X6_goWithin⟩ rfl ⟨by first | exact Nat.le_of_ble_eq_true rfl | omega | (dsimp only; omega), by first | exact Nat.le_of_ble_eq_true rfl | omega | (dsimp only; omega)⟩ (by first | exact Nat.le_of_ble_eq_true rfl | omega | (dsimp only; omega)) ⟨by first | exact Nat.le_of_ble_eq_true rfl | omega | (dsimp only; omega), by first | exact Nat.le_of_ble_eq_true rfl | omega | (dsimp only; omega)⟩ dX6_callAct_70 ⟨rfl, iv, i_this, i_p0, (by decide), hz⟩ (fun r_70 S8_70 h_70 => ?_)
        obtain ⟨v70, rfl, iv2, x_70⟩ := h_70
        have i_this := is_ext x_70 i_this
        have i_p0 := is_ext x_70 i_p0
        have i_p1 := is_ext x_70 i_p1
        have i_a1 := is_ext x_70 i_a1
        have i_v6 := is_ext x_70 i_v6
        have i_b34 := is_ext x_70 i_b34
        have E0' := ext_tr E0 x_70 (xk_call E0 (by decide))
        have E0 := E0'
        have iv := iv2
        refine v_lret C hr (by first | exact Nat.le_of_ble_eq_true rfl | omega | (dsimp only; omega)) (by first | exact Nat.le_of_ble_eq_true rfl | omega | (dsimp only; omega)) dX6_callAct_73 ?_
        exact ⟨_, rfl, iv, E0⟩
      · skip
        refine v_aload_n C dX6_callAct_56 rfl ?_
        refine v_iconst (v := 3) C dX6_callAct_57 (by decide) ?_
        refine v_callV (As := [_]) (n := 1) C (st_X6_fail l _ _ _) rfl i_this (by decide) rfl ⟨wd733, wd734, wd735, wd19, wd736⟩ ⟨rfl, hy_X6_fail⟩ rfl ⟨by first | exact Nat.le_of_ble_eq_true rfl | omega | (dsimp only; omega), by first | exact Nat.le_of_ble_eq_true rfl | omega | (dsimp only; omega)⟩ (by first | exact Nat.le_of_ble_eq_true rfl | omega | (dsimp only; omega)) ⟨by first | exact Nat.le_of_ble_eq_true rfl | omega | (dsimp only; omega), by first | exact Nat.le_of_ble_eq_true rfl | omega | (dsimp only; omega)⟩ dX6_callAct_58 ⟨rfl, iv, i_this⟩ (fun r_58 S8_58 h_58 => ?_)
        obtain ⟨v58, rfl, iv2, x_58⟩ := h_58
        have i_this := is_ext x_58 i_this
        have i_p0 := is_ext x_58 i_p0
        have i_p1 := is_ext x_58 i_p1
        have i_a1 := is_ext x_58 i_a1
        have i_v6 := is_ext x_58 i_v6
        have i_b34 := is_ext x_58 i_b34
        have E0' := ext_tr E0 x_58 (xk_call E0 (by decide))
        have E0 := E0'
        have iv := iv2
        refine v_lret C hr (by first | exact Nat.le_of_ble_eq_true rfl | omega | (dsimp only; omega)) (by first | exact Nat.le_of_ble_eq_true rfl | omega | (dsimp only; omega)) dX6_callAct_61 ?_
        exact ⟨_, rfl, iv, E0⟩
    · skip
      subst c_34
      refine v_aload_n C dX6_callAct_37 rfl ?_
      refine v_iconst (v := 4) C dX6_callAct_38 (by decide) ?_
      refine v_callV (As := [_]) (n := 1) C (st_X6_fail l _ _ _) rfl i_this (by decide) rfl ⟨wd733, wd734, wd735, wd19, wd736⟩ ⟨rfl, hy_X6_fail⟩ rfl ⟨by first | exact Nat.le_of_ble_eq_true rfl | omega | (dsimp only; omega), by first | exact Nat.le_of_ble_eq_true rfl | omega | (dsimp only; omega)⟩ (by first | exact Nat.le_of_ble_eq_true rfl | omega | (dsimp only; omega)) ⟨by first | exact Nat.le_of_ble_eq_true rfl | omega | (dsimp only; omega), by first | exact Nat.le_of_ble_eq_true rfl | omega | (dsimp only; omega)⟩ dX6_callAct_39 ⟨rfl, iv, i_this⟩ (fun r_39 S6_39 h_39 => ?_)
      obtain ⟨v39, rfl, iv2, x_39⟩ := h_39
      have i_this := is_ext x_39 i_this
      have i_p0 := is_ext x_39 i_p0
      have i_p1 := is_ext x_39 i_p1
      have i_a1 := is_ext x_39 i_a1
      have i_v6 := is_ext x_39 i_v6
      have E0' := ext_tr E0 x_39 (xk_call E0 (by decide))
      have E0 := E0'
      have iv := iv2
      refine v_lret C hr (by first | exact Nat.le_of_ble_eq_true rfl | omega | (dsimp only; omega)) (by first | exact Nat.le_of_ble_eq_true rfl | omega | (dsimp only; omega)) dX6_callAct_42 ?_
      exact ⟨_, rfl, iv, E0⟩
  · skip
    refine v_aload_n C dX6_callAct_26 rfl ?_
    refine v_iconst (v := 5) C dX6_callAct_27 (by decide) ?_
    refine v_callV (As := [_]) (n := 1) C (st_X6_fail l _ _ _) rfl i_this (by decide) rfl ⟨wd733, wd734, wd735, wd19, wd736⟩ ⟨rfl, hy_X6_fail⟩ rfl ⟨by first | exact Nat.le_of_ble_eq_true rfl | omega | (dsimp only; omega), by first | exact Nat.le_of_ble_eq_true rfl | omega | (dsimp only; omega)⟩ (by first | exact Nat.le_of_ble_eq_true rfl | omega | (dsimp only; omega)) ⟨by first | exact Nat.le_of_ble_eq_true rfl | omega | (dsimp only; omega), by first | exact Nat.le_of_ble_eq_true rfl | omega | (dsimp only; omega)⟩ dX6_callAct_28 ⟨rfl, iv, i_this⟩ (fun r_28 S4_28 h_28 => ?_)
    obtain ⟨v28, rfl, iv2, x_28⟩ := h_28
    have i_this := is_ext x_28 i_this
    have i_p0 := is_ext x_28 i_p0
    have i_p1 := is_ext x_28 i_p1
    have i_a1 := is_ext x_28 i_a1
    have i_v6 := is_ext x_28 i_v6
    have n_o13 := nOK_ext x_28 n_o13
    have E0' := ext_tr E0 x_28 (xk_call E0 (by decide))
    have E0 := E0'
    have iv := iv2
    refine v_lret C hr (by first | exact Nat.le_of_ble_eq_true rfl | omega | (dsimp only; omega)) (by first | exact Nat.le_of_ble_eq_true rfl | omega | (dsimp only; omega)) dX6_callAct_31 ?_
    exact ⟨_, rfl, iv, E0⟩
theorem k_all (d : Nat) : KO d ∧ KD d ∧ KG d ∧ KC d := by
  induction d with
  | zero => exact ⟨k_open0, k_ops k_open0, k_within (k_ops k_open0), k_call (k_within (k_ops k_open0))⟩
  | succ d ih =>
    have hO := k_open ih.2.2.2 ih.2.2.1 ih.2.1
    exact ⟨hO, k_ops hO, k_within (k_ops hO), k_call (k_within (k_ops hO))⟩
theorem dX6_perform_0 : decode cX6_perform 0 = .ok (.aload_n 0, 1) := by decide +kernel
theorem dX6_perform_1 : decode cX6_perform 1 = .ok (.getfield 12, 3) := by decide +kernel
theorem dX6_perform_4 : decode cX6_perform 4 = .ok (.iconst 0, 1) := by decide +kernel
theorem dX6_perform_5 : decode cX6_perform 5 = .ok (.putfield 22, 3) := by decide +kernel
theorem dX6_perform_8 : decode cX6_perform 8 = .ok (.aload_n 0, 1) := by decide +kernel
theorem dX6_perform_9 : decode cX6_perform 9 = .ok (.iconst 0, 1) := by decide +kernel
theorem dX6_perform_10 : decode cX6_perform 10 = .ok (.putfield 26, 3) := by decide +kernel
theorem dX6_perform_13 : decode cX6_perform 13 = .ok (.aload_n 0, 1) := by decide +kernel
theorem dX6_perform_14 : decode cX6_perform 14 = .ok (.iconst 0, 1) := by decide +kernel
theorem dX6_perform_15 : decode cX6_perform 15 = .ok (.putfield 29, 3) := by decide +kernel
theorem dX6_perform_18 : decode cX6_perform 18 = .ok (.aload_n 0, 1) := by decide +kernel
theorem dX6_perform_19 : decode cX6_perform 19 = .ok (.iconst 1, 1) := by decide +kernel
theorem dX6_perform_20 : decode cX6_perform 20 = .ok (.putfield 32, 3) := by decide +kernel
theorem dX6_perform_23 : decode cX6_perform 23 = .ok (.aload_n 0, 1) := by decide +kernel
theorem dX6_perform_24 : decode cX6_perform 24 = .ok (.aload_n 1, 1) := by decide +kernel
theorem dX6_perform_25 : decode cX6_perform 25 = .ok (.aload_n 1, 1) := by decide +kernel
theorem dX6_perform_26 : decode cX6_perform 26 = .ok (.iload_n 2, 1) := by decide +kernel
theorem dX6_perform_27 : decode cX6_perform 27 = .ok (.lload_n 3, 1) := by decide +kernel
theorem dX6_perform_28 : decode cX6_perform 28 = .ok (.iconst 1, 1) := by decide +kernel
theorem dX6_perform_29 : decode cX6_perform 29 = .ok (.invokevirtual 35, 3) := by decide +kernel
theorem dX6_perform_32 : decode cX6_perform 32 = .ok (.lstore 5, 2) := by decide +kernel
theorem dX6_perform_34 : decode cX6_perform 34 = .ok (.aload_n 0, 1) := by decide +kernel
theorem dX6_perform_35 : decode cX6_perform 35 = .ok (.aload_n 0, 1) := by decide +kernel
theorem dX6_perform_36 : decode cX6_perform 36 = .ok (.getfield 26, 3) := by decide +kernel
theorem dX6_perform_39 : decode cX6_perform 39 = .ok (.ifCond .ne 8, 3) := by decide +kernel
theorem dX6_perform_42 : decode cX6_perform 42 = .ok (.lload 5, 2) := by decide +kernel
theorem dX6_perform_44 : decode cX6_perform 44 = .ok (.goto 4, 3) := by decide +kernel
theorem dX6_perform_47 : decode cX6_perform 47 = .ok (.lconst 0, 1) := by decide +kernel
theorem dX6_perform_48 : decode cX6_perform 48 = .ok (.putfield 39, 3) := by decide +kernel
theorem dX6_perform_51 : decode cX6_perform 51 = .ok (.aload_n 0, 1) := by decide +kernel
theorem dX6_perform_52 : decode cX6_perform 52 = .ok (.getfield 26, 3) := by decide +kernel
theorem dX6_perform_55 : decode cX6_perform 55 = .ok (.ireturn, 1) := by decide +kernel
set_option maxRecDepth 100000 in
set_option maxHeartbeats 4000000 in
theorem st_X6_perform (l : Launch) (M : Nat → Prop) (h : Nat) (p0 : Nat) (p1 : Int32) (p2 : Int64) : Ct l yX6_perform cX6_perform 7 (some .int) 165 0 0 5119 (fun S av => av = [.ref h, .ref p0, .int p1, .long p2] ∧ INV M [] S ∧ is S h 6 ∧ is S p0 2) (fun S _ r S' => ∃ v, r = some (.int v) ∧ INV M [] S' ∧ ext S S' (fun a => ¬ M a ∧ mK S a ∈ [0, 6, 7, 12])) := by
  refine ct_of (by decide) (fun S av h => by obtain ⟨rfl, iv, i_this, i_p0⟩ := h; exact Nat.le_of_ble_eq_true rfl) ?_
  intro p e s m args below meth c D G bs S av C hr hin hpre
  obtain ⟨rfl, iv, i_this, i_p0⟩ := hpre
  have E0 : ext S S (fun a => ¬ M a ∧ mK S a ∈ [0, 6, 7, 12]) := ext_rfl
  refine v_aload_n C dX6_perform_0 rfl ?_
  obtain ⟨a1, e_a1, i_a1⟩ := T385 iv i_this List.not_mem_nil
  refine r6_12 (b := a1) C i_this e_a1 dX6_perform_1 ?_
  refine v_iconst (v := 0) C dX6_perform_4 (by decide) ?_
  refine p6_22 C i_a1 dX6_perform_5 ?_
  refine V.gen (fun S2_5 e_5 => ?_)
  have iv' := inv_sIn e_5 iv (n := 0) rfl ⟨fun _ => by decide, fun _ => by decide⟩
  have x_5 := x_sI e_5
  have E0' := ext_tr E0 x_5 (xk_is E0 i_a1 iv (by decide) (by decide))
  have E0 := E0'
  have i_this := is_ext x_5 i_this
  have i_p0 := is_ext x_5 i_p0
  have i_a1 := is_ext x_5 i_a1
  have iv := iv'
  refine v_aload_n C dX6_perform_8 rfl ?_
  refine v_iconst (v := 0) C dX6_perform_9 (by decide) ?_
  refine p6_26 C i_this dX6_perform_10 ?_
  refine V.gen (fun S2_10 e_10 => ?_)
  have iv' := inv_sI e_10 iv (by decide) (by decide)
  have x_10 := x_sI e_10
  have E0' := ext_tr E0 x_10 (xk_is E0 i_this iv (by decide) (by decide))
  have E0 := E0'
  have i_this := is_ext x_10 i_this
  have i_p0 := is_ext x_10 i_p0
  have i_a1 := is_ext x_10 i_a1
  have iv := iv'
  refine v_aload_n C dX6_perform_13 rfl ?_
  refine v_iconst (v := 0) C dX6_perform_14 (by decide) ?_
  refine p6_29 C i_this dX6_perform_15 ?_
  refine V.gen (fun S2_15 e_15 => ?_)
  have iv' := inv_sI e_15 iv (by decide) (by decide)
  have x_15 := x_sI e_15
  have E0' := ext_tr E0 x_15 (xk_is E0 i_this iv (by decide) (by decide))
  have E0 := E0'
  have i_this := is_ext x_15 i_this
  have i_p0 := is_ext x_15 i_p0
  have i_a1 := is_ext x_15 i_a1
  have iv := iv'
  refine v_aload_n C dX6_perform_18 rfl ?_
  refine v_iconst (v := 1) C dX6_perform_19 (by decide) ?_
  refine p6_32 C i_this dX6_perform_20 ?_
  refine V.gen (fun S2_20 e_20 => ?_)
  have iv' := inv_sI e_20 iv (by decide) (by decide)
  have x_20 := x_sI e_20
  have E0' := ext_tr E0 x_20 (xk_is E0 i_this iv (by decide) (by decide))
  have E0 := E0'
  have i_this := is_ext x_20 i_this
  have i_p0 := is_ext x_20 i_p0
  have i_a1 := is_ext x_20 i_a1
  have iv := iv'
  refine v_aload_n C dX6_perform_23 rfl ?_
  refine v_aload_n C dX6_perform_24 rfl ?_
  refine v_aload_n C dX6_perform_25 rfl ?_
  refine v_iload_n C dX6_perform_26 rfl ?_
  refine v_lload_n C dX6_perform_27 rfl ?_
  refine v_iconst (v := 1) C dX6_perform_28 (by decide) ?_
  refine v_callV (As := [_, _, _, _, _]) (n := 5) C ((k_all 39).2.2.2 l _ _ _ _ _ _ _) rfl i_this (by decide) rfl ⟨wd725, wd726, wd727, wd19, wd728⟩ ⟨rfl, hy_X6_callAct⟩ rfl ⟨Nat.le_of_ble_eq_true rfl, Nat.le_of_ble_eq_true rfl⟩ (Nat.le_of_ble_eq_true rfl) ⟨Nat.le_of_ble_eq_true rfl, Nat.le_of_ble_eq_true rfl⟩ dX6_perform_29 ⟨rfl, iv, i_this, i_p0, i_p0, (by decide)⟩ (fun r_29 S2_29 h_29 => ?_)
  obtain ⟨v29, rfl, iv2, x_29⟩ := h_29
  have i_this := is_ext x_29 i_this
  have i_p0 := is_ext x_29 i_p0
  have i_a1 := is_ext x_29 i_a1
  have E0' := ext_tr E0 x_29 (xk_call E0 (by decide))
  have E0 := E0'
  have iv := iv2
  refine v_lstore C dX6_perform_32 (by decide) (by first | rfl | exact cat_ok _ | simp [okS, cat_rf]) ?_
  refine v_aload_n C dX6_perform_34 rfl ?_
  refine v_aload_n C dX6_perform_35 rfl ?_
  refine g6_26 C i_this dX6_perform_36 ?_
  refine v_topi (fun v36 e_v36 => ?_)
  refine v_if_ne (tgt := 47) C dX6_perform_39 (by decide) (fun c_39 => ?_) (fun c_39 => ?_)
  · skip
    refine v_lconst (v := 0) C dX6_perform_47 (by decide) ?_
    refine p6_39 C i_this dX6_perform_48 ?_
    refine V.gen (fun S4_48 e_48 => ?_)
    have iv' := inv_sJ e_48 iv
    have x_48 := x_sJ e_48
    have E0' := ext_tr E0 x_48 (xk_is E0 i_this iv (by decide) (by decide))
    have E0 := E0'
    have i_this := is_ext x_48 i_this
    have i_p0 := is_ext x_48 i_p0
    have i_a1 := is_ext x_48 i_a1
    have iv := iv'
    refine v_aload_n C dX6_perform_51 rfl ?_
    refine g6_26 C i_this dX6_perform_52 ?_
    refine v_topi (fun v52 e_v52 => ?_)
    refine v_iret C hr (Nat.le_of_ble_eq_true rfl) (Nat.le_of_ble_eq_true rfl) dX6_perform_55 ?_
    exact ⟨_, rfl, iv, E0⟩
  · skip
    refine v_lload C dX6_perform_42 rfl ?_
    refine v_goto (tgt := 48) C dX6_perform_44 (by decide) ?_
    refine p6_39 C i_this dX6_perform_48 ?_
    refine V.gen (fun S4_48 e_48 => ?_)
    have iv' := inv_sJ e_48 iv
    have x_48 := x_sJ e_48
    have E0' := ext_tr E0 x_48 (xk_is E0 i_this iv (by decide) (by decide))
    have E0 := E0'
    have i_this := is_ext x_48 i_this
    have i_p0 := is_ext x_48 i_p0
    have i_a1 := is_ext x_48 i_a1
    have iv := iv'
    refine v_aload_n C dX6_perform_51 rfl ?_
    refine g6_26 C i_this dX6_perform_52 ?_
    refine v_topi (fun v52 e_v52 => ?_)
    refine v_iret C hr (Nat.le_of_ble_eq_true rfl) (Nat.le_of_ble_eq_true rfl) dX6_perform_55 ?_
    exact ⟨_, rfl, iv, E0⟩
theorem dX9_play_0 : decode cX9_play 0 = .ok (.aload_n 0, 1) := by decide +kernel
theorem dX9_play_1 : decode cX9_play 1 = .ok (.getfield 10, 3) := by decide +kernel
theorem dX9_play_4 : decode cX9_play 4 = .ok (.iload_n 1, 1) := by decide +kernel
theorem dX9_play_5 : decode cX9_play 5 = .ok (.invokevirtual 55, 3) := by decide +kernel
theorem dX9_play_8 : decode cX9_play 8 = .ok (.astore 5, 2) := by decide +kernel
theorem dX9_play_10 : decode cX9_play 10 = .ok (.aload 5, 2) := by decide +kernel
theorem dX9_play_12 : decode cX9_play 12 = .ok (.ifnull 10, 3) := by decide +kernel
theorem dX9_play_15 : decode cX9_play 15 = .ok (.iload_n 2, 1) := by decide +kernel
theorem dX9_play_16 : decode cX9_play 16 = .ok (.invokestatic 80, 3) := by decide +kernel
theorem dX9_play_19 : decode cX9_play 19 = .ok (.ifCond .ne 8, 3) := by decide +kernel
theorem dX9_play_22 : decode cX9_play 22 = .ok (.bipush (-2), 2) := by decide +kernel
theorem dX9_play_24 : decode cX9_play 24 = .ok (.goto 14, 3) := by decide +kernel
theorem dX9_play_27 : decode cX9_play 27 = .ok (.aload_n 0, 1) := by decide +kernel
theorem dX9_play_28 : decode cX9_play 28 = .ok (.getfield 21, 3) := by decide +kernel
theorem dX9_play_31 : decode cX9_play 31 = .ok (.aload 5, 2) := by decide +kernel
theorem dX9_play_33 : decode cX9_play 33 = .ok (.iload_n 2, 1) := by decide +kernel
theorem dX9_play_34 : decode cX9_play 34 = .ok (.lload_n 3, 1) := by decide +kernel
theorem dX9_play_35 : decode cX9_play 35 = .ok (.invokevirtual 173, 3) := by decide +kernel
theorem dX9_play_38 : decode cX9_play 38 = .ok (.ireturn, 1) := by decide +kernel
set_option maxRecDepth 100000 in
set_option maxHeartbeats 4000000 in
theorem st_X9_play (l : Launch) (M : Nat → Prop) (h : Nat) (p0 : Int32) (p1 : Int32) (p2 : Int64) : Ct l yX9_play cX9_play 6 (some .int) 166 0 0 5145 (fun S av => av = [.ref h, .int p0, .int p1, .long p2] ∧ INV M [] S ∧ is S h 9) (fun S _ r S' => ∃ v, r = some (.int v) ∧ INV M [] S' ∧ ext S S' (fun a => ¬ M a ∧ mK S a ∈ [0, 6, 7, 12])) := by
  refine ct_of (by decide) (fun S av h => by obtain ⟨rfl, iv, i_this⟩ := h; exact Nat.le_of_ble_eq_true rfl) ?_
  intro p e s m args below meth c D G bs S av C hr hin hpre
  obtain ⟨rfl, iv, i_this⟩ := hpre
  have E0 : ext S S (fun a => ¬ M a ∧ mK S a ∈ [0, 6, 7, 12]) := ext_rfl
  refine v_aload_n C dX9_play_0 rfl ?_
  obtain ⟨a1, e_a1, i_a1⟩ := T576 iv i_this List.not_mem_nil
  refine r9_10 (b := a1) C i_this e_a1 dX9_play_1 ?_
  refine v_iload_n C dX9_play_4 rfl ?_
  refine v_callV (As := [_]) (n := 1) C (st_X1_figureAt l _ _ _) rfl i_a1 (by decide) rfl ⟨wd300, wd301, wd302, wd15, wd303⟩ ⟨rfl, hy_X1_figureAt⟩ rfl ⟨Nat.le_of_ble_eq_true rfl, Nat.le_of_ble_eq_true rfl⟩ (Nat.le_of_ble_eq_true rfl) ⟨Nat.le_of_ble_eq_true rfl, Nat.le_of_ble_eq_true rfl⟩ dX9_play_5 ⟨rfl, iv, i_a1⟩ (fun r_5 S2_5 h_5 => ?_)
  obtain ⟨v5, rfl, n_v5, q_v5⟩ := h_5
  obtain rfl := q_v5.symm
  refine v_qstore C dX9_play_8 (by decide) (by first | rfl | exact cat_ok _ | simp [okS, cat_rf]) ?_
  refine v_qload C dX9_play_10 rfl ?_
  refine v_ifnull (tgt := 22) C dX9_play_12 (by decide) (fun c_12 => ?_) (fun b12 c_12 => ?_)
  · skip
    subst c_12
    refine v_bipush (v := -2) C dX9_play_22 (by decide) ?_
    refine v_goto (tgt := 38) C dX9_play_24 (by decide) ?_
    refine v_iret C hr (Nat.le_of_ble_eq_true rfl) (Nat.le_of_ble_eq_true rfl) dX9_play_38 ?_
    exact ⟨_, rfl, iv, E0⟩
  · skip
    subst c_12
    have i_b12 := nOK_some n_v5 rfl
    refine v_iload_n C dX9_play_15 rfl ?_
    refine v_callS (As := [_]) (n := 1) C (sb_isAct l _) rfl ⟨wd345, wd346, wd2, wd347⟩ hy_X9_isAct rfl ⟨Nat.le_of_ble_eq_true rfl, Nat.le_of_ble_eq_true rfl⟩ (Nat.le_of_ble_eq_true rfl) ⟨Nat.le_of_ble_eq_true rfl, Nat.le_of_ble_eq_true rfl⟩ dX9_play_16 rfl (fun r_16 S4_16 h_16 => ?_)
    obtain ⟨v16, rfl, p_v16, q_v16⟩ := h_16
    obtain rfl := q_v16.symm
    refine v_if_ne (tgt := 27) C dX9_play_19 (by decide) (fun c_19 => ?_) (fun c_19 => ?_)
    · skip
      refine v_aload_n C dX9_play_27 rfl ?_
      obtain ⟨a28, e_a28, i_a28⟩ := T577 iv i_this List.not_mem_nil
      refine r9_21 (b := a28) C i_this e_a28 dX9_play_28 ?_
      refine v_aload C dX9_play_31 rfl ?_
      refine v_iload_n C dX9_play_33 rfl ?_
      refine v_lload_n C dX9_play_34 rfl ?_
      refine v_callV (As := [_, _, _]) (n := 3) C (st_X6_perform l _ _ _ _ _) rfl i_a28 (by decide) rfl ⟨wd716, wd717, wd718, wd19, wd719⟩ ⟨rfl, hy_X6_perform⟩ rfl ⟨Nat.le_of_ble_eq_true rfl, Nat.le_of_ble_eq_true rfl⟩ (Nat.le_of_ble_eq_true rfl) ⟨Nat.le_of_ble_eq_true rfl, Nat.le_of_ble_eq_true rfl⟩ dX9_play_35 ⟨rfl, iv, i_a28, i_b12⟩ (fun r_35 S6_35 h_35 => ?_)
      obtain ⟨v35, rfl, iv2, x_35⟩ := h_35
      have i_this := is_ext x_35 i_this
      have i_a1 := is_ext x_35 i_a1
      have i_b12 := is_ext x_35 i_b12
      have i_a28 := is_ext x_35 i_a28
      have E0' := ext_tr E0 x_35 (xk_call E0 (by decide))
      have E0 := E0'
      have iv := iv2
      refine v_iret C hr (Nat.le_of_ble_eq_true rfl) (Nat.le_of_ble_eq_true rfl) dX9_play_38 ?_
      exact ⟨_, rfl, iv, E0⟩
    · skip
      refine v_bipush (v := -2) C dX9_play_22 (by decide) ?_
      refine v_goto (tgt := 38) C dX9_play_24 (by decide) ?_
      refine v_iret C hr (Nat.le_of_ble_eq_true rfl) (Nat.le_of_ble_eq_true rfl) dX9_play_38 ?_
      exact ⟨_, rfl, iv, E0⟩
