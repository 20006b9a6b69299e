/-- the reference's cells -/
def mdK (S : Mem) (m : Nat) (ad : Nat → Nat) : Prop := is S m 10 ∧ ∀ q ∈ mTab, mO S (640 + q.1) m = some (ad q.1) ∧ isA S (ad q.1) q.2.1 q.2.2
theorem mdK_same {S S' : Mem} {m : Nat} {ad : Nat → Nat} (e : same S S') (k : mdK S m ad) : mdK S' m ad := ⟨is_same e k.1, fun q hq => ⟨by rw [e.2.2.2]; exact (k.2 q hq).1, isA_same e (k.2 q hq).2⟩⟩
/-- nothing has been done with it -/
def mdNew (S : Mem) (m : Nat) (ad : Nat → Nat) : Prop := is S m 10 ∧ mdK S m ad ∧ (∀ q ∈ mTab, ∀ i, mA S (ad q.1) i = 0) ∧ (∀ g, g ≠ 659 → 640 ≤ g → g < 704 → mI S g m = 0) ∧ mI S 659 m = -1 ∧ ∀ g, mJ S g m = 0
def inB (v lo hi : Int32) : Bool := decide (lo ≤ v) && decide (v ≤ hi)
theorem inB_isB (a : Int32) {hi b : Int32} (h : hi.toInt + 1 = b.toInt) : inB a 0 hi = isB a b := by
  have e : (a ≤ hi) ↔ (a < b) := by rw [Int32.le_iff_toInt_le, Int32.lt_iff_toInt_lt]; omega
  unfold inB isB
  rw [decide_eq_decide.mpr e]
theorem in0 (a : Int32) : inB a 0 (0 - 1) = false := by
  simp only [inB, Bool.and_eq_false_imp, decide_eq_true_eq, decide_eq_false_iff_not]
  intro h z
  have h1 : 0 ≤ a.toInt := Int32.le_iff_toInt_le.mp h
  have h2 : a.toInt ≤ -1 := Int32.le_iff_toInt_le.mp z
  omega
theorem dX10_in_0 : decode cX10_in 0 = .ok (.iload_n 0, 1) := by decide +kernel
theorem dX10_in_1 : decode cX10_in 1 = .ok (.iload_n 1, 1) := by decide +kernel
theorem dX10_in_2 : decode cX10_in 2 = .ok (.if_icmp .lt 12, 3) := by decide +kernel
theorem dX10_in_5 : decode cX10_in 5 = .ok (.iload_n 0, 1) := by decide +kernel
theorem dX10_in_6 : decode cX10_in 6 = .ok (.iload_n 2, 1) := by decide +kernel
theorem dX10_in_7 : decode cX10_in 7 = .ok (.if_icmp .gt 7, 3) := by decide +kernel
theorem dX10_in_10 : decode cX10_in 10 = .ok (.iconst 1, 1) := by decide +kernel
theorem dX10_in_11 : decode cX10_in 11 = .ok (.goto 4, 3) := by decide +kernel
theorem dX10_in_14 : decode cX10_in 14 = .ok (.iconst 0, 1) := by decide +kernel
theorem dX10_in_15 : decode cX10_in 15 = .ok (.ireturn, 1) := by decide +kernel
set_option maxRecDepth 100000 in
set_option maxHeartbeats 4000000 in
theorem ct_X10_in (l : Launch) (v a b : Int32) : Ct l yX10_in cX10_in 3 (some .boolean) 0 0 0 0 (fun _ av => av = [.int v, .int a, .int b]) (fun S _ r S' => r = some (.int (bI (inB v a b))) ∧ S' = S) := by
  refine ct_of (by decide) (fun S av h => by obtain rfl := h; exact Nat.le_of_ble_eq_true rfl) ?_
  intro p e s m args below meth c D G bs S av C hr hin hpre
  obtain rfl := hpre
  refine v_iload_n C dX10_in_0 rfl ?_
  refine v_iload_n C dX10_in_1 rfl ?_
  refine v_icmp_lt (tgt := 14) C dX10_in_2 (by decide) (fun c_2 => ?_) (fun c_2 => ?_)
  · skip
    refine v_iconst (v := 0) C dX10_in_14 (by decide) ?_
    refine v_zret C hr rfl (Nat.le_of_ble_eq_true rfl) (Nat.le_of_ble_eq_true rfl) dX10_in_15 ?_
    refine ⟨?_, rfl⟩
    first
      | (rw [show inB v a b = true from by simp only [inB, Bool.and_eq_true, decide_eq_true_eq]; exact ⟨Int32.not_lt.mp c_2, Int32.not_lt.mp c_7⟩]; rfl)
      | (rw [show inB v a b = false from by simp only [inB, Bool.and_eq_false_imp, decide_eq_true_eq, decide_eq_false_iff_not]; exact fun _ => Int32.not_le.mpr c_7]; rfl)
      | (rw [show inB v a b = false from by simp only [inB, Bool.and_eq_false_imp, decide_eq_true_eq, decide_eq_false_iff_not]; exact fun z => absurd c_2 (Int32.not_lt.mpr z)]; rfl)
  · skip
    refine v_iload_n C dX10_in_5 rfl ?_
    refine v_iload_n C dX10_in_6 rfl ?_
    refine v_icmp_gt (tgt := 14) C dX10_in_7 (by decide) (fun c_7 => ?_) (fun c_7 => ?_)
    · skip
      refine v_iconst (v := 0) C dX10_in_14 (by decide) ?_
      refine v_zret C hr rfl (Nat.le_of_ble_eq_true rfl) (Nat.le_of_ble_eq_true rfl) dX10_in_15 ?_
      refine ⟨?_, rfl⟩
      first
        | (rw [show inB v a b = true from by simp only [inB, Bool.and_eq_true, decide_eq_true_eq]; exact ⟨Int32.not_lt.mp c_2, Int32.not_lt.mp c_7⟩]; rfl)
        | (rw [show inB v a b = false from by simp only [inB, Bool.and_eq_false_imp, decide_eq_true_eq, decide_eq_false_iff_not]; exact fun _ => Int32.not_le.mpr c_7]; rfl)
        | (rw [show inB v a b = false from by simp only [inB, Bool.and_eq_false_imp, decide_eq_true_eq, decide_eq_false_iff_not]; exact fun z => absurd c_2 (Int32.not_lt.mpr z)]; rfl)
    · skip
      refine v_iconst (v := 1) C dX10_in_10 (by decide) ?_
      refine v_goto (tgt := 15) C dX10_in_11 (by decide) ?_
      refine v_zret C hr rfl (Nat.le_of_ble_eq_true rfl) (Nat.le_of_ble_eq_true rfl) dX10_in_15 ?_
      refine ⟨?_, rfl⟩
      first
        | (rw [show inB v a b = true from by simp only [inB, Bool.and_eq_true, decide_eq_true_eq]; exact ⟨Int32.not_lt.mp c_2, Int32.not_lt.mp c_7⟩]; rfl)
        | (rw [show inB v a b = false from by simp only [inB, Bool.and_eq_false_imp, decide_eq_true_eq, decide_eq_false_iff_not]; exact fun _ => Int32.not_le.mpr c_7]; rfl)
        | (rw [show inB v a b = false from by simp only [inB, Bool.and_eq_false_imp, decide_eq_true_eq, decide_eq_false_iff_not]; exact fun z => absurd c_2 (Int32.not_lt.mpr z)]; rfl)

theorem dX10_isAct_0 : decode cX10_isAct 0 = .ok (.iload_n 0, 1) := by decide +kernel
theorem dX10_isAct_1 : decode cX10_isAct 1 = .ok (.iconst 0, 1) := by decide +kernel
theorem dX10_isAct_2 : decode cX10_isAct 2 = .ok (.bipush 11, 2) := by decide +kernel
theorem dX10_isAct_4 : decode cX10_isAct 4 = .ok (.invokestatic 148, 3) := by decide +kernel
theorem dX10_isAct_7 : decode cX10_isAct 7 = .ok (.ireturn, 1) := by decide +kernel
set_option maxRecDepth 100000 in
set_option maxHeartbeats 4000000 in
theorem ct_X10_isAct (l : Launch) (a : Int32) : Ct l yX10_isAct cX10_isAct 1 (some .boolean) 1 0 0 22 (fun _ av => av = [.int a]) (fun S _ r S' => r = some (.int (bI (inB a 0 11))) ∧ S' = S) := by
  refine ct_of (by decide) (fun S av h => by obtain rfl := h; exact Nat.le_of_ble_eq_true rfl) ?_
  intro p e s m args below meth c D G bs S av C hr hin hpre
  obtain rfl := hpre
  refine v_iload_n C dX10_isAct_0 rfl ?_
  refine v_iconst (v := 0) C dX10_isAct_1 (by decide) ?_
  refine v_bipush (v := 11) C dX10_isAct_2 (by decide) ?_
  refine v_callS (As := [_, _, _]) (n := 3) C (ct_X10_in l _ _ _) rfl ⟨wd244, wd245, wd5, wd246⟩ hy_X10_in rfl ⟨Nat.le_of_ble_eq_true rfl, Nat.le_of_ble_eq_true rfl⟩ (Nat.le_of_ble_eq_true rfl) ⟨Nat.le_of_ble_eq_true rfl, Nat.le_of_ble_eq_true rfl⟩ dX10_isAct_4 rfl (fun r_4 S_4 h_4 => ?_)
  obtain ⟨rfl, q_4⟩ := h_4
  obtain rfl := q_4.symm
  refine v_zret C hr (bI_nar _) (Nat.le_of_ble_eq_true rfl) (Nat.le_of_ble_eq_true rfl) dX10_isAct_7 ?_
  exact ⟨rfl, rfl⟩

theorem dX10_isTrait_0 : decode cX10_isTrait 0 = .ok (.iload_n 1, 1) := by decide +kernel
theorem dX10_isTrait_1 : decode cX10_isTrait 1 = .ok (.iconst 0, 1) := by decide +kernel
theorem dX10_isTrait_2 : decode cX10_isTrait 2 = .ok (.aload_n 0, 1) := by decide +kernel
theorem dX10_isTrait_3 : decode cX10_isTrait 3 = .ok (.getfield 145, 3) := by decide +kernel
theorem dX10_isTrait_6 : decode cX10_isTrait 6 = .ok (.iconst 1, 1) := by decide +kernel
theorem dX10_isTrait_7 : decode cX10_isTrait 7 = .ok (.isub, 1) := by decide +kernel
theorem dX10_isTrait_8 : decode cX10_isTrait 8 = .ok (.invokestatic 148, 3) := by decide +kernel
theorem dX10_isTrait_11 : decode cX10_isTrait 11 = .ok (.ireturn, 1) := by decide +kernel
set_option maxRecDepth 100000 in
set_option maxHeartbeats 4000000 in
theorem ct_X10_isTrait (l : Launch) (m0 : Nat) (t : Int32) : Ct l yX10_isTrait cX10_isTrait 2 (some .boolean) 1 0 0 22 (fun S av => av = [.ref m0, .int t] ∧ is S m0 10 ∧ mI S 640 m0 = 0) (fun S _ r S' => r = some (.int 0) ∧ S' = S) := by
  refine ct_of (by decide) (fun S av h => by obtain ⟨rfl, hm, e_n⟩ := h; exact Nat.le_of_ble_eq_true rfl) ?_
  intro p e s m args below meth c D G bs S av C hr hin hpre
  obtain ⟨rfl, hm, e_n⟩ := hpre
  refine v_iload_n C dX10_isTrait_0 rfl ?_
  refine v_iconst (v := 0) C dX10_isTrait_1 (by decide) ?_
  refine v_aload_n C dX10_isTrait_2 rfl ?_
  refine g10_145 C hm dX10_isTrait_3 ?_
  rw [e_n]
  refine v_iconst (v := 1) C dX10_isTrait_6 (by decide) ?_
  refine v_isub C dX10_isTrait_7 ?_
  refine v_callS (As := [_, _, _]) (n := 3) C (ct_X10_in l _ _ _) rfl ⟨wd244, wd245, wd5, wd246⟩ hy_X10_in rfl ⟨Nat.le_of_ble_eq_true rfl, Nat.le_of_ble_eq_true rfl⟩ (Nat.le_of_ble_eq_true rfl) ⟨Nat.le_of_ble_eq_true rfl, Nat.le_of_ble_eq_true rfl⟩ dX10_isTrait_8 rfl (fun r_8 S_8 h_8 => ?_)
  obtain ⟨rfl, q_8⟩ := h_8
  obtain rfl := q_8.symm
  refine v_zret C hr (bI_nar _) (Nat.le_of_ble_eq_true rfl) (Nat.le_of_ble_eq_true rfl) dX10_isTrait_11 ?_
  exact ⟨by rw [in0]; rfl, rfl⟩

theorem dX10_isCharacter_0 : decode cX10_isCharacter 0 = .ok (.iload_n 1, 1) := by decide +kernel
theorem dX10_isCharacter_1 : decode cX10_isCharacter 1 = .ok (.iconst 0, 1) := by decide +kernel
theorem dX10_isCharacter_2 : decode cX10_isCharacter 2 = .ok (.aload_n 0, 1) := by decide +kernel
theorem dX10_isCharacter_3 : decode cX10_isCharacter 3 = .ok (.getfield 152, 3) := by decide +kernel
theorem dX10_isCharacter_6 : decode cX10_isCharacter 6 = .ok (.iconst 1, 1) := by decide +kernel
theorem dX10_isCharacter_7 : decode cX10_isCharacter 7 = .ok (.isub, 1) := by decide +kernel
theorem dX10_isCharacter_8 : decode cX10_isCharacter 8 = .ok (.invokestatic 148, 3) := by decide +kernel
theorem dX10_isCharacter_11 : decode cX10_isCharacter 11 = .ok (.ireturn, 1) := by decide +kernel
set_option maxRecDepth 100000 in
set_option maxHeartbeats 4000000 in
theorem ct_X10_isCharacter (l : Launch) (m0 : Nat) (t : Int32) : Ct l yX10_isCharacter cX10_isCharacter 2 (some .boolean) 1 0 0 22 (fun S av => av = [.ref m0, .int t] ∧ is S m0 10 ∧ mI S 643 m0 = 0) (fun S _ r S' => r = some (.int 0) ∧ S' = S) := by
  refine ct_of (by decide) (fun S av h => by obtain ⟨rfl, hm, e_n⟩ := h; exact Nat.le_of_ble_eq_true rfl) ?_
  intro p e s m args below meth c D G bs S av C hr hin hpre
  obtain ⟨rfl, hm, e_n⟩ := hpre
  refine v_iload_n C dX10_isCharacter_0 rfl ?_
  refine v_iconst (v := 0) C dX10_isCharacter_1 (by decide) ?_
  refine v_aload_n C dX10_isCharacter_2 rfl ?_
  refine g10_152 C hm dX10_isCharacter_3 ?_
  rw [e_n]
  refine v_iconst (v := 1) C dX10_isCharacter_6 (by decide) ?_
  refine v_isub C dX10_isCharacter_7 ?_
  refine v_callS (As := [_, _, _]) (n := 3) C (ct_X10_in l _ _ _) rfl ⟨wd244, wd245, wd5, wd246⟩ hy_X10_in rfl ⟨Nat.le_of_ble_eq_true rfl, Nat.le_of_ble_eq_true rfl⟩ (Nat.le_of_ble_eq_true rfl) ⟨Nat.le_of_ble_eq_true rfl, Nat.le_of_ble_eq_true rfl⟩ dX10_isCharacter_8 rfl (fun r_8 S_8 h_8 => ?_)
  obtain ⟨rfl, q_8⟩ := h_8
  obtain rfl := q_8.symm
  refine v_zret C hr (bI_nar _) (Nat.le_of_ble_eq_true rfl) (Nat.le_of_ble_eq_true rfl) dX10_isCharacter_11 ?_
  exact ⟨by rw [in0]; rfl, rfl⟩

theorem dX10_isOp_0 : decode cX10_isOp 0 = .ok (.iload_n 0, 1) := by decide +kernel
theorem dX10_isOp_1 : decode cX10_isOp 1 = .ok (.tableswitch 98 1 10 #[55, 55, 55, 98, 62, 98, 67, 75, 98, 62], 55) := by decide +kernel
theorem dX10_isOp_56 : decode cX10_isOp 56 = .ok (.iload_n 1, 1) := by decide +kernel
theorem dX10_isOp_57 : decode cX10_isOp 57 = .ok (.iconst 0, 1) := by decide +kernel
theorem dX10_isOp_58 : decode cX10_isOp 58 = .ok (.iconst 3, 1) := by decide +kernel
theorem dX10_isOp_59 : decode cX10_isOp 59 = .ok (.invokestatic 148, 3) := by decide +kernel
theorem dX10_isOp_62 : decode cX10_isOp 62 = .ok (.ireturn, 1) := by decide +kernel
theorem dX10_isOp_63 : decode cX10_isOp 63 = .ok (.iload_n 1, 1) := by decide +kernel
theorem dX10_isOp_64 : decode cX10_isOp 64 = .ok (.invokestatic 179, 3) := by decide +kernel
theorem dX10_isOp_67 : decode cX10_isOp 67 = .ok (.ireturn, 1) := by decide +kernel
theorem dX10_isOp_68 : decode cX10_isOp 68 = .ok (.iload_n 1, 1) := by decide +kernel
theorem dX10_isOp_69 : decode cX10_isOp 69 = .ok (.iconst 0, 1) := by decide +kernel
theorem dX10_isOp_70 : decode cX10_isOp 70 = .ok (.bipush 19, 2) := by decide +kernel
theorem dX10_isOp_72 : decode cX10_isOp 72 = .ok (.invokestatic 148, 3) := by decide +kernel
theorem dX10_isOp_75 : decode cX10_isOp 75 = .ok (.ireturn, 1) := by decide +kernel
theorem dX10_isOp_76 : decode cX10_isOp 76 = .ok (.iload_n 1, 1) := by decide +kernel
theorem dX10_isOp_77 : decode cX10_isOp 77 = .ok (.iconst 0, 1) := by decide +kernel
theorem dX10_isOp_78 : decode cX10_isOp 78 = .ok (.bipush 11, 2) := by decide +kernel
theorem dX10_isOp_80 : decode cX10_isOp 80 = .ok (.invokestatic 148, 3) := by decide +kernel
theorem dX10_isOp_83 : decode cX10_isOp 83 = .ok (.ifCond .eq 14, 3) := by decide +kernel
theorem dX10_isOp_86 : decode cX10_isOp 86 = .ok (.iload_n 2, 1) := by decide +kernel
theorem dX10_isOp_87 : decode cX10_isOp 87 = .ok (.invokestatic 179, 3) := by decide +kernel
theorem dX10_isOp_90 : decode cX10_isOp 90 = .ok (.ifCond .eq 7, 3) := by decide +kernel
theorem dX10_isOp_93 : decode cX10_isOp 93 = .ok (.iconst 1, 1) := by decide +kernel
theorem dX10_isOp_94 : decode cX10_isOp 94 = .ok (.goto 4, 3) := by decide +kernel
theorem dX10_isOp_97 : decode cX10_isOp 97 = .ok (.iconst 0, 1) := by decide +kernel
theorem dX10_isOp_98 : decode cX10_isOp 98 = .ok (.ireturn, 1) := by decide +kernel
theorem dX10_isOp_99 : decode cX10_isOp 99 = .ok (.iload_n 0, 1) := by decide +kernel
theorem dX10_isOp_100 : decode cX10_isOp 100 = .ok (.iconst 0, 1) := by decide +kernel
theorem dX10_isOp_101 : decode cX10_isOp 101 = .ok (.bipush 12, 2) := by decide +kernel
theorem dX10_isOp_103 : decode cX10_isOp 103 = .ok (.invokestatic 148, 3) := by decide +kernel
theorem dX10_isOp_106 : decode cX10_isOp 106 = .ok (.ireturn, 1) := by decide +kernel
set_option maxRecDepth 100000 in
set_option maxHeartbeats 4000000 in
theorem ct_X10_isOp (l : Launch) (k a b : Int32) : Ct l yX10_isOp cX10_isOp 3 (some .boolean) 2 0 0 42 (fun _ av => av = [.int k, .int a, .int b]) (fun S _ r S' => r = some (.int (bI (isOpB k a b))) ∧ S' = S) := by
  refine ct_of (by decide) (fun S av h => by obtain rfl := h; exact Nat.le_of_ble_eq_true rfl) ?_
  intro p e s m args below meth c D G bs S av C hr hin hpre
  obtain rfl := hpre
  refine v_iload_n C dX10_isOp_0 rfl ?_
  by_cases k_1 : k = 1
  · skip
    refine v_tableIn (off := 55) (tgt := 56) C dX10_isOp_1 (by rw [k_1]; decide) (by rw [k_1]; decide) (by rw [k_1]; rfl) (by decide) ?_
    refine v_iload_n C dX10_isOp_56 rfl ?_
    refine v_iconst (v := 0) C dX10_isOp_57 (by decide) ?_
    refine v_iconst (v := 3) C dX10_isOp_58 (by decide) ?_
    refine v_callS (As := [_, _, _]) (n := 3) C (ct_X10_in l _ _ _) rfl ⟨wd244, wd245, wd5, wd246⟩ hy_X10_in rfl ⟨Nat.le_of_ble_eq_true rfl, Nat.le_of_ble_eq_true rfl⟩ (Nat.le_of_ble_eq_true rfl) ⟨Nat.le_of_ble_eq_true rfl, Nat.le_of_ble_eq_true rfl⟩ dX10_isOp_59 rfl (fun r_59 S_59 h_59 => ?_)
    obtain ⟨rfl, q_59⟩ := h_59
    obtain rfl := q_59.symm
    refine v_zret C hr (bI_nar _) (Nat.le_of_ble_eq_true rfl) (Nat.le_of_ble_eq_true rfl) dX10_isOp_62 ?_
    refine ⟨?_, rfl⟩
    first
      | rw [opB_4 (Or.inl k_1), inB_isB a (b := 4) rfl]
      | rw [opB_4 (Or.inr (Or.inl k_2)), inB_isB a (b := 4) rfl]
      | rw [opB_4 (Or.inr (Or.inr k_3)), inB_isB a (b := 4) rfl]
      | rw [opB_12 (Or.inl k_5), inB_isB a (b := 12) rfl]
      | rw [opB_12 (Or.inr k_10), inB_isB a (b := 12) rfl]
      | rw [opB_20 k_7, inB_isB a (b := 20) rfl]
      | (rw [opB_8 k_8, ← inB_isB a (hi := 11) (b := 12) rfl, ← inB_isB b (hi := 11) (b := 12) rfl, bI_t c_83, bI_t c_90]; rfl)
      | (rw [opB_8 k_8, ← inB_isB b (hi := 11) (b := 12) rfl, bI_f c_90, Bool.and_false]; rfl)
      | (rw [opB_8 k_8, ← inB_isB a (hi := 11) (b := 12) rfl, bI_f c_83, Bool.false_and]; rfl)
      | rw [opB_13 k_1 k_2 k_3 k_5 k_7 k_8 k_10, inB_isB k (b := 13) rfl]
      | (subst k_4; rfl)
      | (subst k_6; rfl)
      | (subst k_9; rfl)
  by_cases k_2 : k = 2
  · skip
    refine v_tableIn (off := 55) (tgt := 56) C dX10_isOp_1 (by rw [k_2]; decide) (by rw [k_2]; decide) (by rw [k_2]; rfl) (by decide) ?_
    refine v_iload_n C dX10_isOp_56 rfl ?_
    refine v_iconst (v := 0) C dX10_isOp_57 (by decide) ?_
    refine v_iconst (v := 3) C dX10_isOp_58 (by decide) ?_
    refine v_callS (As := [_, _, _]) (n := 3) C (ct_X10_in l _ _ _) rfl ⟨wd244, wd245, wd5, wd246⟩ hy_X10_in rfl ⟨Nat.le_of_ble_eq_true rfl, Nat.le_of_ble_eq_true rfl⟩ (Nat.le_of_ble_eq_true rfl) ⟨Nat.le_of_ble_eq_true rfl, Nat.le_of_ble_eq_true rfl⟩ dX10_isOp_59 rfl (fun r_59 S_59 h_59 => ?_)
    obtain ⟨rfl, q_59⟩ := h_59
    obtain rfl := q_59.symm
    refine v_zret C hr (bI_nar _) (Nat.le_of_ble_eq_true rfl) (Nat.le_of_ble_eq_true rfl) dX10_isOp_62 ?_
    refine ⟨?_, rfl⟩
    first
      | rw [opB_4 (Or.inl k_1), inB_isB a (b := 4) rfl]
      | rw [opB_4 (Or.inr (Or.inl k_2)), inB_isB a (b := 4) rfl]
      | rw [opB_4 (Or.inr (Or.inr k_3)), inB_isB a (b := 4) rfl]
      | rw [opB_12 (Or.inl k_5), inB_isB a (b := 12) rfl]
      | rw [opB_12 (Or.inr k_10), inB_isB a (b := 12) rfl]
      | rw [opB_20 k_7, inB_isB a (b := 20) rfl]
      | (rw [opB_8 k_8, ← inB_isB a (hi := 11) (b := 12) rfl, ← inB_isB b (hi := 11) (b := 12) rfl, bI_t c_83, bI_t c_90]; rfl)
      | (rw [opB_8 k_8, ← inB_isB b (hi := 11) (b := 12) rfl, bI_f c_90, Bool.and_false]; rfl)
      | (rw [opB_8 k_8, ← inB_isB a (hi := 11) (b := 12) rfl, bI_f c_83, Bool.false_and]; rfl)
      | rw [opB_13 k_1 k_2 k_3 k_5 k_7 k_8 k_10, inB_isB k (b := 13) rfl]
      | (subst k_4; rfl)
      | (subst k_6; rfl)
      | (subst k_9; rfl)
  by_cases k_3 : k = 3
  · skip
    refine v_tableIn (off := 55) (tgt := 56) C dX10_isOp_1 (by rw [k_3]; decide) (by rw [k_3]; decide) (by rw [k_3]; rfl) (by decide) ?_
    refine v_iload_n C dX10_isOp_56 rfl ?_
    refine v_iconst (v := 0) C dX10_isOp_57 (by decide) ?_
    refine v_iconst (v := 3) C dX10_isOp_58 (by decide) ?_
    refine v_callS (As := [_, _, _]) (n := 3) C (ct_X10_in l _ _ _) rfl ⟨wd244, wd245, wd5, wd246⟩ hy_X10_in rfl ⟨Nat.le_of_ble_eq_true rfl, Nat.le_of_ble_eq_true rfl⟩ (Nat.le_of_ble_eq_true rfl) ⟨Nat.le_of_ble_eq_true rfl, Nat.le_of_ble_eq_true rfl⟩ dX10_isOp_59 rfl (fun r_59 S_59 h_59 => ?_)
    obtain ⟨rfl, q_59⟩ := h_59
    obtain rfl := q_59.symm
    refine v_zret C hr (bI_nar _) (Nat.le_of_ble_eq_true rfl) (Nat.le_of_ble_eq_true rfl) dX10_isOp_62 ?_
    refine ⟨?_, rfl⟩
    first
      | rw [opB_4 (Or.inl k_1), inB_isB a (b := 4) rfl]
      | rw [opB_4 (Or.inr (Or.inl k_2)), inB_isB a (b := 4) rfl]
      | rw [opB_4 (Or.inr (Or.inr k_3)), inB_isB a (b := 4) rfl]
      | rw [opB_12 (Or.inl k_5), inB_isB a (b := 12) rfl]
      | rw [opB_12 (Or.inr k_10), inB_isB a (b := 12) rfl]
      | rw [opB_20 k_7, inB_isB a (b := 20) rfl]
      | (rw [opB_8 k_8, ← inB_isB a (hi := 11) (b := 12) rfl, ← inB_isB b (hi := 11) (b := 12) rfl, bI_t c_83, bI_t c_90]; rfl)
      | (rw [opB_8 k_8, ← inB_isB b (hi := 11) (b := 12) rfl, bI_f c_90, Bool.and_false]; rfl)
      | (rw [opB_8 k_8, ← inB_isB a (hi := 11) (b := 12) rfl, bI_f c_83, Bool.false_and]; rfl)
      | rw [opB_13 k_1 k_2 k_3 k_5 k_7 k_8 k_10, inB_isB k (b := 13) rfl]
      | (subst k_4; rfl)
      | (subst k_6; rfl)
      | (subst k_9; rfl)
  by_cases k_4 : k = 4
  · skip
    refine v_tableIn (off := 98) (tgt := 99) C dX10_isOp_1 (by rw [k_4]; decide) (by rw [k_4]; decide) (by rw [k_4]; rfl) (by decide) ?_
    refine v_iload_n C dX10_isOp_99 rfl ?_
    refine v_iconst (v := 0) C dX10_isOp_100 (by decide) ?_
    refine v_bipush (v := 12) C dX10_isOp_101 (by decide) ?_
    refine v_callS (As := [_, _, _]) (n := 3) C (ct_X10_in l _ _ _) rfl ⟨wd244, wd245, wd5, wd246⟩ hy_X10_in rfl ⟨Nat.le_of_ble_eq_true rfl, Nat.le_of_ble_eq_true rfl⟩ (Nat.le_of_ble_eq_true rfl) ⟨Nat.le_of_ble_eq_true rfl, Nat.le_of_ble_eq_true rfl⟩ dX10_isOp_103 rfl (fun r_103 S_103 h_103 => ?_)
    obtain ⟨rfl, q_103⟩ := h_103
    obtain rfl := q_103.symm
    refine v_zret C hr (bI_nar _) (Nat.le_of_ble_eq_true rfl) (Nat.le_of_ble_eq_true rfl) dX10_isOp_106 ?_
    refine ⟨?_, rfl⟩
    first
      | rw [opB_4 (Or.inl k_1), inB_isB a (b := 4) rfl]
      | rw [opB_4 (Or.inr (Or.inl k_2)), inB_isB a (b := 4) rfl]
      | rw [opB_4 (Or.inr (Or.inr k_3)), inB_isB a (b := 4) rfl]
      | rw [opB_12 (Or.inl k_5), inB_isB a (b := 12) rfl]
      | rw [opB_12 (Or.inr k_10), inB_isB a (b := 12) rfl]
      | rw [opB_20 k_7, inB_isB a (b := 20) rfl]
      | (rw [opB_8 k_8, ← inB_isB a (hi := 11) (b := 12) rfl, ← inB_isB b (hi := 11) (b := 12) rfl, bI_t c_83, bI_t c_90]; rfl)
      | (rw [opB_8 k_8, ← inB_isB b (hi := 11) (b := 12) rfl, bI_f c_90, Bool.and_false]; rfl)
      | (rw [opB_8 k_8, ← inB_isB a (hi := 11) (b := 12) rfl, bI_f c_83, Bool.false_and]; rfl)
      | rw [opB_13 k_1 k_2 k_3 k_5 k_7 k_8 k_10, inB_isB k (b := 13) rfl]
      | (subst k_4; rfl)
      | (subst k_6; rfl)
      | (subst k_9; rfl)
  by_cases k_5 : k = 5
  · skip
    refine v_tableIn (off := 62) (tgt := 63) C dX10_isOp_1 (by rw [k_5]; decide) (by rw [k_5]; decide) (by rw [k_5]; rfl) (by decide) ?_
    refine v_iload_n C dX10_isOp_63 rfl ?_
    refine v_callS (As := [_]) (n := 1) C (ct_X10_isAct l _) rfl ⟨wd368, wd369, wd5, wd370⟩ hy_X10_isAct rfl ⟨Nat.le_of_ble_eq_true rfl, Nat.le_of_ble_eq_true rfl⟩ (Nat.le_of_ble_eq_true rfl) ⟨Nat.le_of_ble_eq_true rfl, Nat.le_of_ble_eq_true rfl⟩ dX10_isOp_64 rfl (fun r_64 S_64 h_64 => ?_)
    obtain ⟨rfl, q_64⟩ := h_64
    obtain rfl := q_64.symm
    refine v_zret C hr (bI_nar _) (Nat.le_of_ble_eq_true rfl) (Nat.le_of_ble_eq_true rfl) dX10_isOp_67 ?_
    refine ⟨?_, rfl⟩
    first
      | rw [opB_4 (Or.inl k_1), inB_isB a (b := 4) rfl]
      | rw [opB_4 (Or.inr (Or.inl k_2)), inB_isB a (b := 4) rfl]
      | rw [opB_4 (Or.inr (Or.inr k_3)), inB_isB a (b := 4) rfl]
      | rw [opB_12 (Or.inl k_5), inB_isB a (b := 12) rfl]
      | rw [opB_12 (Or.inr k_10), inB_isB a (b := 12) rfl]
      | rw [opB_20 k_7, inB_isB a (b := 20) rfl]
      | (rw [opB_8 k_8, ← inB_isB a (hi := 11) (b := 12) rfl, ← inB_isB b (hi := 11) (b := 12) rfl, bI_t c_83, bI_t c_90]; rfl)
      | (rw [opB_8 k_8, ← inB_isB b (hi := 11) (b := 12) rfl, bI_f c_90, Bool.and_false]; rfl)
      | (rw [opB_8 k_8, ← inB_isB a (hi := 11) (b := 12) rfl, bI_f c_83, Bool.false_and]; rfl)
      | rw [opB_13 k_1 k_2 k_3 k_5 k_7 k_8 k_10, inB_isB k (b := 13) rfl]
      | (subst k_4; rfl)
      | (subst k_6; rfl)
      | (subst k_9; rfl)
  by_cases k_6 : k = 6
  · skip
    refine v_tableIn (off := 98) (tgt := 99) C dX10_isOp_1 (by rw [k_6]; decide) (by rw [k_6]; decide) (by rw [k_6]; rfl) (by decide) ?_
    refine v_iload_n C dX10_isOp_99 rfl ?_
    refine v_iconst (v := 0) C dX10_isOp_100 (by decide) ?_
    refine v_bipush (v := 12) C dX10_isOp_101 (by decide) ?_
    refine v_callS (As := [_, _, _]) (n := 3) C (ct_X10_in l _ _ _) rfl ⟨wd244, wd245, wd5, wd246⟩ hy_X10_in rfl ⟨Nat.le_of_ble_eq_true rfl, Nat.le_of_ble_eq_true rfl⟩ (Nat.le_of_ble_eq_true rfl) ⟨Nat.le_of_ble_eq_true rfl, Nat.le_of_ble_eq_true rfl⟩ dX10_isOp_103 rfl (fun r_103 S_103 h_103 => ?_)
    obtain ⟨rfl, q_103⟩ := h_103
    obtain rfl := q_103.symm
    refine v_zret C hr (bI_nar _) (Nat.le_of_ble_eq_true rfl) (Nat.le_of_ble_eq_true rfl) dX10_isOp_106 ?_
    refine ⟨?_, rfl⟩
    first
      | rw [opB_4 (Or.inl k_1), inB_isB a (b := 4) rfl]
      | rw [opB_4 (Or.inr (Or.inl k_2)), inB_isB a (b := 4) rfl]
      | rw [opB_4 (Or.inr (Or.inr k_3)), inB_isB a (b := 4) rfl]
      | rw [opB_12 (Or.inl k_5), inB_isB a (b := 12) rfl]
      | rw [opB_12 (Or.inr k_10), inB_isB a (b := 12) rfl]
      | rw [opB_20 k_7, inB_isB a (b := 20) rfl]
      | (rw [opB_8 k_8, ← inB_isB a (hi := 11) (b := 12) rfl, ← inB_isB b (hi := 11) (b := 12) rfl, bI_t c_83, bI_t c_90]; rfl)
      | (rw [opB_8 k_8, ← inB_isB b (hi := 11) (b := 12) rfl, bI_f c_90, Bool.and_false]; rfl)
      | (rw [opB_8 k_8, ← inB_isB a (hi := 11) (b := 12) rfl, bI_f c_83, Bool.false_and]; rfl)
      | rw [opB_13 k_1 k_2 k_3 k_5 k_7 k_8 k_10, inB_isB k (b := 13) rfl]
      | (subst k_4; rfl)
      | (subst k_6; rfl)
      | (subst k_9; rfl)
  by_cases k_7 : k = 7
  · skip
    refine v_tableIn (off := 67) (tgt := 68) C dX10_isOp_1 (by rw [k_7]; decide) (by rw [k_7]; decide) (by rw [k_7]; rfl) (by decide) ?_
    refine v_iload_n C dX10_isOp_68 rfl ?_
    refine v_iconst (v := 0) C dX10_isOp_69 (by decide) ?_
    refine v_bipush (v := 19) C dX10_isOp_70 (by decide) ?_
    refine v_callS (As := [_, _, _]) (n := 3) C (ct_X10_in l _ _ _) rfl ⟨wd244, wd245, wd5, wd246⟩ hy_X10_in rfl ⟨Nat.le_of_ble_eq_true rfl, Nat.le_of_ble_eq_true rfl⟩ (Nat.le_of_ble_eq_true rfl) ⟨Nat.le_of_ble_eq_true rfl, Nat.le_of_ble_eq_true rfl⟩ dX10_isOp_72 rfl (fun r_72 S_72 h_72 => ?_)
    obtain ⟨rfl, q_72⟩ := h_72
    obtain rfl := q_72.symm
    refine v_zret C hr (bI_nar _) (Nat.le_of_ble_eq_true rfl) (Nat.le_of_ble_eq_true rfl) dX10_isOp_75 ?_
    refine ⟨?_, rfl⟩
    first
      | rw [opB_4 (Or.inl k_1), inB_isB a (b := 4) rfl]
      | rw [opB_4 (Or.inr (Or.inl k_2)), inB_isB a (b := 4) rfl]
      | rw [opB_4 (Or.inr (Or.inr k_3)), inB_isB a (b := 4) rfl]
      | rw [opB_12 (Or.inl k_5), inB_isB a (b := 12) rfl]
      | rw [opB_12 (Or.inr k_10), inB_isB a (b := 12) rfl]
      | rw [opB_20 k_7, inB_isB a (b := 20) rfl]
      | (rw [opB_8 k_8, ← inB_isB a (hi := 11) (b := 12) rfl, ← inB_isB b (hi := 11) (b := 12) rfl, bI_t c_83, bI_t c_90]; rfl)
      | (rw [opB_8 k_8, ← inB_isB b (hi := 11) (b := 12) rfl, bI_f c_90, Bool.and_false]; rfl)
      | (rw [opB_8 k_8, ← inB_isB a (hi := 11) (b := 12) rfl, bI_f c_83, Bool.false_and]; rfl)
      | rw [opB_13 k_1 k_2 k_3 k_5 k_7 k_8 k_10, inB_isB k (b := 13) rfl]
      | (subst k_4; rfl)
      | (subst k_6; rfl)
      | (subst k_9; rfl)
  by_cases k_8 : k = 8
  · skip
    refine v_tableIn (off := 75) (tgt := 76) C dX10_isOp_1 (by rw [k_8]; decide) (by rw [k_8]; decide) (by rw [k_8]; rfl) (by decide) ?_
    refine v_iload_n C dX10_isOp_76 rfl ?_
    refine v_iconst (v := 0) C dX10_isOp_77 (by decide) ?_
    refine v_bipush (v := 11) C dX10_isOp_78 (by decide) ?_
    refine v_callS (As := [_, _, _]) (n := 3) C (ct_X10_in l _ _ _) rfl ⟨wd244, wd245, wd5, wd246⟩ hy_X10_in rfl ⟨Nat.le_of_ble_eq_true rfl, Nat.le_of_ble_eq_true rfl⟩ (Nat.le_of_ble_eq_true rfl) ⟨Nat.le_of_ble_eq_true rfl, Nat.le_of_ble_eq_true rfl⟩ dX10_isOp_80 rfl (fun r_80 S_80 h_80 => ?_)
    obtain ⟨rfl, q_80⟩ := h_80
    obtain rfl := q_80.symm
    refine v_if_eq (tgt := 97) C dX10_isOp_83 (by decide) (fun c_83 => ?_) (fun c_83 => ?_)
    · skip
      refine v_iconst (v := 0) C dX10_isOp_97 (by decide) ?_
      refine v_zret C hr rfl (Nat.le_of_ble_eq_true rfl) (Nat.le_of_ble_eq_true rfl) dX10_isOp_98 ?_
      refine ⟨?_, rfl⟩
      first
        | rw [opB_4 (Or.inl k_1), inB_isB a (b := 4) rfl]
        | rw [opB_4 (Or.inr (Or.inl k_2)), inB_isB a (b := 4) rfl]
        | rw [opB_4 (Or.inr (Or.inr k_3)), inB_isB a (b := 4) rfl]
        | rw [opB_12 (Or.inl k_5), inB_isB a (b := 12) rfl]
        | rw [opB_12 (Or.inr k_10), inB_isB a (b := 12) rfl]
        | rw [opB_20 k_7, inB_isB a (b := 20) rfl]
        | (rw [opB_8 k_8, ← inB_isB a (hi := 11) (b := 12) rfl, ← inB_isB b (hi := 11) (b := 12) rfl, bI_t c_83, bI_t c_90]; rfl)
        | (rw [opB_8 k_8, ← inB_isB b (hi := 11) (b := 12) rfl, bI_f c_90, Bool.and_false]; rfl)
        | (rw [opB_8 k_8, ← inB_isB a (hi := 11) (b := 12) rfl, bI_f c_83, Bool.false_and]; rfl)
        | rw [opB_13 k_1 k_2 k_3 k_5 k_7 k_8 k_10, inB_isB k (b := 13) rfl]
        | (subst k_4; rfl)
        | (subst k_6; rfl)
        | (subst k_9; rfl)
    · skip
      refine v_iload_n C dX10_isOp_86 rfl ?_
      refine v_callS (As := [_]) (n := 1) C (ct_X10_isAct l _) rfl ⟨wd368, wd369, wd5, wd370⟩ hy_X10_isAct rfl ⟨Nat.le_of_ble_eq_true rfl, Nat.le_of_ble_eq_true rfl⟩ (Nat.le_of_ble_eq_true rfl) ⟨Nat.le_of_ble_eq_true rfl, Nat.le_of_ble_eq_true rfl⟩ dX10_isOp_87 rfl (fun r_87 S_87 h_87 => ?_)
      obtain ⟨rfl, q_87⟩ := h_87
      obtain rfl := q_87.symm
      refine v_if_eq (tgt := 97) C dX10_isOp_90 (by decide) (fun c_90 => ?_) (fun c_90 => ?_)
      · skip
        refine v_iconst (v := 0) C dX10_isOp_97 (by decide) ?_
        refine v_zret C hr rfl (Nat.le_of_ble_eq_true rfl) (Nat.le_of_ble_eq_true rfl) dX10_isOp_98 ?_
        refine ⟨?_, rfl⟩
        first
          | rw [opB_4 (Or.inl k_1), inB_isB a (b := 4) rfl]
          | rw [opB_4 (Or.inr (Or.inl k_2)), inB_isB a (b := 4) rfl]
          | rw [opB_4 (Or.inr (Or.inr k_3)), inB_isB a (b := 4) rfl]
          | rw [opB_12 (Or.inl k_5), inB_isB a (b := 12) rfl]
          | rw [opB_12 (Or.inr k_10), inB_isB a (b := 12) rfl]
          | rw [opB_20 k_7, inB_isB a (b := 20) rfl]
          | (rw [opB_8 k_8, ← inB_isB a (hi := 11) (b := 12) rfl, ← inB_isB b (hi := 11) (b := 12) rfl, bI_t c_83, bI_t c_90]; rfl)
          | (rw [opB_8 k_8, ← inB_isB b (hi := 11) (b := 12) rfl, bI_f c_90, Bool.and_false]; rfl)
          | (rw [opB_8 k_8, ← inB_isB a (hi := 11) (b := 12) rfl, bI_f c_83, Bool.false_and]; rfl)
          | rw [opB_13 k_1 k_2 k_3 k_5 k_7 k_8 k_10, inB_isB k (b := 13) rfl]
          | (subst k_4; rfl)
          | (subst k_6; rfl)
          | (subst k_9; rfl)
      · skip
        refine v_iconst (v := 1) C dX10_isOp_93 (by decide) ?_
        refine v_goto (tgt := 98) C dX10_isOp_94 (by decide) ?_
        refine v_zret C hr rfl (Nat.le_of_ble_eq_true rfl) (Nat.le_of_ble_eq_true rfl) dX10_isOp_98 ?_
        refine ⟨?_, rfl⟩
        first
          | rw [opB_4 (Or.inl k_1), inB_isB a (b := 4) rfl]
          | rw [opB_4 (Or.inr (Or.inl k_2)), inB_isB a (b := 4) rfl]
          | rw [opB_4 (Or.inr (Or.inr k_3)), inB_isB a (b := 4) rfl]
          | rw [opB_12 (Or.inl k_5), inB_isB a (b := 12) rfl]
          | rw [opB_12 (Or.inr k_10), inB_isB a (b := 12) rfl]
          | rw [opB_20 k_7, inB_isB a (b := 20) rfl]
          | (rw [opB_8 k_8, ← inB_isB a (hi := 11) (b := 12) rfl, ← inB_isB b (hi := 11) (b := 12) rfl, bI_t c_83, bI_t c_90]; rfl)
          | (rw [opB_8 k_8, ← inB_isB b (hi := 11) (b := 12) rfl, bI_f c_90, Bool.and_false]; rfl)
          | (rw [opB_8 k_8, ← inB_isB a (hi := 11) (b := 12) rfl, bI_f c_83, Bool.false_and]; rfl)
          | rw [opB_13 k_1 k_2 k_3 k_5 k_7 k_8 k_10, inB_isB k (b := 13) rfl]
          | (subst k_4; rfl)
          | (subst k_6; rfl)
          | (subst k_9; rfl)
  by_cases k_9 : k = 9
  · skip
    refine v_tableIn (off := 98) (tgt := 99) C dX10_isOp_1 (by rw [k_9]; decide) (by rw [k_9]; decide) (by rw [k_9]; rfl) (by decide) ?_
    refine v_iload_n C dX10_isOp_99 rfl ?_
    refine v_iconst (v := 0) C dX10_isOp_100 (by decide) ?_
    refine v_bipush (v := 12) C dX10_isOp_101 (by decide) ?_
    refine v_callS (As := [_, _, _]) (n := 3) C (ct_X10_in l _ _ _) rfl ⟨wd244, wd245, wd5, wd246⟩ hy_X10_in rfl ⟨Nat.le_of_ble_eq_true rfl, Nat.le_of_ble_eq_true rfl⟩ (Nat.le_of_ble_eq_true rfl) ⟨Nat.le_of_ble_eq_true rfl, Nat.le_of_ble_eq_true rfl⟩ dX10_isOp_103 rfl (fun r_103 S_103 h_103 => ?_)
    obtain ⟨rfl, q_103⟩ := h_103
    obtain rfl := q_103.symm
    refine v_zret C hr (bI_nar _) (Nat.le_of_ble_eq_true rfl) (Nat.le_of_ble_eq_true rfl) dX10_isOp_106 ?_
    refine ⟨?_, rfl⟩
    first
      | rw [opB_4 (Or.inl k_1), inB_isB a (b := 4) rfl]
      | rw [opB_4 (Or.inr (Or.inl k_2)), inB_isB a (b := 4) rfl]
      | rw [opB_4 (Or.inr (Or.inr k_3)), inB_isB a (b := 4) rfl]
      | rw [opB_12 (Or.inl k_5), inB_isB a (b := 12) rfl]
      | rw [opB_12 (Or.inr k_10), inB_isB a (b := 12) rfl]
      | rw [opB_20 k_7, inB_isB a (b := 20) rfl]
      | (rw [opB_8 k_8, ← inB_isB a (hi := 11) (b := 12) rfl, ← inB_isB b (hi := 11) (b := 12) rfl, bI_t c_83, bI_t c_90]; rfl)
      | (rw [opB_8 k_8, ← inB_isB b (hi := 11) (b := 12) rfl, bI_f c_90, Bool.and_false]; rfl)
      | (rw [opB_8 k_8, ← inB_isB a (hi := 11) (b := 12) rfl, bI_f c_83, Bool.false_and]; rfl)
      | rw [opB_13 k_1 k_2 k_3 k_5 k_7 k_8 k_10, inB_isB k (b := 13) rfl]
      | (subst k_4; rfl)
      | (subst k_6; rfl)
      | (subst k_9; rfl)
  by_cases k_10 : k = 10
  · skip
    refine v_tableIn (off := 62) (tgt := 63) C dX10_isOp_1 (by rw [k_10]; decide) (by rw [k_10]; decide) (by rw [k_10]; rfl) (by decide) ?_
    refine v_iload_n C dX10_isOp_63 rfl ?_
    refine v_callS (As := [_]) (n := 1) C (ct_X10_isAct l _) rfl ⟨wd368, wd369, wd5, wd370⟩ hy_X10_isAct rfl ⟨Nat.le_of_ble_eq_true rfl, Nat.le_of_ble_eq_true rfl⟩ (Nat.le_of_ble_eq_true rfl) ⟨Nat.le_of_ble_eq_true rfl, Nat.le_of_ble_eq_true rfl⟩ dX10_isOp_64 rfl (fun r_64 S_64 h_64 => ?_)
    obtain ⟨rfl, q_64⟩ := h_64
    obtain rfl := q_64.symm
    refine v_zret C hr (bI_nar _) (Nat.le_of_ble_eq_true rfl) (Nat.le_of_ble_eq_true rfl) dX10_isOp_67 ?_
    refine ⟨?_, rfl⟩
    first
      | rw [opB_4 (Or.inl k_1), inB_isB a (b := 4) rfl]
      | rw [opB_4 (Or.inr (Or.inl k_2)), inB_isB a (b := 4) rfl]
      | rw [opB_4 (Or.inr (Or.inr k_3)), inB_isB a (b := 4) rfl]
      | rw [opB_12 (Or.inl k_5), inB_isB a (b := 12) rfl]
      | rw [opB_12 (Or.inr k_10), inB_isB a (b := 12) rfl]
      | rw [opB_20 k_7, inB_isB a (b := 20) rfl]
      | (rw [opB_8 k_8, ← inB_isB a (hi := 11) (b := 12) rfl, ← inB_isB b (hi := 11) (b := 12) rfl, bI_t c_83, bI_t c_90]; rfl)
      | (rw [opB_8 k_8, ← inB_isB b (hi := 11) (b := 12) rfl, bI_f c_90, Bool.and_false]; rfl)
      | (rw [opB_8 k_8, ← inB_isB a (hi := 11) (b := 12) rfl, bI_f c_83, Bool.false_and]; rfl)
      | rw [opB_13 k_1 k_2 k_3 k_5 k_7 k_8 k_10, inB_isB k (b := 13) rfl]
      | (subst k_4; rfl)
      | (subst k_6; rfl)
      | (subst k_9; rfl)
  refine v_tableOut (tgt := 99) C dX10_isOp_1 (by have q1 := lv_neT k_1 (a := 1) rfl ; have q2 := lv_neT k_2 (a := 2) rfl ; have q3 := lv_neT k_3 (a := 3) rfl ; have q4 := lv_neT k_4 (a := 4) rfl ; have q5 := lv_neT k_5 (a := 5) rfl ; have q6 := lv_neT k_6 (a := 6) rfl ; have q7 := lv_neT k_7 (a := 7) rfl ; have q8 := lv_neT k_8 (a := 8) rfl ; have q9 := lv_neT k_9 (a := 9) rfl ; have q10 := lv_neT k_10 (a := 10) rfl ; omega) (by decide) ?_
  refine v_iload_n C dX10_isOp_99 rfl ?_
  refine v_iconst (v := 0) C dX10_isOp_100 (by decide) ?_
  refine v_bipush (v := 12) C dX10_isOp_101 (by decide) ?_
  refine v_callS (As := [_, _, _]) (n := 3) C (ct_X10_in l _ _ _) rfl ⟨wd244, wd245, wd5, wd246⟩ hy_X10_in rfl ⟨Nat.le_of_ble_eq_true rfl, Nat.le_of_ble_eq_true rfl⟩ (Nat.le_of_ble_eq_true rfl) ⟨Nat.le_of_ble_eq_true rfl, Nat.le_of_ble_eq_true rfl⟩ dX10_isOp_103 rfl (fun r_103 S_103 h_103 => ?_)
  obtain ⟨rfl, q_103⟩ := h_103
  obtain rfl := q_103.symm
  refine v_zret C hr (bI_nar _) (Nat.le_of_ble_eq_true rfl) (Nat.le_of_ble_eq_true rfl) dX10_isOp_106 ?_
  refine ⟨?_, rfl⟩
  first
    | rw [opB_4 (Or.inl k_1), inB_isB a (b := 4) rfl]
    | rw [opB_4 (Or.inr (Or.inl k_2)), inB_isB a (b := 4) rfl]
    | rw [opB_4 (Or.inr (Or.inr k_3)), inB_isB a (b := 4) rfl]
    | rw [opB_12 (Or.inl k_5), inB_isB a (b := 12) rfl]
    | rw [opB_12 (Or.inr k_10), inB_isB a (b := 12) rfl]
    | rw [opB_20 k_7, inB_isB a (b := 20) rfl]
    | (rw [opB_8 k_8, ← inB_isB a (hi := 11) (b := 12) rfl, ← inB_isB b (hi := 11) (b := 12) rfl, bI_t c_83, bI_t c_90]; rfl)
    | (rw [opB_8 k_8, ← inB_isB b (hi := 11) (b := 12) rfl, bI_f c_90, Bool.and_false]; rfl)
    | (rw [opB_8 k_8, ← inB_isB a (hi := 11) (b := 12) rfl, bI_f c_83, Bool.false_and]; rfl)
    | rw [opB_13 k_1 k_2 k_3 k_5 k_7 k_8 k_10, inB_isB k (b := 13) rfl]
    | (subst k_4; rfl)
    | (subst k_6; rfl)
    | (subst k_9; rfl)

theorem dX10_body_0 : decode cX10_body 0 = .ok (.aload_n 0, 1) := by decide +kernel
theorem dX10_body_1 : decode cX10_body 1 = .ok (.iload_n 1, 1) := by decide +kernel
theorem dX10_body_2 : decode cX10_body 2 = .ok (.invokevirtual 166, 3) := by decide +kernel
theorem dX10_body_5 : decode cX10_body 5 = .ok (.ifCond .eq 29, 3) := by decide +kernel
theorem dX10_body_34 : decode cX10_body 34 = .ok (.bipush (-2), 2) := by decide +kernel
theorem dX10_body_36 : decode cX10_body 36 = .ok (.ireturn, 1) := by decide +kernel
set_option maxRecDepth 100000 in
set_option maxHeartbeats 4000000 in
theorem ct_X10_body (l : Launch) (m0 : Nat) (ad : Nat → Nat) (a0 : Int32) (a1 : Int32) (a2 : Int32) (a3 : Int32) : Ct l yX10_body cX10_body 6 (some .int) 2 0 0 43 (fun S av => av = [.ref m0, .int a0, .int a1, .int a2, .int a3] ∧ mdNew S m0 ad) (fun _ _ r _ => r = some (.int (-2))) := by
  refine ct_of (by decide) (fun S av h => by obtain ⟨rfl, hm, kK, kZ, hI, hL, hJ⟩ := h; exact Nat.le_of_ble_eq_true rfl) ?_
  intro p e s m args below meth c D G bs S av C hr hin hpre
  obtain ⟨rfl, hm, kK, kZ, hI, hL, hJ⟩ := hpre
  refine v_aload_n C dX10_body_0 rfl ?_
  refine v_iload_n C dX10_body_1 rfl ?_
  refine v_callV (As := [_]) (n := 1) C (ct_X10_isTrait l m0 _) rfl hm (by decide) rfl ⟨wd240, wd241, wd242, wd5, wd243⟩ ⟨rfl, hy_X10_isTrait⟩ rfl ⟨Nat.le_of_ble_eq_true rfl, Nat.le_of_ble_eq_true rfl⟩ (Nat.le_of_ble_eq_true rfl) ⟨Nat.le_of_ble_eq_true rfl, Nat.le_of_ble_eq_true rfl⟩ dX10_body_2 ⟨rfl, hm, hI 640 (by decide) (by decide) (by decide)⟩ (fun r_2 S_2 h_2 => ?_)
  obtain ⟨rfl, q_2⟩ := h_2
  obtain rfl := q_2.symm
  refine v_if_eq (tgt := 34) C dX10_body_5 (by decide) (fun c_5 => ?_) (fun c_5 => ?_)
  · skip
    refine v_bipush (v := -2) C dX10_body_34 (by decide) ?_
    refine v_iret C hr (Nat.le_of_ble_eq_true rfl) (Nat.le_of_ble_eq_true rfl) dX10_body_36 ?_
    rfl
  · skip
    exact absurd rfl c_5

theorem dX10_need_0 : decode cX10_need 0 = .ok (.aload_n 0, 1) := by decide +kernel
theorem dX10_need_1 : decode cX10_need 1 = .ok (.iload_n 1, 1) := by decide +kernel
theorem dX10_need_2 : decode cX10_need 2 = .ok (.invokevirtual 166, 3) := by decide +kernel
theorem dX10_need_5 : decode cX10_need 5 = .ok (.ifCond .eq 19, 3) := by decide +kernel
theorem dX10_need_24 : decode cX10_need 24 = .ok (.bipush (-2), 2) := by decide +kernel
theorem dX10_need_26 : decode cX10_need 26 = .ok (.ireturn, 1) := by decide +kernel
set_option maxRecDepth 100000 in
set_option maxHeartbeats 4000000 in
theorem ct_X10_need (l : Launch) (m0 : Nat) (ad : Nat → Nat) (a0 : Int32) (a1 : Int32) (a2 : Int32) : Ct l yX10_need cX10_need 5 (some .int) 2 0 0 43 (fun S av => av = [.ref m0, .int a0, .int a1, .int a2] ∧ mdNew S m0 ad) (fun _ _ r _ => r = some (.int (-2))) := by
  refine ct_of (by decide) (fun S av h => by obtain ⟨rfl, hm, kK, kZ, hI, hL, hJ⟩ := h; exact Nat.le_of_ble_eq_true rfl) ?_
  intro p e s m args below meth c D G bs S av C hr hin hpre
  obtain ⟨rfl, hm, kK, kZ, hI, hL, hJ⟩ := hpre
  refine v_aload_n C dX10_need_0 rfl ?_
  refine v_iload_n C dX10_need_1 rfl ?_
  refine v_callV (As := [_]) (n := 1) C (ct_X10_isTrait l m0 _) rfl hm (by decide) rfl ⟨wd240, wd241, wd242, wd5, wd243⟩ ⟨rfl, hy_X10_isTrait⟩ rfl ⟨Nat.le_of_ble_eq_true rfl, Nat.le_of_ble_eq_true rfl⟩ (Nat.le_of_ble_eq_true rfl) ⟨Nat.le_of_ble_eq_true rfl, Nat.le_of_ble_eq_true rfl⟩ dX10_need_2 ⟨rfl, hm, hI 640 (by decide) (by decide) (by decide)⟩ (fun r_2 S_2 h_2 => ?_)
  obtain ⟨rfl, q_2⟩ := h_2
  obtain rfl := q_2.symm
  refine v_if_eq (tgt := 24) C dX10_need_5 (by decide) (fun c_5 => ?_) (fun c_5 => ?_)
  · skip
    refine v_bipush (v := -2) C dX10_need_24 (by decide) ?_
    refine v_iret C hr (Nat.le_of_ble_eq_true rfl) (Nat.le_of_ble_eq_true rfl) dX10_need_26 ?_
    rfl
  · skip
    exact absurd rfl c_5

theorem dX10_guard_0 : decode cX10_guard 0 = .ok (.aload_n 0, 1) := by decide +kernel
theorem dX10_guard_1 : decode cX10_guard 1 = .ok (.iload_n 1, 1) := by decide +kernel
theorem dX10_guard_2 : decode cX10_guard 2 = .ok (.invokevirtual 166, 3) := by decide +kernel
theorem dX10_guard_5 : decode cX10_guard 5 = .ok (.ifCond .eq 19, 3) := by decide +kernel
theorem dX10_guard_24 : decode cX10_guard 24 = .ok (.bipush (-2), 2) := by decide +kernel
theorem dX10_guard_26 : decode cX10_guard 26 = .ok (.ireturn, 1) := by decide +kernel
set_option maxRecDepth 100000 in
set_option maxHeartbeats 4000000 in
theorem ct_X10_guard (l : Launch) (m0 : Nat) (ad : Nat → Nat) (a0 : Int32) (a1 : Int32) (a2 : Int32) : Ct l yX10_guard cX10_guard 4 (some .int) 2 0 0 43 (fun S av => av = [.ref m0, .int a0, .int a1, .int a2] ∧ mdNew S m0 ad) (fun _ _ r _ => r = some (.int (-2))) := by
  refine ct_of (by decide) (fun S av h => by obtain ⟨rfl, hm, kK, kZ, hI, hL, hJ⟩ := h; exact Nat.le_of_ble_eq_true rfl) ?_
  intro p e s m args below meth c D G bs S av C hr hin hpre
  obtain ⟨rfl, hm, kK, kZ, hI, hL, hJ⟩ := hpre
  refine v_aload_n C dX10_guard_0 rfl ?_
  refine v_iload_n C dX10_guard_1 rfl ?_
  refine v_callV (As := [_]) (n := 1) C (ct_X10_isTrait l m0 _) rfl hm (by decide) rfl ⟨wd240, wd241, wd242, wd5, wd243⟩ ⟨rfl, hy_X10_isTrait⟩ rfl ⟨Nat.le_of_ble_eq_true rfl, Nat.le_of_ble_eq_true rfl⟩ (Nat.le_of_ble_eq_true rfl) ⟨Nat.le_of_ble_eq_true rfl, Nat.le_of_ble_eq_true rfl⟩ dX10_guard_2 ⟨rfl, hm, hI 640 (by decide) (by decide) (by decide)⟩ (fun r_2 S_2 h_2 => ?_)
  obtain ⟨rfl, q_2⟩ := h_2
  obtain rfl := q_2.symm
  refine v_if_eq (tgt := 24) C dX10_guard_5 (by decide) (fun c_5 => ?_) (fun c_5 => ?_)
  · skip
    refine v_bipush (v := -2) C dX10_guard_24 (by decide) ?_
    refine v_iret C hr (Nat.le_of_ble_eq_true rfl) (Nat.le_of_ble_eq_true rfl) dX10_guard_26 ?_
    rfl
  · skip
    exact absurd rfl c_5

theorem dX10_own_0 : decode cX10_own 0 = .ok (.aload_n 0, 1) := by decide +kernel
theorem dX10_own_1 : decode cX10_own 1 = .ok (.iload_n 1, 1) := by decide +kernel
theorem dX10_own_2 : decode cX10_own 2 = .ok (.invokevirtual 176, 3) := by decide +kernel
theorem dX10_own_5 : decode cX10_own 5 = .ok (.ifCond .eq 29, 3) := by decide +kernel
theorem dX10_own_34 : decode cX10_own 34 = .ok (.bipush (-2), 2) := by decide +kernel
theorem dX10_own_36 : decode cX10_own 36 = .ok (.ireturn, 1) := by decide +kernel
set_option maxRecDepth 100000 in
set_option maxHeartbeats 4000000 in
theorem ct_X10_own (l : Launch) (m0 : Nat) (ad : Nat → Nat) (a0 : Int32) (a1 : Int32) (a2 : Int32) (a3 : Int32) : Ct l yX10_own cX10_own 6 (some .int) 2 0 0 43 (fun S av => av = [.ref m0, .int a0, .int a1, .int a2, .int a3] ∧ mdNew S m0 ad) (fun _ _ r _ => r = some (.int (-2))) := by
  refine ct_of (by decide) (fun S av h => by obtain ⟨rfl, hm, kK, kZ, hI, hL, hJ⟩ := h; exact Nat.le_of_ble_eq_true rfl) ?_
  intro p e s m args below meth c D G bs S av C hr hin hpre
  obtain ⟨rfl, hm, kK, kZ, hI, hL, hJ⟩ := hpre
  refine v_aload_n C dX10_own_0 rfl ?_
  refine v_iload_n C dX10_own_1 rfl ?_
  refine v_callV (As := [_]) (n := 1) C (ct_X10_isCharacter l m0 _) rfl hm (by decide) rfl ⟨wd334, wd335, wd336, wd5, wd337⟩ ⟨rfl, hy_X10_isCharacter⟩ rfl ⟨Nat.le_of_ble_eq_true rfl, Nat.le_of_ble_eq_true rfl⟩ (Nat.le_of_ble_eq_true rfl) ⟨Nat.le_of_ble_eq_true rfl, Nat.le_of_ble_eq_true rfl⟩ dX10_own_2 ⟨rfl, hm, hI 643 (by decide) (by decide) (by decide)⟩ (fun r_2 S_2 h_2 => ?_)
  obtain ⟨rfl, q_2⟩ := h_2
  obtain rfl := q_2.symm
  refine v_if_eq (tgt := 34) C dX10_own_5 (by decide) (fun c_5 => ?_) (fun c_5 => ?_)
  · skip
    refine v_bipush (v := -2) C dX10_own_34 (by decide) ?_
    refine v_iret C hr (Nat.le_of_ble_eq_true rfl) (Nat.le_of_ble_eq_true rfl) dX10_own_36 ?_
    rfl
  · skip
    exact absurd rfl c_5

theorem dX10_leave_0 : decode cX10_leave 0 = .ok (.aload_n 0, 1) := by decide +kernel
theorem dX10_leave_1 : decode cX10_leave 1 = .ok (.iload_n 1, 1) := by decide +kernel
theorem dX10_leave_2 : decode cX10_leave 2 = .ok (.invokevirtual 176, 3) := by decide +kernel
theorem dX10_leave_5 : decode cX10_leave 5 = .ok (.ifCond .eq 18, 3) := by decide +kernel
theorem dX10_leave_23 : decode cX10_leave 23 = .ok (.bipush (-2), 2) := by decide +kernel
theorem dX10_leave_25 : decode cX10_leave 25 = .ok (.ireturn, 1) := by decide +kernel
set_option maxRecDepth 100000 in
set_option maxHeartbeats 4000000 in
theorem ct_X10_leave (l : Launch) (m0 : Nat) (ad : Nat → Nat) (a0 : Int32) (a1 : Int32) (a2 : Int32) : Ct l yX10_leave cX10_leave 4 (some .int) 2 0 0 43 (fun S av => av = [.ref m0, .int a0, .int a1, .int a2] ∧ mdNew S m0 ad) (fun _ _ r _ => r = some (.int (-2))) := by
  refine ct_of (by decide) (fun S av h => by obtain ⟨rfl, hm, kK, kZ, hI, hL, hJ⟩ := h; exact Nat.le_of_ble_eq_true rfl) ?_
  intro p e s m args below meth c D G bs S av C hr hin hpre
  obtain ⟨rfl, hm, kK, kZ, hI, hL, hJ⟩ := hpre
  refine v_aload_n C dX10_leave_0 rfl ?_
  refine v_iload_n C dX10_leave_1 rfl ?_
  refine v_callV (As := [_]) (n := 1) C (ct_X10_isCharacter l m0 _) rfl hm (by decide) rfl ⟨wd334, wd335, wd336, wd5, wd337⟩ ⟨rfl, hy_X10_isCharacter⟩ rfl ⟨Nat.le_of_ble_eq_true rfl, Nat.le_of_ble_eq_true rfl⟩ (Nat.le_of_ble_eq_true rfl) ⟨Nat.le_of_ble_eq_true rfl, Nat.le_of_ble_eq_true rfl⟩ dX10_leave_2 ⟨rfl, hm, hI 643 (by decide) (by decide) (by decide)⟩ (fun r_2 S_2 h_2 => ?_)
  obtain ⟨rfl, q_2⟩ := h_2
  obtain rfl := q_2.symm
  refine v_if_eq (tgt := 23) C dX10_leave_5 (by decide) (fun c_5 => ?_) (fun c_5 => ?_)
  · skip
    refine v_bipush (v := -2) C dX10_leave_23 (by decide) ?_
    refine v_iret C hr (Nat.le_of_ble_eq_true rfl) (Nat.le_of_ble_eq_true rfl) dX10_leave_25 ?_
    rfl
  · skip
    exact absurd rfl c_5

theorem dX10_rename_0 : decode cX10_rename 0 = .ok (.aload_n 0, 1) := by decide +kernel
theorem dX10_rename_1 : decode cX10_rename 1 = .ok (.iload_n 1, 1) := by decide +kernel
theorem dX10_rename_2 : decode cX10_rename 2 = .ok (.invokevirtual 176, 3) := by decide +kernel
theorem dX10_rename_5 : decode cX10_rename 5 = .ok (.ifCond .eq 32, 3) := by decide +kernel
theorem dX10_rename_37 : decode cX10_rename 37 = .ok (.bipush (-2), 2) := by decide +kernel
theorem dX10_rename_39 : decode cX10_rename 39 = .ok (.ireturn, 1) := by decide +kernel
set_option maxRecDepth 100000 in
set_option maxHeartbeats 4000000 in
theorem ct_X10_rename (l : Launch) (m0 : Nat) (ad : Nat → Nat) (a0 : Int32) (a1 : Int32) (a2 : Int32) (a3 : Int32) : Ct l yX10_rename cX10_rename 6 (some .int) 2 0 0 43 (fun S av => av = [.ref m0, .int a0, .int a1, .int a2, .int a3] ∧ mdNew S m0 ad) (fun _ _ r _ => r = some (.int (-2))) := by
  refine ct_of (by decide) (fun S av h => by obtain ⟨rfl, hm, kK, kZ, hI, hL, hJ⟩ := h; exact Nat.le_of_ble_eq_true rfl) ?_
  intro p e s m args below meth c D G bs S av C hr hin hpre
  obtain ⟨rfl, hm, kK, kZ, hI, hL, hJ⟩ := hpre
  refine v_aload_n C dX10_rename_0 rfl ?_
  refine v_iload_n C dX10_rename_1 rfl ?_
  refine v_callV (As := [_]) (n := 1) C (ct_X10_isCharacter l m0 _) rfl hm (by decide) rfl ⟨wd334, wd335, wd336, wd5, wd337⟩ ⟨rfl, hy_X10_isCharacter⟩ rfl ⟨Nat.le_of_ble_eq_true rfl, Nat.le_of_ble_eq_true rfl⟩ (Nat.le_of_ble_eq_true rfl) ⟨Nat.le_of_ble_eq_true rfl, Nat.le_of_ble_eq_true rfl⟩ dX10_rename_2 ⟨rfl, hm, hI 643 (by decide) (by decide) (by decide)⟩ (fun r_2 S_2 h_2 => ?_)
  obtain ⟨rfl, q_2⟩ := h_2
  obtain rfl := q_2.symm
  refine v_if_eq (tgt := 37) C dX10_rename_5 (by decide) (fun c_5 => ?_) (fun c_5 => ?_)
  · skip
    refine v_bipush (v := -2) C dX10_rename_37 (by decide) ?_
    refine v_iret C hr (Nat.le_of_ble_eq_true rfl) (Nat.le_of_ble_eq_true rfl) dX10_rename_39 ?_
    rfl
  · skip
    exact absurd rfl c_5

theorem dX10_prefer_0 : decode cX10_prefer 0 = .ok (.aload_n 0, 1) := by decide +kernel
theorem dX10_prefer_1 : decode cX10_prefer 1 = .ok (.iload_n 1, 1) := by decide +kernel
theorem dX10_prefer_2 : decode cX10_prefer 2 = .ok (.invokevirtual 176, 3) := by decide +kernel
theorem dX10_prefer_5 : decode cX10_prefer 5 = .ok (.ifCond .eq 23, 3) := by decide +kernel
theorem dX10_prefer_28 : decode cX10_prefer 28 = .ok (.bipush (-2), 2) := by decide +kernel
theorem dX10_prefer_30 : decode cX10_prefer 30 = .ok (.ireturn, 1) := by decide +kernel
set_option maxRecDepth 100000 in
set_option maxHeartbeats 4000000 in
theorem ct_X10_prefer (l : Launch) (m0 : Nat) (ad : Nat → Nat) (a0 : Int32) (a1 : Int32) (a2 : Int32) : Ct l yX10_prefer cX10_prefer 5 (some .int) 2 0 0 43 (fun S av => av = [.ref m0, .int a0, .int a1, .int a2] ∧ mdNew S m0 ad) (fun _ _ r _ => r = some (.int (-2))) := by
  refine ct_of (by decide) (fun S av h => by obtain ⟨rfl, hm, kK, kZ, hI, hL, hJ⟩ := h; exact Nat.le_of_ble_eq_true rfl) ?_
  intro p e s m args below meth c D G bs S av C hr hin hpre
  obtain ⟨rfl, hm, kK, kZ, hI, hL, hJ⟩ := hpre
  refine v_aload_n C dX10_prefer_0 rfl ?_
  refine v_iload_n C dX10_prefer_1 rfl ?_
  refine v_callV (As := [_]) (n := 1) C (ct_X10_isCharacter l m0 _) rfl hm (by decide) rfl ⟨wd334, wd335, wd336, wd5, wd337⟩ ⟨rfl, hy_X10_isCharacter⟩ rfl ⟨Nat.le_of_ble_eq_true rfl, Nat.le_of_ble_eq_true rfl⟩ (Nat.le_of_ble_eq_true rfl) ⟨Nat.le_of_ble_eq_true rfl, Nat.le_of_ble_eq_true rfl⟩ dX10_prefer_2 ⟨rfl, hm, hI 643 (by decide) (by decide) (by decide)⟩ (fun r_2 S_2 h_2 => ?_)
  obtain ⟨rfl, q_2⟩ := h_2
  obtain rfl := q_2.symm
  refine v_if_eq (tgt := 28) C dX10_prefer_5 (by decide) (fun c_5 => ?_) (fun c_5 => ?_)
  · skip
    refine v_bipush (v := -2) C dX10_prefer_28 (by decide) ?_
    refine v_iret C hr (Nat.le_of_ble_eq_true rfl) (Nat.le_of_ble_eq_true rfl) dX10_prefer_30 ?_
    rfl
  · skip
    exact absurd rfl c_5

theorem dX10_lineOf_0 : decode cX10_lineOf 0 = .ok (.aload_n 0, 1) := by decide +kernel
theorem dX10_lineOf_1 : decode cX10_lineOf 1 = .ok (.iload_n 1, 1) := by decide +kernel
theorem dX10_lineOf_2 : decode cX10_lineOf 2 = .ok (.invokevirtual 166, 3) := by decide +kernel
theorem dX10_lineOf_5 : decode cX10_lineOf 5 = .ok (.ifCond .ne 8, 3) := by decide +kernel
theorem dX10_lineOf_8 : decode cX10_lineOf 8 = .ok (.bipush (-2), 2) := by decide +kernel
theorem dX10_lineOf_10 : decode cX10_lineOf 10 = .ok (.goto 34, 3) := by decide +kernel
theorem dX10_lineOf_44 : decode cX10_lineOf 44 = .ok (.ireturn, 1) := by decide +kernel
set_option maxRecDepth 100000 in
set_option maxHeartbeats 4000000 in
theorem ct_X10_lineOf (l : Launch) (m0 : Nat) (ad : Nat → Nat) (a0 : Int32) (a1 : Int32) : Ct l yX10_lineOf cX10_lineOf 3 (some .int) 2 0 0 43 (fun S av => av = [.ref m0, .int a0, .int a1] ∧ mdNew S m0 ad) (fun _ _ r _ => r = some (.int (-2))) := by
  refine ct_of (by decide) (fun S av h => by obtain ⟨rfl, hm, kK, kZ, hI, hL, hJ⟩ := h; exact Nat.le_of_ble_eq_true rfl) ?_
  intro p e s m args below meth c D G bs S av C hr hin hpre
  obtain ⟨rfl, hm, kK, kZ, hI, hL, hJ⟩ := hpre
  refine v_aload_n C dX10_lineOf_0 rfl ?_
  refine v_iload_n C dX10_lineOf_1 rfl ?_
  refine v_callV (As := [_]) (n := 1) C (ct_X10_isTrait l m0 _) rfl hm (by decide) rfl ⟨wd240, wd241, wd242, wd5, wd243⟩ ⟨rfl, hy_X10_isTrait⟩ rfl ⟨Nat.le_of_ble_eq_true rfl, Nat.le_of_ble_eq_true rfl⟩ (Nat.le_of_ble_eq_true rfl) ⟨Nat.le_of_ble_eq_true rfl, Nat.le_of_ble_eq_true rfl⟩ dX10_lineOf_2 ⟨rfl, hm, hI 640 (by decide) (by decide) (by decide)⟩ (fun r_2 S_2 h_2 => ?_)
  obtain ⟨rfl, q_2⟩ := h_2
  obtain rfl := q_2.symm
  refine v_if_ne (tgt := 13) C dX10_lineOf_5 (by decide) (fun c_5 => ?_) (fun c_5 => ?_)
  · skip
    exact absurd rfl c_5
  · skip
    refine v_bipush (v := -2) C dX10_lineOf_8 (by decide) ?_
    refine v_goto (tgt := 44) C dX10_lineOf_10 (by decide) ?_
    refine v_iret C hr (Nat.le_of_ble_eq_true rfl) (Nat.le_of_ble_eq_true rfl) dX10_lineOf_44 ?_
    rfl

theorem dX10_line_0 : decode cX10_line 0 = .ok (.aload_n 0, 1) := by decide +kernel
theorem dX10_line_1 : decode cX10_line 1 = .ok (.iload_n 1, 1) := by decide +kernel
theorem dX10_line_2 : decode cX10_line 2 = .ok (.invokevirtual 176, 3) := by decide +kernel
theorem dX10_line_5 : decode cX10_line 5 = .ok (.ifCond .ne 8, 3) := by decide +kernel
theorem dX10_line_8 : decode cX10_line 8 = .ok (.bipush (-2), 2) := by decide +kernel
theorem dX10_line_10 : decode cX10_line 10 = .ok (.goto 34, 3) := by decide +kernel
theorem dX10_line_44 : decode cX10_line 44 = .ok (.ireturn, 1) := by decide +kernel
set_option maxRecDepth 100000 in
set_option maxHeartbeats 4000000 in
theorem ct_X10_line (l : Launch) (m0 : Nat) (ad : Nat → Nat) (a0 : Int32) (a1 : Int32) : Ct l yX10_line cX10_line 3 (some .int) 2 0 0 43 (fun S av => av = [.ref m0, .int a0, .int a1] ∧ mdNew S m0 ad) (fun _ _ r _ => r = some (.int (-2))) := by
  refine ct_of (by decide) (fun S av h => by obtain ⟨rfl, hm, kK, kZ, hI, hL, hJ⟩ := h; exact Nat.le_of_ble_eq_true rfl) ?_
  intro p e s m args below meth c D G bs S av C hr hin hpre
  obtain ⟨rfl, hm, kK, kZ, hI, hL, hJ⟩ := hpre
  refine v_aload_n C dX10_line_0 rfl ?_
  refine v_iload_n C dX10_line_1 rfl ?_
  refine v_callV (As := [_]) (n := 1) C (ct_X10_isCharacter l m0 _) rfl hm (by decide) rfl ⟨wd334, wd335, wd336, wd5, wd337⟩ ⟨rfl, hy_X10_isCharacter⟩ rfl ⟨Nat.le_of_ble_eq_true rfl, Nat.le_of_ble_eq_true rfl⟩ (Nat.le_of_ble_eq_true rfl) ⟨Nat.le_of_ble_eq_true rfl, Nat.le_of_ble_eq_true rfl⟩ dX10_line_2 ⟨rfl, hm, hI 643 (by decide) (by decide) (by decide)⟩ (fun r_2 S_2 h_2 => ?_)
  obtain ⟨rfl, q_2⟩ := h_2
  obtain rfl := q_2.symm
  refine v_if_ne (tgt := 13) C dX10_line_5 (by decide) (fun c_5 => ?_) (fun c_5 => ?_)
  · skip
    exact absurd rfl c_5
  · skip
    refine v_bipush (v := -2) C dX10_line_8 (by decide) ?_
    refine v_goto (tgt := 44) C dX10_line_10 (by decide) ?_
    refine v_iret C hr (Nat.le_of_ble_eq_true rfl) (Nat.le_of_ble_eq_true rfl) dX10_line_44 ?_
    rfl

theorem dX10_chosen_0 : decode cX10_chosen 0 = .ok (.aload_n 0, 1) := by decide +kernel
theorem dX10_chosen_1 : decode cX10_chosen 1 = .ok (.iload_n 1, 1) := by decide +kernel
theorem dX10_chosen_2 : decode cX10_chosen 2 = .ok (.invokevirtual 176, 3) := by decide +kernel
theorem dX10_chosen_5 : decode cX10_chosen 5 = .ok (.ifCond .eq 19, 3) := by decide +kernel
theorem dX10_chosen_24 : decode cX10_chosen 24 = .ok (.bipush (-2), 2) := by decide +kernel
theorem dX10_chosen_26 : decode cX10_chosen 26 = .ok (.ireturn, 1) := by decide +kernel
set_option maxRecDepth 100000 in
set_option maxHeartbeats 4000000 in
theorem ct_X10_chosen (l : Launch) (m0 : Nat) (ad : Nat → Nat) (a0 : Int32) (a1 : Int32) : Ct l yX10_chosen cX10_chosen 3 (some .int) 2 0 0 43 (fun S av => av = [.ref m0, .int a0, .int a1] ∧ mdNew S m0 ad) (fun _ _ r _ => r = some (.int (-2))) := by
  refine ct_of (by decide) (fun S av h => by obtain ⟨rfl, hm, kK, kZ, hI, hL, hJ⟩ := h; exact Nat.le_of_ble_eq_true rfl) ?_
  intro p e s m args below meth c D G bs S av C hr hin hpre
  obtain ⟨rfl, hm, kK, kZ, hI, hL, hJ⟩ := hpre
  refine v_aload_n C dX10_chosen_0 rfl ?_
  refine v_iload_n C dX10_chosen_1 rfl ?_
  refine v_callV (As := [_]) (n := 1) C (ct_X10_isCharacter l m0 _) rfl hm (by decide) rfl ⟨wd334, wd335, wd336, wd5, wd337⟩ ⟨rfl, hy_X10_isCharacter⟩ rfl ⟨Nat.le_of_ble_eq_true rfl, Nat.le_of_ble_eq_true rfl⟩ (Nat.le_of_ble_eq_true rfl) ⟨Nat.le_of_ble_eq_true rfl, Nat.le_of_ble_eq_true rfl⟩ dX10_chosen_2 ⟨rfl, hm, hI 643 (by decide) (by decide) (by decide)⟩ (fun r_2 S_2 h_2 => ?_)
  obtain ⟨rfl, q_2⟩ := h_2
  obtain rfl := q_2.symm
  refine v_if_eq (tgt := 24) C dX10_chosen_5 (by decide) (fun c_5 => ?_) (fun c_5 => ?_)
  · skip
    refine v_bipush (v := -2) C dX10_chosen_24 (by decide) ?_
    refine v_iret C hr (Nat.le_of_ble_eq_true rfl) (Nat.le_of_ble_eq_true rfl) dX10_chosen_26 ?_
    rfl
  · skip
    exact absurd rfl c_5

theorem dX10_clash_0 : decode cX10_clash 0 = .ok (.aload_n 0, 1) := by decide +kernel
theorem dX10_clash_1 : decode cX10_clash 1 = .ok (.iload_n 1, 1) := by decide +kernel
theorem dX10_clash_2 : decode cX10_clash 2 = .ok (.invokevirtual 176, 3) := by decide +kernel
theorem dX10_clash_5 : decode cX10_clash 5 = .ok (.ifCond .eq 19, 3) := by decide +kernel
theorem dX10_clash_24 : decode cX10_clash 24 = .ok (.bipush (-2), 2) := by decide +kernel
theorem dX10_clash_26 : decode cX10_clash 26 = .ok (.ireturn, 1) := by decide +kernel
set_option maxRecDepth 100000 in
set_option maxHeartbeats 4000000 in
theorem ct_X10_clash (l : Launch) (m0 : Nat) (ad : Nat → Nat) (a0 : Int32) (a1 : Int32) : Ct l yX10_clash cX10_clash 3 (some .int) 2 0 0 43 (fun S av => av = [.ref m0, .int a0, .int a1] ∧ mdNew S m0 ad) (fun _ _ r _ => r = some (.int (-2))) := by
  refine ct_of (by decide) (fun S av h => by obtain ⟨rfl, hm, kK, kZ, hI, hL, hJ⟩ := h; exact Nat.le_of_ble_eq_true rfl) ?_
  intro p e s m args below meth c D G bs S av C hr hin hpre
  obtain ⟨rfl, hm, kK, kZ, hI, hL, hJ⟩ := hpre
  refine v_aload_n C dX10_clash_0 rfl ?_
  refine v_iload_n C dX10_clash_1 rfl ?_
  refine v_callV (As := [_]) (n := 1) C (ct_X10_isCharacter l m0 _) rfl hm (by decide) rfl ⟨wd334, wd335, wd336, wd5, wd337⟩ ⟨rfl, hy_X10_isCharacter⟩ rfl ⟨Nat.le_of_ble_eq_true rfl, Nat.le_of_ble_eq_true rfl⟩ (Nat.le_of_ble_eq_true rfl) ⟨Nat.le_of_ble_eq_true rfl, Nat.le_of_ble_eq_true rfl⟩ dX10_clash_2 ⟨rfl, hm, hI 643 (by decide) (by decide) (by decide)⟩ (fun r_2 S_2 h_2 => ?_)
  obtain ⟨rfl, q_2⟩ := h_2
  obtain rfl := q_2.symm
  refine v_if_eq (tgt := 24) C dX10_clash_5 (by decide) (fun c_5 => ?_) (fun c_5 => ?_)
  · skip
    refine v_bipush (v := -2) C dX10_clash_24 (by decide) ?_
    refine v_iret C hr (Nat.le_of_ble_eq_true rfl) (Nat.le_of_ble_eq_true rfl) dX10_clash_26 ?_
    rfl
  · skip
    exact absurd rfl c_5

theorem dX10_about_0 : decode cX10_about 0 = .ok (.aload_n 0, 1) := by decide +kernel
theorem dX10_about_1 : decode cX10_about 1 = .ok (.iload_n 1, 1) := by decide +kernel
theorem dX10_about_2 : decode cX10_about 2 = .ok (.invokevirtual 176, 3) := by decide +kernel
theorem dX10_about_5 : decode cX10_about 5 = .ok (.ifCond .eq 29, 3) := by decide +kernel
theorem dX10_about_34 : decode cX10_about 34 = .ok (.bipush (-2), 2) := by decide +kernel
theorem dX10_about_36 : decode cX10_about 36 = .ok (.ireturn, 1) := by decide +kernel
set_option maxRecDepth 100000 in
set_option maxHeartbeats 4000000 in
theorem ct_X10_about (l : Launch) (m0 : Nat) (ad : Nat → Nat) (a0 : Int32) (a1 : Int32) (a2 : Int32) : Ct l yX10_about cX10_about 4 (some .int) 2 0 0 43 (fun S av => av = [.ref m0, .int a0, .int a1, .int a2] ∧ mdNew S m0 ad) (fun _ _ r _ => r = some (.int (-2))) := by
  refine ct_of (by decide) (fun S av h => by obtain ⟨rfl, hm, kK, kZ, hI, hL, hJ⟩ := h; exact Nat.le_of_ble_eq_true rfl) ?_
  intro p e s m args below meth c D G bs S av C hr hin hpre
  obtain ⟨rfl, hm, kK, kZ, hI, hL, hJ⟩ := hpre
  refine v_aload_n C dX10_about_0 rfl ?_
  refine v_iload_n C dX10_about_1 rfl ?_
  refine v_callV (As := [_]) (n := 1) C (ct_X10_isCharacter l m0 _) rfl hm (by decide) rfl ⟨wd334, wd335, wd336, wd5, wd337⟩ ⟨rfl, hy_X10_isCharacter⟩ rfl ⟨Nat.le_of_ble_eq_true rfl, Nat.le_of_ble_eq_true rfl⟩ (Nat.le_of_ble_eq_true rfl) ⟨Nat.le_of_ble_eq_true rfl, Nat.le_of_ble_eq_true rfl⟩ dX10_about_2 ⟨rfl, hm, hI 643 (by decide) (by decide) (by decide)⟩ (fun r_2 S_2 h_2 => ?_)
  obtain ⟨rfl, q_2⟩ := h_2
  obtain rfl := q_2.symm
  refine v_if_eq (tgt := 34) C dX10_about_5 (by decide) (fun c_5 => ?_) (fun c_5 => ?_)
  · skip
    refine v_bipush (v := -2) C dX10_about_34 (by decide) ?_
    refine v_iret C hr (Nat.le_of_ble_eq_true rfl) (Nat.le_of_ble_eq_true rfl) dX10_about_36 ?_
    rfl
  · skip
    exact absurd rfl c_5

theorem dX10_above_0 : decode cX10_above 0 = .ok (.aload_n 0, 1) := by decide +kernel
theorem dX10_above_1 : decode cX10_above 1 = .ok (.iload_n 1, 1) := by decide +kernel
theorem dX10_above_2 : decode cX10_above 2 = .ok (.invokevirtual 176, 3) := by decide +kernel
theorem dX10_above_5 : decode cX10_above 5 = .ok (.ifCond .eq 20, 3) := by decide +kernel
theorem dX10_above_25 : decode cX10_above 25 = .ok (.bipush (-2), 2) := by decide +kernel
theorem dX10_above_27 : decode cX10_above 27 = .ok (.ireturn, 1) := by decide +kernel
set_option maxRecDepth 100000 in
set_option maxHeartbeats 4000000 in
theorem ct_X10_above (l : Launch) (m0 : Nat) (ad : Nat → Nat) (a0 : Int32) (a1 : Int32) (a2 : Int32) : Ct l yX10_above cX10_above 6 (some .int) 2 0 0 43 (fun S av => av = [.ref m0, .int a0, .int a1, .int a2] ∧ mdNew S m0 ad) (fun _ _ r _ => r = some (.int (-2))) := by
  refine ct_of (by decide) (fun S av h => by obtain ⟨rfl, hm, kK, kZ, hI, hL, hJ⟩ := h; exact Nat.le_of_ble_eq_true rfl) ?_
  intro p e s m args below meth c D G bs S av C hr hin hpre
  obtain ⟨rfl, hm, kK, kZ, hI, hL, hJ⟩ := hpre
  refine v_aload_n C dX10_above_0 rfl ?_
  refine v_iload_n C dX10_above_1 rfl ?_
  refine v_callV (As := [_]) (n := 1) C (ct_X10_isCharacter l m0 _) rfl hm (by decide) rfl ⟨wd334, wd335, wd336, wd5, wd337⟩ ⟨rfl, hy_X10_isCharacter⟩ rfl ⟨Nat.le_of_ble_eq_true rfl, Nat.le_of_ble_eq_true rfl⟩ (Nat.le_of_ble_eq_true rfl) ⟨Nat.le_of_ble_eq_true rfl, Nat.le_of_ble_eq_true rfl⟩ dX10_above_2 ⟨rfl, hm, hI 643 (by decide) (by decide) (by decide)⟩ (fun r_2 S_2 h_2 => ?_)
  obtain ⟨rfl, q_2⟩ := h_2
  obtain rfl := q_2.symm
  refine v_if_eq (tgt := 25) C dX10_above_5 (by decide) (fun c_5 => ?_) (fun c_5 => ?_)
  · skip
    refine v_bipush (v := -2) C dX10_above_25 (by decide) ?_
    refine v_iret C hr (Nat.le_of_ble_eq_true rfl) (Nat.le_of_ble_eq_true rfl) dX10_above_27 ?_
    rfl
  · skip
    exact absurd rfl c_5

theorem dX10_guards_0 : decode cX10_guards 0 = .ok (.aload_n 0, 1) := by decide +kernel
theorem dX10_guards_1 : decode cX10_guards 1 = .ok (.iload_n 1, 1) := by decide +kernel
theorem dX10_guards_2 : decode cX10_guards 2 = .ok (.invokevirtual 176, 3) := by decide +kernel
theorem dX10_guards_5 : decode cX10_guards 5 = .ok (.ifCond .eq 10, 3) := by decide +kernel
theorem dX10_guards_15 : decode cX10_guards 15 = .ok (.bipush (-2), 2) := by decide +kernel
theorem dX10_guards_17 : decode cX10_guards 17 = .ok (.ireturn, 1) := by decide +kernel
set_option maxRecDepth 100000 in
set_option maxHeartbeats 4000000 in
theorem ct_X10_guards (l : Launch) (m0 : Nat) (ad : Nat → Nat) (a0 : Int32) (a1 : Int32) (a2 : Int32) : Ct l yX10_guards cX10_guards 5 (some .int) 2 0 0 43 (fun S av => av = [.ref m0, .int a0, .int a1, .int a2] ∧ mdNew S m0 ad) (fun _ _ r _ => r = some (.int (-2))) := by
  refine ct_of (by decide) (fun S av h => by obtain ⟨rfl, hm, kK, kZ, hI, hL, hJ⟩ := h; exact Nat.le_of_ble_eq_true rfl) ?_
  intro p e s m args below meth c D G bs S av C hr hin hpre
  obtain ⟨rfl, hm, kK, kZ, hI, hL, hJ⟩ := hpre
  refine v_aload_n C dX10_guards_0 rfl ?_
  refine v_iload_n C dX10_guards_1 rfl ?_
  refine v_callV (As := [_]) (n := 1) C (ct_X10_isCharacter l m0 _) rfl hm (by decide) rfl ⟨wd334, wd335, wd336, wd5, wd337⟩ ⟨rfl, hy_X10_isCharacter⟩ rfl ⟨Nat.le_of_ble_eq_true rfl, Nat.le_of_ble_eq_true rfl⟩ (Nat.le_of_ble_eq_true rfl) ⟨Nat.le_of_ble_eq_true rfl, Nat.le_of_ble_eq_true rfl⟩ dX10_guards_2 ⟨rfl, hm, hI 643 (by decide) (by decide) (by decide)⟩ (fun r_2 S_2 h_2 => ?_)
  obtain ⟨rfl, q_2⟩ := h_2
  obtain rfl := q_2.symm
  refine v_if_eq (tgt := 15) C dX10_guards_5 (by decide) (fun c_5 => ?_) (fun c_5 => ?_)
  · skip
    refine v_bipush (v := -2) C dX10_guards_15 (by decide) ?_
    refine v_iret C hr (Nat.le_of_ble_eq_true rfl) (Nat.le_of_ble_eq_true rfl) dX10_guards_17 ?_
    rfl
  · skip
    exact absurd rfl c_5

theorem dX10_isA_0 : decode cX10_isA 0 = .ok (.aload_n 0, 1) := by decide +kernel
theorem dX10_isA_1 : decode cX10_isA 1 = .ok (.iload_n 1, 1) := by decide +kernel
theorem dX10_isA_2 : decode cX10_isA 2 = .ok (.invokevirtual 176, 3) := by decide +kernel
theorem dX10_isA_5 : decode cX10_isA 5 = .ok (.ifCond .eq 11, 3) := by decide +kernel
theorem dX10_isA_16 : decode cX10_isA 16 = .ok (.bipush (-2), 2) := by decide +kernel
theorem dX10_isA_18 : decode cX10_isA 18 = .ok (.goto 17, 3) := by decide +kernel
theorem dX10_isA_35 : decode cX10_isA 35 = .ok (.ireturn, 1) := by decide +kernel
set_option maxRecDepth 100000 in
set_option maxHeartbeats 4000000 in
theorem ct_X10_isA (l : Launch) (m0 : Nat) (ad : Nat → Nat) (a0 : Int32) (a1 : Int32) : Ct l yX10_isA cX10_isA 3 (some .int) 2 0 0 43 (fun S av => av = [.ref m0, .int a0, .int a1] ∧ mdNew S m0 ad) (fun _ _ r _ => r = some (.int (-2))) := by
  refine ct_of (by decide) (fun S av h => by obtain ⟨rfl, hm, kK, kZ, hI, hL, hJ⟩ := h; exact Nat.le_of_ble_eq_true rfl) ?_
  intro p e s m args below meth c D G bs S av C hr hin hpre
  obtain ⟨rfl, hm, kK, kZ, hI, hL, hJ⟩ := hpre
  refine v_aload_n C dX10_isA_0 rfl ?_
  refine v_iload_n C dX10_isA_1 rfl ?_
  refine v_callV (As := [_]) (n := 1) C (ct_X10_isCharacter l m0 _) rfl hm (by decide) rfl ⟨wd334, wd335, wd336, wd5, wd337⟩ ⟨rfl, hy_X10_isCharacter⟩ rfl ⟨Nat.le_of_ble_eq_true rfl, Nat.le_of_ble_eq_true rfl⟩ (Nat.le_of_ble_eq_true rfl) ⟨Nat.le_of_ble_eq_true rfl, Nat.le_of_ble_eq_true rfl⟩ dX10_isA_2 ⟨rfl, hm, hI 643 (by decide) (by decide) (by decide)⟩ (fun r_2 S_2 h_2 => ?_)
  obtain ⟨rfl, q_2⟩ := h_2
  obtain rfl := q_2.symm
  refine v_if_eq (tgt := 16) C dX10_isA_5 (by decide) (fun c_5 => ?_) (fun c_5 => ?_)
  · skip
    refine v_bipush (v := -2) C dX10_isA_16 (by decide) ?_
    refine v_goto (tgt := 35) C dX10_isA_18 (by decide) ?_
    refine v_iret C hr (Nat.le_of_ble_eq_true rfl) (Nat.le_of_ble_eq_true rfl) dX10_isA_35 ?_
    rfl
  · skip
    exact absurd rfl c_5

theorem dX10_takes_0 : decode cX10_takes 0 = .ok (.aload_n 0, 1) := by decide +kernel
theorem dX10_takes_1 : decode cX10_takes 1 = .ok (.iload_n 1, 1) := by decide +kernel
theorem dX10_takes_2 : decode cX10_takes 2 = .ok (.invokevirtual 176, 3) := by decide +kernel
theorem dX10_takes_5 : decode cX10_takes 5 = .ok (.ifCond .eq 11, 3) := by decide +kernel
theorem dX10_takes_16 : decode cX10_takes 16 = .ok (.bipush (-2), 2) := by decide +kernel
theorem dX10_takes_18 : decode cX10_takes 18 = .ok (.ireturn, 1) := by decide +kernel
set_option maxRecDepth 100000 in
set_option maxHeartbeats 4000000 in
theorem ct_X10_takes (l : Launch) (m0 : Nat) (ad : Nat → Nat) (a0 : Int32) (a1 : Int32) : Ct l yX10_takes cX10_takes 5 (some .int) 2 0 0 43 (fun S av => av = [.ref m0, .int a0, .int a1] ∧ mdNew S m0 ad) (fun _ _ r _ => r = some (.int (-2))) := by
  refine ct_of (by decide) (fun S av h => by obtain ⟨rfl, hm, kK, kZ, hI, hL, hJ⟩ := h; exact Nat.le_of_ble_eq_true rfl) ?_
  intro p e s m args below meth c D G bs S av C hr hin hpre
  obtain ⟨rfl, hm, kK, kZ, hI, hL, hJ⟩ := hpre
  refine v_aload_n C dX10_takes_0 rfl ?_
  refine v_iload_n C dX10_takes_1 rfl ?_
  refine v_callV (As := [_]) (n := 1) C (ct_X10_isCharacter l m0 _) rfl hm (by decide) rfl ⟨wd334, wd335, wd336, wd5, wd337⟩ ⟨rfl, hy_X10_isCharacter⟩ rfl ⟨Nat.le_of_ble_eq_true rfl, Nat.le_of_ble_eq_true rfl⟩ (Nat.le_of_ble_eq_true rfl) ⟨Nat.le_of_ble_eq_true rfl, Nat.le_of_ble_eq_true rfl⟩ dX10_takes_2 ⟨rfl, hm, hI 643 (by decide) (by decide) (by decide)⟩ (fun r_2 S_2 h_2 => ?_)
  obtain ⟨rfl, q_2⟩ := h_2
  obtain rfl := q_2.symm
  refine v_if_eq (tgt := 16) C dX10_takes_5 (by decide) (fun c_5 => ?_) (fun c_5 => ?_)
  · skip
    refine v_bipush (v := -2) C dX10_takes_16 (by decide) ?_
    refine v_iret C hr (Nat.le_of_ble_eq_true rfl) (Nat.le_of_ble_eq_true rfl) dX10_takes_18 ?_
    rfl
  · skip
    exact absurd rfl c_5

theorem dX10_play_0 : decode cX10_play 0 = .ok (.aload_n 0, 1) := by decide +kernel
theorem dX10_play_1 : decode cX10_play 1 = .ok (.iload_n 1, 1) := by decide +kernel
theorem dX10_play_2 : decode cX10_play 2 = .ok (.invokevirtual 176, 3) := by decide +kernel
theorem dX10_play_5 : decode cX10_play 5 = .ok (.ifCond .eq 10, 3) := by decide +kernel
theorem dX10_play_15 : decode cX10_play 15 = .ok (.bipush (-2), 2) := by decide +kernel
theorem dX10_play_17 : decode cX10_play 17 = .ok (.ireturn, 1) := by decide +kernel
set_option maxRecDepth 100000 in
set_option maxHeartbeats 4000000 in
theorem ct_X10_play (l : Launch) (m0 : Nat) (ad : Nat → Nat) (a0 : Int32) (a1 : Int32) (a2 : Int64) : Ct l yX10_play cX10_play 7 (some .int) 2 0 0 43 (fun S av => av = [.ref m0, .int a0, .int a1, .long a2] ∧ mdNew S m0 ad) (fun _ _ r _ => r = some (.int (-2))) := by
  refine ct_of (by decide) (fun S av h => by obtain ⟨rfl, hm, kK, kZ, hI, hL, hJ⟩ := h; exact Nat.le_of_ble_eq_true rfl) ?_
  intro p e s m args below meth c D G bs S av C hr hin hpre
  obtain ⟨rfl, hm, kK, kZ, hI, hL, hJ⟩ := hpre
  refine v_aload_n C dX10_play_0 rfl ?_
  refine v_iload_n C dX10_play_1 rfl ?_
  refine v_callV (As := [_]) (n := 1) C (ct_X10_isCharacter l m0 _) rfl hm (by decide) rfl ⟨wd334, wd335, wd336, wd5, wd337⟩ ⟨rfl, hy_X10_isCharacter⟩ rfl ⟨Nat.le_of_ble_eq_true rfl, Nat.le_of_ble_eq_true rfl⟩ (Nat.le_of_ble_eq_true rfl) ⟨Nat.le_of_ble_eq_true rfl, Nat.le_of_ble_eq_true rfl⟩ dX10_play_2 ⟨rfl, hm, hI 643 (by decide) (by decide) (by decide)⟩ (fun r_2 S_2 h_2 => ?_)
  obtain ⟨rfl, q_2⟩ := h_2
  obtain rfl := q_2.symm
  refine v_if_eq (tgt := 15) C dX10_play_5 (by decide) (fun c_5 => ?_) (fun c_5 => ?_)
  · skip
    refine v_bipush (v := -2) C dX10_play_15 (by decide) ?_
    refine v_iret C hr (Nat.le_of_ble_eq_true rfl) (Nat.le_of_ble_eq_true rfl) dX10_play_17 ?_
    rfl
  · skip
    exact absurd rfl c_5

theorem dX10_setMood_0 : decode cX10_setMood 0 = .ok (.aload_n 0, 1) := by decide +kernel
theorem dX10_setMood_1 : decode cX10_setMood 1 = .ok (.iload_n 1, 1) := by decide +kernel
theorem dX10_setMood_2 : decode cX10_setMood 2 = .ok (.invokevirtual 176, 3) := by decide +kernel
theorem dX10_setMood_5 : decode cX10_setMood 5 = .ok (.ifCond .eq 12, 3) := by decide +kernel
theorem dX10_setMood_17 : decode cX10_setMood 17 = .ok (.bipush (-2), 2) := by decide +kernel
theorem dX10_setMood_19 : decode cX10_setMood 19 = .ok (.ireturn, 1) := by decide +kernel
set_option maxRecDepth 100000 in
set_option maxHeartbeats 4000000 in
theorem ct_X10_setMood (l : Launch) (m0 : Nat) (ad : Nat → Nat) (a0 : Int32) (a1 : Int32) (a2 : Int64) : Ct l yX10_setMood cX10_setMood 5 (some .int) 2 0 0 43 (fun S av => av = [.ref m0, .int a0, .int a1, .long a2] ∧ mdNew S m0 ad) (fun _ _ r _ => r = some (.int (-2))) := by
  refine ct_of (by decide) (fun S av h => by obtain ⟨rfl, hm, kK, kZ, hI, hL, hJ⟩ := h; exact Nat.le_of_ble_eq_true rfl) ?_
  intro p e s m args below meth c D G bs S av C hr hin hpre
  obtain ⟨rfl, hm, kK, kZ, hI, hL, hJ⟩ := hpre
  refine v_aload_n C dX10_setMood_0 rfl ?_
  refine v_iload_n C dX10_setMood_1 rfl ?_
  refine v_callV (As := [_]) (n := 1) C (ct_X10_isCharacter l m0 _) rfl hm (by decide) rfl ⟨wd334, wd335, wd336, wd5, wd337⟩ ⟨rfl, hy_X10_isCharacter⟩ rfl ⟨Nat.le_of_ble_eq_true rfl, Nat.le_of_ble_eq_true rfl⟩ (Nat.le_of_ble_eq_true rfl) ⟨Nat.le_of_ble_eq_true rfl, Nat.le_of_ble_eq_true rfl⟩ dX10_setMood_2 ⟨rfl, hm, hI 643 (by decide) (by decide) (by decide)⟩ (fun r_2 S_2 h_2 => ?_)
  obtain ⟨rfl, q_2⟩ := h_2
  obtain rfl := q_2.symm
  refine v_if_eq (tgt := 17) C dX10_setMood_5 (by decide) (fun c_5 => ?_) (fun c_5 => ?_)
  · skip
    refine v_bipush (v := -2) C dX10_setMood_17 (by decide) ?_
    refine v_iret C hr (Nat.le_of_ble_eq_true rfl) (Nat.le_of_ble_eq_true rfl) dX10_setMood_19 ?_
    rfl
  · skip
    exact absurd rfl c_5

theorem dX10_mood_0 : decode cX10_mood 0 = .ok (.aload_n 0, 1) := by decide +kernel
theorem dX10_mood_1 : decode cX10_mood 1 = .ok (.iload_n 1, 1) := by decide +kernel
theorem dX10_mood_2 : decode cX10_mood 2 = .ok (.invokevirtual 176, 3) := by decide +kernel
theorem dX10_mood_5 : decode cX10_mood 5 = .ok (.ifCond .eq 25, 3) := by decide +kernel
theorem dX10_mood_30 : decode cX10_mood 30 = .ok (.lconst 0, 1) := by decide +kernel
theorem dX10_mood_31 : decode cX10_mood 31 = .ok (.lreturn, 1) := by decide +kernel
set_option maxRecDepth 100000 in
set_option maxHeartbeats 4000000 in
theorem ct_X10_mood (l : Launch) (m0 : Nat) (ad : Nat → Nat) (a0 : Int32) (a1 : Int32) : Ct l yX10_mood cX10_mood 3 (some .long) 2 0 0 43 (fun S av => av = [.ref m0, .int a0, .int a1] ∧ mdNew S m0 ad) (fun _ _ r _ => r = some (.long 0)) := by
  refine ct_of (by decide) (fun S av h => by obtain ⟨rfl, hm, kK, kZ, hI, hL, hJ⟩ := h; exact Nat.le_of_ble_eq_true rfl) ?_
  intro p e s m args below meth c D G bs S av C hr hin hpre
  obtain ⟨rfl, hm, kK, kZ, hI, hL, hJ⟩ := hpre
  refine v_aload_n C dX10_mood_0 rfl ?_
  refine v_iload_n C dX10_mood_1 rfl ?_
  refine v_callV (As := [_]) (n := 1) C (ct_X10_isCharacter l m0 _) rfl hm (by decide) rfl ⟨wd334, wd335, wd336, wd5, wd337⟩ ⟨rfl, hy_X10_isCharacter⟩ rfl ⟨Nat.le_of_ble_eq_true rfl, Nat.le_of_ble_eq_true rfl⟩ (Nat.le_of_ble_eq_true rfl) ⟨Nat.le_of_ble_eq_true rfl, Nat.le_of_ble_eq_true rfl⟩ dX10_mood_2 ⟨rfl, hm, hI 643 (by decide) (by decide) (by decide)⟩ (fun r_2 S_2 h_2 => ?_)
  obtain ⟨rfl, q_2⟩ := h_2
  obtain rfl := q_2.symm
  refine v_if_eq (tgt := 30) C dX10_mood_5 (by decide) (fun c_5 => ?_) (fun c_5 => ?_)
  · skip
    refine v_lconst (v := 0) C dX10_mood_30 (by decide) ?_
    refine v_lret C hr (Nat.le_of_ble_eq_true rfl) (Nat.le_of_ble_eq_true rfl) dX10_mood_31 ?_
    rfl
  · skip
    exact absurd rfl c_5

theorem dX10_marks_0 : decode cX10_marks 0 = .ok (.aload_n 0, 1) := by decide +kernel
theorem dX10_marks_1 : decode cX10_marks 1 = .ok (.getfield 266, 3) := by decide +kernel
theorem dX10_marks_4 : decode cX10_marks 4 = .ok (.ireturn, 1) := by decide +kernel
set_option maxRecDepth 100000 in
set_option maxHeartbeats 4000000 in
theorem ct_X10_marks (l : Launch) (m0 : Nat) (ad : Nat → Nat)  : Ct l yX10_marks cX10_marks 1 (some .int) 0 0 0 0 (fun S av => av = [.ref m0] ∧ mdNew S m0 ad) (fun _ _ r _ => r = some (.int 0)) := by
  refine ct_of (by decide) (fun S av h => by obtain ⟨rfl, hm, kK, kZ, hI, hL, hJ⟩ := h; exact Nat.le_of_ble_eq_true rfl) ?_
  intro p e s m args below meth c D G bs S av C hr hin hpre
  obtain ⟨rfl, hm, kK, kZ, hI, hL, hJ⟩ := hpre
  refine v_aload_n C dX10_marks_0 rfl ?_
  refine g10_266 C hm dX10_marks_1 ?_
  refine v_iret C hr (Nat.le_of_ble_eq_true rfl) (Nat.le_of_ble_eq_true rfl) dX10_marks_4 ?_
  rw [hI 689 (by decide) (by decide) (by decide)]

theorem dX10_told_0 : decode cX10_told 0 = .ok (.iload_n 1, 1) := by decide +kernel
theorem dX10_told_1 : decode cX10_told 1 = .ok (.ifCond .ne 10, 3) := by decide +kernel
theorem dX10_told_4 : decode cX10_told 4 = .ok (.aload_n 0, 1) := by decide +kernel
theorem dX10_told_5 : decode cX10_told 5 = .ok (.getfield 292, 3) := by decide +kernel
theorem dX10_told_8 : decode cX10_told 8 = .ok (.goto 43, 3) := by decide +kernel
theorem dX10_told_11 : decode cX10_told 11 = .ok (.iload_n 1, 1) := by decide +kernel
theorem dX10_told_12 : decode cX10_told 12 = .ok (.iconst 1, 1) := by decide +kernel
theorem dX10_told_13 : decode cX10_told 13 = .ok (.if_icmp .ne 11, 3) := by decide +kernel
theorem dX10_told_16 : decode cX10_told 16 = .ok (.aload_n 0, 1) := by decide +kernel
theorem dX10_told_17 : decode cX10_told 17 = .ok (.getfield 257, 3) := by decide +kernel
theorem dX10_told_20 : decode cX10_told 20 = .ok (.i2l, 1) := by decide +kernel
theorem dX10_told_21 : decode cX10_told 21 = .ok (.goto 30, 3) := by decide +kernel
theorem dX10_told_24 : decode cX10_told 24 = .ok (.iload_n 1, 1) := by decide +kernel
theorem dX10_told_25 : decode cX10_told 25 = .ok (.iconst 2, 1) := by decide +kernel
theorem dX10_told_26 : decode cX10_told 26 = .ok (.if_icmp .ne 11, 3) := by decide +kernel
theorem dX10_told_29 : decode cX10_told 29 = .ok (.aload_n 0, 1) := by decide +kernel
theorem dX10_told_30 : decode cX10_told 30 = .ok (.getfield 281, 3) := by decide +kernel
theorem dX10_told_33 : decode cX10_told 33 = .ok (.i2l, 1) := by decide +kernel
theorem dX10_told_34 : decode cX10_told 34 = .ok (.goto 17, 3) := by decide +kernel
theorem dX10_told_37 : decode cX10_told 37 = .ok (.iload_n 1, 1) := by decide +kernel
theorem dX10_told_38 : decode cX10_told 38 = .ok (.iconst 3, 1) := by decide +kernel
theorem dX10_told_39 : decode cX10_told 39 = .ok (.if_icmp .ne 11, 3) := by decide +kernel
theorem dX10_told_42 : decode cX10_told 42 = .ok (.aload_n 0, 1) := by decide +kernel
theorem dX10_told_43 : decode cX10_told 43 = .ok (.getfield 272, 3) := by decide +kernel
theorem dX10_told_46 : decode cX10_told 46 = .ok (.i2l, 1) := by decide +kernel
theorem dX10_told_47 : decode cX10_told 47 = .ok (.goto 4, 3) := by decide +kernel
theorem dX10_told_50 : decode cX10_told 50 = .ok (.lconst 0, 1) := by decide +kernel
theorem dX10_told_51 : decode cX10_told 51 = .ok (.lreturn, 1) := by decide +kernel
set_option maxRecDepth 100000 in
set_option maxHeartbeats 4000000 in
theorem ct_X10_told (l : Launch) (m0 : Nat) (ad : Nat → Nat) (a0 : Int32) : Ct l yX10_told cX10_told 2 (some .long) 0 0 0 0 (fun S av => av = [.ref m0, .int a0] ∧ mdNew S m0 ad) (fun _ _ r _ => r = some (.long 0)) := by
  refine ct_of (by decide) (fun S av h => by obtain ⟨rfl, hm, kK, kZ, hI, hL, hJ⟩ := h; exact Nat.le_of_ble_eq_true rfl) ?_
  intro p e s m args below meth c D G bs S av C hr hin hpre
  obtain ⟨rfl, hm, kK, kZ, hI, hL, hJ⟩ := hpre
  refine v_iload_n C dX10_told_0 rfl ?_
  refine v_if_ne (tgt := 11) C dX10_told_1 (by decide) (fun c_1 => ?_) (fun c_1 => ?_)
  · skip
    refine v_iload_n C dX10_told_11 rfl ?_
    refine v_iconst (v := 1) C dX10_told_12 (by decide) ?_
    refine v_icmp_ne (tgt := 24) C dX10_told_13 (by decide) (fun c_13 => ?_) (fun c_13 => ?_)
    · skip
      refine v_iload_n C dX10_told_24 rfl ?_
      refine v_iconst (v := 2) C dX10_told_25 (by decide) ?_
      refine v_icmp_ne (tgt := 37) C dX10_told_26 (by decide) (fun c_26 => ?_) (fun c_26 => ?_)
      · skip
        refine v_iload_n C dX10_told_37 rfl ?_
        refine v_iconst (v := 3) C dX10_told_38 (by decide) ?_
        refine v_icmp_ne (tgt := 50) C dX10_told_39 (by decide) (fun c_39 => ?_) (fun c_39 => ?_)
        · skip
          refine v_lconst (v := 0) C dX10_told_50 (by decide) ?_
          refine v_lret C hr (Nat.le_of_ble_eq_true rfl) (Nat.le_of_ble_eq_true rfl) dX10_told_51 ?_
          first
            | rfl
            | rw [hJ]
            | (rw [hI 685 (by decide) (by decide) (by decide)]; rfl)
            | (rw [hI 686 (by decide) (by decide) (by decide)]; rfl)
            | (rw [hI 688 (by decide) (by decide) (by decide)]; rfl)
        · skip
          refine v_aload_n C dX10_told_42 rfl ?_
          refine g10_272 C hm dX10_told_43 ?_
          refine v_i2l C dX10_told_46 ?_
          refine v_goto (tgt := 51) C dX10_told_47 (by decide) ?_
          refine v_lret C hr (Nat.le_of_ble_eq_true rfl) (Nat.le_of_ble_eq_true rfl) dX10_told_51 ?_
          first
            | rfl
            | rw [hJ]
            | (rw [hI 685 (by decide) (by decide) (by decide)]; rfl)
            | (rw [hI 686 (by decide) (by decide) (by decide)]; rfl)
            | (rw [hI 688 (by decide) (by decide) (by decide)]; rfl)
      · skip
        refine v_aload_n C dX10_told_29 rfl ?_
        refine g10_281 C hm dX10_told_30 ?_
        refine v_i2l C dX10_told_33 ?_
        refine v_goto (tgt := 51) C dX10_told_34 (by decide) ?_
        refine v_lret C hr (Nat.le_of_ble_eq_true rfl) (Nat.le_of_ble_eq_true rfl) dX10_told_51 ?_
        first
          | rfl
          | rw [hJ]
          | (rw [hI 685 (by decide) (by decide) (by decide)]; rfl)
          | (rw [hI 686 (by decide) (by decide) (by decide)]; rfl)
          | (rw [hI 688 (by decide) (by decide) (by decide)]; rfl)
    · skip
      refine v_aload_n C dX10_told_16 rfl ?_
      refine g10_257 C hm dX10_told_17 ?_
      refine v_i2l C dX10_told_20 ?_
      refine v_goto (tgt := 51) C dX10_told_21 (by decide) ?_
      refine v_lret C hr (Nat.le_of_ble_eq_true rfl) (Nat.le_of_ble_eq_true rfl) dX10_told_51 ?_
      first
        | rfl
        | rw [hJ]
        | (rw [hI 685 (by decide) (by decide) (by decide)]; rfl)
        | (rw [hI 686 (by decide) (by decide) (by decide)]; rfl)
        | (rw [hI 688 (by decide) (by decide) (by decide)]; rfl)
  · skip
    refine v_aload_n C dX10_told_4 rfl ?_
    refine g10_292 C hm dX10_told_5 ?_
    refine v_goto (tgt := 51) C dX10_told_8 (by decide) ?_
    refine v_lret C hr (Nat.le_of_ble_eq_true rfl) (Nat.le_of_ble_eq_true rfl) dX10_told_51 ?_
    first
      | rfl
      | rw [hJ]
      | (rw [hI 685 (by decide) (by decide) (by decide)]; rfl)
      | (rw [hI 686 (by decide) (by decide) (by decide)]; rfl)
      | (rw [hI 688 (by decide) (by decide) (by decide)]; rfl)

theorem dX10_mark_0 : decode cX10_mark 0 = .ok (.iload_n 1, 1) := by decide +kernel
theorem dX10_mark_1 : decode cX10_mark 1 = .ok (.iconst 0, 1) := by decide +kernel
theorem dX10_mark_2 : decode cX10_mark 2 = .ok (.aload_n 0, 1) := by decide +kernel
theorem dX10_mark_3 : decode cX10_mark 3 = .ok (.getfield 266, 3) := by decide +kernel
theorem dX10_mark_6 : decode cX10_mark 6 = .ok (.iconst 1, 1) := by decide +kernel
theorem dX10_mark_7 : decode cX10_mark 7 = .ok (.isub, 1) := by decide +kernel
theorem dX10_mark_8 : decode cX10_mark 8 = .ok (.invokestatic 148, 3) := by decide +kernel
theorem dX10_mark_11 : decode cX10_mark 11 = .ok (.ifCond .ne 5, 3) := by decide +kernel
theorem dX10_mark_14 : decode cX10_mark 14 = .ok (.lconst 0, 1) := by decide +kernel
theorem dX10_mark_15 : decode cX10_mark 15 = .ok (.lreturn, 1) := by decide +kernel
set_option maxRecDepth 100000 in
set_option maxHeartbeats 4000000 in
theorem ct_X10_mark (l : Launch) (m0 : Nat) (ad : Nat → Nat) (a0 : Int32) (a1 : Int32) : Ct l yX10_mark cX10_mark 3 (some .long) 1 0 0 22 (fun S av => av = [.ref m0, .int a0, .int a1] ∧ mdNew S m0 ad) (fun _ _ r _ => r = some (.long 0)) := by
  refine ct_of (by decide) (fun S av h => by obtain ⟨rfl, hm, kK, kZ, hI, hL, hJ⟩ := h; exact Nat.le_of_ble_eq_true rfl) ?_
  intro p e s m args below meth c D G bs S av C hr hin hpre
  obtain ⟨rfl, hm, kK, kZ, hI, hL, hJ⟩ := hpre
  refine v_iload_n C dX10_mark_0 rfl ?_
  refine v_iconst (v := 0) C dX10_mark_1 (by decide) ?_
  refine v_aload_n C dX10_mark_2 rfl ?_
  refine g10_266 C hm dX10_mark_3 ?_
  rw [hI 689 (by decide) (by decide) (by decide)]
  refine v_iconst (v := 1) C dX10_mark_6 (by decide) ?_
  refine v_isub C dX10_mark_7 ?_
  refine v_callS (As := [_, _, _]) (n := 3) C (ct_X10_in l _ _ _) rfl ⟨wd244, wd245, wd5, wd246⟩ hy_X10_in rfl ⟨Nat.le_of_ble_eq_true rfl, Nat.le_of_ble_eq_true rfl⟩ (Nat.le_of_ble_eq_true rfl) ⟨Nat.le_of_ble_eq_true rfl, Nat.le_of_ble_eq_true rfl⟩ dX10_mark_8 rfl (fun r_8 S_8 h_8 => ?_)
  obtain ⟨rfl, q_8⟩ := h_8
  obtain rfl := q_8.symm
  refine v_if_ne (tgt := 16) C dX10_mark_11 (by decide) (fun c_11 => ?_) (fun c_11 => ?_)
  · skip
    exact absurd (bI_t c_11) (by rw [in0]; decide)
  · skip
    refine v_lconst (v := 0) C dX10_mark_14 (by decide) ?_
    refine v_lret C hr (Nat.le_of_ble_eq_true rfl) (Nat.le_of_ble_eq_true rfl) dX10_mark_15 ?_
    rfl

theorem dX10_op_0 : decode cX10_op 0 = .ok (.iload_n 1, 1) := by decide +kernel
theorem dX10_op_1 : decode cX10_op 1 = .ok (.iload_n 2, 1) := by decide +kernel
theorem dX10_op_2 : decode cX10_op 2 = .ok (.iload_n 3, 1) := by decide +kernel
theorem dX10_op_3 : decode cX10_op 3 = .ok (.invokestatic 186, 3) := by decide +kernel
theorem dX10_op_6 : decode cX10_op 6 = .ok (.ifCond .ne 6, 3) := by decide +kernel
theorem dX10_op_9 : decode cX10_op 9 = .ok (.bipush (-2), 2) := by decide +kernel
theorem dX10_op_11 : decode cX10_op 11 = .ok (.ireturn, 1) := by decide +kernel
theorem dX10_op_12 : decode cX10_op 12 = .ok (.aload_n 0, 1) := by decide +kernel
theorem dX10_op_13 : decode cX10_op 13 = .ok (.getfield 63, 3) := by decide +kernel
theorem dX10_op_16 : decode cX10_op 16 = .ok (.iconst (-1), 1) := by decide +kernel
theorem dX10_op_17 : decode cX10_op 17 = .ok (.if_icmp .ne 6, 3) := by decide +kernel
theorem dX10_op_20 : decode cX10_op 20 = .ok (.bipush (-3), 2) := by decide +kernel
theorem dX10_op_22 : decode cX10_op 22 = .ok (.ireturn, 1) := by decide +kernel
set_option maxRecDepth 100000 in
set_option maxHeartbeats 4000000 in
theorem ct_X10_op (l : Launch) (m0 : Nat) (ad : Nat → Nat) (a0 : Int32) (a1 : Int32) (a2 : Int32) : Ct l yX10_op cX10_op 5 (some .int) 3 0 0 64 (fun S av => av = [.ref m0, .int a0, .int a1, .int a2] ∧ mdNew S m0 ad) (fun _ _ r _ => r = some (.int (if isOpB a0 a1 a2 = true then -3 else -2))) := by
  refine ct_of (by decide) (fun S av h => by obtain ⟨rfl, hm, kK, kZ, hI, hL, hJ⟩ := h; exact Nat.le_of_ble_eq_true rfl) ?_
  intro p e s m args below meth c D G bs S av C hr hin hpre
  obtain ⟨rfl, hm, kK, kZ, hI, hL, hJ⟩ := hpre
  refine v_iload_n C dX10_op_0 rfl ?_
  refine v_iload_n C dX10_op_1 rfl ?_
  refine v_iload_n C dX10_op_2 rfl ?_
  refine v_callS (As := [_, _, _]) (n := 3) C (ct_X10_isOp l _ _ _) rfl ⟨wd424, wd425, wd5, wd426⟩ hy_X10_isOp rfl ⟨Nat.le_of_ble_eq_true rfl, Nat.le_of_ble_eq_true rfl⟩ (Nat.le_of_ble_eq_true rfl) ⟨Nat.le_of_ble_eq_true rfl, Nat.le_of_ble_eq_true rfl⟩ dX10_op_3 rfl (fun r_3 S_3 h_3 => ?_)
  obtain ⟨rfl, q_3⟩ := h_3
  obtain rfl := q_3.symm
  refine v_if_ne (tgt := 12) C dX10_op_6 (by decide) (fun c_6 => ?_) (fun c_6 => ?_)
  · skip
    refine v_aload_n C dX10_op_12 rfl ?_
    refine g10_63 C hm dX10_op_13 ?_
    refine v_iconst (v := -1) C dX10_op_16 (by decide) ?_
    refine v_icmp_ne (tgt := 23) C dX10_op_17 (by decide) (fun c_17 => ?_) (fun c_17 => ?_)
    · skip
      exact absurd hL c_17
    · skip
      refine v_bipush (v := -3) C dX10_op_20 (by decide) ?_
      refine v_iret C hr (Nat.le_of_ble_eq_true rfl) (Nat.le_of_ble_eq_true rfl) dX10_op_22 ?_
      first
        | (rw [bI_f c_6]; rfl)
        | (rw [bI_t c_6]; rfl)
  · skip
    refine v_bipush (v := -2) C dX10_op_9 (by decide) ?_
    refine v_iret C hr (Nat.le_of_ble_eq_true rfl) (Nat.le_of_ble_eq_true rfl) dX10_op_11 ?_
    first
      | (rw [bI_f c_6]; rfl)
      | (rw [bI_t c_6]; rfl)

theorem dX10_digest_0 : decode cX10_digest 0 = .ok (.ldc2_w 302, 3) := by decide +kernel
theorem dX10_digest_3 : decode cX10_digest 3 = .ok (.lstore_n 1, 1) := by decide +kernel
theorem dX10_digest_4 : decode cX10_digest 4 = .ok (.iconst 0, 1) := by decide +kernel
theorem dX10_digest_5 : decode cX10_digest 5 = .ok (.istore_n 3, 1) := by decide +kernel
theorem dX10_digest_6 : decode cX10_digest 6 = .ok (.iload_n 3, 1) := by decide +kernel
theorem dX10_digest_7 : decode cX10_digest 7 = .ok (.aload_n 0, 1) := by decide +kernel
theorem dX10_digest_8 : decode cX10_digest 8 = .ok (.getfield 152, 3) := by decide +kernel
theorem dX10_digest_11 : decode cX10_digest 11 = .ok (.if_icmp .ge 140, 3) := by decide +kernel
theorem dX10_digest_151 : decode cX10_digest 151 = .ok (.lload_n 1, 1) := by decide +kernel
theorem dX10_digest_152 : decode cX10_digest 152 = .ok (.lreturn, 1) := by decide +kernel
set_option maxRecDepth 100000 in
set_option maxHeartbeats 4000000 in
theorem ct_X10_digest (l : Launch) (m0 : Nat) (ad : Nat → Nat) : Ct l yX10_digest cX10_digest 5 (some .long) 20 0 0 600 (fun S av => av = [.ref m0] ∧ mdNew S m0 ad) (fun _ _ r _ => r = some (.long 5)) := by
  refine ct_of (by decide) (fun S av h => by obtain ⟨rfl, hm, kK, kZ, hI, hL, hJ⟩ := h; exact Nat.le_of_ble_eq_true rfl) ?_
  intro p e s m args below meth c D G bs S av C hr hin hpre
  obtain ⟨rfl, hm, kK, kZ, hI, hL, hJ⟩ := hpre
  refine v_ldc2 (v := (5)) C wd983 dX10_digest_0 ?_
  refine v_lstore_n C dX10_digest_3 (by decide) rfl ?_
  refine v_iconst (v := 0) C dX10_digest_4 (by decide) ?_
  refine v_istore_n C dX10_digest_5 (by decide) rfl ?_
  refine v_iload_n C dX10_digest_6 rfl ?_
  refine v_aload_n C dX10_digest_7 rfl ?_
  refine g10_152 C hm dX10_digest_8 ?_
  rw [hI 643 (by decide) (by decide) (by decide)]
  refine v_icmp_ge (tgt := 151) C dX10_digest_11 (by decide) (fun c_11 => ?_) (fun c_11 => ?_)
  · skip
    refine v_lload_n C dX10_digest_151 rfl ?_
    refine v_lret C hr (Nat.le_of_ble_eq_true rfl) (Nat.le_of_ble_eq_true rfl) dX10_digest_152 ?_
    rfl
  · skip
    exact absurd (by decide) c_11

