/-- is an op's number as told -/
def isOpB (k a b : Int32) : Bool := if k = 1 ∨ k = 2 ∨ k = 3 then isB a 4 else if k = 5 ∨ k = 10 then isB a 12 else if k = 7 then isB a 20 else if k = 8 then isB a 12 && isB b 12 else isB k 13
theorem bI_nar (x : Bool) : narrow .boolean (.int (bI x)) = .int (bI x) := by cases x <;> rfl
theorem opB_4 {k a b : Int32} (h : k = 1 ∨ k = 2 ∨ k = 3) : isOpB k a b = isB a 4 := by unfold isOpB; rw [if_pos h]
theorem opB_12 {k a b : Int32} (h : k = 5 ∨ k = 10) : isOpB k a b = isB a 12 := by rcases h with rfl | rfl <;> rfl
theorem opB_20 {k a b : Int32} (h : k = 7) : isOpB k a b = isB a 20 := by subst h; rfl
theorem opB_8 {k a b : Int32} (h : k = 8) : isOpB k a b = (isB a 12 && isB b 12) := by subst h; rfl
theorem opB_13 {k a b : Int32} (h1 : ¬ k = 1) (h2 : ¬ k = 2) (h3 : ¬ k = 3) (h5 : ¬ k = 5) (h7 : ¬ k = 7) (h8 : ¬ k = 8) (h10 : ¬ k = 10) : isOpB k a b = isB k 13 := by
  unfold isOpB
  rw [if_neg (by rintro (z | z | z) <;> contradiction), if_neg (by rintro (z | z) <;> contradiction), if_neg h7, if_neg h8]
theorem dX9_isOp_0 : decode cX9_isOp 0 = .ok (.iload_n 0, 1) := by decide +kernel
theorem dX9_isOp_1 : decode cX9_isOp 1 = .ok (.tableswitch 95 1 10 #[55, 55, 55, 95, 61, 95, 66, 73, 95, 61], 55) := by decide +kernel
theorem dX9_isOp_56 : decode cX9_isOp 56 = .ok (.iload_n 1, 1) := by decide +kernel
theorem dX9_isOp_57 : decode cX9_isOp 57 = .ok (.iconst 4, 1) := by decide +kernel
theorem dX9_isOp_58 : decode cX9_isOp 58 = .ok (.invokestatic 44, 3) := by decide +kernel
theorem dX9_isOp_61 : decode cX9_isOp 61 = .ok (.ireturn, 1) := by decide +kernel
theorem dX9_isOp_62 : decode cX9_isOp 62 = .ok (.iload_n 1, 1) := by decide +kernel
theorem dX9_isOp_63 : decode cX9_isOp 63 = .ok (.invokestatic 80, 3) := by decide +kernel
theorem dX9_isOp_66 : decode cX9_isOp 66 = .ok (.ireturn, 1) := by decide +kernel
theorem dX9_isOp_67 : decode cX9_isOp 67 = .ok (.iload_n 1, 1) := by decide +kernel
theorem dX9_isOp_68 : decode cX9_isOp 68 = .ok (.bipush 20, 2) := by decide +kernel
theorem dX9_isOp_70 : decode cX9_isOp 70 = .ok (.invokestatic 44, 3) := by decide +kernel
theorem dX9_isOp_73 : decode cX9_isOp 73 = .ok (.ireturn, 1) := by decide +kernel
theorem dX9_isOp_74 : decode cX9_isOp 74 = .ok (.iload_n 1, 1) := by decide +kernel
theorem dX9_isOp_75 : decode cX9_isOp 75 = .ok (.bipush 12, 2) := by decide +kernel
theorem dX9_isOp_77 : decode cX9_isOp 77 = .ok (.invokestatic 44, 3) := by decide +kernel
theorem dX9_isOp_80 : decode cX9_isOp 80 = .ok (.ifCond .eq 14, 3) := by decide +kernel
theorem dX9_isOp_83 : decode cX9_isOp 83 = .ok (.iload_n 2, 1) := by decide +kernel
theorem dX9_isOp_84 : decode cX9_isOp 84 = .ok (.invokestatic 80, 3) := by decide +kernel
theorem dX9_isOp_87 : decode cX9_isOp 87 = .ok (.ifCond .eq 7, 3) := by decide +kernel
theorem dX9_isOp_90 : decode cX9_isOp 90 = .ok (.iconst 1, 1) := by decide +kernel
theorem dX9_isOp_91 : decode cX9_isOp 91 = .ok (.goto 4, 3) := by decide +kernel
theorem dX9_isOp_94 : decode cX9_isOp 94 = .ok (.iconst 0, 1) := by decide +kernel
theorem dX9_isOp_95 : decode cX9_isOp 95 = .ok (.ireturn, 1) := by decide +kernel
theorem dX9_isOp_96 : decode cX9_isOp 96 = .ok (.iload_n 0, 1) := by decide +kernel
theorem dX9_isOp_97 : decode cX9_isOp 97 = .ok (.bipush 13, 2) := by decide +kernel
theorem dX9_isOp_99 : decode cX9_isOp 99 = .ok (.invokestatic 44, 3) := by decide +kernel
theorem dX9_isOp_102 : decode cX9_isOp 102 = .ok (.ireturn, 1) := by decide +kernel
set_option maxRecDepth 100000 in
set_option maxHeartbeats 4000000 in
theorem ct_X9_isOp (l : Launch) (k a b : Int32) : Ct l yX9_isOp cX9_isOp 3 (some .boolean) 2 0 0 41 (fun _ av => av = [.int k, .int a, .int b]) (fun S _ r S' => r = some (.int (bI (isOpB k a b))) ∧ S' = S) := by
  refine ct_of (by decide) (fun S av h => by obtain rfl := h; exact Nat.le_of_ble_eq_true rfl) ?_
  intro p e s m args below meth c D G bs S av C hr hin hpre
  obtain rfl := hpre
  refine v_iload_n C dX9_isOp_0 rfl ?_
  by_cases k_1 : k = 1
  · skip
    refine v_tableIn (off := 55) (tgt := 56) C dX9_isOp_1 (by rw [k_1]; decide) (by rw [k_1]; decide) (by rw [k_1]; rfl) (by decide) ?_
    refine v_iload_n C dX9_isOp_56 rfl ?_
    refine v_iconst (v := 4) C dX9_isOp_57 (by decide) ?_
    refine v_callS (As := [_, _]) (n := 2) C (ct_X9_isBelow l _ _) rfl ⟨wd264, wd141, wd2, wd142⟩ hy_X9_isBelow rfl ⟨Nat.le_of_ble_eq_true rfl, Nat.le_of_ble_eq_true rfl⟩ (Nat.le_of_ble_eq_true rfl) ⟨Nat.le_of_ble_eq_true rfl, Nat.le_of_ble_eq_true rfl⟩ dX9_isOp_58 rfl (fun r_58 S_58 h_58 => ?_)
    obtain ⟨rfl, q_58⟩ := h_58
    obtain rfl := q_58.symm
    refine v_zret C hr (bI_nar _) (Nat.le_of_ble_eq_true rfl) (Nat.le_of_ble_eq_true rfl) dX9_isOp_61 ?_
    refine ⟨?_, rfl⟩
    first
      | rw [opB_4 (Or.inl k_1)]
      | rw [opB_4 (Or.inr (Or.inl k_2))]
      | rw [opB_4 (Or.inr (Or.inr k_3))]
      | rw [opB_12 (Or.inl k_5)]
      | rw [opB_12 (Or.inr k_10)]
      | rw [opB_20 k_7]
      | (rw [opB_8 k_8, bI_t c_80, bI_t c_87]; rfl)
      | (rw [opB_8 k_8, bI_f c_87, Bool.and_false]; rfl)
      | (rw [opB_8 k_8, bI_f c_80, Bool.false_and]; rfl)
      | rw [opB_13 k_1 k_2 k_3 k_5 k_7 k_8 k_10]
      | (subst k_4; rfl)
      | (subst k_6; rfl)
      | (subst k_9; rfl)
  by_cases k_2 : k = 2
  · skip
    refine v_tableIn (off := 55) (tgt := 56) C dX9_isOp_1 (by rw [k_2]; decide) (by rw [k_2]; decide) (by rw [k_2]; rfl) (by decide) ?_
    refine v_iload_n C dX9_isOp_56 rfl ?_
    refine v_iconst (v := 4) C dX9_isOp_57 (by decide) ?_
    refine v_callS (As := [_, _]) (n := 2) C (ct_X9_isBelow l _ _) rfl ⟨wd264, wd141, wd2, wd142⟩ hy_X9_isBelow rfl ⟨Nat.le_of_ble_eq_true rfl, Nat.le_of_ble_eq_true rfl⟩ (Nat.le_of_ble_eq_true rfl) ⟨Nat.le_of_ble_eq_true rfl, Nat.le_of_ble_eq_true rfl⟩ dX9_isOp_58 rfl (fun r_58 S_58 h_58 => ?_)
    obtain ⟨rfl, q_58⟩ := h_58
    obtain rfl := q_58.symm
    refine v_zret C hr (bI_nar _) (Nat.le_of_ble_eq_true rfl) (Nat.le_of_ble_eq_true rfl) dX9_isOp_61 ?_
    refine ⟨?_, rfl⟩
    first
      | rw [opB_4 (Or.inl k_1)]
      | rw [opB_4 (Or.inr (Or.inl k_2))]
      | rw [opB_4 (Or.inr (Or.inr k_3))]
      | rw [opB_12 (Or.inl k_5)]
      | rw [opB_12 (Or.inr k_10)]
      | rw [opB_20 k_7]
      | (rw [opB_8 k_8, bI_t c_80, bI_t c_87]; rfl)
      | (rw [opB_8 k_8, bI_f c_87, Bool.and_false]; rfl)
      | (rw [opB_8 k_8, bI_f c_80, Bool.false_and]; rfl)
      | rw [opB_13 k_1 k_2 k_3 k_5 k_7 k_8 k_10]
      | (subst k_4; rfl)
      | (subst k_6; rfl)
      | (subst k_9; rfl)
  by_cases k_3 : k = 3
  · skip
    refine v_tableIn (off := 55) (tgt := 56) C dX9_isOp_1 (by rw [k_3]; decide) (by rw [k_3]; decide) (by rw [k_3]; rfl) (by decide) ?_
    refine v_iload_n C dX9_isOp_56 rfl ?_
    refine v_iconst (v := 4) C dX9_isOp_57 (by decide) ?_
    refine v_callS (As := [_, _]) (n := 2) C (ct_X9_isBelow l _ _) rfl ⟨wd264, wd141, wd2, wd142⟩ hy_X9_isBelow rfl ⟨Nat.le_of_ble_eq_true rfl, Nat.le_of_ble_eq_true rfl⟩ (Nat.le_of_ble_eq_true rfl) ⟨Nat.le_of_ble_eq_true rfl, Nat.le_of_ble_eq_true rfl⟩ dX9_isOp_58 rfl (fun r_58 S_58 h_58 => ?_)
    obtain ⟨rfl, q_58⟩ := h_58
    obtain rfl := q_58.symm
    refine v_zret C hr (bI_nar _) (Nat.le_of_ble_eq_true rfl) (Nat.le_of_ble_eq_true rfl) dX9_isOp_61 ?_
    refine ⟨?_, rfl⟩
    first
      | rw [opB_4 (Or.inl k_1)]
      | rw [opB_4 (Or.inr (Or.inl k_2))]
      | rw [opB_4 (Or.inr (Or.inr k_3))]
      | rw [opB_12 (Or.inl k_5)]
      | rw [opB_12 (Or.inr k_10)]
      | rw [opB_20 k_7]
      | (rw [opB_8 k_8, bI_t c_80, bI_t c_87]; rfl)
      | (rw [opB_8 k_8, bI_f c_87, Bool.and_false]; rfl)
      | (rw [opB_8 k_8, bI_f c_80, Bool.false_and]; rfl)
      | rw [opB_13 k_1 k_2 k_3 k_5 k_7 k_8 k_10]
      | (subst k_4; rfl)
      | (subst k_6; rfl)
      | (subst k_9; rfl)
  by_cases k_4 : k = 4
  · skip
    refine v_tableIn (off := 95) (tgt := 96) C dX9_isOp_1 (by rw [k_4]; decide) (by rw [k_4]; decide) (by rw [k_4]; rfl) (by decide) ?_
    refine v_iload_n C dX9_isOp_96 rfl ?_
    refine v_bipush (v := 13) C dX9_isOp_97 (by decide) ?_
    refine v_callS (As := [_, _]) (n := 2) C (ct_X9_isBelow l _ _) rfl ⟨wd264, wd141, wd2, wd142⟩ hy_X9_isBelow rfl ⟨Nat.le_of_ble_eq_true rfl, Nat.le_of_ble_eq_true rfl⟩ (Nat.le_of_ble_eq_true rfl) ⟨Nat.le_of_ble_eq_true rfl, Nat.le_of_ble_eq_true rfl⟩ dX9_isOp_99 rfl (fun r_99 S_99 h_99 => ?_)
    obtain ⟨rfl, q_99⟩ := h_99
    obtain rfl := q_99.symm
    refine v_zret C hr (bI_nar _) (Nat.le_of_ble_eq_true rfl) (Nat.le_of_ble_eq_true rfl) dX9_isOp_102 ?_
    refine ⟨?_, rfl⟩
    first
      | rw [opB_4 (Or.inl k_1)]
      | rw [opB_4 (Or.inr (Or.inl k_2))]
      | rw [opB_4 (Or.inr (Or.inr k_3))]
      | rw [opB_12 (Or.inl k_5)]
      | rw [opB_12 (Or.inr k_10)]
      | rw [opB_20 k_7]
      | (rw [opB_8 k_8, bI_t c_80, bI_t c_87]; rfl)
      | (rw [opB_8 k_8, bI_f c_87, Bool.and_false]; rfl)
      | (rw [opB_8 k_8, bI_f c_80, Bool.false_and]; rfl)
      | rw [opB_13 k_1 k_2 k_3 k_5 k_7 k_8 k_10]
      | (subst k_4; rfl)
      | (subst k_6; rfl)
      | (subst k_9; rfl)
  by_cases k_5 : k = 5
  · skip
    refine v_tableIn (off := 61) (tgt := 62) C dX9_isOp_1 (by rw [k_5]; decide) (by rw [k_5]; decide) (by rw [k_5]; rfl) (by decide) ?_
    refine v_iload_n C dX9_isOp_62 rfl ?_
    refine v_callS (As := [_]) (n := 1) C (ct_X9_isAct l _) rfl ⟨wd345, wd346, wd2, wd347⟩ hy_X9_isAct rfl ⟨Nat.le_of_ble_eq_true rfl, Nat.le_of_ble_eq_true rfl⟩ (Nat.le_of_ble_eq_true rfl) ⟨Nat.le_of_ble_eq_true rfl, Nat.le_of_ble_eq_true rfl⟩ dX9_isOp_63 rfl (fun r_63 S_63 h_63 => ?_)
    obtain ⟨rfl, q_63⟩ := h_63
    obtain rfl := q_63.symm
    refine v_zret C hr (bI_nar _) (Nat.le_of_ble_eq_true rfl) (Nat.le_of_ble_eq_true rfl) dX9_isOp_66 ?_
    refine ⟨?_, rfl⟩
    first
      | rw [opB_4 (Or.inl k_1)]
      | rw [opB_4 (Or.inr (Or.inl k_2))]
      | rw [opB_4 (Or.inr (Or.inr k_3))]
      | rw [opB_12 (Or.inl k_5)]
      | rw [opB_12 (Or.inr k_10)]
      | rw [opB_20 k_7]
      | (rw [opB_8 k_8, bI_t c_80, bI_t c_87]; rfl)
      | (rw [opB_8 k_8, bI_f c_87, Bool.and_false]; rfl)
      | (rw [opB_8 k_8, bI_f c_80, Bool.false_and]; rfl)
      | rw [opB_13 k_1 k_2 k_3 k_5 k_7 k_8 k_10]
      | (subst k_4; rfl)
      | (subst k_6; rfl)
      | (subst k_9; rfl)
  by_cases k_6 : k = 6
  · skip
    refine v_tableIn (off := 95) (tgt := 96) C dX9_isOp_1 (by rw [k_6]; decide) (by rw [k_6]; decide) (by rw [k_6]; rfl) (by decide) ?_
    refine v_iload_n C dX9_isOp_96 rfl ?_
    refine v_bipush (v := 13) C dX9_isOp_97 (by decide) ?_
    refine v_callS (As := [_, _]) (n := 2) C (ct_X9_isBelow l _ _) rfl ⟨wd264, wd141, wd2, wd142⟩ hy_X9_isBelow rfl ⟨Nat.le_of_ble_eq_true rfl, Nat.le_of_ble_eq_true rfl⟩ (Nat.le_of_ble_eq_true rfl) ⟨Nat.le_of_ble_eq_true rfl, Nat.le_of_ble_eq_true rfl⟩ dX9_isOp_99 rfl (fun r_99 S_99 h_99 => ?_)
    obtain ⟨rfl, q_99⟩ := h_99
    obtain rfl := q_99.symm
    refine v_zret C hr (bI_nar _) (Nat.le_of_ble_eq_true rfl) (Nat.le_of_ble_eq_true rfl) dX9_isOp_102 ?_
    refine ⟨?_, rfl⟩
    first
      | rw [opB_4 (Or.inl k_1)]
      | rw [opB_4 (Or.inr (Or.inl k_2))]
      | rw [opB_4 (Or.inr (Or.inr k_3))]
      | rw [opB_12 (Or.inl k_5)]
      | rw [opB_12 (Or.inr k_10)]
      | rw [opB_20 k_7]
      | (rw [opB_8 k_8, bI_t c_80, bI_t c_87]; rfl)
      | (rw [opB_8 k_8, bI_f c_87, Bool.and_false]; rfl)
      | (rw [opB_8 k_8, bI_f c_80, Bool.false_and]; rfl)
      | rw [opB_13 k_1 k_2 k_3 k_5 k_7 k_8 k_10]
      | (subst k_4; rfl)
      | (subst k_6; rfl)
      | (subst k_9; rfl)
  by_cases k_7 : k = 7
  · skip
    refine v_tableIn (off := 66) (tgt := 67) C dX9_isOp_1 (by rw [k_7]; decide) (by rw [k_7]; decide) (by rw [k_7]; rfl) (by decide) ?_
    refine v_iload_n C dX9_isOp_67 rfl ?_
    refine v_bipush (v := 20) C dX9_isOp_68 (by decide) ?_
    refine v_callS (As := [_, _]) (n := 2) C (ct_X9_isBelow l _ _) rfl ⟨wd264, wd141, wd2, wd142⟩ hy_X9_isBelow rfl ⟨Nat.le_of_ble_eq_true rfl, Nat.le_of_ble_eq_true rfl⟩ (Nat.le_of_ble_eq_true rfl) ⟨Nat.le_of_ble_eq_true rfl, Nat.le_of_ble_eq_true rfl⟩ dX9_isOp_70 rfl (fun r_70 S_70 h_70 => ?_)
    obtain ⟨rfl, q_70⟩ := h_70
    obtain rfl := q_70.symm
    refine v_zret C hr (bI_nar _) (Nat.le_of_ble_eq_true rfl) (Nat.le_of_ble_eq_true rfl) dX9_isOp_73 ?_
    refine ⟨?_, rfl⟩
    first
      | rw [opB_4 (Or.inl k_1)]
      | rw [opB_4 (Or.inr (Or.inl k_2))]
      | rw [opB_4 (Or.inr (Or.inr k_3))]
      | rw [opB_12 (Or.inl k_5)]
      | rw [opB_12 (Or.inr k_10)]
      | rw [opB_20 k_7]
      | (rw [opB_8 k_8, bI_t c_80, bI_t c_87]; rfl)
      | (rw [opB_8 k_8, bI_f c_87, Bool.and_false]; rfl)
      | (rw [opB_8 k_8, bI_f c_80, Bool.false_and]; rfl)
      | rw [opB_13 k_1 k_2 k_3 k_5 k_7 k_8 k_10]
      | (subst k_4; rfl)
      | (subst k_6; rfl)
      | (subst k_9; rfl)
  by_cases k_8 : k = 8
  · skip
    refine v_tableIn (off := 73) (tgt := 74) C dX9_isOp_1 (by rw [k_8]; decide) (by rw [k_8]; decide) (by rw [k_8]; rfl) (by decide) ?_
    refine v_iload_n C dX9_isOp_74 rfl ?_
    refine v_bipush (v := 12) C dX9_isOp_75 (by decide) ?_
    refine v_callS (As := [_, _]) (n := 2) C (ct_X9_isBelow l _ _) rfl ⟨wd264, wd141, wd2, wd142⟩ hy_X9_isBelow rfl ⟨Nat.le_of_ble_eq_true rfl, Nat.le_of_ble_eq_true rfl⟩ (Nat.le_of_ble_eq_true rfl) ⟨Nat.le_of_ble_eq_true rfl, Nat.le_of_ble_eq_true rfl⟩ dX9_isOp_77 rfl (fun r_77 S_77 h_77 => ?_)
    obtain ⟨rfl, q_77⟩ := h_77
    obtain rfl := q_77.symm
    refine v_if_eq (tgt := 94) C dX9_isOp_80 (by decide) (fun c_80 => ?_) (fun c_80 => ?_)
    · skip
      refine v_iconst (v := 0) C dX9_isOp_94 (by decide) ?_
      refine v_zret C hr rfl (Nat.le_of_ble_eq_true rfl) (Nat.le_of_ble_eq_true rfl) dX9_isOp_95 ?_
      refine ⟨?_, rfl⟩
      first
        | rw [opB_4 (Or.inl k_1)]
        | rw [opB_4 (Or.inr (Or.inl k_2))]
        | rw [opB_4 (Or.inr (Or.inr k_3))]
        | rw [opB_12 (Or.inl k_5)]
        | rw [opB_12 (Or.inr k_10)]
        | rw [opB_20 k_7]
        | (rw [opB_8 k_8, bI_t c_80, bI_t c_87]; rfl)
        | (rw [opB_8 k_8, bI_f c_87, Bool.and_false]; rfl)
        | (rw [opB_8 k_8, bI_f c_80, Bool.false_and]; rfl)
        | rw [opB_13 k_1 k_2 k_3 k_5 k_7 k_8 k_10]
        | (subst k_4; rfl)
        | (subst k_6; rfl)
        | (subst k_9; rfl)
    · skip
      refine v_iload_n C dX9_isOp_83 rfl ?_
      refine v_callS (As := [_]) (n := 1) C (ct_X9_isAct l _) rfl ⟨wd345, wd346, wd2, wd347⟩ hy_X9_isAct rfl ⟨Nat.le_of_ble_eq_true rfl, Nat.le_of_ble_eq_true rfl⟩ (Nat.le_of_ble_eq_true rfl) ⟨Nat.le_of_ble_eq_true rfl, Nat.le_of_ble_eq_true rfl⟩ dX9_isOp_84 rfl (fun r_84 S_84 h_84 => ?_)
      obtain ⟨rfl, q_84⟩ := h_84
      obtain rfl := q_84.symm
      refine v_if_eq (tgt := 94) C dX9_isOp_87 (by decide) (fun c_87 => ?_) (fun c_87 => ?_)
      · skip
        refine v_iconst (v := 0) C dX9_isOp_94 (by decide) ?_
        refine v_zret C hr rfl (Nat.le_of_ble_eq_true rfl) (Nat.le_of_ble_eq_true rfl) dX9_isOp_95 ?_
        refine ⟨?_, rfl⟩
        first
          | rw [opB_4 (Or.inl k_1)]
          | rw [opB_4 (Or.inr (Or.inl k_2))]
          | rw [opB_4 (Or.inr (Or.inr k_3))]
          | rw [opB_12 (Or.inl k_5)]
          | rw [opB_12 (Or.inr k_10)]
          | rw [opB_20 k_7]
          | (rw [opB_8 k_8, bI_t c_80, bI_t c_87]; rfl)
          | (rw [opB_8 k_8, bI_f c_87, Bool.and_false]; rfl)
          | (rw [opB_8 k_8, bI_f c_80, Bool.false_and]; rfl)
          | rw [opB_13 k_1 k_2 k_3 k_5 k_7 k_8 k_10]
          | (subst k_4; rfl)
          | (subst k_6; rfl)
          | (subst k_9; rfl)
      · skip
        refine v_iconst (v := 1) C dX9_isOp_90 (by decide) ?_
        refine v_goto (tgt := 95) C dX9_isOp_91 (by decide) ?_
        refine v_zret C hr rfl (Nat.le_of_ble_eq_true rfl) (Nat.le_of_ble_eq_true rfl) dX9_isOp_95 ?_
        refine ⟨?_, rfl⟩
        first
          | rw [opB_4 (Or.inl k_1)]
          | rw [opB_4 (Or.inr (Or.inl k_2))]
          | rw [opB_4 (Or.inr (Or.inr k_3))]
          | rw [opB_12 (Or.inl k_5)]
          | rw [opB_12 (Or.inr k_10)]
          | rw [opB_20 k_7]
          | (rw [opB_8 k_8, bI_t c_80, bI_t c_87]; rfl)
          | (rw [opB_8 k_8, bI_f c_87, Bool.and_false]; rfl)
          | (rw [opB_8 k_8, bI_f c_80, Bool.false_and]; rfl)
          | rw [opB_13 k_1 k_2 k_3 k_5 k_7 k_8 k_10]
          | (subst k_4; rfl)
          | (subst k_6; rfl)
          | (subst k_9; rfl)
  by_cases k_9 : k = 9
  · skip
    refine v_tableIn (off := 95) (tgt := 96) C dX9_isOp_1 (by rw [k_9]; decide) (by rw [k_9]; decide) (by rw [k_9]; rfl) (by decide) ?_
    refine v_iload_n C dX9_isOp_96 rfl ?_
    refine v_bipush (v := 13) C dX9_isOp_97 (by decide) ?_
    refine v_callS (As := [_, _]) (n := 2) C (ct_X9_isBelow l _ _) rfl ⟨wd264, wd141, wd2, wd142⟩ hy_X9_isBelow rfl ⟨Nat.le_of_ble_eq_true rfl, Nat.le_of_ble_eq_true rfl⟩ (Nat.le_of_ble_eq_true rfl) ⟨Nat.le_of_ble_eq_true rfl, Nat.le_of_ble_eq_true rfl⟩ dX9_isOp_99 rfl (fun r_99 S_99 h_99 => ?_)
    obtain ⟨rfl, q_99⟩ := h_99
    obtain rfl := q_99.symm
    refine v_zret C hr (bI_nar _) (Nat.le_of_ble_eq_true rfl) (Nat.le_of_ble_eq_true rfl) dX9_isOp_102 ?_
    refine ⟨?_, rfl⟩
    first
      | rw [opB_4 (Or.inl k_1)]
      | rw [opB_4 (Or.inr (Or.inl k_2))]
      | rw [opB_4 (Or.inr (Or.inr k_3))]
      | rw [opB_12 (Or.inl k_5)]
      | rw [opB_12 (Or.inr k_10)]
      | rw [opB_20 k_7]
      | (rw [opB_8 k_8, bI_t c_80, bI_t c_87]; rfl)
      | (rw [opB_8 k_8, bI_f c_87, Bool.and_false]; rfl)
      | (rw [opB_8 k_8, bI_f c_80, Bool.false_and]; rfl)
      | rw [opB_13 k_1 k_2 k_3 k_5 k_7 k_8 k_10]
      | (subst k_4; rfl)
      | (subst k_6; rfl)
      | (subst k_9; rfl)
  by_cases k_10 : k = 10
  · skip
    refine v_tableIn (off := 61) (tgt := 62) C dX9_isOp_1 (by rw [k_10]; decide) (by rw [k_10]; decide) (by rw [k_10]; rfl) (by decide) ?_
    refine v_iload_n C dX9_isOp_62 rfl ?_
    refine v_callS (As := [_]) (n := 1) C (ct_X9_isAct l _) rfl ⟨wd345, wd346, wd2, wd347⟩ hy_X9_isAct rfl ⟨Nat.le_of_ble_eq_true rfl, Nat.le_of_ble_eq_true rfl⟩ (Nat.le_of_ble_eq_true rfl) ⟨Nat.le_of_ble_eq_true rfl, Nat.le_of_ble_eq_true rfl⟩ dX9_isOp_63 rfl (fun r_63 S_63 h_63 => ?_)
    obtain ⟨rfl, q_63⟩ := h_63
    obtain rfl := q_63.symm
    refine v_zret C hr (bI_nar _) (Nat.le_of_ble_eq_true rfl) (Nat.le_of_ble_eq_true rfl) dX9_isOp_66 ?_
    refine ⟨?_, rfl⟩
    first
      | rw [opB_4 (Or.inl k_1)]
      | rw [opB_4 (Or.inr (Or.inl k_2))]
      | rw [opB_4 (Or.inr (Or.inr k_3))]
      | rw [opB_12 (Or.inl k_5)]
      | rw [opB_12 (Or.inr k_10)]
      | rw [opB_20 k_7]
      | (rw [opB_8 k_8, bI_t c_80, bI_t c_87]; rfl)
      | (rw [opB_8 k_8, bI_f c_87, Bool.and_false]; rfl)
      | (rw [opB_8 k_8, bI_f c_80, Bool.false_and]; rfl)
      | rw [opB_13 k_1 k_2 k_3 k_5 k_7 k_8 k_10]
      | (subst k_4; rfl)
      | (subst k_6; rfl)
      | (subst k_9; rfl)
  refine v_tableOut (tgt := 96) C dX9_isOp_1 (by have q1 := lv_neT k_1 (a := 1) rfl ; have q2 := lv_neT k_2 (a := 2) rfl ; have q3 := lv_neT k_3 (a := 3) rfl ; have q4 := lv_neT k_4 (a := 4) rfl ; have q5 := lv_neT k_5 (a := 5) rfl ; have q6 := lv_neT k_6 (a := 6) rfl ; have q7 := lv_neT k_7 (a := 7) rfl ; have q8 := lv_neT k_8 (a := 8) rfl ; have q9 := lv_neT k_9 (a := 9) rfl ; have q10 := lv_neT k_10 (a := 10) rfl ; omega) (by decide) ?_
  refine v_iload_n C dX9_isOp_96 rfl ?_
  refine v_bipush (v := 13) C dX9_isOp_97 (by decide) ?_
  refine v_callS (As := [_, _]) (n := 2) C (ct_X9_isBelow l _ _) rfl ⟨wd264, wd141, wd2, wd142⟩ hy_X9_isBelow rfl ⟨Nat.le_of_ble_eq_true rfl, Nat.le_of_ble_eq_true rfl⟩ (Nat.le_of_ble_eq_true rfl) ⟨Nat.le_of_ble_eq_true rfl, Nat.le_of_ble_eq_true rfl⟩ dX9_isOp_99 rfl (fun r_99 S_99 h_99 => ?_)
  obtain ⟨rfl, q_99⟩ := h_99
  obtain rfl := q_99.symm
  refine v_zret C hr (bI_nar _) (Nat.le_of_ble_eq_true rfl) (Nat.le_of_ble_eq_true rfl) dX9_isOp_102 ?_
  refine ⟨?_, rfl⟩
  first
    | rw [opB_4 (Or.inl k_1)]
    | rw [opB_4 (Or.inr (Or.inl k_2))]
    | rw [opB_4 (Or.inr (Or.inr k_3))]
    | rw [opB_12 (Or.inl k_5)]
    | rw [opB_12 (Or.inr k_10)]
    | rw [opB_20 k_7]
    | (rw [opB_8 k_8, bI_t c_80, bI_t c_87]; rfl)
    | (rw [opB_8 k_8, bI_f c_87, Bool.and_false]; rfl)
    | (rw [opB_8 k_8, bI_f c_80, Bool.false_and]; rfl)
    | rw [opB_13 k_1 k_2 k_3 k_5 k_7 k_8 k_10]
    | (subst k_4; rfl)
    | (subst k_6; rfl)
    | (subst k_9; rfl)

theorem dX9_op_0 : decode cX9_op 0 = .ok (.iload_n 1, 1) := by decide +kernel
theorem dX9_op_1 : decode cX9_op 1 = .ok (.iload_n 2, 1) := by decide +kernel
theorem dX9_op_2 : decode cX9_op 2 = .ok (.iload_n 3, 1) := by decide +kernel
theorem dX9_op_3 : decode cX9_op 3 = .ok (.invokestatic 100, 3) := by decide +kernel
theorem dX9_op_6 : decode cX9_op 6 = .ok (.ifCond .ne 6, 3) := by decide +kernel
theorem dX9_op_9 : decode cX9_op 9 = .ok (.bipush (-2), 2) := by decide +kernel
theorem dX9_op_11 : decode cX9_op 11 = .ok (.ireturn, 1) := by decide +kernel
theorem dX9_op_12 : decode cX9_op 12 = .ok (.aload_n 0, 1) := by decide +kernel
theorem dX9_op_13 : decode cX9_op 13 = .ok (.getfield 25, 3) := by decide +kernel
theorem dX9_op_16 : decode cX9_op 16 = .ok (.ifnonnull 6, 3) := by decide +kernel
theorem dX9_op_19 : decode cX9_op 19 = .ok (.bipush (-3), 2) := by decide +kernel
theorem dX9_op_21 : decode cX9_op 21 = .ok (.ireturn, 1) := by decide +kernel
set_option maxRecDepth 100000 in
set_option maxHeartbeats 4000000 in
theorem ct_X9_op (l : Launch) (h co ts fs mg ch rw ft gl gr gq ml mr mq sg tp cs : Nat) (k a b : Int32) : Ct l yX9_op cX9_op 4 (some .int) 3 0 0 63 (fun S av => av = [.ref h, .int k, .int a, .int b] ∧ pcAt S h co ts fs mg ch rw ft gl gr gq ml mr mq sg tp cs ∧ pcNew S h co ts fs sg tp) (fun S _ r S' => r = some (.int (if isOpB k a b = true then -3 else -2)) ∧ S' = S) := by
  refine ct_of (by decide) (fun S av h => by obtain ⟨rfl, ⟨hh, e_co, ⟨i_co, e_ts, i_ts, e_fs, i_fs, e_mg, k_mg, e_ch, i_ch⟩, e_sg, ⟨i_sg, e_sgco, e_tp, i_tp, e_cs, i_cs⟩⟩, ⟨n_lat, n_tc, n_fc, n_ts, n_fs, n_sg, n_out, n_tps⟩⟩ := h; exact Nat.le_of_ble_eq_true rfl) ?_
  intro p e s m args below meth c D G bs S av C hr hin hpre
  obtain ⟨rfl, ⟨hh, e_co, ⟨i_co, e_ts, i_ts, e_fs, i_fs, e_mg, k_mg, e_ch, i_ch⟩, e_sg, ⟨i_sg, e_sgco, e_tp, i_tp, e_cs, i_cs⟩⟩, ⟨n_lat, n_tc, n_fc, n_ts, n_fs, n_sg, n_out, n_tps⟩⟩ := hpre
  refine v_iload_n C dX9_op_0 rfl ?_
  refine v_iload_n C dX9_op_1 rfl ?_
  refine v_iload_n C dX9_op_2 rfl ?_
  refine v_callS (As := [_, _, _]) (n := 3) C (ct_X9_isOp l _ _ _) rfl ⟨wd412, wd413, wd2, wd414⟩ hy_X9_isOp rfl ⟨Nat.le_of_ble_eq_true rfl, Nat.le_of_ble_eq_true rfl⟩ (Nat.le_of_ble_eq_true rfl) ⟨Nat.le_of_ble_eq_true rfl, Nat.le_of_ble_eq_true rfl⟩ dX9_op_3 rfl (fun r_3 S_3 h_3 => ?_)
  obtain ⟨rfl, q_3⟩ := h_3
  obtain rfl := q_3.symm
  refine v_if_ne (tgt := 12) C dX9_op_6 (by decide) (fun c_6 => ?_) (fun c_6 => ?_)
  · skip
    refine v_aload_n C dX9_op_12 rfl ?_
    refine g9_25 C hh dX9_op_13 ?_
    refine v_ifnonnull (tgt := 22) C dX9_op_16 (by decide) (fun b_16 c_16 => ?_) (fun c_16 => ?_)
    · skip
      exact absurd (n_lat.symm.trans c_16) (by simp)
    · skip
      refine v_bipush (v := -3) C dX9_op_19 (by decide) ?_
      refine v_iret C hr (Nat.le_of_ble_eq_true rfl) (Nat.le_of_ble_eq_true rfl) dX9_op_21 ?_
      first
        | exact ⟨by rw [bI_f c_6]; rfl, rfl⟩
        | exact ⟨by rw [bI_t c_6]; rfl, rfl⟩
  · skip
    refine v_bipush (v := -2) C dX9_op_9 (by decide) ?_
    refine v_iret C hr (Nat.le_of_ble_eq_true rfl) (Nat.le_of_ble_eq_true rfl) dX9_op_11 ?_
    first
      | exact ⟨by rw [bI_f c_6]; rfl, rfl⟩
      | exact ⟨by rw [bI_t c_6]; rfl, rfl⟩

theorem dX6_tellingOf_0 : decode cX6_tellingOf 0 = .ok (.iload_n 1, 1) := by decide +kernel
theorem dX6_tellingOf_1 : decode cX6_tellingOf 1 = .ok (.tableswitch 66 0 3 #[31, 36, 54, 60], 31) := by decide +kernel
theorem dX6_tellingOf_32 : decode cX6_tellingOf 32 = .ok (.aload_n 0, 1) := by decide +kernel
theorem dX6_tellingOf_33 : decode cX6_tellingOf 33 = .ok (.getfield 39, 3) := by decide +kernel
theorem dX6_tellingOf_36 : decode cX6_tellingOf 36 = .ok (.lreturn, 1) := by decide +kernel
theorem dX6_tellingOf_37 : decode cX6_tellingOf 37 = .ok (.aload_n 0, 1) := by decide +kernel
theorem dX6_tellingOf_38 : decode cX6_tellingOf 38 = .ok (.getfield 26, 3) := by decide +kernel
theorem dX6_tellingOf_41 : decode cX6_tellingOf 41 = .ok (.iconst 1, 1) := by decide +kernel
theorem dX6_tellingOf_42 : decode cX6_tellingOf 42 = .ok (.if_icmp .ne 11, 3) := by decide +kernel
theorem dX6_tellingOf_53 : decode cX6_tellingOf 53 = .ok (.lconst 0, 1) := by decide +kernel
theorem dX6_tellingOf_54 : decode cX6_tellingOf 54 = .ok (.lreturn, 1) := by decide +kernel
theorem dX6_tellingOf_55 : decode cX6_tellingOf 55 = .ok (.aload_n 0, 1) := by decide +kernel
theorem dX6_tellingOf_56 : decode cX6_tellingOf 56 = .ok (.getfield 29, 3) := by decide +kernel
theorem dX6_tellingOf_59 : decode cX6_tellingOf 59 = .ok (.i2l, 1) := by decide +kernel
theorem dX6_tellingOf_60 : decode cX6_tellingOf 60 = .ok (.lreturn, 1) := by decide +kernel
theorem dX6_tellingOf_61 : decode cX6_tellingOf 61 = .ok (.aload_n 0, 1) := by decide +kernel
theorem dX6_tellingOf_62 : decode cX6_tellingOf 62 = .ok (.getfield 32, 3) := by decide +kernel
theorem dX6_tellingOf_65 : decode cX6_tellingOf 65 = .ok (.i2l, 1) := by decide +kernel
theorem dX6_tellingOf_66 : decode cX6_tellingOf 66 = .ok (.lreturn, 1) := by decide +kernel
theorem dX6_tellingOf_67 : decode cX6_tellingOf 67 = .ok (.lconst 0, 1) := by decide +kernel
theorem dX6_tellingOf_68 : decode cX6_tellingOf 68 = .ok (.lreturn, 1) := by decide +kernel
set_option maxRecDepth 100000 in
set_option maxHeartbeats 4000000 in
theorem ct_X6_tellingOf (l : Launch) (sg : Nat) (w : Int32) : Ct l yX6_tellingOf cX6_tellingOf 2 (some .long) 0 0 0 0 (fun S av => av = [.ref sg, .int w] ∧ is S sg 6 ∧ (∀ g, 385 < g → g < 390 → mI S g sg = 0) ∧ mJ S 390 sg = 0) (fun S _ r S' => r = some (.long 0) ∧ S' = S) := by
  refine ct_of (by decide) (fun S av h => by obtain ⟨rfl, i_sg, n_sg, n_out⟩ := h; exact Nat.le_of_ble_eq_true rfl) ?_
  intro p e s m args below meth c D G bs S av C hr hin hpre
  obtain ⟨rfl, i_sg, n_sg, n_out⟩ := hpre
  refine v_iload_n C dX6_tellingOf_0 rfl ?_
  by_cases k_0 : w = 0
  · skip
    refine v_tableIn (off := 31) (tgt := 32) C dX6_tellingOf_1 (by rw [k_0]; decide) (by rw [k_0]; decide) (by rw [k_0]; rfl) (by decide) ?_
    refine v_aload_n C dX6_tellingOf_32 rfl ?_
    refine g6_39 C i_sg dX6_tellingOf_33 ?_
    refine v_lret C hr (Nat.le_of_ble_eq_true rfl) (Nat.le_of_ble_eq_true rfl) dX6_tellingOf_36 ?_
    refine ⟨?_, rfl⟩
    first
      | rfl
      | rw [n_out]
      | (rw [n_sg 388 (by decide) (by decide)]; rfl)
      | (rw [n_sg 389 (by decide) (by decide)]; rfl)
  by_cases k_1 : w = 1
  · skip
    refine v_tableIn (off := 36) (tgt := 37) C dX6_tellingOf_1 (by rw [k_1]; decide) (by rw [k_1]; decide) (by rw [k_1]; rfl) (by decide) ?_
    refine v_aload_n C dX6_tellingOf_37 rfl ?_
    refine g6_26 C i_sg dX6_tellingOf_38 ?_
    refine v_iconst (v := 1) C dX6_tellingOf_41 (by decide) ?_
    refine v_icmp_ne (tgt := 53) C dX6_tellingOf_42 (by decide) (fun c_42 => ?_) (fun c_42 => ?_)
    · skip
      refine v_lconst (v := 0) C dX6_tellingOf_53 (by decide) ?_
      refine v_lret C hr (Nat.le_of_ble_eq_true rfl) (Nat.le_of_ble_eq_true rfl) dX6_tellingOf_54 ?_
      refine ⟨?_, rfl⟩
      first
        | rfl
        | rw [n_out]
        | (rw [n_sg 388 (by decide) (by decide)]; rfl)
        | (rw [n_sg 389 (by decide) (by decide)]; rfl)
    · skip
      exact absurd c_42 (by rw [n_sg 386 (by decide) (by decide)]; decide)
  by_cases k_2 : w = 2
  · skip
    refine v_tableIn (off := 54) (tgt := 55) C dX6_tellingOf_1 (by rw [k_2]; decide) (by rw [k_2]; decide) (by rw [k_2]; rfl) (by decide) ?_
    refine v_aload_n C dX6_tellingOf_55 rfl ?_
    refine g6_29 C i_sg dX6_tellingOf_56 ?_
    refine v_i2l C dX6_tellingOf_59 ?_
    refine v_lret C hr (Nat.le_of_ble_eq_true rfl) (Nat.le_of_ble_eq_true rfl) dX6_tellingOf_60 ?_
    refine ⟨?_, rfl⟩
    first
      | rfl
      | rw [n_out]
      | (rw [n_sg 388 (by decide) (by decide)]; rfl)
      | (rw [n_sg 389 (by decide) (by decide)]; rfl)
  by_cases k_3 : w = 3
  · skip
    refine v_tableIn (off := 60) (tgt := 61) C dX6_tellingOf_1 (by rw [k_3]; decide) (by rw [k_3]; decide) (by rw [k_3]; rfl) (by decide) ?_
    refine v_aload_n C dX6_tellingOf_61 rfl ?_
    refine g6_32 C i_sg dX6_tellingOf_62 ?_
    refine v_i2l C dX6_tellingOf_65 ?_
    refine v_lret C hr (Nat.le_of_ble_eq_true rfl) (Nat.le_of_ble_eq_true rfl) dX6_tellingOf_66 ?_
    refine ⟨?_, rfl⟩
    first
      | rfl
      | rw [n_out]
      | (rw [n_sg 388 (by decide) (by decide)]; rfl)
      | (rw [n_sg 389 (by decide) (by decide)]; rfl)
  refine v_tableOut (tgt := 67) C dX6_tellingOf_1 (by have q0 := lv_neT k_0 (a := 0) rfl ; have q1 := lv_neT k_1 (a := 1) rfl ; have q2 := lv_neT k_2 (a := 2) rfl ; have q3 := lv_neT k_3 (a := 3) rfl ; omega) (by decide) ?_
  refine v_lconst (v := 0) C dX6_tellingOf_67 (by decide) ?_
  refine v_lret C hr (Nat.le_of_ble_eq_true rfl) (Nat.le_of_ble_eq_true rfl) dX6_tellingOf_68 ?_
  refine ⟨?_, rfl⟩
  first
    | rfl
    | rw [n_out]
    | (rw [n_sg 388 (by decide) (by decide)]; rfl)
    | (rw [n_sg 389 (by decide) (by decide)]; rfl)

theorem dX9_told_0 : decode cX9_told 0 = .ok (.aload_n 0, 1) := by decide +kernel
theorem dX9_told_1 : decode cX9_told 1 = .ok (.getfield 21, 3) := by decide +kernel
theorem dX9_told_4 : decode cX9_told 4 = .ok (.iload_n 1, 1) := by decide +kernel
theorem dX9_told_5 : decode cX9_told 5 = .ok (.invokevirtual 177, 3) := by decide +kernel
theorem dX9_told_8 : decode cX9_told 8 = .ok (.lreturn, 1) := by decide +kernel
set_option maxRecDepth 100000 in
set_option maxHeartbeats 4000000 in
theorem ct_X9_told (l : Launch) (h co ts fs mg ch rw ft gl gr gq ml mr mq sg tp cs : Nat) (w : Int32) : Ct l yX9_told cX9_told 2 (some .long) 1 0 0 21 (fun S av => av = [.ref h, .int w] ∧ pcAt S h co ts fs mg ch rw ft gl gr gq ml mr mq sg tp cs ∧ pcNew S h co ts fs sg tp) (fun S _ r S' => r = some (.long 0) ∧ S' = S) := by
  refine ct_of (by decide) (fun S av h => by obtain ⟨rfl, ⟨hh, e_co, ⟨i_co, e_ts, i_ts, e_fs, i_fs, e_mg, k_mg, e_ch, i_ch⟩, e_sg, ⟨i_sg, e_sgco, e_tp, i_tp, e_cs, i_cs⟩⟩, ⟨n_lat, n_tc, n_fc, n_ts, n_fs, n_sg, n_out, n_tps⟩⟩ := h; exact Nat.le_of_ble_eq_true rfl) ?_
  intro p e s m args below meth c D G bs S av C hr hin hpre
  obtain ⟨rfl, ⟨hh, e_co, ⟨i_co, e_ts, i_ts, e_fs, i_fs, e_mg, k_mg, e_ch, i_ch⟩, e_sg, ⟨i_sg, e_sgco, e_tp, i_tp, e_cs, i_cs⟩⟩, ⟨n_lat, n_tc, n_fc, n_ts, n_fs, n_sg, n_out, n_tps⟩⟩ := hpre
  refine v_aload_n C dX9_told_0 rfl ?_
  refine r9_21 (b := sg) C hh e_sg dX9_told_1 ?_
  refine v_iload_n C dX9_told_4 rfl ?_
  refine v_callV (As := [_]) (n := 1) C (ct_X6_tellingOf l sg _) rfl i_sg (by decide) rfl ⟨wd883, wd884, wd885, wd19, wd886⟩ ⟨rfl, hy_X6_tellingOf⟩ rfl ⟨Nat.le_of_ble_eq_true rfl, Nat.le_of_ble_eq_true rfl⟩ (Nat.le_of_ble_eq_true rfl) ⟨Nat.le_of_ble_eq_true rfl, Nat.le_of_ble_eq_true rfl⟩ dX9_told_5 ⟨rfl, i_sg, n_sg, n_out⟩ (fun r_5 S_5 h_5 => ?_)
  obtain ⟨rfl, q_5⟩ := h_5
  obtain rfl := q_5.symm
  refine v_lret C hr (Nat.le_of_ble_eq_true rfl) (Nat.le_of_ble_eq_true rfl) dX9_told_8 ?_
  exact ⟨rfl, rfl⟩

theorem dX9_marks_0 : decode cX9_marks 0 = .ok (.aload_n 0, 1) := by decide +kernel
theorem dX9_marks_1 : decode cX9_marks 1 = .ok (.getfield 21, 3) := by decide +kernel
theorem dX9_marks_4 : decode cX9_marks 4 = .ok (.getfield 181, 3) := by decide +kernel
theorem dX9_marks_7 : decode cX9_marks 7 = .ok (.getfield 185, 3) := by decide +kernel
theorem dX9_marks_10 : decode cX9_marks 10 = .ok (.ireturn, 1) := by decide +kernel
set_option maxRecDepth 100000 in
set_option maxHeartbeats 4000000 in
theorem ct_X9_marks (l : Launch) (h co ts fs mg ch rw ft gl gr gq ml mr mq sg tp cs : Nat) : Ct l yX9_marks cX9_marks 1 (some .int) 0 0 0 0 (fun S av => av = [.ref h] ∧ pcAt S h co ts fs mg ch rw ft gl gr gq ml mr mq sg tp cs ∧ pcNew S h co ts fs sg tp) (fun S _ r S' => r = some (.int 0) ∧ S' = S) := by
  refine ct_of (by decide) (fun S av h => by obtain ⟨rfl, ⟨hh, e_co, ⟨i_co, e_ts, i_ts, e_fs, i_fs, e_mg, k_mg, e_ch, i_ch⟩, e_sg, ⟨i_sg, e_sgco, e_tp, i_tp, e_cs, i_cs⟩⟩, ⟨n_lat, n_tc, n_fc, n_ts, n_fs, n_sg, n_out, n_tps⟩⟩ := h; exact Nat.le_of_ble_eq_true rfl) ?_
  intro p e s m args below meth c D G bs S av C hr hin hpre
  obtain ⟨rfl, ⟨hh, e_co, ⟨i_co, e_ts, i_ts, e_fs, i_fs, e_mg, k_mg, e_ch, i_ch⟩, e_sg, ⟨i_sg, e_sgco, e_tp, i_tp, e_cs, i_cs⟩⟩, ⟨n_lat, n_tc, n_fc, n_ts, n_fs, n_sg, n_out, n_tps⟩⟩ := hpre
  refine v_aload_n C dX9_marks_0 rfl ?_
  refine r9_21 (b := sg) C hh e_sg dX9_marks_1 ?_
  refine r9_181 (b := tp) C i_sg e_tp dX9_marks_4 ?_
  refine g9_185 C i_tp dX9_marks_7 ?_
  refine v_iret C hr (Nat.le_of_ble_eq_true rfl) (Nat.le_of_ble_eq_true rfl) dX9_marks_10 ?_
  exact ⟨by rw [n_tps], rfl⟩

theorem dX7_cell_0 : decode cX7_cell 0 = .ok (.iload_n 1, 1) := by decide +kernel
theorem dX7_cell_1 : decode cX7_cell 1 = .ok (.aload_n 0, 1) := by decide +kernel
theorem dX7_cell_2 : decode cX7_cell 2 = .ok (.getfield 15, 3) := by decide +kernel
theorem dX7_cell_5 : decode cX7_cell 5 = .ok (.invokestatic 19, 3) := by decide +kernel
theorem dX7_cell_8 : decode cX7_cell 8 = .ok (.ifCond .eq 24, 3) := by decide +kernel
theorem dX7_cell_32 : decode cX7_cell 32 = .ok (.lconst 0, 1) := by decide +kernel
theorem dX7_cell_33 : decode cX7_cell 33 = .ok (.lreturn, 1) := by decide +kernel
set_option maxRecDepth 100000 in
set_option maxHeartbeats 4000000 in
theorem ct_X7_cell (l : Launch) (tp : Nat) (i w : Int32) : Ct l yX7_cell cX7_cell 3 (some .long) 1 0 0 21 (fun S av => av = [.ref tp, .int i, .int w] ∧ is S tp 7 ∧ mI S 449 tp = 0) (fun S _ r S' => r = some (.long 0) ∧ S' = S) := by
  refine ct_of (by decide) (fun S av h => by obtain ⟨rfl, i_tp, n_tps⟩ := h; exact Nat.le_of_ble_eq_true rfl) ?_
  intro p e s m args below meth c D G bs S av C hr hin hpre
  obtain ⟨rfl, i_tp, n_tps⟩ := hpre
  refine v_iload_n C dX7_cell_0 rfl ?_
  refine v_aload_n C dX7_cell_1 rfl ?_
  refine g7_15 C i_tp dX7_cell_2 ?_
  rw [n_tps]
  refine v_callSN (As := [_, _]) (n := 2) C (ct_X9_isBelow l _ _) rfl ⟨(by decide +kernel), wd141, wd2, wd142⟩ hy_X9_isBelow rfl ⟨Nat.le_of_ble_eq_true rfl, Nat.le_of_ble_eq_true rfl⟩ (Nat.le_of_ble_eq_true rfl) ⟨Nat.le_of_ble_eq_true rfl, Nat.le_of_ble_eq_true rfl⟩ dX7_cell_5 rfl (fun r_5 S_5 h_5 => ?_)
  obtain ⟨rfl, q_5⟩ := h_5
  obtain rfl := q_5.symm
  refine v_if_eq (tgt := 32) C dX7_cell_8 (by decide) (fun c_8 => ?_) (fun c_8 => ?_)
  · skip
    refine v_lconst (v := 0) C dX7_cell_32 (by decide) ?_
    refine v_lret C hr (Nat.le_of_ble_eq_true rfl) (Nat.le_of_ble_eq_true rfl) dX7_cell_33 ?_
    exact ⟨rfl, rfl⟩
  · skip
    exact absurd (isB_t (bI_t c_8)) (fun z => absurd z.2 (Int32.not_lt.mpr z.1))

theorem dX9_mark_0 : decode cX9_mark 0 = .ok (.aload_n 0, 1) := by decide +kernel
theorem dX9_mark_1 : decode cX9_mark 1 = .ok (.getfield 21, 3) := by decide +kernel
theorem dX9_mark_4 : decode cX9_mark 4 = .ok (.getfield 181, 3) := by decide +kernel
theorem dX9_mark_7 : decode cX9_mark 7 = .ok (.iload_n 1, 1) := by decide +kernel
theorem dX9_mark_8 : decode cX9_mark 8 = .ok (.iload_n 2, 1) := by decide +kernel
theorem dX9_mark_9 : decode cX9_mark 9 = .ok (.invokevirtual 188, 3) := by decide +kernel
theorem dX9_mark_12 : decode cX9_mark 12 = .ok (.lreturn, 1) := by decide +kernel
set_option maxRecDepth 100000 in
set_option maxHeartbeats 4000000 in
theorem ct_X9_mark (l : Launch) (h co ts fs mg ch rw ft gl gr gq ml mr mq sg tp cs : Nat) (i w : Int32) : Ct l yX9_mark cX9_mark 3 (some .long) 2 0 0 43 (fun S av => av = [.ref h, .int i, .int w] ∧ pcAt S h co ts fs mg ch rw ft gl gr gq ml mr mq sg tp cs ∧ pcNew S h co ts fs sg tp) (fun S _ r S' => r = some (.long 0) ∧ S' = S) := by
  refine ct_of (by decide) (fun S av h => by obtain ⟨rfl, ⟨hh, e_co, ⟨i_co, e_ts, i_ts, e_fs, i_fs, e_mg, k_mg, e_ch, i_ch⟩, e_sg, ⟨i_sg, e_sgco, e_tp, i_tp, e_cs, i_cs⟩⟩, ⟨n_lat, n_tc, n_fc, n_ts, n_fs, n_sg, n_out, n_tps⟩⟩ := h; exact Nat.le_of_ble_eq_true rfl) ?_
  intro p e s m args below meth c D G bs S av C hr hin hpre
  obtain ⟨rfl, ⟨hh, e_co, ⟨i_co, e_ts, i_ts, e_fs, i_fs, e_mg, k_mg, e_ch, i_ch⟩, e_sg, ⟨i_sg, e_sgco, e_tp, i_tp, e_cs, i_cs⟩⟩, ⟨n_lat, n_tc, n_fc, n_ts, n_fs, n_sg, n_out, n_tps⟩⟩ := hpre
  refine v_aload_n C dX9_mark_0 rfl ?_
  refine r9_21 (b := sg) C hh e_sg dX9_mark_1 ?_
  refine r9_181 (b := tp) C i_sg e_tp dX9_mark_4 ?_
  refine v_iload_n C dX9_mark_7 rfl ?_
  refine v_iload_n C dX9_mark_8 rfl ?_
  refine v_callV (As := [_, _]) (n := 2) C (ct_X7_cell l tp _ _) rfl i_tp (by decide) rfl ⟨wd905, wd906, wd907, wd67, wd908⟩ ⟨rfl, hy_X7_cell⟩ rfl ⟨Nat.le_of_ble_eq_true rfl, Nat.le_of_ble_eq_true rfl⟩ (Nat.le_of_ble_eq_true rfl) ⟨Nat.le_of_ble_eq_true rfl, Nat.le_of_ble_eq_true rfl⟩ dX9_mark_9 ⟨rfl, i_tp, n_tps⟩ (fun r_9 S_9 h_9 => ?_)
  obtain ⟨rfl, q_9⟩ := h_9
  obtain rfl := q_9.symm
  refine v_lret C hr (Nat.le_of_ble_eq_true rfl) (Nat.le_of_ble_eq_true rfl) dX9_mark_12 ?_
  exact ⟨rfl, rfl⟩

theorem dX1_countBodies_0 : decode cX1_countBodies 0 = .ok (.iconst 0, 1) := by decide +kernel
theorem dX1_countBodies_1 : decode cX1_countBodies 1 = .ok (.istore_n 1, 1) := by decide +kernel
theorem dX1_countBodies_2 : decode cX1_countBodies 2 = .ok (.iconst 0, 1) := by decide +kernel
theorem dX1_countBodies_3 : decode cX1_countBodies 3 = .ok (.istore_n 2, 1) := by decide +kernel
theorem dX1_countBodies_4 : decode cX1_countBodies 4 = .ok (.iload_n 2, 1) := by decide +kernel
theorem dX1_countBodies_5 : decode cX1_countBodies 5 = .ok (.aload_n 0, 1) := by decide +kernel
theorem dX1_countBodies_6 : decode cX1_countBodies 6 = .ok (.getfield 76, 3) := by decide +kernel
theorem dX1_countBodies_9 : decode cX1_countBodies 9 = .ok (.if_icmp .ge 30, 3) := by decide +kernel
theorem dX1_countBodies_39 : decode cX1_countBodies 39 = .ok (.iload_n 1, 1) := by decide +kernel
theorem dX1_countBodies_40 : decode cX1_countBodies 40 = .ok (.ireturn, 1) := by decide +kernel
set_option maxRecDepth 100000 in
set_option maxHeartbeats 4000000 in
theorem ct_X1_countBodies (l : Launch) (co : Nat) : Ct l yX1_countBodies cX1_countBodies 4 (some .int) 20 0 0 600 (fun S av => av = [.ref co] ∧ is S co 1 ∧ mI S 65 co = 0) (fun S _ r S' => r = some (.int 0) ∧ S' = S) := by
  refine ct_of (by decide) (fun S av h => by obtain ⟨rfl, i_co, e_n⟩ := h; exact Nat.le_of_ble_eq_true rfl) ?_
  intro p e s m args below meth c D G bs S av C hr hin hpre
  obtain ⟨rfl, i_co, e_n⟩ := hpre
  refine v_iconst (v := 0) C dX1_countBodies_0 (by decide) ?_
  refine v_istore_n C dX1_countBodies_1 (by decide) rfl ?_
  refine v_iconst (v := 0) C dX1_countBodies_2 (by decide) ?_
  refine v_istore_n C dX1_countBodies_3 (by decide) rfl ?_
  refine v_iload_n C dX1_countBodies_4 rfl ?_
  refine v_aload_n C dX1_countBodies_5 rfl ?_
  refine g1_76 C i_co dX1_countBodies_6 ?_
  rw [e_n]
  refine v_icmp_ge (tgt := 39) C dX1_countBodies_9 (by decide) (fun c_9 => ?_) (fun c_9 => ?_)
  · skip
    refine v_iload_n C dX1_countBodies_39 rfl ?_
    refine v_iret C hr (Nat.le_of_ble_eq_true rfl) (Nat.le_of_ble_eq_true rfl) dX1_countBodies_40 ?_
    exact ⟨rfl, rfl⟩
  · skip
    exact absurd (by decide) c_9

theorem dX1_countGuards_0 : decode cX1_countGuards 0 = .ok (.iconst 0, 1) := by decide +kernel
theorem dX1_countGuards_1 : decode cX1_countGuards 1 = .ok (.istore_n 1, 1) := by decide +kernel
theorem dX1_countGuards_2 : decode cX1_countGuards 2 = .ok (.iconst 0, 1) := by decide +kernel
theorem dX1_countGuards_3 : decode cX1_countGuards 3 = .ok (.istore_n 2, 1) := by decide +kernel
theorem dX1_countGuards_4 : decode cX1_countGuards 4 = .ok (.iload_n 2, 1) := by decide +kernel
theorem dX1_countGuards_5 : decode cX1_countGuards 5 = .ok (.aload_n 0, 1) := by decide +kernel
theorem dX1_countGuards_6 : decode cX1_countGuards 6 = .ok (.getfield 76, 3) := by decide +kernel
theorem dX1_countGuards_9 : decode cX1_countGuards 9 = .ok (.if_icmp .ge 30, 3) := by decide +kernel
theorem dX1_countGuards_39 : decode cX1_countGuards 39 = .ok (.iload_n 1, 1) := by decide +kernel
theorem dX1_countGuards_40 : decode cX1_countGuards 40 = .ok (.ireturn, 1) := by decide +kernel
set_option maxRecDepth 100000 in
set_option maxHeartbeats 4000000 in
theorem ct_X1_countGuards (l : Launch) (co : Nat) : Ct l yX1_countGuards cX1_countGuards 4 (some .int) 20 0 0 600 (fun S av => av = [.ref co] ∧ is S co 1 ∧ mI S 65 co = 0) (fun S _ r S' => r = some (.int 0) ∧ S' = S) := by
  refine ct_of (by decide) (fun S av h => by obtain ⟨rfl, i_co, e_n⟩ := h; exact Nat.le_of_ble_eq_true rfl) ?_
  intro p e s m args below meth c D G bs S av C hr hin hpre
  obtain ⟨rfl, i_co, e_n⟩ := hpre
  refine v_iconst (v := 0) C dX1_countGuards_0 (by decide) ?_
  refine v_istore_n C dX1_countGuards_1 (by decide) rfl ?_
  refine v_iconst (v := 0) C dX1_countGuards_2 (by decide) ?_
  refine v_istore_n C dX1_countGuards_3 (by decide) rfl ?_
  refine v_iload_n C dX1_countGuards_4 rfl ?_
  refine v_aload_n C dX1_countGuards_5 rfl ?_
  refine g1_76 C i_co dX1_countGuards_6 ?_
  rw [e_n]
  refine v_icmp_ge (tgt := 39) C dX1_countGuards_9 (by decide) (fun c_9 => ?_) (fun c_9 => ?_)
  · skip
    refine v_iload_n C dX1_countGuards_39 rfl ?_
    refine v_iret C hr (Nat.le_of_ble_eq_true rfl) (Nat.le_of_ble_eq_true rfl) dX1_countGuards_40 ?_
    exact ⟨rfl, rfl⟩
  · skip
    exact absurd (by decide) c_9

theorem dX1_countClashes_0 : decode cX1_countClashes 0 = .ok (.iconst 0, 1) := by decide +kernel
theorem dX1_countClashes_1 : decode cX1_countClashes 1 = .ok (.istore_n 1, 1) := by decide +kernel
theorem dX1_countClashes_2 : decode cX1_countClashes 2 = .ok (.iconst 0, 1) := by decide +kernel
theorem dX1_countClashes_3 : decode cX1_countClashes 3 = .ok (.istore_n 2, 1) := by decide +kernel
theorem dX1_countClashes_4 : decode cX1_countClashes 4 = .ok (.iload_n 2, 1) := by decide +kernel
theorem dX1_countClashes_5 : decode cX1_countClashes 5 = .ok (.aload_n 0, 1) := by decide +kernel
theorem dX1_countClashes_6 : decode cX1_countClashes 6 = .ok (.getfield 92, 3) := by decide +kernel
theorem dX1_countClashes_9 : decode cX1_countClashes 9 = .ok (.bipush 12, 2) := by decide +kernel
theorem dX1_countClashes_11 : decode cX1_countClashes 11 = .ok (.imul, 1) := by decide +kernel
theorem dX1_countClashes_12 : decode cX1_countClashes 12 = .ok (.if_icmp .ge 45, 3) := by decide +kernel
theorem dX1_countClashes_57 : decode cX1_countClashes 57 = .ok (.iload_n 1, 1) := by decide +kernel
theorem dX1_countClashes_58 : decode cX1_countClashes 58 = .ok (.ireturn, 1) := by decide +kernel
set_option maxRecDepth 100000 in
set_option maxHeartbeats 4000000 in
theorem ct_X1_countClashes (l : Launch) (co : Nat) : Ct l yX1_countClashes cX1_countClashes 4 (some .int) 20 0 0 600 (fun S av => av = [.ref co] ∧ is S co 1 ∧ mI S 67 co = 0) (fun S _ r S' => r = some (.int 0) ∧ S' = S) := by
  refine ct_of (by decide) (fun S av h => by obtain ⟨rfl, i_co, e_n⟩ := h; exact Nat.le_of_ble_eq_true rfl) ?_
  intro p e s m args below meth c D G bs S av C hr hin hpre
  obtain ⟨rfl, i_co, e_n⟩ := hpre
  refine v_iconst (v := 0) C dX1_countClashes_0 (by decide) ?_
  refine v_istore_n C dX1_countClashes_1 (by decide) rfl ?_
  refine v_iconst (v := 0) C dX1_countClashes_2 (by decide) ?_
  refine v_istore_n C dX1_countClashes_3 (by decide) rfl ?_
  refine v_iload_n C dX1_countClashes_4 rfl ?_
  refine v_aload_n C dX1_countClashes_5 rfl ?_
  refine g1_92 C i_co dX1_countClashes_6 ?_
  rw [e_n]
  refine v_bipush (v := 12) C dX1_countClashes_9 (by decide) ?_
  refine v_imul C dX1_countClashes_11 ?_
  refine v_icmp_ge (tgt := 57) C dX1_countClashes_12 (by decide) (fun c_12 => ?_) (fun c_12 => ?_)
  · skip
    refine v_iload_n C dX1_countClashes_57 rfl ?_
    refine v_iret C hr (Nat.le_of_ble_eq_true rfl) (Nat.le_of_ble_eq_true rfl) dX1_countClashes_58 ?_
    exact ⟨rfl, rfl⟩
  · skip
    exact absurd (by decide) c_12

theorem dX1_countMissing_0 : decode cX1_countMissing 0 = .ok (.iconst 0, 1) := by decide +kernel
theorem dX1_countMissing_1 : decode cX1_countMissing 1 = .ok (.istore_n 1, 1) := by decide +kernel
theorem dX1_countMissing_2 : decode cX1_countMissing 2 = .ok (.iconst 0, 1) := by decide +kernel
theorem dX1_countMissing_3 : decode cX1_countMissing 3 = .ok (.istore_n 2, 1) := by decide +kernel
theorem dX1_countMissing_4 : decode cX1_countMissing 4 = .ok (.iload_n 2, 1) := by decide +kernel
theorem dX1_countMissing_5 : decode cX1_countMissing 5 = .ok (.aload_n 0, 1) := by decide +kernel
theorem dX1_countMissing_6 : decode cX1_countMissing 6 = .ok (.getfield 92, 3) := by decide +kernel
theorem dX1_countMissing_9 : decode cX1_countMissing 9 = .ok (.bipush 12, 2) := by decide +kernel
theorem dX1_countMissing_11 : decode cX1_countMissing 11 = .ok (.imul, 1) := by decide +kernel
theorem dX1_countMissing_12 : decode cX1_countMissing 12 = .ok (.if_icmp .ge 47, 3) := by decide +kernel
theorem dX1_countMissing_59 : decode cX1_countMissing 59 = .ok (.iload_n 1, 1) := by decide +kernel
theorem dX1_countMissing_60 : decode cX1_countMissing 60 = .ok (.ireturn, 1) := by decide +kernel
set_option maxRecDepth 100000 in
set_option maxHeartbeats 4000000 in
theorem ct_X1_countMissing (l : Launch) (co : Nat) : Ct l yX1_countMissing cX1_countMissing 4 (some .int) 20 0 0 600 (fun S av => av = [.ref co] ∧ is S co 1 ∧ mI S 67 co = 0) (fun S _ r S' => r = some (.int 0) ∧ S' = S) := by
  refine ct_of (by decide) (fun S av h => by obtain ⟨rfl, i_co, e_n⟩ := h; exact Nat.le_of_ble_eq_true rfl) ?_
  intro p e s m args below meth c D G bs S av C hr hin hpre
  obtain ⟨rfl, i_co, e_n⟩ := hpre
  refine v_iconst (v := 0) C dX1_countMissing_0 (by decide) ?_
  refine v_istore_n C dX1_countMissing_1 (by decide) rfl ?_
  refine v_iconst (v := 0) C dX1_countMissing_2 (by decide) ?_
  refine v_istore_n C dX1_countMissing_3 (by decide) rfl ?_
  refine v_iload_n C dX1_countMissing_4 rfl ?_
  refine v_aload_n C dX1_countMissing_5 rfl ?_
  refine g1_92 C i_co dX1_countMissing_6 ?_
  rw [e_n]
  refine v_bipush (v := 12) C dX1_countMissing_9 (by decide) ?_
  refine v_imul C dX1_countMissing_11 ?_
  refine v_icmp_ge (tgt := 59) C dX1_countMissing_12 (by decide) (fun c_12 => ?_) (fun c_12 => ?_)
  · skip
    refine v_iload_n C dX1_countMissing_59 rfl ?_
    refine v_iret C hr (Nat.le_of_ble_eq_true rfl) (Nat.le_of_ble_eq_true rfl) dX1_countMissing_60 ?_
    exact ⟨rfl, rfl⟩
  · skip
    exact absurd (by decide) c_12

theorem cnt6 {w : Int32} (h : 0 ≤ w ∧ w < 6) (k0 : ¬ w = 0) (k1 : ¬ w = 1) (k2 : ¬ w = 2) (k3 : ¬ w = 3) (k4 : ¬ w = 4) (k5 : ¬ w = 5) : False := by
  have h1 : 0 ≤ w.toInt := Int32.le_iff_toInt_le.mp h.1
  have h2 : w.toInt < 6 := Int32.lt_iff_toInt_lt.mp h.2
  have q0 := lv_neT k0 (a := 0) rfl
  have q1 := lv_neT k1 (a := 1) rfl
  have q2 := lv_neT k2 (a := 2) rfl
  have q3 := lv_neT k3 (a := 3) rfl
  have q4 := lv_neT k4 (a := 4) rfl
  have q5 := lv_neT k5 (a := 5) rfl
  omega
theorem dX9_count_0 : decode cX9_count 0 = .ok (.iload_n 1, 1) := by decide +kernel
theorem dX9_count_1 : decode cX9_count 1 = .ok (.tableswitch 87 0 5 #[39, 47, 55, 63, 71, 79], 39) := by decide +kernel
theorem dX9_count_40 : decode cX9_count 40 = .ok (.aload_n 0, 1) := by decide +kernel
theorem dX9_count_41 : decode cX9_count 41 = .ok (.getfield 10, 3) := by decide +kernel
theorem dX9_count_44 : decode cX9_count 44 = .ok (.getfield 36, 3) := by decide +kernel
theorem dX9_count_47 : decode cX9_count 47 = .ok (.ireturn, 1) := by decide +kernel
theorem dX9_count_48 : decode cX9_count 48 = .ok (.aload_n 0, 1) := by decide +kernel
theorem dX9_count_49 : decode cX9_count 49 = .ok (.getfield 10, 3) := by decide +kernel
theorem dX9_count_52 : decode cX9_count 52 = .ok (.getfield 48, 3) := by decide +kernel
theorem dX9_count_55 : decode cX9_count 55 = .ok (.ireturn, 1) := by decide +kernel
theorem dX9_count_56 : decode cX9_count 56 = .ok (.aload_n 0, 1) := by decide +kernel
theorem dX9_count_57 : decode cX9_count 57 = .ok (.getfield 10, 3) := by decide +kernel
theorem dX9_count_60 : decode cX9_count 60 = .ok (.invokevirtual 199, 3) := by decide +kernel
theorem dX9_count_63 : decode cX9_count 63 = .ok (.ireturn, 1) := by decide +kernel
theorem dX9_count_64 : decode cX9_count 64 = .ok (.aload_n 0, 1) := by decide +kernel
theorem dX9_count_65 : decode cX9_count 65 = .ok (.getfield 10, 3) := by decide +kernel
theorem dX9_count_68 : decode cX9_count 68 = .ok (.invokevirtual 202, 3) := by decide +kernel
theorem dX9_count_71 : decode cX9_count 71 = .ok (.ireturn, 1) := by decide +kernel
theorem dX9_count_72 : decode cX9_count 72 = .ok (.aload_n 0, 1) := by decide +kernel
theorem dX9_count_73 : decode cX9_count 73 = .ok (.getfield 10, 3) := by decide +kernel
theorem dX9_count_76 : decode cX9_count 76 = .ok (.invokevirtual 205, 3) := by decide +kernel
theorem dX9_count_79 : decode cX9_count 79 = .ok (.ireturn, 1) := by decide +kernel
theorem dX9_count_80 : decode cX9_count 80 = .ok (.aload_n 0, 1) := by decide +kernel
theorem dX9_count_81 : decode cX9_count 81 = .ok (.getfield 10, 3) := by decide +kernel
theorem dX9_count_84 : decode cX9_count 84 = .ok (.invokevirtual 208, 3) := by decide +kernel
theorem dX9_count_87 : decode cX9_count 87 = .ok (.ireturn, 1) := by decide +kernel
theorem dX9_count_88 : decode cX9_count 88 = .ok (.bipush (-2), 2) := by decide +kernel
theorem dX9_count_90 : decode cX9_count 90 = .ok (.ireturn, 1) := by decide +kernel
set_option maxRecDepth 100000 in
set_option maxHeartbeats 4000000 in
theorem ct_X9_count (l : Launch) (h co ts fs mg ch rw ft gl gr gq ml mr mq sg tp cs : Nat) (w : Int32) : Ct l yX9_count cX9_count 2 (some .int) 21 0 0 623 (fun S av => av = [.ref h, .int w] ∧ pcAt S h co ts fs mg ch rw ft gl gr gq ml mr mq sg tp cs ∧ pcNew S h co ts fs sg tp) (fun S _ r S' => r = some (.int (if isB w 6 = true then 0 else -2)) ∧ S' = S) := by
  refine ct_of (by decide) (fun S av h => by obtain ⟨rfl, ⟨hh, e_co, ⟨i_co, e_ts, i_ts, e_fs, i_fs, e_mg, k_mg, e_ch, i_ch⟩, e_sg, ⟨i_sg, e_sgco, e_tp, i_tp, e_cs, i_cs⟩⟩, ⟨n_lat, n_tc, n_fc, n_ts, n_fs, n_sg, n_out, n_tps⟩⟩ := h; exact Nat.le_of_ble_eq_true rfl) ?_
  intro p e s m args below meth c D G bs S av C hr hin hpre
  obtain ⟨rfl, ⟨hh, e_co, ⟨i_co, e_ts, i_ts, e_fs, i_fs, e_mg, k_mg, e_ch, i_ch⟩, e_sg, ⟨i_sg, e_sgco, e_tp, i_tp, e_cs, i_cs⟩⟩, ⟨n_lat, n_tc, n_fc, n_ts, n_fs, n_sg, n_out, n_tps⟩⟩ := hpre
  refine v_iload_n C dX9_count_0 rfl ?_
  by_cases k_0 : w = 0
  · skip
    refine v_tableIn (off := 39) (tgt := 40) C dX9_count_1 (by rw [k_0]; decide) (by rw [k_0]; decide) (by rw [k_0]; rfl) (by decide) ?_
    refine v_aload_n C dX9_count_40 rfl ?_
    refine r9_10 (b := co) C hh e_co dX9_count_41 ?_
    refine g9_36 C i_co dX9_count_44 ?_
    refine v_iret C hr (Nat.le_of_ble_eq_true rfl) (Nat.le_of_ble_eq_true rfl) dX9_count_47 ?_
    refine ⟨?_, rfl⟩
    first
      | (subst k_0; first | rfl | rw [n_tc]; rfl)
      | (subst k_1; first | rfl | rw [n_fc]; rfl)
      | (subst k_2; rfl)
      | (subst k_3; rfl)
      | (subst k_4; rfl)
      | (subst k_5; rfl)
      | (rw [if_neg (fun z => cnt6 (isB_t z) k_0 k_1 k_2 k_3 k_4 k_5)])
  by_cases k_1 : w = 1
  · skip
    refine v_tableIn (off := 47) (tgt := 48) C dX9_count_1 (by rw [k_1]; decide) (by rw [k_1]; decide) (by rw [k_1]; rfl) (by decide) ?_
    refine v_aload_n C dX9_count_48 rfl ?_
    refine r9_10 (b := co) C hh e_co dX9_count_49 ?_
    refine g9_48 C i_co dX9_count_52 ?_
    refine v_iret C hr (Nat.le_of_ble_eq_true rfl) (Nat.le_of_ble_eq_true rfl) dX9_count_55 ?_
    refine ⟨?_, rfl⟩
    first
      | (subst k_0; first | rfl | rw [n_tc]; rfl)
      | (subst k_1; first | rfl | rw [n_fc]; rfl)
      | (subst k_2; rfl)
      | (subst k_3; rfl)
      | (subst k_4; rfl)
      | (subst k_5; rfl)
      | (rw [if_neg (fun z => cnt6 (isB_t z) k_0 k_1 k_2 k_3 k_4 k_5)])
  by_cases k_2 : w = 2
  · skip
    refine v_tableIn (off := 55) (tgt := 56) C dX9_count_1 (by rw [k_2]; decide) (by rw [k_2]; decide) (by rw [k_2]; rfl) (by decide) ?_
    refine v_aload_n C dX9_count_56 rfl ?_
    refine r9_10 (b := co) C hh e_co dX9_count_57 ?_
    refine v_callV (As := []) (n := 0) C (ct_X1_countBodies l co) rfl i_co (by decide) rfl ⟨wd935, wd936, wd937, wd15, wd938⟩ ⟨rfl, hy_X1_countBodies⟩ rfl ⟨Nat.le_of_ble_eq_true rfl, Nat.le_of_ble_eq_true rfl⟩ (Nat.le_of_ble_eq_true rfl) ⟨Nat.le_of_ble_eq_true rfl, Nat.le_of_ble_eq_true rfl⟩ dX9_count_60 ⟨rfl, i_co, n_tc⟩ (fun r_60 S_60 h_60 => ?_)
    obtain ⟨rfl, q_60⟩ := h_60
    obtain rfl := q_60.symm
    refine v_iret C hr (Nat.le_of_ble_eq_true rfl) (Nat.le_of_ble_eq_true rfl) dX9_count_63 ?_
    refine ⟨?_, rfl⟩
    first
      | (subst k_0; first | rfl | rw [n_tc]; rfl)
      | (subst k_1; first | rfl | rw [n_fc]; rfl)
      | (subst k_2; rfl)
      | (subst k_3; rfl)
      | (subst k_4; rfl)
      | (subst k_5; rfl)
      | (rw [if_neg (fun z => cnt6 (isB_t z) k_0 k_1 k_2 k_3 k_4 k_5)])
  by_cases k_3 : w = 3
  · skip
    refine v_tableIn (off := 63) (tgt := 64) C dX9_count_1 (by rw [k_3]; decide) (by rw [k_3]; decide) (by rw [k_3]; rfl) (by decide) ?_
    refine v_aload_n C dX9_count_64 rfl ?_
    refine r9_10 (b := co) C hh e_co dX9_count_65 ?_
    refine v_callV (As := []) (n := 0) C (ct_X1_countGuards l co) rfl i_co (by decide) rfl ⟨wd944, wd945, wd946, wd15, wd947⟩ ⟨rfl, hy_X1_countGuards⟩ rfl ⟨Nat.le_of_ble_eq_true rfl, Nat.le_of_ble_eq_true rfl⟩ (Nat.le_of_ble_eq_true rfl) ⟨Nat.le_of_ble_eq_true rfl, Nat.le_of_ble_eq_true rfl⟩ dX9_count_68 ⟨rfl, i_co, n_tc⟩ (fun r_68 S_68 h_68 => ?_)
    obtain ⟨rfl, q_68⟩ := h_68
    obtain rfl := q_68.symm
    refine v_iret C hr (Nat.le_of_ble_eq_true rfl) (Nat.le_of_ble_eq_true rfl) dX9_count_71 ?_
    refine ⟨?_, rfl⟩
    first
      | (subst k_0; first | rfl | rw [n_tc]; rfl)
      | (subst k_1; first | rfl | rw [n_fc]; rfl)
      | (subst k_2; rfl)
      | (subst k_3; rfl)
      | (subst k_4; rfl)
      | (subst k_5; rfl)
      | (rw [if_neg (fun z => cnt6 (isB_t z) k_0 k_1 k_2 k_3 k_4 k_5)])
  by_cases k_4 : w = 4
  · skip
    refine v_tableIn (off := 71) (tgt := 72) C dX9_count_1 (by rw [k_4]; decide) (by rw [k_4]; decide) (by rw [k_4]; rfl) (by decide) ?_
    refine v_aload_n C dX9_count_72 rfl ?_
    refine r9_10 (b := co) C hh e_co dX9_count_73 ?_
    refine v_callV (As := []) (n := 0) C (ct_X1_countClashes l co) rfl i_co (by decide) rfl ⟨wd953, wd954, wd955, wd15, wd956⟩ ⟨rfl, hy_X1_countClashes⟩ rfl ⟨Nat.le_of_ble_eq_true rfl, Nat.le_of_ble_eq_true rfl⟩ (Nat.le_of_ble_eq_true rfl) ⟨Nat.le_of_ble_eq_true rfl, Nat.le_of_ble_eq_true rfl⟩ dX9_count_76 ⟨rfl, i_co, n_fc⟩ (fun r_76 S_76 h_76 => ?_)
    obtain ⟨rfl, q_76⟩ := h_76
    obtain rfl := q_76.symm
    refine v_iret C hr (Nat.le_of_ble_eq_true rfl) (Nat.le_of_ble_eq_true rfl) dX9_count_79 ?_
    refine ⟨?_, rfl⟩
    first
      | (subst k_0; first | rfl | rw [n_tc]; rfl)
      | (subst k_1; first | rfl | rw [n_fc]; rfl)
      | (subst k_2; rfl)
      | (subst k_3; rfl)
      | (subst k_4; rfl)
      | (subst k_5; rfl)
      | (rw [if_neg (fun z => cnt6 (isB_t z) k_0 k_1 k_2 k_3 k_4 k_5)])
  by_cases k_5 : w = 5
  · skip
    refine v_tableIn (off := 79) (tgt := 80) C dX9_count_1 (by rw [k_5]; decide) (by rw [k_5]; decide) (by rw [k_5]; rfl) (by decide) ?_
    refine v_aload_n C dX9_count_80 rfl ?_
    refine r9_10 (b := co) C hh e_co dX9_count_81 ?_
    refine v_callV (As := []) (n := 0) C (ct_X1_countMissing l co) rfl i_co (by decide) rfl ⟨wd959, wd960, wd961, wd15, wd962⟩ ⟨rfl, hy_X1_countMissing⟩ rfl ⟨Nat.le_of_ble_eq_true rfl, Nat.le_of_ble_eq_true rfl⟩ (Nat.le_of_ble_eq_true rfl) ⟨Nat.le_of_ble_eq_true rfl, Nat.le_of_ble_eq_true rfl⟩ dX9_count_84 ⟨rfl, i_co, n_fc⟩ (fun r_84 S_84 h_84 => ?_)
    obtain ⟨rfl, q_84⟩ := h_84
    obtain rfl := q_84.symm
    refine v_iret C hr (Nat.le_of_ble_eq_true rfl) (Nat.le_of_ble_eq_true rfl) dX9_count_87 ?_
    refine ⟨?_, rfl⟩
    first
      | (subst k_0; first | rfl | rw [n_tc]; rfl)
      | (subst k_1; first | rfl | rw [n_fc]; rfl)
      | (subst k_2; rfl)
      | (subst k_3; rfl)
      | (subst k_4; rfl)
      | (subst k_5; rfl)
      | (rw [if_neg (fun z => cnt6 (isB_t z) k_0 k_1 k_2 k_3 k_4 k_5)])
  refine v_tableOut (tgt := 88) C dX9_count_1 (by have q0 := lv_neT k_0 (a := 0) rfl ; have q1 := lv_neT k_1 (a := 1) rfl ; have q2 := lv_neT k_2 (a := 2) rfl ; have q3 := lv_neT k_3 (a := 3) rfl ; have q4 := lv_neT k_4 (a := 4) rfl ; have q5 := lv_neT k_5 (a := 5) rfl ; omega) (by decide) ?_
  refine v_bipush (v := -2) C dX9_count_88 (by decide) ?_
  refine v_iret C hr (Nat.le_of_ble_eq_true rfl) (Nat.le_of_ble_eq_true rfl) dX9_count_90 ?_
  refine ⟨?_, rfl⟩
  first
    | (subst k_0; first | rfl | rw [n_tc]; rfl)
    | (subst k_1; first | rfl | rw [n_fc]; rfl)
    | (subst k_2; rfl)
    | (subst k_3; rfl)
    | (subst k_4; rfl)
    | (subst k_5; rfl)
    | (rw [if_neg (fun z => cnt6 (isB_t z) k_0 k_1 k_2 k_3 k_4 k_5)])

theorem dX9_digest_0 : decode cX9_digest 0 = .ok (.ldc2_w 211, 3) := by decide +kernel
theorem dX9_digest_3 : decode cX9_digest 3 = .ok (.lstore_n 1, 1) := by decide +kernel
theorem dX9_digest_4 : decode cX9_digest 4 = .ok (.iconst 0, 1) := by decide +kernel
theorem dX9_digest_5 : decode cX9_digest 5 = .ok (.istore_n 3, 1) := by decide +kernel
theorem dX9_digest_6 : decode cX9_digest 6 = .ok (.iload_n 3, 1) := by decide +kernel
theorem dX9_digest_7 : decode cX9_digest 7 = .ok (.aload_n 0, 1) := by decide +kernel
theorem dX9_digest_8 : decode cX9_digest 8 = .ok (.getfield 10, 3) := by decide +kernel
theorem dX9_digest_11 : decode cX9_digest 11 = .ok (.getfield 48, 3) := by decide +kernel
theorem dX9_digest_14 : decode cX9_digest 14 = .ok (.if_icmp .ge 26, 3) := by decide +kernel
theorem dX9_digest_40 : decode cX9_digest 40 = .ok (.lload_n 1, 1) := by decide +kernel
theorem dX9_digest_41 : decode cX9_digest 41 = .ok (.lreturn, 1) := by decide +kernel
set_option maxRecDepth 100000 in
set_option maxHeartbeats 4000000 in
theorem ct_X9_digest (l : Launch) (h co ts fs mg ch rw ft gl gr gq ml mr mq sg tp cs : Nat) : Ct l yX9_digest cX9_digest 4 (some .long) 20 0 0 600 (fun S av => av = [.ref h] ∧ pcAt S h co ts fs mg ch rw ft gl gr gq ml mr mq sg tp cs ∧ pcNew S h co ts fs sg tp) (fun S _ r S' => r = some (.long 5) ∧ S' = S) := by
  refine ct_of (by decide) (fun S av h => by obtain ⟨rfl, ⟨hh, e_co, ⟨i_co, e_ts, i_ts, e_fs, i_fs, e_mg, k_mg, e_ch, i_ch⟩, e_sg, ⟨i_sg, e_sgco, e_tp, i_tp, e_cs, i_cs⟩⟩, ⟨n_lat, n_tc, n_fc, n_ts, n_fs, n_sg, n_out, n_tps⟩⟩ := h; exact Nat.le_of_ble_eq_true rfl) ?_
  intro p e s m args below meth c D G bs S av C hr hin hpre
  obtain ⟨rfl, ⟨hh, e_co, ⟨i_co, e_ts, i_ts, e_fs, i_fs, e_mg, k_mg, e_ch, i_ch⟩, e_sg, ⟨i_sg, e_sgco, e_tp, i_tp, e_cs, i_cs⟩⟩, ⟨n_lat, n_tc, n_fc, n_ts, n_fs, n_sg, n_out, n_tps⟩⟩ := hpre
  refine v_ldc2 (v := (5)) C wd972 dX9_digest_0 ?_
  refine v_lstore_n C dX9_digest_3 (by decide) rfl ?_
  refine v_iconst (v := 0) C dX9_digest_4 (by decide) ?_
  refine v_istore_n C dX9_digest_5 (by decide) rfl ?_
  refine v_iload_n C dX9_digest_6 rfl ?_
  refine v_aload_n C dX9_digest_7 rfl ?_
  refine r9_10 (b := co) C hh e_co dX9_digest_8 ?_
  refine g9_48 C i_co dX9_digest_11 ?_
  rw [n_fc]
  refine v_icmp_ge (tgt := 40) C dX9_digest_14 (by decide) (fun c_14 => ?_) (fun c_14 => ?_)
  · skip
    refine v_lload_n C dX9_digest_40 rfl ?_
    refine v_lret C hr (Nat.le_of_ble_eq_true rfl) (Nat.le_of_ble_eq_true rfl) dX9_digest_41 ?_
    exact ⟨rfl, rfl⟩
  · skip
    exact absurd (by decide) c_14

