set_option maxRecDepth 100000 in
set_option maxHeartbeats 4000000 in
theorem ft_X9_isOp (l : Launch) (ki : Int32) (oa : Int32) (ob : Int32) : Ct l yX9_isOp cX9_isOp 3 (some .boolean) 2 0 0 41 (fun S av => av = [.int ki, .int oa, .int ob]) (fun S _ r S' => ∃ v : Bool, r = some (.int (bI v)) ∧ v = isOpF ki oa ob ∧ S' = S) := by
  refine ct_of (by decide) (fun S av h => by obtain rfl := h; exact Nat.le_of_ble_eq_true rfl) ?_
  intro p e s m args below meth c D G bs S av C hr hin hpre
  obtain rfl := hpre
  refine v_iload_n C dX9_isOp_0 rfl ?_
  refine v_topi (fun k1 ek1 => ?_)
  by_cases k_1 : k1 = 1
  · skip
    refine v_tableIn (off := 55) (tgt := 56) C dX9_isOp_1 (by rw [k_1]; decide) (by rw [k_1]; decide) (by rw [k_1]; rfl) (by decide) ?_
    refine v_iload_n C dX9_isOp_56 rfl ?_
    refine v_iconst (v := nI 4) C dX9_isOp_57 (by decide) ?_
    refine v_callS (As := [_, _]) (n := 2) C (sb_isBelow l _ _) rfl ⟨wd264, wd141, wd2, wd142⟩ hy_X9_isBelow rfl ⟨Nat.le_of_ble_eq_true rfl, Nat.le_of_ble_eq_true rfl⟩ (Nat.le_of_ble_eq_true rfl) ⟨Nat.le_of_ble_eq_true rfl, Nat.le_of_ble_eq_true rfl⟩ dX9_isOp_58 rfl (fun r_58 S4_58 h_58 => ?_)
    obtain ⟨v58, rfl, p_v58, q_v58⟩ := h_58
    obtain rfl := q_v58.symm
    refine v_zret C hr (by first | rfl | exact bI_nar _) (Nat.le_of_ble_eq_true rfl) (Nat.le_of_ble_eq_true rfl) dX9_isOp_61 ?_
    exact ⟨_, rfl, (by rw [p_v58, isB_below (n := 4) rfl, ← ek1]; simp [isOpF, k_1]), rfl⟩
  by_cases k_2 : k1 = 2
  · skip
    refine v_tableIn (off := 55) (tgt := 56) C dX9_isOp_1 (by rw [k_2]; decide) (by rw [k_2]; decide) (by rw [k_2]; rfl) (by decide) ?_
    refine v_iload_n C dX9_isOp_56 rfl ?_
    refine v_iconst (v := nI 4) C dX9_isOp_57 (by decide) ?_
    refine v_callS (As := [_, _]) (n := 2) C (sb_isBelow l _ _) rfl ⟨wd264, wd141, wd2, wd142⟩ hy_X9_isBelow rfl ⟨Nat.le_of_ble_eq_true rfl, Nat.le_of_ble_eq_true rfl⟩ (Nat.le_of_ble_eq_true rfl) ⟨Nat.le_of_ble_eq_true rfl, Nat.le_of_ble_eq_true rfl⟩ dX9_isOp_58 rfl (fun r_58 S4_58 h_58 => ?_)
    obtain ⟨v58, rfl, p_v58, q_v58⟩ := h_58
    obtain rfl := q_v58.symm
    refine v_zret C hr (by first | rfl | exact bI_nar _) (Nat.le_of_ble_eq_true rfl) (Nat.le_of_ble_eq_true rfl) dX9_isOp_61 ?_
    exact ⟨_, rfl, (by rw [p_v58, isB_below (n := 4) rfl, ← ek1]; simp [isOpF, k_1, k_2]), rfl⟩
  by_cases k_3 : k1 = 3
  · skip
    refine v_tableIn (off := 55) (tgt := 56) C dX9_isOp_1 (by rw [k_3]; decide) (by rw [k_3]; decide) (by rw [k_3]; rfl) (by decide) ?_
    refine v_iload_n C dX9_isOp_56 rfl ?_
    refine v_iconst (v := nI 4) C dX9_isOp_57 (by decide) ?_
    refine v_callS (As := [_, _]) (n := 2) C (sb_isBelow l _ _) rfl ⟨wd264, wd141, wd2, wd142⟩ hy_X9_isBelow rfl ⟨Nat.le_of_ble_eq_true rfl, Nat.le_of_ble_eq_true rfl⟩ (Nat.le_of_ble_eq_true rfl) ⟨Nat.le_of_ble_eq_true rfl, Nat.le_of_ble_eq_true rfl⟩ dX9_isOp_58 rfl (fun r_58 S4_58 h_58 => ?_)
    obtain ⟨v58, rfl, p_v58, q_v58⟩ := h_58
    obtain rfl := q_v58.symm
    refine v_zret C hr (by first | rfl | exact bI_nar _) (Nat.le_of_ble_eq_true rfl) (Nat.le_of_ble_eq_true rfl) dX9_isOp_61 ?_
    exact ⟨_, rfl, (by rw [p_v58, isB_below (n := 4) rfl, ← ek1]; simp [isOpF, k_1, k_2, k_3]), rfl⟩
  by_cases k_4 : k1 = 4
  · skip
    refine v_tableIn (off := 95) (tgt := 96) C dX9_isOp_1 (by rw [k_4]; decide) (by rw [k_4]; decide) (by rw [k_4]; rfl) (by decide) ?_
    refine v_iload_n C dX9_isOp_96 rfl ?_
    refine v_bipush (v := nI 13) C dX9_isOp_97 (by decide) ?_
    refine v_callS (As := [_, _]) (n := 2) C (sb_isBelow l _ _) rfl ⟨wd264, wd141, wd2, wd142⟩ hy_X9_isBelow rfl ⟨Nat.le_of_ble_eq_true rfl, Nat.le_of_ble_eq_true rfl⟩ (Nat.le_of_ble_eq_true rfl) ⟨Nat.le_of_ble_eq_true rfl, Nat.le_of_ble_eq_true rfl⟩ dX9_isOp_99 rfl (fun r_99 S4_99 h_99 => ?_)
    obtain ⟨v99, rfl, p_v99, q_v99⟩ := h_99
    obtain rfl := q_v99.symm
    refine v_zret C hr (by first | rfl | exact bI_nar _) (Nat.le_of_ble_eq_true rfl) (Nat.le_of_ble_eq_true rfl) dX9_isOp_102 ?_
    exact ⟨_, rfl, (by rw [p_v99, isB_below (n := 13) rfl, ← ek1]; simp [isOpF, k_1, k_2, k_3, k_4]), rfl⟩
  by_cases k_5 : k1 = 5
  · skip
    refine v_tableIn (off := 61) (tgt := 62) C dX9_isOp_1 (by rw [k_5]; decide) (by rw [k_5]; decide) (by rw [k_5]; rfl) (by decide) ?_
    refine v_iload_n C dX9_isOp_62 rfl ?_
    refine v_callS (As := [_]) (n := 1) C (sb_isAct l _) rfl ⟨wd345, wd346, wd2, wd347⟩ hy_X9_isAct rfl ⟨Nat.le_of_ble_eq_true rfl, Nat.le_of_ble_eq_true rfl⟩ (Nat.le_of_ble_eq_true rfl) ⟨Nat.le_of_ble_eq_true rfl, Nat.le_of_ble_eq_true rfl⟩ dX9_isOp_63 rfl (fun r_63 S4_63 h_63 => ?_)
    obtain ⟨v63, rfl, p_v63, q_v63⟩ := h_63
    obtain rfl := q_v63.symm
    refine v_zret C hr (by first | rfl | exact bI_nar _) (Nat.le_of_ble_eq_true rfl) (Nat.le_of_ble_eq_true rfl) dX9_isOp_66 ?_
    exact ⟨_, rfl, (by rw [p_v63, isB_below (n := 12) rfl, ← ek1]; simp [isOpF, k_1, k_2, k_3, k_4, k_5]), rfl⟩
  by_cases k_6 : k1 = 6
  · skip
    refine v_tableIn (off := 95) (tgt := 96) C dX9_isOp_1 (by rw [k_6]; decide) (by rw [k_6]; decide) (by rw [k_6]; rfl) (by decide) ?_
    refine v_iload_n C dX9_isOp_96 rfl ?_
    refine v_bipush (v := nI 13) C dX9_isOp_97 (by decide) ?_
    refine v_callS (As := [_, _]) (n := 2) C (sb_isBelow l _ _) rfl ⟨wd264, wd141, wd2, wd142⟩ hy_X9_isBelow rfl ⟨Nat.le_of_ble_eq_true rfl, Nat.le_of_ble_eq_true rfl⟩ (Nat.le_of_ble_eq_true rfl) ⟨Nat.le_of_ble_eq_true rfl, Nat.le_of_ble_eq_true rfl⟩ dX9_isOp_99 rfl (fun r_99 S4_99 h_99 => ?_)
    obtain ⟨v99, rfl, p_v99, q_v99⟩ := h_99
    obtain rfl := q_v99.symm
    refine v_zret C hr (by first | rfl | exact bI_nar _) (Nat.le_of_ble_eq_true rfl) (Nat.le_of_ble_eq_true rfl) dX9_isOp_102 ?_
    exact ⟨_, rfl, (by rw [p_v99, isB_below (n := 13) rfl, ← ek1]; simp [isOpF, k_1, k_2, k_3, k_4, k_5, k_6]), rfl⟩
  by_cases k_7 : k1 = 7
  · skip
    refine v_tableIn (off := 66) (tgt := 67) C dX9_isOp_1 (by rw [k_7]; decide) (by rw [k_7]; decide) (by rw [k_7]; rfl) (by decide) ?_
    refine v_iload_n C dX9_isOp_67 rfl ?_
    refine v_bipush (v := nI 20) C dX9_isOp_68 (by decide) ?_
    refine v_callS (As := [_, _]) (n := 2) C (sb_isBelow l _ _) rfl ⟨wd264, wd141, wd2, wd142⟩ hy_X9_isBelow rfl ⟨Nat.le_of_ble_eq_true rfl, Nat.le_of_ble_eq_true rfl⟩ (Nat.le_of_ble_eq_true rfl) ⟨Nat.le_of_ble_eq_true rfl, Nat.le_of_ble_eq_true rfl⟩ dX9_isOp_70 rfl (fun r_70 S4_70 h_70 => ?_)
    obtain ⟨v70, rfl, p_v70, q_v70⟩ := h_70
    obtain rfl := q_v70.symm
    refine v_zret C hr (by first | rfl | exact bI_nar _) (Nat.le_of_ble_eq_true rfl) (Nat.le_of_ble_eq_true rfl) dX9_isOp_73 ?_
    exact ⟨_, rfl, (by rw [p_v70, isB_below (n := 20) rfl, ← ek1]; simp [isOpF, k_1, k_2, k_3, k_4, k_5, k_6, k_7]), rfl⟩
  by_cases k_8 : k1 = 8
  · skip
    refine v_tableIn (off := 73) (tgt := 74) C dX9_isOp_1 (by rw [k_8]; decide) (by rw [k_8]; decide) (by rw [k_8]; rfl) (by decide) ?_
    refine v_iload_n C dX9_isOp_74 rfl ?_
    refine v_bipush (v := nI 12) C dX9_isOp_75 (by decide) ?_
    refine v_callS (As := [_, _]) (n := 2) C (sb_isBelow l _ _) rfl ⟨wd264, wd141, wd2, wd142⟩ hy_X9_isBelow rfl ⟨Nat.le_of_ble_eq_true rfl, Nat.le_of_ble_eq_true rfl⟩ (Nat.le_of_ble_eq_true rfl) ⟨Nat.le_of_ble_eq_true rfl, Nat.le_of_ble_eq_true rfl⟩ dX9_isOp_77 rfl (fun r_77 S4_77 h_77 => ?_)
    obtain ⟨v77, rfl, p_v77, q_v77⟩ := h_77
    obtain rfl := q_v77.symm
    rw [isB_below (n := 12) rfl] at p_v77
    refine b_if_eq (tgt := 94) C dX9_isOp_80 (by decide) (fun c_80 => ?_) (fun c_80 => ?_)
    · skip
      have ha : blw oa 12 = false := p_v77.symm.trans c_80
      have hz : (blw oa 12 && blw ob 12) = false := by rw [ha]; rfl
      refine v_iconst (v := nI 0) C dX9_isOp_94 (by decide) ?_
      refine v_zret C hr (by first | rfl | exact bI_nar _) (Nat.le_of_ble_eq_true rfl) (Nat.le_of_ble_eq_true rfl) dX9_isOp_95 ?_
      exact ⟨false, rfl, (by rw [← ek1, k_8]; exact hz.symm), rfl⟩
    · skip
      have ha : blw oa 12 = true := p_v77.symm.trans c_80
      refine v_iload_n C dX9_isOp_83 rfl ?_
      refine v_callS (As := [_]) (n := 1) C (sb_isAct l _) rfl ⟨wd345, wd346, wd2, wd347⟩ hy_X9_isAct rfl ⟨Nat.le_of_ble_eq_true rfl, Nat.le_of_ble_eq_true rfl⟩ (Nat.le_of_ble_eq_true rfl) ⟨Nat.le_of_ble_eq_true rfl, Nat.le_of_ble_eq_true rfl⟩ dX9_isOp_84 rfl (fun r_84 S6_84 h_84 => ?_)
      obtain ⟨v84, rfl, p_v84, q_v84⟩ := h_84
      obtain rfl := q_v84.symm
      rw [isB_below (n := 12) rfl] at p_v84
      refine b_if_eq (tgt := 94) C dX9_isOp_87 (by decide) (fun c_87 => ?_) (fun c_87 => ?_)
      · skip
        have hb : blw ob 12 = false := p_v84.symm.trans c_87
        have hz : (blw oa 12 && blw ob 12) = false := by rw [hb]; simp
        refine v_iconst (v := nI 0) C dX9_isOp_94 (by decide) ?_
        refine v_zret C hr (by first | rfl | exact bI_nar _) (Nat.le_of_ble_eq_true rfl) (Nat.le_of_ble_eq_true rfl) dX9_isOp_95 ?_
        exact ⟨false, rfl, (by rw [← ek1, k_8]; exact hz.symm), rfl⟩
      · skip
        have hb : blw ob 12 = true := p_v84.symm.trans c_87
        have hz : (blw oa 12 && blw ob 12) = true := by rw [ha, hb]; rfl
        refine v_iconst (v := nI 1) C dX9_isOp_90 (by decide) ?_
        refine v_goto (tgt := 95) C dX9_isOp_91 (by decide) ?_
        refine v_zret C hr (by first | rfl | exact bI_nar _) (Nat.le_of_ble_eq_true rfl) (Nat.le_of_ble_eq_true rfl) dX9_isOp_95 ?_
        exact ⟨true, rfl, (by rw [← ek1, k_8]; exact hz.symm), rfl⟩
  by_cases k_9 : k1 = 9
  · skip
    refine v_tableIn (off := 95) (tgt := 96) C dX9_isOp_1 (by rw [k_9]; decide) (by rw [k_9]; decide) (by rw [k_9]; rfl) (by decide) ?_
    refine v_iload_n C dX9_isOp_96 rfl ?_
    refine v_bipush (v := nI 13) C dX9_isOp_97 (by decide) ?_
    refine v_callS (As := [_, _]) (n := 2) C (sb_isBelow l _ _) rfl ⟨wd264, wd141, wd2, wd142⟩ hy_X9_isBelow rfl ⟨Nat.le_of_ble_eq_true rfl, Nat.le_of_ble_eq_true rfl⟩ (Nat.le_of_ble_eq_true rfl) ⟨Nat.le_of_ble_eq_true rfl, Nat.le_of_ble_eq_true rfl⟩ dX9_isOp_99 rfl (fun r_99 S4_99 h_99 => ?_)
    obtain ⟨v99, rfl, p_v99, q_v99⟩ := h_99
    obtain rfl := q_v99.symm
    refine v_zret C hr (by first | rfl | exact bI_nar _) (Nat.le_of_ble_eq_true rfl) (Nat.le_of_ble_eq_true rfl) dX9_isOp_102 ?_
    exact ⟨_, rfl, (by rw [p_v99, isB_below (n := 13) rfl, ← ek1]; simp [isOpF, k_1, k_2, k_3, k_4, k_5, k_6, k_7, k_8, k_9]), rfl⟩
  by_cases k_10 : k1 = 10
  · skip
    refine v_tableIn (off := 61) (tgt := 62) C dX9_isOp_1 (by rw [k_10]; decide) (by rw [k_10]; decide) (by rw [k_10]; rfl) (by decide) ?_
    refine v_iload_n C dX9_isOp_62 rfl ?_
    refine v_callS (As := [_]) (n := 1) C (sb_isAct l _) rfl ⟨wd345, wd346, wd2, wd347⟩ hy_X9_isAct rfl ⟨Nat.le_of_ble_eq_true rfl, Nat.le_of_ble_eq_true rfl⟩ (Nat.le_of_ble_eq_true rfl) ⟨Nat.le_of_ble_eq_true rfl, Nat.le_of_ble_eq_true rfl⟩ dX9_isOp_63 rfl (fun r_63 S4_63 h_63 => ?_)
    obtain ⟨v63, rfl, p_v63, q_v63⟩ := h_63
    obtain rfl := q_v63.symm
    refine v_zret C hr (by first | rfl | exact bI_nar _) (Nat.le_of_ble_eq_true rfl) (Nat.le_of_ble_eq_true rfl) dX9_isOp_66 ?_
    exact ⟨_, rfl, (by rw [p_v63, isB_below (n := 12) rfl, ← ek1]; simp [isOpF, k_1, k_2, k_3, k_4, k_5, k_6, k_7, k_8, k_9, k_10]), rfl⟩
  refine v_tableOut (tgt := 96) C dX9_isOp_1 (by have q1 := lv_neT k_1 (a := 1) rfl ; have q2 := lv_neT k_2 (a := 2) rfl ; have q3 := lv_neT k_3 (a := 3) rfl ; have q4 := lv_neT k_4 (a := 4) rfl ; have q5 := lv_neT k_5 (a := 5) rfl ; have q6 := lv_neT k_6 (a := 6) rfl ; have q7 := lv_neT k_7 (a := 7) rfl ; have q8 := lv_neT k_8 (a := 8) rfl ; have q9 := lv_neT k_9 (a := 9) rfl ; have q10 := lv_neT k_10 (a := 10) rfl ; omega) (by decide) ?_
  refine v_iload_n C dX9_isOp_96 rfl ?_
  refine v_bipush (v := nI 13) C dX9_isOp_97 (by decide) ?_
  refine v_callS (As := [_, _]) (n := 2) C (sb_isBelow l _ _) rfl ⟨wd264, wd141, wd2, wd142⟩ hy_X9_isBelow rfl ⟨Nat.le_of_ble_eq_true rfl, Nat.le_of_ble_eq_true rfl⟩ (Nat.le_of_ble_eq_true rfl) ⟨Nat.le_of_ble_eq_true rfl, Nat.le_of_ble_eq_true rfl⟩ dX9_isOp_99 rfl (fun r_99 S2_99 h_99 => ?_)
  obtain ⟨v99, rfl, p_v99, q_v99⟩ := h_99
  obtain rfl := q_v99.symm
  refine v_zret C hr (by first | rfl | exact bI_nar _) (Nat.le_of_ble_eq_true rfl) (Nat.le_of_ble_eq_true rfl) dX9_isOp_102 ?_
  exact ⟨_, rfl, (by rw [p_v99, isB_below (n := 13) rfl, ← ek1]; simp [isOpF, k_1, k_2, k_3, k_4, k_5, k_6, k_7, k_8, k_9, k_10]), rfl⟩
set_option maxRecDepth 100000 in
set_option maxHeartbeats 4000000 in
theorem ft_X5_addOp (l : Launch) (M : Nat → Prop) (h : Nat) (ki : Int32) (oa : Int32) (ob : Int32) (r5 s5 t5 n : Nat) : Ct l yX5_addOp cX5_addOp 4 (some .int) 1 0 0 21 (fun S av => av = [.ref h, .int ki, .int oa, .int ob] ∧ INV M [] S ∧ is S h 5 ∧ (mO S 325 h = some r5 ∧ isA S r5 11 8 ∧ mO S 326 h = some s5 ∧ isA S s5 11 8 ∧ mO S 327 h = some t5 ∧ isA S t5 11 8) ∧ (mI S 328 h = nI n) ∧ (n < 8)) (fun S _ r S' => ∃ v : Nat, r = some (.int (nI v)) ∧ v = n + 1 ∧ INV M [] S' ∧ chg S S' [r5, s5, t5] [] [(328, h)] [] ∧ (mI S' 328 h = nI (n + 1))) := by
  refine ct_of (by decide) (fun S av h => by obtain ⟨rfl, iv, i_h, hr5, eS, hn⟩ := h; exact Nat.le_of_ble_eq_true rfl) ?_
  intro p e s m args below meth c D G bs S av C hr hin hpre
  obtain ⟨rfl, iv, i_h, hr5, eS, hn⟩ := hpre
  have ch : chg S S [r5, s5, t5] [] [(328, h)] [] := ch_rfl
  obtain ⟨o_r5, i_r5, o_s5, i_s5, o_t5, i_t5⟩ := hr5
  refine v_aload_n C dX5_addOp_0 rfl ?_
  refine g5_38 C i_h dX5_addOp_1 ?_
  refine v_val eS ?_
  refine v_bipush (v := nI 8) C dX5_addOp_4 (by decide) ?_
  refine v_callSN (As := [_, _]) (n := 2) C (sb_isBelow l _ _) rfl ⟨(by decide +kernel), wd141, wd2, wd142⟩ hy_X9_isBelow rfl ⟨Nat.le_of_ble_eq_true rfl, Nat.le_of_ble_eq_true rfl⟩ (Nat.le_of_ble_eq_true rfl) ⟨Nat.le_of_ble_eq_true rfl, Nat.le_of_ble_eq_true rfl⟩ dX5_addOp_6 rfl (fun r_6 S2_6 h_6 => ?_)
  obtain ⟨v6, rfl, p_v6, q_v6⟩ := h_6
  obtain rfl := q_v6.symm
  rw [isB_nI (by omega) (by decide)] at p_v6
  refine b_if_eq (tgt := 52) C dX5_addOp_9 (by decide) (fun c_9 => ?_) (fun c_9 => ?_)
  · skip
    exact absurd hn (of_decide_eq_false (p_v6.symm.trans c_9))
  · skip
    refine v_aload_n C dX5_addOp_12 rfl ?_
    refine r5_9 (b := r5) C i_h o_r5 dX5_addOp_13 ?_
    refine v_aload_n C dX5_addOp_16 rfl ?_
    refine g5_38 C i_h dX5_addOp_17 ?_
    refine v_val eS ?_
    refine v_iload_n C dX5_addOp_20 rfl ?_
    refine v_iast C i_r5 (vp_in_nI (by omega) (by omega)) dX5_addOp_21 ?_
    rw [nI_clamp (by omega)]
    refine V.gen (fun S4_21 e_21 => ?_)
    have x_21 := x_sA e_21
    have iv := inv_sA e_21 iv
    have ch := ch_sA e_21 ch (by simp)
    have o_r5 := mo_sAy e_21 o_r5
    have o_s5 := mo_sAy e_21 o_s5
    have o_t5 := mo_sAy e_21 o_t5
    have i_h := is_ext x_21 i_h
    have i_r5 := isA_ext x_21 i_r5
    have i_s5 := isA_ext x_21 i_s5
    have i_t5 := isA_ext x_21 i_t5
    refine v_aload_n C dX5_addOp_22 rfl ?_
    refine r5_15 (b := s5) C i_h o_s5 dX5_addOp_23 ?_
    refine v_aload_n C dX5_addOp_26 rfl ?_
    refine g5_38 C i_h dX5_addOp_27 ?_
    refine v_val (mi_sAy e_21 eS) ?_
    refine v_iload_n C dX5_addOp_30 rfl ?_
    refine v_iast C i_s5 (vp_in_nI (by omega) (by omega)) dX5_addOp_31 ?_
    rw [nI_clamp (by omega)]
    refine V.gen (fun S4_31 e_31 => ?_)
    have x_31 := x_sA e_31
    have iv := inv_sA e_31 iv
    have ch := ch_sA e_31 ch (by simp)
    have o_r5 := mo_sAy e_31 o_r5
    have o_s5 := mo_sAy e_31 o_s5
    have o_t5 := mo_sAy e_31 o_t5
    have i_h := is_ext x_31 i_h
    have i_r5 := isA_ext x_31 i_r5
    have i_s5 := isA_ext x_31 i_s5
    have i_t5 := isA_ext x_31 i_t5
    refine v_aload_n C dX5_addOp_32 rfl ?_
    refine r5_18 (b := t5) C i_h o_t5 dX5_addOp_33 ?_
    refine v_aload_n C dX5_addOp_36 rfl ?_
    refine g5_38 C i_h dX5_addOp_37 ?_
    refine v_val (mi_sAy e_31 (mi_sAy e_21 eS)) ?_
    refine v_iload_n C dX5_addOp_40 rfl ?_
    refine v_iast C i_t5 (vp_in_nI (by omega) (by omega)) dX5_addOp_41 ?_
    rw [nI_clamp (by omega)]
    refine V.gen (fun S4_41 e_41 => ?_)
    have x_41 := x_sA e_41
    have iv := inv_sA e_41 iv
    have ch := ch_sA e_41 ch (by simp)
    have o_r5 := mo_sAy e_41 o_r5
    have o_s5 := mo_sAy e_41 o_s5
    have o_t5 := mo_sAy e_41 o_t5
    have i_h := is_ext x_41 i_h
    have i_r5 := isA_ext x_41 i_r5
    have i_s5 := isA_ext x_41 i_s5
    have i_t5 := isA_ext x_41 i_t5
    refine v_aload_n C dX5_addOp_42 rfl ?_
    refine v_dup C dX5_addOp_43 rfl ?_
    refine g5_38 C i_h dX5_addOp_44 ?_
    refine v_val (mi_sAy e_41 (mi_sAy e_31 (mi_sAy e_21 eS))) ?_
    refine v_iconst (v := nI 1) C dX5_addOp_47 (by decide) ?_
    refine n_iadd C dX5_addOp_48 ?_
    refine p5_38 C i_h dX5_addOp_49 ?_
    refine V.gen (fun S4_49 e_49 => ?_)
    have x_49 := x_sI e_49
    have iv := inv_sI e_49 iv (by decide) (by decide)
    have ch := ch_sI e_49 ch (by simp)
    have o_r5 := mo_sIy e_49 o_r5
    have o_s5 := mo_sIy e_49 o_s5
    have o_t5 := mo_sIy e_49 o_t5
    have i_h := is_ext x_49 i_h
    have i_r5 := isA_ext x_49 i_r5
    have i_s5 := isA_ext x_49 i_s5
    have i_t5 := isA_ext x_49 i_t5
    have eS2 : mI S4_49 328 h = nI (n + 1) := by rw [e_49, mI_sI, if_pos ⟨rfl, rfl⟩]
    refine v_aload_n C dX5_addOp_52 rfl ?_
    refine g5_38 C i_h dX5_addOp_53 ?_
    refine v_val eS2 ?_
    refine v_iret C hr (Nat.le_of_ble_eq_true rfl) (Nat.le_of_ble_eq_true rfl) dX5_addOp_56 ?_
    exact ⟨_, rfl, (rfl), iv, ch, (eS2)⟩
set_option maxRecDepth 100000 in
set_option maxHeartbeats 4000000 in
theorem ft_X9_op (l : Launch) (M : Nat → Prop) (h : Nat) (ki : Int32) (oa : Int32) (ob : Int32) (o : Option Nat) (r5 s5 t5 n : Nat) : Ct l yX9_op cX9_op 4 (some .int) 3 0 0 63 (fun S av => av = [.ref h, .int ki, .int oa, .int ob] ∧ INV M [] S ∧ is S h 9 ∧ (mO S 578 h = o) ∧ (∀ a, o = some a → is S a 5 ∧ mI S 328 a = nI n ∧ n ≤ 8 ∧ mO S 325 a = some r5 ∧ isA S r5 11 8 ∧ mO S 326 a = some s5 ∧ isA S s5 11 8 ∧ mO S 327 a = some t5 ∧ isA S t5 11 8)) (fun S _ r S' => ∃ v : Int32, r = some (.int v) ∧ INV M [] S' ∧ chg S S' [r5, s5, t5] [] [(328, o.getD 0)] [] ∧ ((isOpF ki oa ob = false ∧ v = -2 ∧ S' = S) ∨ (isOpF ki oa ob = true ∧ ((o = none ∧ v = -3 ∧ S' = S) ∨ ∃ a, o = some a ∧ ((n = 8 ∧ v = -4 ∧ S' = S) ∨ (n < 8 ∧ v = nI (n + 1) ∧ mI S' 328 a = nI (n + 1))))))) := by
  refine ct_of (by decide) (fun S av h => by obtain ⟨rfl, iv, i_h, hl, ho⟩ := h; exact Nat.le_of_ble_eq_true rfl) ?_
  intro p e s m args below meth c D G bs S av C hr hin hpre
  obtain ⟨rfl, iv, i_h, hl, ho⟩ := hpre
  have ch : chg S S [r5, s5, t5] [] [(328, o.getD 0)] [] := ch_rfl
  refine v_iload_n C dX9_op_0 rfl ?_
  refine v_iload_n C dX9_op_1 rfl ?_
  refine v_iload_n C dX9_op_2 rfl ?_
  refine v_callS (As := [_, _, _]) (n := 3) C (ft_X9_isOp l _ _ _) rfl ⟨wd412, wd413, wd2, wd414⟩ hy_X9_isOp rfl ⟨Nat.le_of_ble_eq_true rfl, Nat.le_of_ble_eq_true rfl⟩ (Nat.le_of_ble_eq_true rfl) ⟨Nat.le_of_ble_eq_true rfl, Nat.le_of_ble_eq_true rfl⟩ dX9_op_3 rfl (fun r_3 S2_3 h_3 => ?_)
  obtain ⟨v3, rfl, p_v3, q_v3⟩ := h_3
  obtain rfl := q_v3.symm
  refine b_if_ne (tgt := 12) C dX9_op_6 (by decide) (fun c_6 => ?_) (fun c_6 => ?_)
  · skip
    refine v_aload_n C dX9_op_12 rfl ?_
    refine g9_25 C i_h dX9_op_13 ?_
    rw [hl]
    refine v_ifnonnull (tgt := 22) C dX9_op_16 (by decide) (fun b16 c_16 => ?_) (fun c_16 => ?_)
    · skip
      subst c_16
      obtain ⟨i_lt, eS, hn8, o_r5, i_r5, o_s5, i_s5, o_t5, i_t5⟩ := ho b16 rfl
      refine v_aload_n C dX9_op_22 rfl ?_
      refine g9_25 C i_h dX9_op_23 ?_
      rw [hl]
      refine g9_103 C i_lt dX9_op_26 ?_
      refine v_val eS ?_
      refine v_bipush (v := nI 8) C dX9_op_29 (by decide) ?_
      refine n_icmp_lt (tgt := 39) C (by omega) (by omega) dX9_op_31 (by decide) (fun c_31 => ?_) (fun c_31 => ?_)
      · skip
        refine v_aload_n C dX9_op_39 rfl ?_
        refine g9_25 C i_h dX9_op_40 ?_
        rw [hl]
        refine v_iload_n C dX9_op_43 rfl ?_
        refine v_iload_n C dX9_op_44 rfl ?_
        refine v_iload_n C dX9_op_45 rfl ?_
        refine v_callV (As := [_, _, _]) (n := 3) C (ft_X5_addOp l M _ _ _ _ r5 s5 t5 n) rfl i_lt (by decide) rfl ⟨wd415, wd416, wd417, wd344, wd418⟩ ⟨rfl, hy_X5_addOp⟩ rfl ⟨Nat.le_of_ble_eq_true rfl, Nat.le_of_ble_eq_true rfl⟩ (Nat.le_of_ble_eq_true rfl) ⟨Nat.le_of_ble_eq_true rfl, Nat.le_of_ble_eq_true rfl⟩ dX9_op_46 ⟨rfl, iv, i_lt, ⟨o_r5, i_r5, o_s5, i_s5, o_t5, i_t5⟩, eS, c_31⟩ (fun r_46 S8_46 h_46 => ?_)
        obtain ⟨v46, rfl, p_v46, iv', ch_46, r_v46⟩ := h_46
        have iv := iv'
        clear iv'
        have ch := ch_tr ch ch_46 (by simp)
        have i_h := is_ch ch_46 i_h
        refine v_iret C hr (Nat.le_of_ble_eq_true rfl) (Nat.le_of_ble_eq_true rfl) dX9_op_49 ?_
        exact ⟨_, rfl, iv, ch, (Or.inr ⟨p_v3.symm.trans c_6, Or.inr ⟨b16, rfl, Or.inr ⟨c_31, by rw [p_v46], r_v46⟩⟩⟩)⟩
      · skip
        refine v_bipush (v := -4) C dX9_op_34 (by decide) ?_
        refine v_goto (tgt := 49) C dX9_op_36 (by decide) ?_
        refine v_iret C hr (Nat.le_of_ble_eq_true rfl) (Nat.le_of_ble_eq_true rfl) dX9_op_49 ?_
        exact ⟨_, rfl, iv, ch, (Or.inr ⟨p_v3.symm.trans c_6, Or.inr ⟨b16, rfl, Or.inl ⟨by omega, rfl, rfl⟩⟩⟩)⟩
    · skip
      subst c_16
      refine v_bipush (v := -3) C dX9_op_19 (by decide) ?_
      refine v_iret C hr (Nat.le_of_ble_eq_true rfl) (Nat.le_of_ble_eq_true rfl) dX9_op_21 ?_
      exact ⟨_, rfl, iv, ch, (Or.inr ⟨p_v3.symm.trans c_6, Or.inl ⟨rfl, rfl, rfl⟩⟩)⟩
  · skip
    refine v_bipush (v := -2) C dX9_op_9 (by decide) ?_
    refine v_iret C hr (Nat.le_of_ble_eq_true rfl) (Nat.le_of_ble_eq_true rfl) dX9_op_11 ?_
    exact ⟨_, rfl, iv, ch, (Or.inl ⟨p_v3.symm.trans c_6, rfl, rfl⟩)⟩
set_option maxRecDepth 100000 in
set_option maxHeartbeats 4000000 in
theorem ft_X2_slot (l : Launch) (tt : Nat) (ac : Nat) : Ct l yX2_slot cX2_slot 3 (some .int) 0 0 0 0 (fun S av => av = [.int (nI tt), .int (nI ac)] ∧ (tt < 20) ∧ (ac < 12)) (fun S _ r S' => ∃ v : Nat, r = some (.int (nI v)) ∧ v = 12 * tt + ac ∧ S' = S) := by
  refine ct_of (by decide) (fun S av h => by obtain ⟨rfl, ht, ha⟩ := h; exact Nat.le_of_ble_eq_true rfl) ?_
  intro p e s m args below meth c D G bs S av C hr hin hpre
  obtain ⟨rfl, ht, ha⟩ := hpre
  refine v_iload_n C dX2_slot_0 rfl ?_
  refine n_if_lt (tgt := 24) C (by omega) dX2_slot_1 (by decide) ?_
  refine v_iload_n C dX2_slot_4 rfl ?_
  refine v_bipush (v := nI 20) C dX2_slot_5 (by decide) ?_
  refine n_icmp_ge (tgt := 24) C (by omega) (by omega) dX2_slot_7 (by decide) (fun c_7 => ?_) (fun c_7 => ?_)
  · skip
    omega
  · skip
    refine v_iload_n C dX2_slot_10 rfl ?_
    refine n_if_lt (tgt := 24) C (by omega) dX2_slot_11 (by decide) ?_
    refine v_iload_n C dX2_slot_14 rfl ?_
    refine v_bipush (v := nI 12) C dX2_slot_15 (by decide) ?_
    refine n_icmp_ge (tgt := 24) C (by omega) (by omega) dX2_slot_17 (by decide) (fun c_17 => ?_) (fun c_17 => ?_)
    · skip
      omega
    · skip
      refine v_iconst (v := nI 1) C dX2_slot_20 (by decide) ?_
      refine v_goto (tgt := 25) C dX2_slot_21 (by decide) ?_
      refine v_istore_n C dX2_slot_25 (by decide) (by first | rfl | exact cat_ok _ | simp [okS, cat_rf]) ?_
      refine v_iload_n C dX2_slot_26 rfl ?_
      refine v_if_eq (tgt := 39) C dX2_slot_27 (by decide) (fun c_27 => ?_) (fun c_27 => ?_)
      · skip
        exact absurd c_27 (by decide)
      · skip
        refine v_iload_n C dX2_slot_30 rfl ?_
        refine v_bipush (v := nI 12) C dX2_slot_31 (by decide) ?_
        refine n_imul C dX2_slot_33 ?_
        refine v_iload_n C dX2_slot_34 rfl ?_
        refine n_iadd C dX2_slot_35 ?_
        refine v_goto (tgt := 40) C dX2_slot_36 (by decide) ?_
        refine v_iret C hr (Nat.le_of_ble_eq_true rfl) (Nat.le_of_ble_eq_true rfl) dX2_slot_40 ?_
        exact ⟨_, rfl, (by omega), rfl⟩
set_option maxRecDepth 100000 in
set_option maxHeartbeats 4000000 in
theorem ft_X2_leaves (l : Launch) (h : Nat) (tt : Nat) (ac : Nat) (lf : Nat) (b : Bool) : Ct l yX2_leaves cX2_leaves 4 (some .boolean) 1 0 0 22 (fun S av => av = [.ref h, .int (nI tt), .int (nI ac)] ∧ is S h 2 ∧ (tt < 20) ∧ (ac < 12) ∧ (mO S 134 h = some lf ∧ isA S lf 13 240 ∧ mA S lf (12 * tt + ac) = bI b)) (fun S _ r S' => ∃ v : Bool, r = some (.int (bI v)) ∧ v = b ∧ S' = S) := by
  refine ct_of (by decide) (fun S av h => by obtain ⟨rfl, i_h, ht, ha, hb⟩ := h; exact Nat.le_of_ble_eq_true rfl) ?_
  intro p e s m args below meth c D G bs S av C hr hin hpre
  obtain ⟨rfl, i_h, ht, ha, hb⟩ := hpre
  obtain ⟨o_lf, i_lf, eb⟩ := hb
  refine v_iload_n C dX2_leaves_0 rfl ?_
  refine v_iload_n C dX2_leaves_1 rfl ?_
  refine v_callS (As := [_, _]) (n := 2) C (ft_X2_slot l _ _) rfl ⟨wd436, wd437, wd271, wd438⟩ hy_X2_slot rfl ⟨Nat.le_of_ble_eq_true rfl, Nat.le_of_ble_eq_true rfl⟩ (Nat.le_of_ble_eq_true rfl) ⟨Nat.le_of_ble_eq_true rfl, Nat.le_of_ble_eq_true rfl⟩ dX2_leaves_2 ⟨rfl, ht, ha⟩ (fun r_2 S2_2 h_2 => ?_)
  obtain ⟨v2, rfl, p_v2, q_v2⟩ := h_2
  obtain rfl := q_v2.symm
  obtain rfl := p_v2
  refine v_istore_n C dX2_leaves_5 (by decide) (by first | rfl | exact cat_ok _ | simp [okS, cat_rf]) ?_
  refine v_iload_n C dX2_leaves_6 rfl ?_
  refine v_iconst (v := -1) C dX2_leaves_7 (by decide) ?_
  refine v_icmp_eq (tgt := 24) C dX2_leaves_8 (by decide) (fun c_8 => ?_) (fun c_8 => ?_)
  · skip
    exact absurd c_8 (nI_m1 (by omega))
  · skip
    refine v_aload_n C dX2_leaves_11 rfl ?_
    refine r2_28 (b := lf) C i_h o_lf dX2_leaves_12 ?_
    refine v_iload_n C dX2_leaves_15 rfl ?_
    refine v_zald C i_lf (vp_in_nI (by omega) (by omega)) dX2_leaves_16 ?_
    rw [nI_clamp (by omega)]
    refine v_val (y := bI b) eb ?_
    refine b_if_eq (tgt := 24) C dX2_leaves_17 (by decide) (fun c_17 => ?_) (fun c_17 => ?_)
    · skip
      refine v_iconst (v := nI 0) C dX2_leaves_24 (by decide) ?_
      refine v_zret C hr (by first | rfl | exact bI_nar _) (Nat.le_of_ble_eq_true rfl) (Nat.le_of_ble_eq_true rfl) dX2_leaves_25 ?_
      exact ⟨false, rfl, (c_17.symm), rfl⟩
    · skip
      refine v_iconst (v := nI 1) C dX2_leaves_20 (by decide) ?_
      refine v_goto (tgt := 25) C dX2_leaves_21 (by decide) ?_
      refine v_zret C hr (by first | rfl | exact bI_nar _) (Nat.le_of_ble_eq_true rfl) (Nat.le_of_ble_eq_true rfl) dX2_leaves_25 ?_
      exact ⟨true, rfl, (c_17.symm), rfl⟩
set_option maxRecDepth 100000 in
set_option maxHeartbeats 4000000 in
theorem ft_X2_addLeft (l : Launch) (M : Nat → Prop) (h : Nat) (tt : Nat) (ac : Nat) (lf nL : Nat) : Ct l yX2_addLeft cX2_addLeft 4 (some .int) 1 0 0 22 (fun S av => av = [.ref h, .int (nI tt), .int (nI ac)] ∧ INV M [] S ∧ is S h 2 ∧ (tt < 20) ∧ (ac < 12) ∧ (mO S 134 h = some lf ∧ isA S lf 13 240) ∧ (mI S 135 h = nI nL) ∧ (nL < 8)) (fun S _ r S' => ∃ v : Nat, r = some (.int (nI v)) ∧ v = 1 ∧ INV M [] S' ∧ chg S S' [lf] [] [(135, h)] [] ∧ ((∀ i, mA S' lf i = if i = 12 * tt + ac then 1 else mA S lf i) ∧ mI S' 135 h = nI (nL + 1))) := by
  refine ct_of (by decide) (fun S av h => by obtain ⟨rfl, iv, i_h, ht, ha, hb, eL, hL⟩ := h; exact Nat.le_of_ble_eq_true rfl) ?_
  intro p e s m args below meth c D G bs S av C hr hin hpre
  obtain ⟨rfl, iv, i_h, ht, ha, hb, eL, hL⟩ := hpre
  have ch : chg S S [lf] [] [(135, h)] [] := ch_rfl
  obtain ⟨o_lf, i_lf⟩ := hb
  refine v_iload_n C dX2_addLeft_0 rfl ?_
  refine v_iload_n C dX2_addLeft_1 rfl ?_
  refine v_callS (As := [_, _]) (n := 2) C (ft_X2_slot l _ _) rfl ⟨wd436, wd437, wd271, wd438⟩ hy_X2_slot rfl ⟨Nat.le_of_ble_eq_true rfl, Nat.le_of_ble_eq_true rfl⟩ (Nat.le_of_ble_eq_true rfl) ⟨Nat.le_of_ble_eq_true rfl, Nat.le_of_ble_eq_true rfl⟩ dX2_addLeft_2 ⟨rfl, ht, ha⟩ (fun r_2 S2_2 h_2 => ?_)
  obtain ⟨v2, rfl, p_v2, q_v2⟩ := h_2
  obtain rfl := q_v2.symm
  obtain rfl := p_v2
  refine v_istore_n C dX2_addLeft_5 (by decide) (by first | rfl | exact cat_ok _ | simp [okS, cat_rf]) ?_
  refine v_iload_n C dX2_addLeft_6 rfl ?_
  refine v_iconst (v := -1) C dX2_addLeft_7 (by decide) ?_
  refine v_icmp_eq (tgt := 28) C dX2_addLeft_8 (by decide) (fun c_8 => ?_) (fun c_8 => ?_)
  · skip
    exact absurd c_8 (nI_m1 (by omega))
  · skip
    refine v_aload_n C dX2_addLeft_11 rfl ?_
    refine r2_28 (b := lf) C i_h o_lf dX2_addLeft_12 ?_
    refine v_iload_n C dX2_addLeft_15 rfl ?_
    refine v_iconst (v := nI 1) C dX2_addLeft_16 (by decide) ?_
    refine v_zast C i_lf (vp_in_nI (by omega) (by omega)) rfl dX2_addLeft_17 ?_
    rw [nI_clamp (by omega)]
    refine V.gen (fun S4_17 e_17 => ?_)
    have x_17 := x_sA e_17
    have iv := inv_sA e_17 iv
    have ch := ch_sA e_17 ch (by simp)
    have o_lf := mo_sAy e_17 o_lf
    have i_h := is_ext x_17 i_h
    have i_lf := isA_ext x_17 i_lf
    refine v_aload_n C dX2_addLeft_18 rfl ?_
    refine v_dup C dX2_addLeft_19 rfl ?_
    refine g2_73 C i_h dX2_addLeft_20 ?_
    refine v_val (mi_sAy e_17 eL) ?_
    refine v_iconst (v := nI 1) C dX2_addLeft_23 (by decide) ?_
    refine n_iadd C dX2_addLeft_24 ?_
    refine p2_73 C i_h dX2_addLeft_25 ?_
    refine V.gen (fun S4_25 e_25 => ?_)
    have x_25 := x_sI e_25
    have iv := inv_sI e_25 iv (by decide) (by decide)
    have ch := ch_sI e_25 ch (by simp)
    have o_lf := mo_sIy e_25 o_lf
    have i_h := is_ext x_25 i_h
    have i_lf := isA_ext x_25 i_lf
    refine v_iconst (v := nI 1) C dX2_addLeft_28 (by decide) ?_
    refine v_iret C hr (Nat.le_of_ble_eq_true rfl) (Nat.le_of_ble_eq_true rfl) dX2_addLeft_29 ?_
    exact ⟨_, rfl, (rfl), iv, ch, (⟨fun i => by rw [e_25, mA_sI, e_17, mA_sA]; simp; rfl, by rw [e_25, mI_sI, if_pos ⟨rfl, rfl⟩]⟩)⟩
set_option maxRecDepth 100000 in
set_option maxHeartbeats 4000000 in
theorem ft_X2_nameOf (l : Launch) (h : Nat) (tt : Nat) (ac : Nat) (rw : Nat) (q : Option Nat) : Ct l yX2_nameOf cX2_nameOf 4 (some .int) 1 0 0 22 (fun S av => av = [.ref h, .int (nI tt), .int (nI ac)] ∧ is S h 2 ∧ (tt < 20) ∧ (ac < 12) ∧ (mO S 136 h = some rw ∧ isA S rw 11 240 ∧ mA S rw (12 * tt + ac) = oI q) ∧ (∀ k, q = some k → k < 12)) (fun S _ r S' => ∃ v : Option Nat, r = some (.int (oI v)) ∧ v = q ∧ (∀ k, v = some k → k < 12) ∧ S' = S) := by
  refine ct_of (by decide) (fun S av h => by obtain ⟨rfl, i_h, ht, ha, hb, hq⟩ := h; exact Nat.le_of_ble_eq_true rfl) ?_
  intro p e s m args below meth c D G bs S av C hr hin hpre
  obtain ⟨rfl, i_h, ht, ha, hb, hq⟩ := hpre
  obtain ⟨o_rw, i_rw, eq⟩ := hb
  refine v_iload_n C dX2_nameOf_0 rfl ?_
  refine v_iload_n C dX2_nameOf_1 rfl ?_
  refine v_callS (As := [_, _]) (n := 2) C (ft_X2_slot l _ _) rfl ⟨wd436, wd437, wd271, wd438⟩ hy_X2_slot rfl ⟨Nat.le_of_ble_eq_true rfl, Nat.le_of_ble_eq_true rfl⟩ (Nat.le_of_ble_eq_true rfl) ⟨Nat.le_of_ble_eq_true rfl, Nat.le_of_ble_eq_true rfl⟩ dX2_nameOf_2 ⟨rfl, ht, ha⟩ (fun r_2 S2_2 h_2 => ?_)
  obtain ⟨v2, rfl, p_v2, q_v2⟩ := h_2
  obtain rfl := q_v2.symm
  obtain rfl := p_v2
  refine v_istore_n C dX2_nameOf_5 (by decide) (by first | rfl | exact cat_ok _ | simp [okS, cat_rf]) ?_
  refine v_iload_n C dX2_nameOf_6 rfl ?_
  refine v_iconst (v := -1) C dX2_nameOf_7 (by decide) ?_
  refine v_icmp_ne (tgt := 15) C dX2_nameOf_8 (by decide) (fun c_8 => ?_) (fun c_8 => ?_)
  · skip
    refine v_aload_n C dX2_nameOf_15 rfl ?_
    refine r2_32 (b := rw) C i_h o_rw dX2_nameOf_16 ?_
    refine v_iload_n C dX2_nameOf_19 rfl ?_
    refine v_iald C i_rw (vp_in_nI (by omega) (by omega)) dX2_nameOf_20 ?_
    rw [nI_clamp (by omega)]
    refine v_val (y := oI q) eq ?_
    refine v_iret C hr (Nat.le_of_ble_eq_true rfl) (Nat.le_of_ble_eq_true rfl) dX2_nameOf_21 ?_
    exact ⟨_, rfl, (rfl), (hq), rfl⟩
  · skip
    exact absurd c_8 (nI_m1 (by omega))
set_option maxRecDepth 100000 in
set_option maxHeartbeats 4000000 in
theorem ft_X2_originOf (l : Launch) (h : Nat) (tt : Nat) (ac : Nat) (rw : Nat) (q : Option Nat) : Ct l yX2_originOf cX2_originOf 4 (some .int) 1 0 0 22 (fun S av => av = [.ref h, .int (nI tt), .int (nI ac)] ∧ is S h 2 ∧ (tt < 20) ∧ (ac < 12) ∧ (mO S 137 h = some rw ∧ isA S rw 11 240 ∧ mA S rw (12 * tt + ac) = oI q) ∧ (∀ k, q = some k → k < 12)) (fun S _ r S' => ∃ v : Option Nat, r = some (.int (oI v)) ∧ v = q ∧ (∀ k, v = some k → k < 12) ∧ S' = S) := by
  refine ct_of (by decide) (fun S av h => by obtain ⟨rfl, i_h, ht, ha, hb, hq⟩ := h; exact Nat.le_of_ble_eq_true rfl) ?_
  intro p e s m args below meth c D G bs S av C hr hin hpre
  obtain ⟨rfl, i_h, ht, ha, hb, hq⟩ := hpre
  obtain ⟨o_rw, i_rw, eq⟩ := hb
  refine v_iload_n C dX2_originOf_0 rfl ?_
  refine v_iload_n C dX2_originOf_1 rfl ?_
  refine v_callS (As := [_, _]) (n := 2) C (ft_X2_slot l _ _) rfl ⟨wd436, wd437, wd271, wd438⟩ hy_X2_slot rfl ⟨Nat.le_of_ble_eq_true rfl, Nat.le_of_ble_eq_true rfl⟩ (Nat.le_of_ble_eq_true rfl) ⟨Nat.le_of_ble_eq_true rfl, Nat.le_of_ble_eq_true rfl⟩ dX2_originOf_2 ⟨rfl, ht, ha⟩ (fun r_2 S2_2 h_2 => ?_)
  obtain ⟨v2, rfl, p_v2, q_v2⟩ := h_2
  obtain rfl := q_v2.symm
  obtain rfl := p_v2
  refine v_istore_n C dX2_originOf_5 (by decide) (by first | rfl | exact cat_ok _ | simp [okS, cat_rf]) ?_
  refine v_iload_n C dX2_originOf_6 rfl ?_
  refine v_iconst (v := -1) C dX2_originOf_7 (by decide) ?_
  refine v_icmp_ne (tgt := 15) C dX2_originOf_8 (by decide) (fun c_8 => ?_) (fun c_8 => ?_)
  · skip
    refine v_aload_n C dX2_originOf_15 rfl ?_
    refine r2_35 (b := rw) C i_h o_rw dX2_originOf_16 ?_
    refine v_iload_n C dX2_originOf_19 rfl ?_
    refine v_iald C i_rw (vp_in_nI (by omega) (by omega)) dX2_originOf_20 ?_
    rw [nI_clamp (by omega)]
    refine v_val (y := oI q) eq ?_
    refine v_iret C hr (Nat.le_of_ble_eq_true rfl) (Nat.le_of_ble_eq_true rfl) dX2_originOf_21 ?_
    exact ⟨_, rfl, (rfl), (hq), rfl⟩
  · skip
    exact absurd c_8 (nI_m1 (by omega))
set_option maxRecDepth 100000 in
set_option maxHeartbeats 4000000 in
theorem ft_X2_addRenamed (l : Launch) (M : Nat → Prop) (h : Nat) (tt : Nat) (ac : Nat) (nn : Nat) (nm og nR : Nat) : Ct l yX2_addRenamed cX2_addRenamed 6 (some .int) 1 0 0 22 (fun S av => av = [.ref h, .int (nI tt), .int (nI ac), .int (nI nn)] ∧ INV M [] S ∧ is S h 2 ∧ (tt < 20) ∧ (ac < 12) ∧ (nn < 12) ∧ (mO S 136 h = some nm ∧ isA S nm 11 240 ∧ mO S 137 h = some og ∧ isA S og 11 240 ∧ nm ≠ og) ∧ (mI S 138 h = nI nR) ∧ (nR < 8)) (fun S _ r S' => ∃ v : Nat, r = some (.int (nI v)) ∧ v = 1 ∧ INV M [] S' ∧ chg S S' [nm, og] [] [(138, h)] [] ∧ ((∀ i, mA S' nm i = if i = 12 * tt + ac then nI nn else mA S nm i) ∧ (∀ i, mA S' og i = if i = 12 * tt + nn then nI ac else mA S og i) ∧ mI S' 138 h = nI (nR + 1))) := by
  refine ct_of (by decide) (fun S av h => by obtain ⟨rfl, iv, i_h, ht, ha, hn, hb, eL, hL⟩ := h; exact Nat.le_of_ble_eq_true rfl) ?_
  intro p e s m args below meth c D G bs S av C hr hin hpre
  obtain ⟨rfl, iv, i_h, ht, ha, hn, hb, eL, hL⟩ := hpre
  have ch : chg S S [nm, og] [] [(138, h)] [] := ch_rfl
  obtain ⟨o_nm, i_nm, o_og, i_og, nno⟩ := hb
  refine v_iload_n C dX2_addRenamed_0 rfl ?_
  refine v_iload_n C dX2_addRenamed_1 rfl ?_
  refine v_callS (As := [_, _]) (n := 2) C (ft_X2_slot l _ _) rfl ⟨wd436, wd437, wd271, wd438⟩ hy_X2_slot rfl ⟨Nat.le_of_ble_eq_true rfl, Nat.le_of_ble_eq_true rfl⟩ (Nat.le_of_ble_eq_true rfl) ⟨Nat.le_of_ble_eq_true rfl, Nat.le_of_ble_eq_true rfl⟩ dX2_addRenamed_2 ⟨rfl, ht, ha⟩ (fun r_2 S2_2 h_2 => ?_)
  obtain ⟨v2, rfl, p_v2, q_v2⟩ := h_2
  obtain rfl := q_v2.symm
  obtain rfl := p_v2
  refine v_istore C dX2_addRenamed_5 (by decide) (by first | rfl | exact cat_ok _ | simp [okS, cat_rf]) ?_
  refine v_iload_n C dX2_addRenamed_7 rfl ?_
  refine v_iload_n C dX2_addRenamed_8 rfl ?_
  refine v_callS (As := [_, _]) (n := 2) C (ft_X2_slot l _ _) rfl ⟨wd436, wd437, wd271, wd438⟩ hy_X2_slot rfl ⟨Nat.le_of_ble_eq_true rfl, Nat.le_of_ble_eq_true rfl⟩ (Nat.le_of_ble_eq_true rfl) ⟨Nat.le_of_ble_eq_true rfl, Nat.le_of_ble_eq_true rfl⟩ dX2_addRenamed_9 ⟨rfl, ht, hn⟩ (fun r_9 S2_9 h_9 => ?_)
  obtain ⟨v9, rfl, p_v9, q_v9⟩ := h_9
  obtain rfl := q_v9.symm
  obtain rfl := p_v9
  refine v_istore C dX2_addRenamed_12 (by decide) (by first | rfl | exact cat_ok _ | simp [okS, cat_rf]) ?_
  refine v_iload C dX2_addRenamed_14 rfl ?_
  refine v_iconst (v := -1) C dX2_addRenamed_16 (by decide) ?_
  refine v_icmp_eq (tgt := 52) C dX2_addRenamed_17 (by decide) (fun c_17 => ?_) (fun c_17 => ?_)
  · skip
    exact absurd c_17 (nI_m1 (by omega))
  · skip
    refine v_iload C dX2_addRenamed_20 rfl ?_
    refine v_iconst (v := -1) C dX2_addRenamed_22 (by decide) ?_
    refine v_icmp_eq (tgt := 52) C dX2_addRenamed_23 (by decide) (fun c_23 => ?_) (fun c_23 => ?_)
    · skip
      exact absurd c_23 (nI_m1 (by omega))
    · skip
      refine v_aload_n C dX2_addRenamed_26 rfl ?_
      refine r2_32 (b := nm) C i_h o_nm dX2_addRenamed_27 ?_
      refine v_iload C dX2_addRenamed_30 rfl ?_
      refine v_iload_n C dX2_addRenamed_32 rfl ?_
      refine v_iast C i_nm (vp_in_nI (by omega) (by omega)) dX2_addRenamed_33 ?_
      rw [nI_clamp (by omega)]
      refine V.gen (fun S6_33 e_33 => ?_)
      have x_33 := x_sA e_33
      have iv := inv_sA e_33 iv
      have ch := ch_sA e_33 ch (by simp)
      have o_nm := mo_sAy e_33 o_nm
      have o_og := mo_sAy e_33 o_og
      have i_h := is_ext x_33 i_h
      have i_nm := isA_ext x_33 i_nm
      have i_og := isA_ext x_33 i_og
      refine v_aload_n C dX2_addRenamed_34 rfl ?_
      refine r2_35 (b := og) C i_h o_og dX2_addRenamed_35 ?_
      refine v_iload C dX2_addRenamed_38 rfl ?_
      refine v_iload_n C dX2_addRenamed_40 rfl ?_
      refine v_iast C i_og (vp_in_nI (by omega) (by omega)) dX2_addRenamed_41 ?_
      rw [nI_clamp (by omega)]
      refine V.gen (fun S6_41 e_41 => ?_)
      have x_41 := x_sA e_41
      have iv := inv_sA e_41 iv
      have ch := ch_sA e_41 ch (by simp)
      have o_nm := mo_sAy e_41 o_nm
      have o_og := mo_sAy e_41 o_og
      have i_h := is_ext x_41 i_h
      have i_nm := isA_ext x_41 i_nm
      have i_og := isA_ext x_41 i_og
      refine v_aload_n C dX2_addRenamed_42 rfl ?_
      refine v_dup C dX2_addRenamed_43 rfl ?_
      refine g2_76 C i_h dX2_addRenamed_44 ?_
      refine v_val (mi_sAy e_41 (mi_sAy e_33 eL)) ?_
      refine v_iconst (v := nI 1) C dX2_addRenamed_47 (by decide) ?_
      refine n_iadd C dX2_addRenamed_48 ?_
      refine p2_76 C i_h dX2_addRenamed_49 ?_
      refine V.gen (fun S6_49 e_49 => ?_)
      have x_49 := x_sI e_49
      have iv := inv_sI e_49 iv (by decide) (by decide)
      have ch := ch_sI e_49 ch (by simp)
      have o_nm := mo_sIy e_49 o_nm
      have o_og := mo_sIy e_49 o_og
      have i_h := is_ext x_49 i_h
      have i_nm := isA_ext x_49 i_nm
      have i_og := isA_ext x_49 i_og
      refine v_iconst (v := nI 1) C dX2_addRenamed_52 (by decide) ?_
      refine v_iret C hr (Nat.le_of_ble_eq_true rfl) (Nat.le_of_ble_eq_true rfl) dX2_addRenamed_53 ?_
      exact ⟨_, rfl, (rfl), iv, ch, (⟨fun i => by rw [e_49, mA_sI, e_41, mA_sA, if_neg (fun z => nno z.1), e_33, mA_sA]; simp, fun i => by rw [e_49, mA_sI, e_41, mA_sA, e_33, mA_sA, if_neg (c := og = nm ∧ _) (fun z => nno z.1.symm)]; simp, by rw [e_49, mI_sI, if_pos ⟨rfl, rfl⟩]⟩)⟩
set_option maxRecDepth 100000 in
set_option maxHeartbeats 4000000 in
theorem ft_X2_preferredFor (l : Launch) (h : Nat) (ac : Nat) (pf : Nat) : Ct l yX2_preferredFor cX2_preferredFor 2 (some .int) 1 0 0 21 (fun S av => av = [.ref h, .int (nI ac)] ∧ is S h 2 ∧ (ac < 12) ∧ (mO S 139 h = some pf ∧ isA S pf 11 12)) (fun S _ r S' => ∃ v : Int32, r = some (.int v) ∧ v = mA S pf ac ∧ S' = S) := by
  refine ct_of (by decide) (fun S av h => by obtain ⟨rfl, i_h, ha, hb⟩ := h; exact Nat.le_of_ble_eq_true rfl) ?_
  intro p e s m args below meth c D G bs S av C hr hin hpre
  obtain ⟨rfl, i_h, ha, hb⟩ := hpre
  obtain ⟨o_pf, i_pf⟩ := hb
  refine v_iload_n C dX2_preferredFor_0 rfl ?_
  refine v_bipush (v := nI 12) C dX2_preferredFor_1 (by decide) ?_
  refine v_callSN (As := [_, _]) (n := 2) C (sb_isBelow l _ _) rfl ⟨(by decide +kernel), wd141, wd2, wd142⟩ hy_X9_isBelow rfl ⟨Nat.le_of_ble_eq_true rfl, Nat.le_of_ble_eq_true rfl⟩ (Nat.le_of_ble_eq_true rfl) ⟨Nat.le_of_ble_eq_true rfl, Nat.le_of_ble_eq_true rfl⟩ dX2_preferredFor_3 rfl (fun r_3 S2_3 h_3 => ?_)
  obtain ⟨v3, rfl, p_v3, q_v3⟩ := h_3
  obtain rfl := q_v3.symm
  rw [isB_nI (by omega) (by decide)] at p_v3
  refine b_if_eq (tgt := 18) C dX2_preferredFor_6 (by decide) (fun c_6 => ?_) (fun c_6 => ?_)
  · skip
    exact absurd ha (of_decide_eq_false (p_v3.symm.trans c_6))
  · skip
    refine v_aload_n C dX2_preferredFor_9 rfl ?_
    refine r2_38 (b := pf) C i_h o_pf dX2_preferredFor_10 ?_
    refine v_iload_n C dX2_preferredFor_13 rfl ?_
    refine v_iald C i_pf (vp_in_nI (by omega) (by omega)) dX2_preferredFor_14 ?_
    rw [nI_clamp (by omega)]
    refine v_goto (tgt := 19) C dX2_preferredFor_15 (by decide) ?_
    refine v_iret C hr (Nat.le_of_ble_eq_true rfl) (Nat.le_of_ble_eq_true rfl) dX2_preferredFor_19 ?_
    exact ⟨_, rfl, (rfl), rfl⟩
set_option maxRecDepth 100000 in
set_option maxHeartbeats 4000000 in
theorem ft_X2_swapPreferred (l : Launch) (M : Nat → Prop) (h : Nat) (ac : Nat) (tr : Int32) (pf : Nat) : Ct l yX2_swapPreferred cX2_swapPreferred 4 (some .int) 2 0 0 42 (fun S av => av = [.ref h, .int (nI ac), .int tr] ∧ INV M [] S ∧ is S h 2 ∧ (ac < 12) ∧ (mO S 139 h = some pf ∧ isA S pf 11 12)) (fun S _ r S' => ∃ v : Int32, r = some (.int v) ∧ v = mA S pf ac ∧ INV M [] S' ∧ chg S S' [pf] [] [] [] ∧ (∀ i, mA S' pf i = if i = ac then tr else mA S pf i)) := by
  refine ct_of (by decide) (fun S av h => by obtain ⟨rfl, iv, i_h, ha, hb⟩ := h; exact Nat.le_of_ble_eq_true rfl) ?_
  intro p e s m args below meth c D G bs S av C hr hin hpre
  obtain ⟨rfl, iv, i_h, ha, hb⟩ := hpre
  have ch : chg S S [pf] [] [] [] := ch_rfl
  obtain ⟨o_pf, i_pf⟩ := hb
  refine v_aload_n C dX2_swapPreferred_0 rfl ?_
  refine v_iload_n C dX2_swapPreferred_1 rfl ?_
  refine v_callV (As := [_]) (n := 1) C (ft_X2_preferredFor l _ _ pf) rfl i_h (by decide) rfl ⟨wd490, wd491, wd492, wd271, wd493⟩ ⟨rfl, hy_X2_preferredFor⟩ rfl ⟨Nat.le_of_ble_eq_true rfl, Nat.le_of_ble_eq_true rfl⟩ (Nat.le_of_ble_eq_true rfl) ⟨Nat.le_of_ble_eq_true rfl, Nat.le_of_ble_eq_true rfl⟩ dX2_swapPreferred_2 ⟨rfl, i_h, ha, ⟨o_pf, i_pf⟩⟩ (fun r_2 S2_2 h_2 => ?_)
  obtain ⟨v2, rfl, p_v2, q_v2⟩ := h_2
  obtain rfl := q_v2.symm
  refine v_istore_n C dX2_swapPreferred_5 (by decide) (by first | rfl | exact cat_ok _ | simp [okS, cat_rf]) ?_
  refine v_iload_n C dX2_swapPreferred_6 rfl ?_
  refine v_bipush (v := nI 12) C dX2_swapPreferred_7 (by decide) ?_
  refine v_callSN (As := [_, _]) (n := 2) C (sb_isBelow l _ _) rfl ⟨(by decide +kernel), wd141, wd2, wd142⟩ hy_X9_isBelow rfl ⟨Nat.le_of_ble_eq_true rfl, Nat.le_of_ble_eq_true rfl⟩ (Nat.le_of_ble_eq_true rfl) ⟨Nat.le_of_ble_eq_true rfl, Nat.le_of_ble_eq_true rfl⟩ dX2_swapPreferred_9 rfl (fun r_9 S2_9 h_9 => ?_)
  obtain ⟨v9, rfl, p_v9, q_v9⟩ := h_9
  obtain rfl := q_v9.symm
  rw [isB_nI (by omega) (by decide)] at p_v9
  refine b_if_eq (tgt := 22) C dX2_swapPreferred_12 (by decide) (fun c_12 => ?_) (fun c_12 => ?_)
  · skip
    exact absurd ha (of_decide_eq_false (p_v9.symm.trans c_12))
  · skip
    refine v_aload_n C dX2_swapPreferred_15 rfl ?_
    refine r2_38 (b := pf) C i_h o_pf dX2_swapPreferred_16 ?_
    refine v_iload_n C dX2_swapPreferred_19 rfl ?_
    refine v_iload_n C dX2_swapPreferred_20 rfl ?_
    refine v_iast C i_pf (vp_in_nI (by omega) (by omega)) dX2_swapPreferred_21 ?_
    rw [nI_clamp (by omega)]
    refine V.gen (fun S4_21 e_21 => ?_)
    have x_21 := x_sA e_21
    have iv := inv_sA e_21 iv
    have ch := ch_sA e_21 ch (by simp)
    have o_pf := mo_sAy e_21 o_pf
    have i_h := is_ext x_21 i_h
    have i_pf := isA_ext x_21 i_pf
    refine v_iload_n C dX2_swapPreferred_22 rfl ?_
    refine v_iret C hr (Nat.le_of_ble_eq_true rfl) (Nat.le_of_ble_eq_true rfl) dX2_swapPreferred_23 ?_
    exact ⟨_, rfl, (p_v2), iv, ch, ((fun i => by rw [e_21, mA_sA]; simp))⟩
set_option maxRecDepth 100000 in
set_option maxHeartbeats 4000000 in
theorem ft_X9_leave (l : Launch) (M : Nat → Prop) (h : Nat) (t : Int32) (u : Int32) (ac : Int32) (W : Nat → Nat) (nC nT : Nat) (LT : Nat → List Nat) (K : RS) : Ct l yX9_leave cX9_leave 5 (some .int) 2 0 0 45 (fun S av => av = [.ref h, .int t, .int u, .int ac] ∧ INV M [] S ∧ is S h 9 ∧ (mO S 576 h = some (W 0)) ∧ (trS S (W 0) nT (aA W) LT) ∧ (fA0 S W nC) ∧ (all1 (fA1 S W) nC) ∧ (all1 (fQ1 S W K) nC) ∧ (∀ k, k < nC → rN K 20 k ≤ 8)) (fun S _ r S' => ∃ v : Int32, r = some (.int v) ∧ INV M [] S' ∧ chg S S' [W (10 * t.toNatClampNeg + 306)] [] [(135, W (10 * t.toNatClampNeg + 300))] [] ∧ (((blw t nC && blw u nT && blw ac 12) = false ∧ v = -2 ∧ S' = S) ∨ ∃ k w j, k < nC ∧ w < nT ∧ j < 12 ∧ t = nI k ∧ u = nI w ∧ ac = nI j ∧ ((leavesF K k w j = true ∧ v = 0 ∧ S' = S) ∨ (leavesF K k w j = false ∧ rN K 20 k = 8 ∧ v = -4 ∧ S' = S) ∨ (leavesF K k w j = false ∧ rN K 20 k < 8 ∧ v = 1 ∧ (∀ i, mA S' (W (10 * k + 306)) i = if i = 12 * w + j then 1 else mA S (W (10 * k + 306)) i) ∧ mI S' 135 (W (10 * k + 300)) = nI (rN K 20 k + 1))))) := by
  refine ct_of (by decide) (fun S av h => by obtain ⟨rfl, iv, i_h, hc, hT, hF, hA, hQ, h8⟩ := h; exact Nat.le_of_ble_eq_true rfl) ?_
  intro p e s m args below meth c D G bs S av C hr hin hpre
  obtain ⟨rfl, iv, i_h, hc, hT, hF, hA, hQ, h8⟩ := hpre
  have ch : chg S S [W (10 * t.toNatClampNeg + 306)] [] [(135, W (10 * t.toNatClampNeg + 300))] [] := ch_rfl
  have i_cm := hT.1
  have hT20 := hT.2.2.2.2.1
  have hC12 := hF.2.2.2.1
  refine v_aload_n C dX9_leave_0 rfl ?_
  refine r9_10 (b := (W 0)) C i_h hc dX9_leave_1 ?_
  refine v_iload_n C dX9_leave_4 rfl ?_
  refine v_callV (As := [_]) (n := 1) C (ft_X1_figureAt l _ _ W nC) rfl i_cm (by decide) rfl ⟨wd300, wd301, wd302, wd15, wd303⟩ ⟨rfl, hy_X1_figureAt⟩ rfl ⟨Nat.le_of_ble_eq_true rfl, Nat.le_of_ble_eq_true rfl⟩ (Nat.le_of_ble_eq_true rfl) ⟨Nat.le_of_ble_eq_true rfl, Nat.le_of_ble_eq_true rfl⟩ dX9_leave_5 ⟨rfl, i_cm, rfl, hF⟩ (fun r_5 S2_5 h_5 => ?_)
  obtain ⟨v5, rfl, p_v5, q_v5⟩ := h_5
  obtain rfl := q_v5.symm
  refine v_qstore C dX9_leave_8 (by decide) (by first | rfl | exact cat_ok _ | simp [okS, cat_rf]) ?_
  refine v_qload C dX9_leave_10 rfl ?_
  refine v_ifnull (tgt := 33) C dX9_leave_12 (by decide) (fun c_12 => ?_) (fun b12 c_12 => ?_)
  · skip
    subst c_12
    have hq : blw t nC = false := fgO_no p_v5.symm
    refine v_bipush (v := -2) C dX9_leave_33 (by decide) ?_
    refine v_iret C hr (Nat.le_of_ble_eq_true rfl) (Nat.le_of_ble_eq_true rfl) dX9_leave_35 ?_
    exact ⟨_, rfl, iv, ch, (Or.inl ⟨by simp [hq], rfl, rfl⟩)⟩
  · skip
    subst c_12
    obtain ⟨k, hk, ek⟩ := below_some (fgO_yes p_v5.symm)
    subst ek
    obtain rfl : b12 = W (10 * k + 300) := Option.some.inj (p_v5.trans ((fgO_nI hC12 (by omega)).trans (if_pos hk)))
    obtain ⟨i_gv, o_ln, o_tk, i_tk, o_ow, i_ow, o_lf, i_lf, o_nm, i_nm, o_og, i_og, o_pf, i_pf⟩ := hA k hk
    refine v_aload_n C dX9_leave_15 rfl ?_
    refine r9_10 (b := (W 0)) C i_h hc dX9_leave_16 ?_
    refine v_iload_n C dX9_leave_19 rfl ?_
    refine v_callV (As := [_]) (n := 1) C (ft_X1_traitAt l _ _ nT (aA W) LT) rfl i_cm (by decide) rfl ⟨wd304, wd138, wd139, wd15, wd140⟩ ⟨rfl, hy_X1_traitAt⟩ rfl ⟨Nat.le_of_ble_eq_true rfl, Nat.le_of_ble_eq_true rfl⟩ (Nat.le_of_ble_eq_true rfl) ⟨Nat.le_of_ble_eq_true rfl, Nat.le_of_ble_eq_true rfl⟩ dX9_leave_20 ⟨rfl, i_cm, hT⟩ (fun r_20 S4_20 h_20 => ?_)
    obtain ⟨v20, rfl, p_v20, q_v20⟩ := h_20
    obtain rfl := q_v20.symm
    refine v_ifnull (tgt := 33) C dX9_leave_23 (by decide) (fun c_23 => ?_) (fun b23 c_23 => ?_)
    · skip
      subst c_23
      have hq : blw u nT = false := trO_no p_v20.symm
      refine v_bipush (v := -2) C dX9_leave_33 (by decide) ?_
      refine v_iret C hr (Nat.le_of_ble_eq_true rfl) (Nat.le_of_ble_eq_true rfl) dX9_leave_35 ?_
      exact ⟨_, rfl, iv, ch, (Or.inl ⟨by simp [hq], rfl, rfl⟩)⟩
    · skip
      subst c_23
      obtain ⟨w, hw, ew⟩ := below_some (trO_yes p_v20.symm)
      subst ew
      refine v_iload_n C dX9_leave_26 rfl ?_
      refine v_callS (As := [_]) (n := 1) C (sb_isAct l _) rfl ⟨wd345, wd346, wd2, wd347⟩ hy_X9_isAct rfl ⟨Nat.le_of_ble_eq_true rfl, Nat.le_of_ble_eq_true rfl⟩ (Nat.le_of_ble_eq_true rfl) ⟨Nat.le_of_ble_eq_true rfl, Nat.le_of_ble_eq_true rfl⟩ dX9_leave_27 rfl (fun r_27 S6_27 h_27 => ?_)
      obtain ⟨v27, rfl, p_v27, q_v27⟩ := h_27
      obtain rfl := q_v27.symm
      rw [isB_below (n := 12) (by decide)] at p_v27
      refine b_if_ne (tgt := 36) C dX9_leave_30 (by decide) (fun c_30 => ?_) (fun c_30 => ?_)
      · skip
        obtain ⟨j, hj, ej⟩ := below_some (n := 12) (show blw ac 12 = true from p_v27.symm.trans c_30)
        subst ej
        refine v_aload C dX9_leave_36 rfl ?_
        refine v_iload_n C dX9_leave_38 rfl ?_
        refine v_iload_n C dX9_leave_39 rfl ?_
        refine v_callV (As := [_, _]) (n := 2) C (ft_X2_leaves l _ _ _ (W (10 * k + 306)) (leavesF K k w j)) rfl i_gv (by decide) rfl ⟨wd432, wd433, wd434, wd271, wd435⟩ ⟨rfl, hy_X2_leaves⟩ rfl ⟨Nat.le_of_ble_eq_true rfl, Nat.le_of_ble_eq_true rfl⟩ (Nat.le_of_ble_eq_true rfl) ⟨Nat.le_of_ble_eq_true rfl, Nat.le_of_ble_eq_true rfl⟩ dX9_leave_40 ⟨rfl, i_gv, (by omega), hj, ⟨o_lf, i_lf, (hQ k hk).2 w j (by omega) hj⟩⟩ (fun r_40 S8_40 h_40 => ?_)
        obtain ⟨v40, rfl, p_v40, q_v40⟩ := h_40
        obtain rfl := q_v40.symm
        refine b_if_eq (tgt := 48) C dX9_leave_43 (by decide) (fun c_43 => ?_) (fun c_43 => ?_)
        · skip
          refine v_aload C dX9_leave_48 rfl ?_
          have h8k := h8 k hk
          refine g9_113 C i_gv dX9_leave_50 ?_
          refine v_val (hQ k hk).1 ?_
          refine v_bipush (v := nI 8) C dX9_leave_53 (by decide) ?_
          refine n_icmp_lt (tgt := 63) C (by omega) (by omega) dX9_leave_55 (by decide) (fun c_55 => ?_) (fun c_55 => ?_)
          · skip
            refine v_aload C dX9_leave_63 rfl ?_
            refine v_iload_n C dX9_leave_65 rfl ?_
            refine v_iload_n C dX9_leave_66 rfl ?_
            refine v_callV (As := [_, _]) (n := 2) C (ft_X2_addLeft l M _ _ _ (W (10 * k + 306)) (rN K 20 k)) rfl i_gv (by decide) rfl ⟨wd439, wd440, wd441, wd271, wd442⟩ ⟨rfl, hy_X2_addLeft⟩ rfl ⟨Nat.le_of_ble_eq_true rfl, Nat.le_of_ble_eq_true rfl⟩ (Nat.le_of_ble_eq_true rfl) ⟨Nat.le_of_ble_eq_true rfl, Nat.le_of_ble_eq_true rfl⟩ dX9_leave_67 ⟨rfl, iv, i_gv, (by omega), hj, ⟨o_lf, i_lf⟩, (hQ k hk).1, c_55⟩ (fun r_67 S12_67 h_67 => ?_)
            obtain ⟨v67, rfl, p_v67, iv', ch_67, r_v67⟩ := h_67
            have iv := iv'
            clear iv'
            have ch := ch_tr ch ch_67 (by rw [nI_clamp (show k < 2 ^ 31 by omega)]; simp)
            have hc := mo_ch ch_67 i_h (by first | decide | simp) hc
            have i_h := is_ch ch_67 i_h
            have i_cm := is_ch ch_67 i_cm
            have i_gv := is_ch ch_67 i_gv
            refine v_iret C hr (Nat.le_of_ble_eq_true rfl) (Nat.le_of_ble_eq_true rfl) dX9_leave_70 ?_
            exact ⟨_, rfl, iv, ch, (Or.inr ⟨k, w, j, hk, hw, hj, rfl, rfl, rfl, Or.inr (Or.inr ⟨p_v40.symm.trans c_43, c_55, by rw [p_v67]; rfl, r_v67.1, r_v67.2⟩)⟩)⟩
          · skip
            refine v_bipush (v := -4) C dX9_leave_58 (by decide) ?_
            refine v_goto (tgt := 70) C dX9_leave_60 (by decide) ?_
            refine v_iret C hr (Nat.le_of_ble_eq_true rfl) (Nat.le_of_ble_eq_true rfl) dX9_leave_70 ?_
            exact ⟨_, rfl, iv, ch, (Or.inr ⟨k, w, j, hk, hw, hj, rfl, rfl, rfl, Or.inr (Or.inl ⟨p_v40.symm.trans c_43, by omega, rfl, rfl⟩)⟩)⟩
        · skip
          refine v_iconst (v := nI 0) C dX9_leave_46 (by decide) ?_
          refine v_iret C hr (Nat.le_of_ble_eq_true rfl) (Nat.le_of_ble_eq_true rfl) dX9_leave_47 ?_
          exact ⟨_, rfl, iv, ch, (Or.inr ⟨k, w, j, hk, hw, hj, rfl, rfl, rfl, Or.inl ⟨p_v40.symm.trans c_43, rfl, rfl⟩⟩)⟩
      · skip
        have hq : blw ac 12 = false := p_v27.symm.trans c_30
        refine v_bipush (v := -2) C dX9_leave_33 (by decide) ?_
        refine v_iret C hr (Nat.le_of_ble_eq_true rfl) (Nat.le_of_ble_eq_true rfl) dX9_leave_35 ?_
        exact ⟨_, rfl, iv, ch, (Or.inl ⟨by simp [hq], rfl, rfl⟩)⟩
set_option maxRecDepth 100000 in
set_option maxHeartbeats 4000000 in
theorem ft_X9_rename (l : Launch) (M : Nat → Prop) (h : Nat) (t : Int32) (u : Int32) (ac : Int32) (nn : Int32) (W : Nat → Nat) (nC nT : Nat) (LT : Nat → List Nat) (K : RS) : Ct l yX9_rename cX9_rename 6 (some .int) 2 0 0 47 (fun S av => av = [.ref h, .int t, .int u, .int ac, .int nn] ∧ INV M [] S ∧ is S h 9 ∧ (mO S 576 h = some (W 0)) ∧ (trS S (W 0) nT (aA W) LT) ∧ (fA0 S W nC) ∧ (all1 (fA1 S W) nC) ∧ (all1 (fN1 S W K) nC) ∧ (∀ k, k < nC → rN K 23 k ≤ 8) ∧ (∀ k, k < nC → W (10 * k + 307) ≠ W (10 * k + 308)) ∧ (∀ k w j, k < nC → (∀ q, renamedF K k w j = some q → q < 12) ∧ ∀ q, namedF K k w j = some q → q < 12)) (fun S _ r S' => ∃ v : Int32, r = some (.int v) ∧ INV M [] S' ∧ chg S S' [W (10 * t.toNatClampNeg + 307), W (10 * t.toNatClampNeg + 308)] [] [(138, W (10 * t.toNatClampNeg + 300))] [] ∧ (((blw t nC && blw u nT && blw ac 12 && blw nn 12 && !decide (ac = nn)) = false ∧ v = -2 ∧ S' = S) ∨ ∃ k w j i, k < nC ∧ w < nT ∧ j < 12 ∧ i < 12 ∧ j ≠ i ∧ t = nI k ∧ u = nI w ∧ ac = nI j ∧ nn = nI i ∧ ((((renamedF K k w j).isSome || (namedF K k w i).isSome) = true ∧ v = -3 ∧ S' = S) ∨ (((renamedF K k w j).isSome || (namedF K k w i).isSome) = false ∧ rN K 23 k = 8 ∧ v = -4 ∧ S' = S) ∨ (((renamedF K k w j).isSome || (namedF K k w i).isSome) = false ∧ rN K 23 k < 8 ∧ v = 1 ∧ (∀ q, mA S' (W (10 * k + 307)) q = if q = 12 * w + j then nI i else mA S (W (10 * k + 307)) q) ∧ (∀ q, mA S' (W (10 * k + 308)) q = if q = 12 * w + i then nI j else mA S (W (10 * k + 308)) q) ∧ mI S' 138 (W (10 * k + 300)) = nI (rN K 23 k + 1))))) := by
  refine ct_of (by decide) (fun S av h => by obtain ⟨rfl, iv, i_h, hc, hT, hF, hA, hQ, h8, hno, h12⟩ := h; exact Nat.le_of_ble_eq_true rfl) ?_
  intro p e s m args below meth c D G bs S av C hr hin hpre
  obtain ⟨rfl, iv, i_h, hc, hT, hF, hA, hQ, h8, hno, h12⟩ := hpre
  have ch : chg S S [W (10 * t.toNatClampNeg + 307), W (10 * t.toNatClampNeg + 308)] [] [(138, W (10 * t.toNatClampNeg + 300))] [] := ch_rfl
  have i_cm := hT.1
  have hT20 := hT.2.2.2.2.1
  have hC12 := hF.2.2.2.1
  refine v_aload_n C dX9_rename_0 rfl ?_
  refine r9_10 (b := (W 0)) C i_h hc dX9_rename_1 ?_
  refine v_iload_n C dX9_rename_4 rfl ?_
  refine v_callV (As := [_]) (n := 1) C (ft_X1_figureAt l _ _ W nC) rfl i_cm (by decide) rfl ⟨wd300, wd301, wd302, wd15, wd303⟩ ⟨rfl, hy_X1_figureAt⟩ rfl ⟨Nat.le_of_ble_eq_true rfl, Nat.le_of_ble_eq_true rfl⟩ (Nat.le_of_ble_eq_true rfl) ⟨Nat.le_of_ble_eq_true rfl, Nat.le_of_ble_eq_true rfl⟩ dX9_rename_5 ⟨rfl, i_cm, rfl, hF⟩ (fun r_5 S2_5 h_5 => ?_)
  obtain ⟨v5, rfl, p_v5, q_v5⟩ := h_5
  obtain rfl := q_v5.symm
  refine v_qstore C dX9_rename_8 (by decide) (by first | rfl | exact cat_ok _ | simp [okS, cat_rf]) ?_
  refine v_qload C dX9_rename_10 rfl ?_
  refine v_ifnull (tgt := 47) C dX9_rename_12 (by decide) (fun c_12 => ?_) (fun b12 c_12 => ?_)
  · skip
    subst c_12
    have hq : blw t nC = false := fgO_no p_v5.symm
    refine v_bipush (v := -2) C dX9_rename_47 (by decide) ?_
    refine v_iret C hr (Nat.le_of_ble_eq_true rfl) (Nat.le_of_ble_eq_true rfl) dX9_rename_49 ?_
    exact ⟨_, rfl, iv, ch, (Or.inl ⟨by simp [hq], rfl, rfl⟩)⟩
  · skip
    subst c_12
    obtain ⟨k, hk, ek⟩ := below_some (fgO_yes p_v5.symm)
    subst ek
    obtain rfl : b12 = W (10 * k + 300) := Option.some.inj (p_v5.trans ((fgO_nI hC12 (by omega)).trans (if_pos hk)))
    obtain ⟨i_gv, o_ln, o_tk, i_tk, o_ow, i_ow, o_lf, i_lf, o_nm, i_nm, o_og, i_og, o_pf, i_pf⟩ := hA k hk
    refine v_aload_n C dX9_rename_15 rfl ?_
    refine r9_10 (b := (W 0)) C i_h hc dX9_rename_16 ?_
    refine v_iload_n C dX9_rename_19 rfl ?_
    refine v_callV (As := [_]) (n := 1) C (ft_X1_traitAt l _ _ nT (aA W) LT) rfl i_cm (by decide) rfl ⟨wd304, wd138, wd139, wd15, wd140⟩ ⟨rfl, hy_X1_traitAt⟩ rfl ⟨Nat.le_of_ble_eq_true rfl, Nat.le_of_ble_eq_true rfl⟩ (Nat.le_of_ble_eq_true rfl) ⟨Nat.le_of_ble_eq_true rfl, Nat.le_of_ble_eq_true rfl⟩ dX9_rename_20 ⟨rfl, i_cm, hT⟩ (fun r_20 S4_20 h_20 => ?_)
    obtain ⟨v20, rfl, p_v20, q_v20⟩ := h_20
    obtain rfl := q_v20.symm
    refine v_ifnull (tgt := 47) C dX9_rename_23 (by decide) (fun c_23 => ?_) (fun b23 c_23 => ?_)
    · skip
      subst c_23
      have hq : blw u nT = false := trO_no p_v20.symm
      refine v_bipush (v := -2) C dX9_rename_47 (by decide) ?_
      refine v_iret C hr (Nat.le_of_ble_eq_true rfl) (Nat.le_of_ble_eq_true rfl) dX9_rename_49 ?_
      exact ⟨_, rfl, iv, ch, (Or.inl ⟨by simp [hq], rfl, rfl⟩)⟩
    · skip
      subst c_23
      obtain ⟨w, hw, ew⟩ := below_some (trO_yes p_v20.symm)
      subst ew
      refine v_iload_n C dX9_rename_26 rfl ?_
      refine v_callS (As := [_]) (n := 1) C (sb_isAct l _) rfl ⟨wd345, wd346, wd2, wd347⟩ hy_X9_isAct rfl ⟨Nat.le_of_ble_eq_true rfl, Nat.le_of_ble_eq_true rfl⟩ (Nat.le_of_ble_eq_true rfl) ⟨Nat.le_of_ble_eq_true rfl, Nat.le_of_ble_eq_true rfl⟩ dX9_rename_27 rfl (fun r_27 S6_27 h_27 => ?_)
      obtain ⟨v27, rfl, p_v27, q_v27⟩ := h_27
      obtain rfl := q_v27.symm
      rw [isB_below (n := 12) (by decide)] at p_v27
      refine b_if_eq (tgt := 47) C dX9_rename_30 (by decide) (fun c_30 => ?_) (fun c_30 => ?_)
      · skip
        have hq : blw ac 12 = false := p_v27.symm.trans c_30
        refine v_bipush (v := -2) C dX9_rename_47 (by decide) ?_
        refine v_iret C hr (Nat.le_of_ble_eq_true rfl) (Nat.le_of_ble_eq_true rfl) dX9_rename_49 ?_
        exact ⟨_, rfl, iv, ch, (Or.inl ⟨by simp [hq], rfl, rfl⟩)⟩
      · skip
        obtain ⟨j, hj, ej⟩ := below_some (n := 12) (show blw ac 12 = true from p_v27.symm.trans c_30)
        subst ej
        refine v_iload C dX9_rename_33 rfl ?_
        refine v_callS (As := [_]) (n := 1) C (sb_isAct l _) rfl ⟨wd345, wd346, wd2, wd347⟩ hy_X9_isAct rfl ⟨Nat.le_of_ble_eq_true rfl, Nat.le_of_ble_eq_true rfl⟩ (Nat.le_of_ble_eq_true rfl) ⟨Nat.le_of_ble_eq_true rfl, Nat.le_of_ble_eq_true rfl⟩ dX9_rename_35 rfl (fun r_35 S8_35 h_35 => ?_)
        obtain ⟨v35, rfl, p_v35, q_v35⟩ := h_35
        obtain rfl := q_v35.symm
        rw [isB_below (n := 12) (by decide)] at p_v35
        refine b_if_eq (tgt := 47) C dX9_rename_38 (by decide) (fun c_38 => ?_) (fun c_38 => ?_)
        · skip
          have hq : blw nn 12 = false := p_v35.symm.trans c_38
          refine v_bipush (v := -2) C dX9_rename_47 (by decide) ?_
          refine v_iret C hr (Nat.le_of_ble_eq_true rfl) (Nat.le_of_ble_eq_true rfl) dX9_rename_49 ?_
          exact ⟨_, rfl, iv, ch, (Or.inl ⟨by simp [hq], rfl, rfl⟩)⟩
        · skip
          obtain ⟨i, hi, ei⟩ := below_some (n := 12) (show blw nn 12 = true from p_v35.symm.trans c_38)
          subst ei
          refine v_iload_n C dX9_rename_41 rfl ?_
          refine v_iload C dX9_rename_42 rfl ?_
          refine v_icmp_ne (tgt := 50) C dX9_rename_44 (by decide) (fun c_44 => ?_) (fun c_44 => ?_)
          · skip
            have hji : j ≠ i := fun z => c_44 (by rw [z])
            refine v_aload C dX9_rename_50 rfl ?_
            refine v_iload_n C dX9_rename_52 rfl ?_
            refine v_iload_n C dX9_rename_53 rfl ?_
            refine v_callV (As := [_, _]) (n := 2) C (ft_X2_nameOf l _ _ _ (W (10 * k + 307)) (renamedF K k w j)) rfl i_gv (by decide) rfl ⟨wd457, wd458, wd459, wd271, wd460⟩ ⟨rfl, hy_X2_nameOf⟩ rfl ⟨Nat.le_of_ble_eq_true rfl, Nat.le_of_ble_eq_true rfl⟩ (Nat.le_of_ble_eq_true rfl) ⟨Nat.le_of_ble_eq_true rfl, Nat.le_of_ble_eq_true rfl⟩ dX9_rename_54 ⟨rfl, i_gv, (by omega), hj, ⟨o_nm, i_nm, ((hQ k hk).2 w j (by omega) hj).1⟩, (h12 k w j hk).1⟩ (fun r_54 S12_54 h_54 => ?_)
            obtain ⟨v54, rfl, p_v54, b_v54, q_v54⟩ := h_54
            obtain rfl := q_v54.symm
            refine v_iconst (v := -1) C dX9_rename_57 (by decide) ?_
            refine o_icmp_ne (tgt := 73) C (fun k z => by have := b_v54 k z; omega) dX9_rename_58 (by decide) (fun k58 c_58 => ?_) (fun c_58 => ?_)
            · skip
              have b_k58 := b_v54 k58 c_58
              subst c_58
              refine v_bipush (v := -3) C dX9_rename_73 (by decide) ?_
              refine v_iret C hr (Nat.le_of_ble_eq_true rfl) (Nat.le_of_ble_eq_true rfl) dX9_rename_75 ?_
              exact ⟨_, rfl, iv, ch, (Or.inr ⟨k, w, j, i, hk, hw, hj, hi, hji, rfl, rfl, rfl, rfl, Or.inl ⟨by rw [← p_v54]; rfl, rfl, rfl⟩⟩)⟩
            · skip
              subst c_58
              refine v_aload C dX9_rename_61 rfl ?_
              refine v_iload_n C dX9_rename_63 rfl ?_
              refine v_iload C dX9_rename_64 rfl ?_
              refine v_callV (As := [_, _]) (n := 2) C (ft_X2_originOf l _ _ _ (W (10 * k + 308)) (namedF K k w i)) rfl i_gv (by decide) rfl ⟨wd461, wd462, wd463, wd271, wd464⟩ ⟨rfl, hy_X2_originOf⟩ rfl ⟨Nat.le_of_ble_eq_true rfl, Nat.le_of_ble_eq_true rfl⟩ (Nat.le_of_ble_eq_true rfl) ⟨Nat.le_of_ble_eq_true rfl, Nat.le_of_ble_eq_true rfl⟩ dX9_rename_66 ⟨rfl, i_gv, (by omega), hi, ⟨o_og, i_og, ((hQ k hk).2 w i (by omega) hi).2⟩, (h12 k w i hk).2⟩ (fun r_66 S14_66 h_66 => ?_)
              obtain ⟨v66, rfl, p_v66, b_v66, q_v66⟩ := h_66
              obtain rfl := q_v66.symm
              refine v_iconst (v := -1) C dX9_rename_69 (by decide) ?_
              refine o_icmp_eq (tgt := 76) C (fun k z => by have := b_v66 k z; omega) dX9_rename_70 (by decide) (fun c_70 => ?_) (fun k70 c_70 => ?_)
              · skip
                subst c_70
                have hno2 : ((renamedF K k w j).isSome || (namedF K k w i).isSome) = false := by rw [← p_v54, ← p_v66]; rfl
                refine v_aload C dX9_rename_76 rfl ?_
                have h8k := h8 k hk
                refine g9_126 C i_gv dX9_rename_78 ?_
                refine v_val (hQ k hk).1 ?_
                refine v_bipush (v := nI 8) C dX9_rename_81 (by decide) ?_
                refine n_icmp_lt (tgt := 91) C (by omega) (by omega) dX9_rename_83 (by decide) (fun c_83 => ?_) (fun c_83 => ?_)
                · skip
                  refine v_aload C dX9_rename_91 rfl ?_
                  refine v_iload_n C dX9_rename_93 rfl ?_
                  refine v_iload_n C dX9_rename_94 rfl ?_
                  refine v_iload C dX9_rename_95 rfl ?_
                  refine v_callV (As := [_, _, _]) (n := 3) C (ft_X2_addRenamed l M _ _ _ _ (W (10 * k + 307)) (W (10 * k + 308)) (rN K 23 k)) rfl i_gv (by decide) rfl ⟨wd465, wd466, wd467, wd271, wd468⟩ ⟨rfl, hy_X2_addRenamed⟩ rfl ⟨Nat.le_of_ble_eq_true rfl, Nat.le_of_ble_eq_true rfl⟩ (Nat.le_of_ble_eq_true rfl) ⟨Nat.le_of_ble_eq_true rfl, Nat.le_of_ble_eq_true rfl⟩ dX9_rename_97 ⟨rfl, iv, i_gv, (by omega), hj, hi, ⟨o_nm, i_nm, o_og, i_og, hno k hk⟩, (hQ k hk).1, c_83⟩ (fun r_97 S18_97 h_97 => ?_)
                  obtain ⟨v97, rfl, p_v97, iv', ch_97, r_v97⟩ := h_97
                  have iv := iv'
                  clear iv'
                  have ch := ch_tr ch ch_97 (by rw [nI_clamp (show k < 2 ^ 31 by omega)]; simp)
                  have hc := mo_ch ch_97 i_h (by first | decide | simp) hc
                  have i_h := is_ch ch_97 i_h
                  have i_cm := is_ch ch_97 i_cm
                  have i_gv := is_ch ch_97 i_gv
                  refine v_iret C hr (Nat.le_of_ble_eq_true rfl) (Nat.le_of_ble_eq_true rfl) dX9_rename_100 ?_
                  exact ⟨_, rfl, iv, ch, (Or.inr ⟨k, w, j, i, hk, hw, hj, hi, hji, rfl, rfl, rfl, rfl, Or.inr (Or.inr ⟨hno2, c_83, by rw [p_v97]; rfl, r_v97.1, r_v97.2.1, r_v97.2.2⟩)⟩)⟩
                · skip
                  refine v_bipush (v := -4) C dX9_rename_86 (by decide) ?_
                  refine v_goto (tgt := 100) C dX9_rename_88 (by decide) ?_
                  refine v_iret C hr (Nat.le_of_ble_eq_true rfl) (Nat.le_of_ble_eq_true rfl) dX9_rename_100 ?_
                  exact ⟨_, rfl, iv, ch, (Or.inr ⟨k, w, j, i, hk, hw, hj, hi, hji, rfl, rfl, rfl, rfl, Or.inr (Or.inl ⟨hno2, by omega, rfl, rfl⟩)⟩)⟩
              · skip
                have b_k70 := b_v66 k70 c_70
                subst c_70
                refine v_bipush (v := -3) C dX9_rename_73 (by decide) ?_
                refine v_iret C hr (Nat.le_of_ble_eq_true rfl) (Nat.le_of_ble_eq_true rfl) dX9_rename_75 ?_
                exact ⟨_, rfl, iv, ch, (Or.inr ⟨k, w, j, i, hk, hw, hj, hi, hji, rfl, rfl, rfl, rfl, Or.inl ⟨by rw [← p_v66]; simp, rfl, rfl⟩⟩)⟩
          · skip
            have hq : nI j = nI i := c_44
            refine v_bipush (v := -2) C dX9_rename_47 (by decide) ?_
            refine v_iret C hr (Nat.le_of_ble_eq_true rfl) (Nat.le_of_ble_eq_true rfl) dX9_rename_49 ?_
            exact ⟨_, rfl, iv, ch, (Or.inl ⟨by simp [hq], rfl, rfl⟩)⟩
set_option maxRecDepth 100000 in
set_option maxHeartbeats 4000000 in
theorem ft_X9_prefer (l : Launch) (M : Nat → Prop) (h : Nat) (t : Int32) (ac : Int32) (u : Int32) (W : Nat → Nat) (nC nT : Nat) (LT : Nat → List Nat) (K : RS) : Ct l yX9_prefer cX9_prefer 5 (some .int) 3 0 0 65 (fun S av => av = [.ref h, .int t, .int ac, .int u] ∧ INV M [] S ∧ is S h 9 ∧ (mO S 576 h = some (W 0)) ∧ (trS S (W 0) nT (aA W) LT) ∧ (fA0 S W nC) ∧ (all1 (fA1 S W) nC)) (fun S _ r S' => ∃ v : Int32, r = some (.int v) ∧ INV M [] S' ∧ chg S S' [W (10 * t.toNatClampNeg + 309)] [] [] [] ∧ (((blw t nC && blw ac 12 && (decide (u = -1) || blw u nT)) = false ∧ v = -2 ∧ S' = S) ∨ ∃ k j, k < nC ∧ j < 12 ∧ t = nI k ∧ ac = nI j ∧ (u = -1 ∨ ∃ w, w < nT ∧ u = nI w) ∧ v = mA S (W (10 * k + 309)) j ∧ ∀ i, mA S' (W (10 * k + 309)) i = if i = j then u else mA S (W (10 * k + 309)) i)) := by
  refine ct_of (by decide) (fun S av h => by obtain ⟨rfl, iv, i_h, hc, hT, hF, hA⟩ := h; exact Nat.le_of_ble_eq_true rfl) ?_
  intro p e s m args below meth c D G bs S av C hr hin hpre
  obtain ⟨rfl, iv, i_h, hc, hT, hF, hA⟩ := hpre
  have ch : chg S S [W (10 * t.toNatClampNeg + 309)] [] [] [] := ch_rfl
  have i_cm := hT.1
  have hT20 := hT.2.2.2.2.1
  have hC12 := hF.2.2.2.1
  refine v_aload_n C dX9_prefer_0 rfl ?_
  refine r9_10 (b := (W 0)) C i_h hc dX9_prefer_1 ?_
  refine v_iload_n C dX9_prefer_4 rfl ?_
  refine v_callV (As := [_]) (n := 1) C (ft_X1_figureAt l _ _ W nC) rfl i_cm (by decide) rfl ⟨wd300, wd301, wd302, wd15, wd303⟩ ⟨rfl, hy_X1_figureAt⟩ rfl ⟨Nat.le_of_ble_eq_true rfl, Nat.le_of_ble_eq_true rfl⟩ (Nat.le_of_ble_eq_true rfl) ⟨Nat.le_of_ble_eq_true rfl, Nat.le_of_ble_eq_true rfl⟩ dX9_prefer_5 ⟨rfl, i_cm, rfl, hF⟩ (fun r_5 S2_5 h_5 => ?_)
  obtain ⟨v5, rfl, p_v5, q_v5⟩ := h_5
  obtain rfl := q_v5.symm
  refine v_qstore C dX9_prefer_8 (by decide) (by first | rfl | exact cat_ok _ | simp [okS, cat_rf]) ?_
  refine v_qload C dX9_prefer_10 rfl ?_
  refine v_ifnull (tgt := 38) C dX9_prefer_12 (by decide) (fun c_12 => ?_) (fun b12 c_12 => ?_)
  · skip
    subst c_12
    have hq : blw t nC = false := fgO_no p_v5.symm
    refine v_bipush (v := -2) C dX9_prefer_38 (by decide) ?_
    refine v_iret C hr (Nat.le_of_ble_eq_true rfl) (Nat.le_of_ble_eq_true rfl) dX9_prefer_40 ?_
    exact ⟨_, rfl, iv, ch, (Or.inl ⟨by simp [hq], rfl, rfl⟩)⟩
  · skip
    subst c_12
    obtain ⟨k, hk, ek⟩ := below_some (fgO_yes p_v5.symm)
    subst ek
    obtain rfl : b12 = W (10 * k + 300) := Option.some.inj (p_v5.trans ((fgO_nI hC12 (by omega)).trans (if_pos hk)))
    obtain ⟨i_gv, o_ln, o_tk, i_tk, o_ow, i_ow, o_lf, i_lf, o_nm, i_nm, o_og, i_og, o_pf, i_pf⟩ := hA k hk
    refine v_iload_n C dX9_prefer_15 rfl ?_
    refine v_callS (As := [_]) (n := 1) C (sb_isAct l _) rfl ⟨wd345, wd346, wd2, wd347⟩ hy_X9_isAct rfl ⟨Nat.le_of_ble_eq_true rfl, Nat.le_of_ble_eq_true rfl⟩ (Nat.le_of_ble_eq_true rfl) ⟨Nat.le_of_ble_eq_true rfl, Nat.le_of_ble_eq_true rfl⟩ dX9_prefer_16 rfl (fun r_16 S4_16 h_16 => ?_)
    obtain ⟨v16, rfl, p_v16, q_v16⟩ := h_16
    obtain rfl := q_v16.symm
    rw [isB_below (n := 12) (by decide)] at p_v16
    refine b_if_eq (tgt := 38) C dX9_prefer_19 (by decide) (fun c_19 => ?_) (fun c_19 => ?_)
    · skip
      have hq : blw ac 12 = false := p_v16.symm.trans c_19
      refine v_bipush (v := -2) C dX9_prefer_38 (by decide) ?_
      refine v_iret C hr (Nat.le_of_ble_eq_true rfl) (Nat.le_of_ble_eq_true rfl) dX9_prefer_40 ?_
      exact ⟨_, rfl, iv, ch, (Or.inl ⟨by simp [hq], rfl, rfl⟩)⟩
    · skip
      obtain ⟨j, hj, ej⟩ := below_some (n := 12) (show blw ac 12 = true from p_v16.symm.trans c_19)
      subst ej
      refine v_iload_n C dX9_prefer_22 rfl ?_
      refine v_iconst (v := -1) C dX9_prefer_23 (by decide) ?_
      refine v_icmp_eq (tgt := 41) C dX9_prefer_24 (by decide) (fun c_24 => ?_) (fun c_24 => ?_)
      · skip
        have hu : u = -1 ∨ ∃ w, w < nT ∧ u = nI w := Or.inl c_24
        refine v_aload C dX9_prefer_41 rfl ?_
        refine v_iload_n C dX9_prefer_43 rfl ?_
        refine v_iload_n C dX9_prefer_44 rfl ?_
        refine v_callV (As := [_, _]) (n := 2) C (ft_X2_swapPreferred l M _ _ _ (W (10 * k + 309))) rfl i_gv (by decide) rfl ⟨wd486, wd487, wd488, wd271, wd489⟩ ⟨rfl, hy_X2_swapPreferred⟩ rfl ⟨Nat.le_of_ble_eq_true rfl, Nat.le_of_ble_eq_true rfl⟩ (Nat.le_of_ble_eq_true rfl) ⟨Nat.le_of_ble_eq_true rfl, Nat.le_of_ble_eq_true rfl⟩ dX9_prefer_45 ⟨rfl, iv, i_gv, hj, ⟨o_pf, i_pf⟩⟩ (fun r_45 S8_45 h_45 => ?_)
        obtain ⟨v45, rfl, p_v45, iv', ch_45, r_v45⟩ := h_45
        have iv := iv'
        clear iv'
        have ch := ch_tr ch ch_45 (by rw [nI_clamp (show k < 2 ^ 31 by omega)]; simp)
        have hc := mo_ch ch_45 i_h (by first | decide | simp) hc
        have i_h := is_ch ch_45 i_h
        have i_cm := is_ch ch_45 i_cm
        have i_gv := is_ch ch_45 i_gv
        refine v_iret C hr (Nat.le_of_ble_eq_true rfl) (Nat.le_of_ble_eq_true rfl) dX9_prefer_48 ?_
        exact ⟨_, rfl, iv, ch, (Or.inr ⟨k, j, hk, hj, rfl, rfl, hu, p_v45, r_v45⟩)⟩
      · skip
        refine v_aload_n C dX9_prefer_27 rfl ?_
        refine r9_10 (b := (W 0)) C i_h hc dX9_prefer_28 ?_
        refine v_iload_n C dX9_prefer_31 rfl ?_
        refine v_callV (As := [_]) (n := 1) C (ft_X1_traitAt l _ _ nT (aA W) LT) rfl i_cm (by decide) rfl ⟨wd304, wd138, wd139, wd15, wd140⟩ ⟨rfl, hy_X1_traitAt⟩ rfl ⟨Nat.le_of_ble_eq_true rfl, Nat.le_of_ble_eq_true rfl⟩ (Nat.le_of_ble_eq_true rfl) ⟨Nat.le_of_ble_eq_true rfl, Nat.le_of_ble_eq_true rfl⟩ dX9_prefer_32 ⟨rfl, i_cm, hT⟩ (fun r_32 S8_32 h_32 => ?_)
        obtain ⟨v32, rfl, p_v32, q_v32⟩ := h_32
        obtain rfl := q_v32.symm
        refine v_ifnonnull (tgt := 41) C dX9_prefer_35 (by decide) (fun b35 c_35 => ?_) (fun c_35 => ?_)
        · skip
          subst c_35
          obtain ⟨w, hw, ew⟩ := below_some (trO_yes p_v32.symm)
          have hu : u = -1 ∨ ∃ w, w < nT ∧ u = nI w := Or.inr ⟨w, hw, ew⟩
          refine v_aload C dX9_prefer_41 rfl ?_
          refine v_iload_n C dX9_prefer_43 rfl ?_
          refine v_iload_n C dX9_prefer_44 rfl ?_
          refine v_callV (As := [_, _]) (n := 2) C (ft_X2_swapPreferred l M _ _ _ (W (10 * k + 309))) rfl i_gv (by decide) rfl ⟨wd486, wd487, wd488, wd271, wd489⟩ ⟨rfl, hy_X2_swapPreferred⟩ rfl ⟨Nat.le_of_ble_eq_true rfl, Nat.le_of_ble_eq_true rfl⟩ (Nat.le_of_ble_eq_true rfl) ⟨Nat.le_of_ble_eq_true rfl, Nat.le_of_ble_eq_true rfl⟩ dX9_prefer_45 ⟨rfl, iv, i_gv, hj, ⟨o_pf, i_pf⟩⟩ (fun r_45 S10_45 h_45 => ?_)
          obtain ⟨v45, rfl, p_v45, iv', ch_45, r_v45⟩ := h_45
          have iv := iv'
          clear iv'
          have ch := ch_tr ch ch_45 (by rw [nI_clamp (show k < 2 ^ 31 by omega)]; simp)
          have hc := mo_ch ch_45 i_h (by first | decide | simp) hc
          have i_h := is_ch ch_45 i_h
          have i_cm := is_ch ch_45 i_cm
          have i_gv := is_ch ch_45 i_gv
          refine v_iret C hr (Nat.le_of_ble_eq_true rfl) (Nat.le_of_ble_eq_true rfl) dX9_prefer_48 ?_
          exact ⟨_, rfl, iv, ch, (Or.inr ⟨k, j, hk, hj, rfl, rfl, hu, p_v45, r_v45⟩)⟩
        · skip
          subst c_35
          have hq : (decide (u = -1) || blw u nT) = false := by rw [decide_eq_false c_24]; exact trO_no p_v32.symm
          refine v_bipush (v := -2) C dX9_prefer_38 (by decide) ?_
          refine v_iret C hr (Nat.le_of_ble_eq_true rfl) (Nat.le_of_ble_eq_true rfl) dX9_prefer_40 ?_
          exact ⟨_, rfl, iv, ch, (Or.inl ⟨by simp [hq], rfl, rfl⟩)⟩
