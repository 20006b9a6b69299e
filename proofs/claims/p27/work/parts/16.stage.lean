theorem dX7_add_0 : decode cX7_add 0 = .ok (.aload_n 0, 1) := by decide +kernel
theorem dX7_add_1 : decode cX7_add 1 = .ok (.getfield 15, 3) := by decide +kernel
theorem dX7_add_4 : decode cX7_add 4 = .ok (.iconst 5, 1) := by decide +kernel
theorem dX7_add_5 : decode cX7_add 5 = .ok (.imul, 1) := by decide +kernel
theorem dX7_add_6 : decode cX7_add 6 = .ok (.istore 7, 2) := by decide +kernel
theorem dX7_add_8 : decode cX7_add 8 = .ok (.aload_n 0, 1) := by decide +kernel
theorem dX7_add_9 : decode cX7_add 9 = .ok (.getfield 15, 3) := by decide +kernel
theorem dX7_add_12 : decode cX7_add 12 = .ok (.sipush 200, 3) := by decide +kernel
theorem dX7_add_15 : decode cX7_add 15 = .ok (.invokestatic 19, 3) := by decide +kernel
theorem dX7_add_18 : decode cX7_add 18 = .ok (.ifCond .eq 67, 3) := by decide +kernel
theorem dX7_add_21 : decode cX7_add 21 = .ok (.aload_n 0, 1) := by decide +kernel
theorem dX7_add_22 : decode cX7_add 22 = .ok (.getfield 11, 3) := by decide +kernel
theorem dX7_add_25 : decode cX7_add 25 = .ok (.iload 7, 2) := by decide +kernel
theorem dX7_add_27 : decode cX7_add 27 = .ok (.iload_n 1, 1) := by decide +kernel
theorem dX7_add_28 : decode cX7_add 28 = .ok (.i2l, 1) := by decide +kernel
theorem dX7_add_29 : decode cX7_add 29 = .ok (.lastore, 1) := by decide +kernel
theorem dX7_add_30 : decode cX7_add 30 = .ok (.aload_n 0, 1) := by decide +kernel
theorem dX7_add_31 : decode cX7_add 31 = .ok (.getfield 11, 3) := by decide +kernel
theorem dX7_add_34 : decode cX7_add 34 = .ok (.iload 7, 2) := by decide +kernel
theorem dX7_add_36 : decode cX7_add 36 = .ok (.iconst 1, 1) := by decide +kernel
theorem dX7_add_37 : decode cX7_add 37 = .ok (.iadd, 1) := by decide +kernel
theorem dX7_add_38 : decode cX7_add 38 = .ok (.iload_n 2, 1) := by decide +kernel
theorem dX7_add_39 : decode cX7_add 39 = .ok (.i2l, 1) := by decide +kernel
theorem dX7_add_40 : decode cX7_add 40 = .ok (.lastore, 1) := by decide +kernel
theorem dX7_add_41 : decode cX7_add 41 = .ok (.aload_n 0, 1) := by decide +kernel
theorem dX7_add_42 : decode cX7_add 42 = .ok (.getfield 11, 3) := by decide +kernel
theorem dX7_add_45 : decode cX7_add 45 = .ok (.iload 7, 2) := by decide +kernel
theorem dX7_add_47 : decode cX7_add 47 = .ok (.iconst 2, 1) := by decide +kernel
theorem dX7_add_48 : decode cX7_add 48 = .ok (.iadd, 1) := by decide +kernel
theorem dX7_add_49 : decode cX7_add 49 = .ok (.iload_n 3, 1) := by decide +kernel
theorem dX7_add_50 : decode cX7_add 50 = .ok (.i2l, 1) := by decide +kernel
theorem dX7_add_51 : decode cX7_add 51 = .ok (.lastore, 1) := by decide +kernel
theorem dX7_add_52 : decode cX7_add 52 = .ok (.aload_n 0, 1) := by decide +kernel
theorem dX7_add_53 : decode cX7_add 53 = .ok (.getfield 11, 3) := by decide +kernel
theorem dX7_add_56 : decode cX7_add 56 = .ok (.iload 7, 2) := by decide +kernel
theorem dX7_add_58 : decode cX7_add 58 = .ok (.iconst 3, 1) := by decide +kernel
theorem dX7_add_59 : decode cX7_add 59 = .ok (.iadd, 1) := by decide +kernel
theorem dX7_add_60 : decode cX7_add 60 = .ok (.iload 4, 2) := by decide +kernel
theorem dX7_add_62 : decode cX7_add 62 = .ok (.i2l, 1) := by decide +kernel
theorem dX7_add_63 : decode cX7_add 63 = .ok (.lastore, 1) := by decide +kernel
theorem dX7_add_64 : decode cX7_add 64 = .ok (.aload_n 0, 1) := by decide +kernel
theorem dX7_add_65 : decode cX7_add 65 = .ok (.getfield 11, 3) := by decide +kernel
theorem dX7_add_68 : decode cX7_add 68 = .ok (.iload 7, 2) := by decide +kernel
theorem dX7_add_70 : decode cX7_add 70 = .ok (.iconst 4, 1) := by decide +kernel
theorem dX7_add_71 : decode cX7_add 71 = .ok (.iadd, 1) := by decide +kernel
theorem dX7_add_72 : decode cX7_add 72 = .ok (.lload 5, 2) := by decide +kernel
theorem dX7_add_74 : decode cX7_add 74 = .ok (.lastore, 1) := by decide +kernel
theorem dX7_add_75 : decode cX7_add 75 = .ok (.aload_n 0, 1) := by decide +kernel
theorem dX7_add_76 : decode cX7_add 76 = .ok (.dup, 1) := by decide +kernel
theorem dX7_add_77 : decode cX7_add 77 = .ok (.getfield 15, 3) := by decide +kernel
theorem dX7_add_80 : decode cX7_add 80 = .ok (.iconst 1, 1) := by decide +kernel
theorem dX7_add_81 : decode cX7_add 81 = .ok (.iadd, 1) := by decide +kernel
theorem dX7_add_82 : decode cX7_add 82 = .ok (.putfield 15, 3) := by decide +kernel
theorem dX7_add_85 : decode cX7_add 85 = .ok (.return_, 1) := by decide +kernel
set_option maxRecDepth 100000 in
set_option maxHeartbeats 4000000 in
theorem st_X7_add (l : Launch) (M : Nat → Prop) (h : Nat) (p0 : Int32) (p1 : Int32) (p2 : Int32) (p3 : Int32) (p4 : Int64) : Ct l yX7_add cX7_add 8 none 1 0 0 21 (fun S av => av = [.ref h, .int p0, .int p1, .int p2, .int p3, .long p4] ∧ INV M [] S ∧ is S h 7) (fun S _ r S' => r = none ∧ INV M [] S' ∧ ext S S' (fun a => ¬ M a ∧ mK S a ∈ [7, 12])) := by
  refine ct_of (by decide) (fun S av h => by obtain ⟨rfl, iv, i_this⟩ := h; exact Nat.le_of_ble_eq_true rfl) ?_
  intro p e s m args below meth c D G bs S av C hr hin hpre
  obtain ⟨rfl, iv, i_this⟩ := hpre
  have E0 : ext S S (fun a => ¬ M a ∧ mK S a ∈ [7, 12]) := ext_rfl
  refine v_aload_n C dX7_add_0 rfl ?_
  refine g7_15 C i_this dX7_add_1 ?_
  refine v_topi (fun v1 e_v1 => ?_)
  refine v_iconst (v := 5) C dX7_add_4 (by decide) ?_
  refine v_imul C dX7_add_5 ?_
  refine v_istore C dX7_add_6 (by decide) (by first | rfl | exact cat_ok _ | simp [okS, cat_rf]) ?_
  refine v_aload_n C dX7_add_8 rfl ?_
  refine g7_15 C i_this dX7_add_9 ?_
  refine v_topi (fun v9 e_v9 => ?_)
  refine v_sipush (v := 200) C dX7_add_12 (by decide) ?_
  refine v_callSN (As := [_, _]) (n := 2) C (sb_isBelow l _ _) rfl ⟨(by decide +kernel), wd141, wd2, wd142⟩ hy_X9_isBelow rfl ⟨Nat.le_of_ble_eq_true rfl, Nat.le_of_ble_eq_true rfl⟩ (Nat.le_of_ble_eq_true rfl) ⟨Nat.le_of_ble_eq_true rfl, Nat.le_of_ble_eq_true rfl⟩ dX7_add_15 rfl (fun r_15 S2_15 h_15 => ?_)
  obtain ⟨v15, rfl, p_v15, q_v15⟩ := h_15
  obtain rfl := q_v15.symm
  refine v_if_eq (tgt := 85) C dX7_add_18 (by decide) (fun c_18 => ?_) (fun c_18 => ?_)
  · skip
    refine v_vret C hr (Nat.le_of_ble_eq_true rfl) (Nat.le_of_ble_eq_true rfl) dX7_add_85 ?_
    exact ⟨rfl, iv, E0⟩
  · skip
    refine v_aload_n C dX7_add_21 rfl ?_
    obtain ⟨r22, e_r22, i_r22, m_r22⟩ := T448 iv i_this List.not_mem_nil
    refine r7_11 (b := r22) C i_this e_r22 dX7_add_22 ?_
    refine v_iload C dX7_add_25 rfl ?_
    refine v_iload_n C dX7_add_27 rfl ?_
    refine v_i2l C dX7_add_28 ?_
    refine v_last C i_r22 (tp_in0 (eq_in (e_v1.trans e_v9.symm) (bI_ne p_v15 c_18 rfl))) dX7_add_29 ?_
    refine V.gen (fun S4_29 e_29 => ?_)
    have iv' := inv_sQ e_29 iv
    have x_29 := x_sQ e_29
    have E0' := ext_tr E0 x_29 (xk_A E0 i_r22 m_r22 (by decide))
    have E0 := E0'
    have i_this := is_ext x_29 i_this
    have i_r22 := isA_ext x_29 i_r22
    have iv := iv'
    refine v_aload_n C dX7_add_30 rfl ?_
    obtain ⟨r31, e_r31, i_r31, m_r31⟩ := T448 iv i_this List.not_mem_nil
    refine r7_11 (b := r31) C i_this e_r31 dX7_add_31 ?_
    refine v_iload C dX7_add_34 rfl ?_
    refine v_iconst (v := 1) C dX7_add_36 (by decide) ?_
    refine v_iadd C dX7_add_37 ?_
    refine v_iload_n C dX7_add_38 rfl ?_
    refine v_i2l C dX7_add_39 ?_
    refine v_last C i_r31 (tp_in (eq_in (e_v1.trans e_v9.symm) (bI_ne p_v15 c_18 rfl)) (by decide)) dX7_add_40 ?_
    refine V.gen (fun S4_40 e_40 => ?_)
    have iv' := inv_sQ e_40 iv
    have x_40 := x_sQ e_40
    have E0' := ext_tr E0 x_40 (xk_A E0 i_r31 m_r31 (by decide))
    have E0 := E0'
    have i_this := is_ext x_40 i_this
    have i_r22 := isA_ext x_40 i_r22
    have i_r31 := isA_ext x_40 i_r31
    have iv := iv'
    refine v_aload_n C dX7_add_41 rfl ?_
    obtain ⟨r42, e_r42, i_r42, m_r42⟩ := T448 iv i_this List.not_mem_nil
    refine r7_11 (b := r42) C i_this e_r42 dX7_add_42 ?_
    refine v_iload C dX7_add_45 rfl ?_
    refine v_iconst (v := 2) C dX7_add_47 (by decide) ?_
    refine v_iadd C dX7_add_48 ?_
    refine v_iload_n C dX7_add_49 rfl ?_
    refine v_i2l C dX7_add_50 ?_
    refine v_last C i_r42 (tp_in (eq_in (e_v1.trans e_v9.symm) (bI_ne p_v15 c_18 rfl)) (by decide)) dX7_add_51 ?_
    refine V.gen (fun S4_51 e_51 => ?_)
    have iv' := inv_sQ e_51 iv
    have x_51 := x_sQ e_51
    have E0' := ext_tr E0 x_51 (xk_A E0 i_r42 m_r42 (by decide))
    have E0 := E0'
    have i_this := is_ext x_51 i_this
    have i_r22 := isA_ext x_51 i_r22
    have i_r31 := isA_ext x_51 i_r31
    have i_r42 := isA_ext x_51 i_r42
    have iv := iv'
    refine v_aload_n C dX7_add_52 rfl ?_
    obtain ⟨r53, e_r53, i_r53, m_r53⟩ := T448 iv i_this List.not_mem_nil
    refine r7_11 (b := r53) C i_this e_r53 dX7_add_53 ?_
    refine v_iload C dX7_add_56 rfl ?_
    refine v_iconst (v := 3) C dX7_add_58 (by decide) ?_
    refine v_iadd C dX7_add_59 ?_
    refine v_iload C dX7_add_60 rfl ?_
    refine v_i2l C dX7_add_62 ?_
    refine v_last C i_r53 (tp_in (eq_in (e_v1.trans e_v9.symm) (bI_ne p_v15 c_18 rfl)) (by decide)) dX7_add_63 ?_
    refine V.gen (fun S4_63 e_63 => ?_)
    have iv' := inv_sQ e_63 iv
    have x_63 := x_sQ e_63
    have E0' := ext_tr E0 x_63 (xk_A E0 i_r53 m_r53 (by decide))
    have E0 := E0'
    have i_this := is_ext x_63 i_this
    have i_r22 := isA_ext x_63 i_r22
    have i_r31 := isA_ext x_63 i_r31
    have i_r42 := isA_ext x_63 i_r42
    have i_r53 := isA_ext x_63 i_r53
    have iv := iv'
    refine v_aload_n C dX7_add_64 rfl ?_
    obtain ⟨r65, e_r65, i_r65, m_r65⟩ := T448 iv i_this List.not_mem_nil
    refine r7_11 (b := r65) C i_this e_r65 dX7_add_65 ?_
    refine v_iload C dX7_add_68 rfl ?_
    refine v_iconst (v := 4) C dX7_add_70 (by decide) ?_
    refine v_iadd C dX7_add_71 ?_
    refine v_lload C dX7_add_72 rfl ?_
    refine v_last C i_r65 (tp_in (eq_in (e_v1.trans e_v9.symm) (bI_ne p_v15 c_18 rfl)) (by decide)) dX7_add_74 ?_
    refine V.gen (fun S4_74 e_74 => ?_)
    have iv' := inv_sQ e_74 iv
    have x_74 := x_sQ e_74
    have E0' := ext_tr E0 x_74 (xk_A E0 i_r65 m_r65 (by decide))
    have E0 := E0'
    have i_this := is_ext x_74 i_this
    have i_r22 := isA_ext x_74 i_r22
    have i_r31 := isA_ext x_74 i_r31
    have i_r42 := isA_ext x_74 i_r42
    have i_r53 := isA_ext x_74 i_r53
    have i_r65 := isA_ext x_74 i_r65
    have iv := iv'
    refine v_aload_n C dX7_add_75 rfl ?_
    refine v_dup C dX7_add_76 rfl ?_
    refine g7_15 C i_this dX7_add_77 ?_
    refine v_topi (fun v77 e_v77 => ?_)
    refine v_iconst (v := 1) C dX7_add_80 (by decide) ?_
    refine v_iadd C dX7_add_81 ?_
    refine p7_15 C i_this dX7_add_82 ?_
    refine V.gen (fun S4_82 e_82 => ?_)
    have iv' := inv_len7 e_82 iv (eq_in (e_v77.trans ((mI_Q e_74).trans ((mI_Q e_63).trans ((mI_Q e_51).trans ((mI_Q e_40).trans ((mI_Q e_29).trans e_v9.symm)))))) (bI_ne p_v15 c_18 rfl))
    have x_82 := x_sI e_82
    have E0' := ext_tr E0 x_82 (xk_is E0 i_this iv (by decide) (by decide))
    have E0 := E0'
    have i_this := is_ext x_82 i_this
    have i_r22 := isA_ext x_82 i_r22
    have i_r31 := isA_ext x_82 i_r31
    have i_r42 := isA_ext x_82 i_r42
    have i_r53 := isA_ext x_82 i_r53
    have i_r65 := isA_ext x_82 i_r65
    have iv := iv'
    refine v_vret C hr (Nat.le_of_ble_eq_true rfl) (Nat.le_of_ble_eq_true rfl) dX7_add_85 ?_
    exact ⟨rfl, iv, E0⟩
theorem dX7_cell_0 : decode cX7_cell 0 = .ok (.iload_n 1, 1) := by decide +kernel
theorem dX7_cell_1 : decode cX7_cell 1 = .ok (.aload_n 0, 1) := by decide +kernel
theorem dX7_cell_2 : decode cX7_cell 2 = .ok (.getfield 15, 3) := by decide +kernel
theorem dX7_cell_5 : decode cX7_cell 5 = .ok (.invokestatic 19, 3) := by decide +kernel
theorem dX7_cell_8 : decode cX7_cell 8 = .ok (.ifCond .eq 24, 3) := by decide +kernel
theorem dX7_cell_11 : decode cX7_cell 11 = .ok (.iload_n 2, 1) := by decide +kernel
theorem dX7_cell_12 : decode cX7_cell 12 = .ok (.iconst 5, 1) := by decide +kernel
theorem dX7_cell_13 : decode cX7_cell 13 = .ok (.invokestatic 19, 3) := by decide +kernel
theorem dX7_cell_16 : decode cX7_cell 16 = .ok (.ifCond .eq 16, 3) := by decide +kernel
theorem dX7_cell_19 : decode cX7_cell 19 = .ok (.aload_n 0, 1) := by decide +kernel
theorem dX7_cell_20 : decode cX7_cell 20 = .ok (.getfield 11, 3) := by decide +kernel
theorem dX7_cell_23 : decode cX7_cell 23 = .ok (.iload_n 1, 1) := by decide +kernel
theorem dX7_cell_24 : decode cX7_cell 24 = .ok (.iconst 5, 1) := by decide +kernel
theorem dX7_cell_25 : decode cX7_cell 25 = .ok (.imul, 1) := by decide +kernel
theorem dX7_cell_26 : decode cX7_cell 26 = .ok (.iload_n 2, 1) := by decide +kernel
theorem dX7_cell_27 : decode cX7_cell 27 = .ok (.iadd, 1) := by decide +kernel
theorem dX7_cell_28 : decode cX7_cell 28 = .ok (.laload, 1) := by decide +kernel
theorem dX7_cell_29 : decode cX7_cell 29 = .ok (.goto 4, 3) := by decide +kernel
theorem dX7_cell_32 : decode cX7_cell 32 = .ok (.lconst 0, 1) := by decide +kernel
theorem dX7_cell_33 : decode cX7_cell 33 = .ok (.lreturn, 1) := by decide +kernel
set_option maxRecDepth 100000 in
set_option maxHeartbeats 4000000 in
theorem st_X7_cell (l : Launch) (M : Nat → Prop) (h : Nat) (p0 : Int32) (p1 : Int32) : Ct l yX7_cell cX7_cell 3 (some .long) 1 0 0 21 (fun S av => av = [.ref h, .int p0, .int p1] ∧ INV M [] S ∧ is S h 7) (fun S _ r S' => ∃ v, r = some (.long v) ∧ S' = S) := by
  refine ct_of (by decide) (fun S av h => by obtain ⟨rfl, iv, i_this⟩ := h; exact Nat.le_of_ble_eq_true rfl) ?_
  intro p e s m args below meth c D G bs S av C hr hin hpre
  obtain ⟨rfl, iv, i_this⟩ := hpre
  refine v_iload_n C dX7_cell_0 rfl ?_
  refine v_aload_n C dX7_cell_1 rfl ?_
  refine g7_15 C i_this dX7_cell_2 ?_
  refine v_topi (fun v2 e_v2 => ?_)
  refine v_callSN (As := [_, _]) (n := 2) C (sb_isBelow l _ _) rfl ⟨(by decide +kernel), wd141, wd2, wd142⟩ hy_X9_isBelow rfl ⟨Nat.le_of_ble_eq_true rfl, Nat.le_of_ble_eq_true rfl⟩ (Nat.le_of_ble_eq_true rfl) ⟨Nat.le_of_ble_eq_true rfl, Nat.le_of_ble_eq_true rfl⟩ dX7_cell_5 rfl (fun r_5 S2_5 h_5 => ?_)
  obtain ⟨v5, rfl, p_v5, q_v5⟩ := h_5
  obtain rfl := q_v5.symm
  refine v_if_eq (tgt := 32) C dX7_cell_8 (by decide) (fun c_8 => ?_) (fun c_8 => ?_)
  · skip
    refine v_lconst (v := 0) C dX7_cell_32 (by decide) ?_
    refine v_lret C hr (Nat.le_of_ble_eq_true rfl) (Nat.le_of_ble_eq_true rfl) dX7_cell_33 ?_
    exact ⟨_, rfl, rfl⟩
  · skip
    refine v_iload_n C dX7_cell_11 rfl ?_
    refine v_iconst (v := 5) C dX7_cell_12 (by decide) ?_
    refine v_callSN (As := [_, _]) (n := 2) C (sb_isBelow l _ _) rfl ⟨(by decide +kernel), wd141, wd2, wd142⟩ hy_X9_isBelow rfl ⟨Nat.le_of_ble_eq_true rfl, Nat.le_of_ble_eq_true rfl⟩ (Nat.le_of_ble_eq_true rfl) ⟨Nat.le_of_ble_eq_true rfl, Nat.le_of_ble_eq_true rfl⟩ dX7_cell_13 rfl (fun r_13 S4_13 h_13 => ?_)
    obtain ⟨v13, rfl, p_v13, q_v13⟩ := h_13
    obtain rfl := q_v13.symm
    refine v_if_eq (tgt := 32) C dX7_cell_16 (by decide) (fun c_16 => ?_) (fun c_16 => ?_)
    · skip
      refine v_lconst (v := 0) C dX7_cell_32 (by decide) ?_
      refine v_lret C hr (Nat.le_of_ble_eq_true rfl) (Nat.le_of_ble_eq_true rfl) dX7_cell_33 ?_
      exact ⟨_, rfl, rfl⟩
    · skip
      refine v_aload_n C dX7_cell_19 rfl ?_
      obtain ⟨r20, e_r20, i_r20, m_r20⟩ := T448 iv i_this List.not_mem_nil
      refine r7_11 (b := r20) C i_this e_r20 dX7_cell_20 ?_
      refine v_iload_n C dX7_cell_23 rfl ?_
      refine v_iconst (v := 5) C dX7_cell_24 (by decide) ?_
      refine v_imul C dX7_cell_25 ?_
      refine v_iload_n C dX7_cell_26 rfl ?_
      refine v_iadd C dX7_cell_27 ?_
      refine v_lald C i_r20 (tp_in (tl_in p_v5 c_8 (len200 iv i_this e_v2)) (vp_in5 (bI_ne p_v13 c_16 rfl))) dX7_cell_28 ?_
      refine v_goto (tgt := 33) C dX7_cell_29 (by decide) ?_
      refine v_lret C hr (Nat.le_of_ble_eq_true rfl) (Nat.le_of_ble_eq_true rfl) dX7_cell_33 ?_
      exact ⟨_, rfl, rfl⟩
theorem dX6_tellingOf_0 : decode cX6_tellingOf 0 = .ok (.iload_n 1, 1) := by decide +kernel
theorem dX6_tellingOf_1 : decode cX6_tellingOf 1 = .ok (.tableswitch 66 0 3 #[31, 36, 54, 60], 31) := by decide +kernel
theorem dX6_tellingOf_32 : decode cX6_tellingOf 32 = .ok (.aload_n 0, 1) := by decide +kernel
theorem dX6_tellingOf_33 : decode cX6_tellingOf 33 = .ok (.getfield 39, 3) := by decide +kernel
theorem dX6_tellingOf_36 : decode cX6_tellingOf 36 = .ok (.lreturn, 1) := by decide +kernel
theorem dX6_tellingOf_37 : decode cX6_tellingOf 37 = .ok (.aload_n 0, 1) := by decide +kernel
theorem dX6_tellingOf_38 : decode cX6_tellingOf 38 = .ok (.getfield 26, 3) := by decide +kernel
theorem dX6_tellingOf_41 : decode cX6_tellingOf 41 = .ok (.iconst 1, 1) := by decide +kernel
theorem dX6_tellingOf_42 : decode cX6_tellingOf 42 = .ok (.if_icmp .ne 11, 3) := by decide +kernel
theorem dX6_tellingOf_45 : decode cX6_tellingOf 45 = .ok (.aload_n 0, 1) := by decide +kernel
theorem dX6_tellingOf_46 : decode cX6_tellingOf 46 = .ok (.getfield 43, 3) := by decide +kernel
theorem dX6_tellingOf_49 : decode cX6_tellingOf 49 = .ok (.i2l, 1) := by decide +kernel
theorem dX6_tellingOf_50 : decode cX6_tellingOf 50 = .ok (.goto 4, 3) := by decide +kernel
theorem dX6_tellingOf_53 : decode cX6_tellingOf 53 = .ok (.lconst 0, 1) := by decide +kernel
theorem dX6_tellingOf_54 : decode cX6_tellingOf 54 = .ok (.lreturn, 1) := by decide +kernel
theorem dX6_tellingOf_55 : decode cX6_tellingOf 55 = .ok (.aload_n 0, 1) := by decide +kernel
theorem dX6_tellingOf_56 : decode cX6_tellingOf 56 = .ok (.getfield 29, 3) := by decide +kernel
theorem dX6_tellingOf_59 : decode cX6_tellingOf 59 = .ok (.i2l, 1) := by decide +kernel
theorem dX6_tellingOf_60 : decode cX6_tellingOf 60 = .ok (.lreturn, 1) := by decide +kernel
theorem dX6_tellingOf_61 : decode cX6_tellingOf 61 = .ok (.aload_n 0, 1) := by decide +kernel
theorem dX6_tellingOf_62 : decode cX6_tellingOf 62 = .ok (.getfield 32, 3) := by decide +kernel
theorem dX6_tellingOf_65 : decode cX6_tellingOf 65 = .ok (.i2l, 1) := by decide +kernel
theorem dX6_tellingOf_66 : decode cX6_tellingOf 66 = .ok (.lreturn, 1) := by decide +kernel
theorem dX6_tellingOf_67 : decode cX6_tellingOf 67 = .ok (.lconst 0, 1) := by decide +kernel
theorem dX6_tellingOf_68 : decode cX6_tellingOf 68 = .ok (.lreturn, 1) := by decide +kernel
set_option maxRecDepth 100000 in
set_option maxHeartbeats 4000000 in
theorem st_X6_tellingOf (l : Launch) (M : Nat → Prop) (h : Nat) (p0 : Int32) : Ct l yX6_tellingOf cX6_tellingOf 2 (some .long) 0 0 0 0 (fun S av => av = [.ref h, .int p0] ∧ INV M [] S ∧ is S h 6) (fun S _ r S' => ∃ v, r = some (.long v) ∧ S' = S) := by
  refine ct_of (by decide) (fun S av h => by obtain ⟨rfl, iv, i_this⟩ := h; exact Nat.le_of_ble_eq_true rfl) ?_
  intro p e s m args below meth c D G bs S av C hr hin hpre
  obtain ⟨rfl, iv, i_this⟩ := hpre
  refine v_iload_n C dX6_tellingOf_0 rfl ?_
  refine v_topi (fun k1 ek1 => ?_)
  by_cases k_0 : k1 = 0
  · skip
    refine v_tableIn (off := 31) (tgt := 32) C dX6_tellingOf_1 (by rw [k_0]; decide) (by rw [k_0]; decide) (by rw [k_0]; rfl) (by decide) ?_
    refine v_aload_n C dX6_tellingOf_32 rfl ?_
    refine g6_39 C i_this dX6_tellingOf_33 ?_
    refine v_lret C hr (Nat.le_of_ble_eq_true rfl) (Nat.le_of_ble_eq_true rfl) dX6_tellingOf_36 ?_
    exact ⟨_, rfl, rfl⟩
  by_cases k_1 : k1 = 1
  · skip
    refine v_tableIn (off := 36) (tgt := 37) C dX6_tellingOf_1 (by rw [k_1]; decide) (by rw [k_1]; decide) (by rw [k_1]; rfl) (by decide) ?_
    refine v_aload_n C dX6_tellingOf_37 rfl ?_
    refine g6_26 C i_this dX6_tellingOf_38 ?_
    refine v_topi (fun v38 e_v38 => ?_)
    refine v_iconst (v := 1) C dX6_tellingOf_41 (by decide) ?_
    refine v_icmp_ne (tgt := 53) C dX6_tellingOf_42 (by decide) (fun c_42 => ?_) (fun c_42 => ?_)
    · skip
      refine v_lconst (v := 0) C dX6_tellingOf_53 (by decide) ?_
      refine v_lret C hr (Nat.le_of_ble_eq_true rfl) (Nat.le_of_ble_eq_true rfl) dX6_tellingOf_54 ?_
      exact ⟨_, rfl, rfl⟩
    · skip
      refine v_aload_n C dX6_tellingOf_45 rfl ?_
      refine g6_43 C i_this dX6_tellingOf_46 ?_
      refine v_topi (fun v46 e_v46 => ?_)
      refine v_i2l C dX6_tellingOf_49 ?_
      refine v_goto (tgt := 54) C dX6_tellingOf_50 (by decide) ?_
      refine v_lret C hr (Nat.le_of_ble_eq_true rfl) (Nat.le_of_ble_eq_true rfl) dX6_tellingOf_54 ?_
      exact ⟨_, rfl, rfl⟩
  by_cases k_2 : k1 = 2
  · skip
    refine v_tableIn (off := 54) (tgt := 55) C dX6_tellingOf_1 (by rw [k_2]; decide) (by rw [k_2]; decide) (by rw [k_2]; rfl) (by decide) ?_
    refine v_aload_n C dX6_tellingOf_55 rfl ?_
    refine g6_29 C i_this dX6_tellingOf_56 ?_
    refine v_topi (fun v56 e_v56 => ?_)
    refine v_i2l C dX6_tellingOf_59 ?_
    refine v_lret C hr (Nat.le_of_ble_eq_true rfl) (Nat.le_of_ble_eq_true rfl) dX6_tellingOf_60 ?_
    exact ⟨_, rfl, rfl⟩
  by_cases k_3 : k1 = 3
  · skip
    refine v_tableIn (off := 60) (tgt := 61) C dX6_tellingOf_1 (by rw [k_3]; decide) (by rw [k_3]; decide) (by rw [k_3]; rfl) (by decide) ?_
    refine v_aload_n C dX6_tellingOf_61 rfl ?_
    refine g6_32 C i_this dX6_tellingOf_62 ?_
    refine v_topi (fun v62 e_v62 => ?_)
    refine v_i2l C dX6_tellingOf_65 ?_
    refine v_lret C hr (Nat.le_of_ble_eq_true rfl) (Nat.le_of_ble_eq_true rfl) dX6_tellingOf_66 ?_
    exact ⟨_, rfl, rfl⟩
  refine v_tableOut (tgt := 67) C dX6_tellingOf_1 (by have q0 := lv_neT k_0 (a := 0) rfl ; have q1 := lv_neT k_1 (a := 1) rfl ; have q2 := lv_neT k_2 (a := 2) rfl ; have q3 := lv_neT k_3 (a := 3) rfl ; omega) (by decide) ?_
  refine v_lconst (v := 0) C dX6_tellingOf_67 (by decide) ?_
  refine v_lret C hr (Nat.le_of_ble_eq_true rfl) (Nat.le_of_ble_eq_true rfl) dX6_tellingOf_68 ?_
  exact ⟨_, rfl, rfl⟩
theorem dX6_isInReach_0 : decode cX6_isInReach 0 = .ok (.iload_n 0, 1) := by decide +kernel
theorem dX6_isInReach_1 : decode cX6_isInReach 1 = .ok (.lookupswitch 61 #[(1, 44), (2, 27)], 27) := by decide +kernel
theorem dX6_isInReach_28 : decode cX6_isInReach 28 = .ok (.aload_n 2, 1) := by decide +kernel
theorem dX6_isInReach_29 : decode cX6_isInReach 29 = .ok (.getfield 78, 3) := by decide +kernel
theorem dX6_isInReach_32 : decode cX6_isInReach 32 = .ok (.aload_n 1, 1) := by decide +kernel
theorem dX6_isInReach_33 : decode cX6_isInReach 33 = .ok (.getfield 78, 3) := by decide +kernel
theorem dX6_isInReach_36 : decode cX6_isInReach 36 = .ok (.if_icmp .ne 7, 3) := by decide +kernel
theorem dX6_isInReach_39 : decode cX6_isInReach 39 = .ok (.iconst 1, 1) := by decide +kernel
theorem dX6_isInReach_40 : decode cX6_isInReach 40 = .ok (.goto 4, 3) := by decide +kernel
theorem dX6_isInReach_43 : decode cX6_isInReach 43 = .ok (.iconst 0, 1) := by decide +kernel
theorem dX6_isInReach_44 : decode cX6_isInReach 44 = .ok (.ireturn, 1) := by decide +kernel
theorem dX6_isInReach_45 : decode cX6_isInReach 45 = .ok (.aload_n 2, 1) := by decide +kernel
theorem dX6_isInReach_46 : decode cX6_isInReach 46 = .ok (.getfield 83, 3) := by decide +kernel
theorem dX6_isInReach_49 : decode cX6_isInReach 49 = .ok (.aload_n 1, 1) := by decide +kernel
theorem dX6_isInReach_50 : decode cX6_isInReach 50 = .ok (.getfield 83, 3) := by decide +kernel
theorem dX6_isInReach_53 : decode cX6_isInReach 53 = .ok (.if_icmp .ne 7, 3) := by decide +kernel
theorem dX6_isInReach_56 : decode cX6_isInReach 56 = .ok (.iconst 1, 1) := by decide +kernel
theorem dX6_isInReach_57 : decode cX6_isInReach 57 = .ok (.goto 4, 3) := by decide +kernel
theorem dX6_isInReach_60 : decode cX6_isInReach 60 = .ok (.iconst 0, 1) := by decide +kernel
theorem dX6_isInReach_61 : decode cX6_isInReach 61 = .ok (.ireturn, 1) := by decide +kernel
theorem dX6_isInReach_62 : decode cX6_isInReach 62 = .ok (.iconst 1, 1) := by decide +kernel
theorem dX6_isInReach_63 : decode cX6_isInReach 63 = .ok (.ireturn, 1) := by decide +kernel
set_option maxRecDepth 100000 in
set_option maxHeartbeats 4000000 in
theorem st_X6_isInReach (l : Launch) (M : Nat → Prop) (p0 : Int32) (p1 : Nat) (p2 : Nat) : Ct l yX6_isInReach cX6_isInReach 3 (some .boolean) 0 0 0 0 (fun S av => av = [.int p0, .ref p1, .ref p2] ∧ INV M [] S ∧ is S p1 2 ∧ is S p2 2) (fun S _ r S' => ∃ v, r = some (.int (bI v)) ∧ S' = S) := by
  refine ct_of (by decide) (fun S av h => by obtain ⟨rfl, iv, i_p1, i_p2⟩ := h; exact Nat.le_of_ble_eq_true rfl) ?_
  intro p e s m args below meth c D G bs S av C hr hin hpre
  obtain ⟨rfl, iv, i_p1, i_p2⟩ := hpre
  refine v_iload_n C dX6_isInReach_0 rfl ?_
  refine v_topi (fun k1 ek1 => ?_)
  by_cases k_1 : k1 = 1
  · skip
    refine v_lookup (off := 44) (tgt := 45) C dX6_isInReach_1 (by decide) (by rw [k_1]; decide) (by decide) ?_
    refine v_aload_n C dX6_isInReach_45 rfl ?_
    refine g6_83 C i_p2 dX6_isInReach_46 ?_
    refine v_topi (fun v46 e_v46 => ?_)
    refine v_aload_n C dX6_isInReach_49 rfl ?_
    refine g6_83 C i_p1 dX6_isInReach_50 ?_
    refine v_topi (fun v50 e_v50 => ?_)
    refine v_icmp_ne (tgt := 60) C dX6_isInReach_53 (by decide) (fun c_53 => ?_) (fun c_53 => ?_)
    · skip
      refine v_iconst (v := 0) C dX6_isInReach_60 (by decide) ?_
      refine v_zret C hr (by first | rfl | exact bI_nar _) (Nat.le_of_ble_eq_true rfl) (Nat.le_of_ble_eq_true rfl) dX6_isInReach_61 ?_
      first
        | exact ⟨true, rfl, rfl⟩
        | exact ⟨false, rfl, rfl⟩
        | exact ⟨_, rfl, rfl⟩
    · skip
      refine v_iconst (v := 1) C dX6_isInReach_56 (by decide) ?_
      refine v_goto (tgt := 61) C dX6_isInReach_57 (by decide) ?_
      refine v_zret C hr (by first | rfl | exact bI_nar _) (Nat.le_of_ble_eq_true rfl) (Nat.le_of_ble_eq_true rfl) dX6_isInReach_61 ?_
      first
        | exact ⟨true, rfl, rfl⟩
        | exact ⟨false, rfl, rfl⟩
        | exact ⟨_, rfl, rfl⟩
  by_cases k_2 : k1 = 2
  · skip
    refine v_lookup (off := 27) (tgt := 28) C dX6_isInReach_1 (by decide) (by rw [k_2]; decide) (by decide) ?_
    refine v_aload_n C dX6_isInReach_28 rfl ?_
    refine g6_78 C i_p2 dX6_isInReach_29 ?_
    refine v_topi (fun v29 e_v29 => ?_)
    refine v_aload_n C dX6_isInReach_32 rfl ?_
    refine g6_78 C i_p1 dX6_isInReach_33 ?_
    refine v_topi (fun v33 e_v33 => ?_)
    refine v_icmp_ne (tgt := 43) C dX6_isInReach_36 (by decide) (fun c_36 => ?_) (fun c_36 => ?_)
    · skip
      refine v_iconst (v := 0) C dX6_isInReach_43 (by decide) ?_
      refine v_zret C hr (by first | rfl | exact bI_nar _) (Nat.le_of_ble_eq_true rfl) (Nat.le_of_ble_eq_true rfl) dX6_isInReach_44 ?_
      first
        | exact ⟨true, rfl, rfl⟩
        | exact ⟨false, rfl, rfl⟩
        | exact ⟨_, rfl, rfl⟩
    · skip
      refine v_iconst (v := 1) C dX6_isInReach_39 (by decide) ?_
      refine v_goto (tgt := 44) C dX6_isInReach_40 (by decide) ?_
      refine v_zret C hr (by first | rfl | exact bI_nar _) (Nat.le_of_ble_eq_true rfl) (Nat.le_of_ble_eq_true rfl) dX6_isInReach_44 ?_
      first
        | exact ⟨true, rfl, rfl⟩
        | exact ⟨false, rfl, rfl⟩
        | exact ⟨_, rfl, rfl⟩
  refine v_lookup (off := 61) (tgt := 62) C dX6_isInReach_1 (by decide) ((lv_osw k_1 rfl).trans ((lv_osw k_2 rfl).trans rfl)) (by decide) ?_
  refine v_iconst (v := 1) C dX6_isInReach_62 (by decide) ?_
  refine v_zret C hr (by first | rfl | exact bI_nar _) (Nat.le_of_ble_eq_true rfl) (Nat.le_of_ble_eq_true rfl) dX6_isInReach_63 ?_
  first
    | exact ⟨true, rfl, rfl⟩
    | exact ⟨false, rfl, rfl⟩
    | exact ⟨_, rfl, rfl⟩
theorem dX6_fail_0 : decode cX6_fail 0 = .ok (.aload_n 0, 1) := by decide +kernel
theorem dX6_fail_1 : decode cX6_fail 1 = .ok (.iload_n 1, 1) := by decide +kernel
theorem dX6_fail_2 : decode cX6_fail 2 = .ok (.putfield 26, 3) := by decide +kernel
theorem dX6_fail_5 : decode cX6_fail 5 = .ok (.lconst 0, 1) := by decide +kernel
theorem dX6_fail_6 : decode cX6_fail 6 = .ok (.lreturn, 1) := by decide +kernel
set_option maxRecDepth 100000 in
set_option maxHeartbeats 4000000 in
theorem st_X6_fail (l : Launch) (M : Nat → Prop) (h : Nat) (p0 : Int32) : Ct l yX6_fail cX6_fail 2 (some .long) 0 0 0 0 (fun S av => av = [.ref h, .int p0] ∧ INV M [] S ∧ is S h 6) (fun S _ r S' => ∃ v, r = some (.long v) ∧ INV M [] S' ∧ ext S S' (fun a => ¬ M a ∧ mK S a ∈ [6])) := by
  refine ct_of (by decide) (fun S av h => by obtain ⟨rfl, iv, i_this⟩ := h; exact Nat.le_of_ble_eq_true rfl) ?_
  intro p e s m args below meth c D G bs S av C hr hin hpre
  obtain ⟨rfl, iv, i_this⟩ := hpre
  have E0 : ext S S (fun a => ¬ M a ∧ mK S a ∈ [6]) := ext_rfl
  refine v_aload_n C dX6_fail_0 rfl ?_
  refine v_iload_n C dX6_fail_1 rfl ?_
  refine p6_26 C i_this dX6_fail_2 ?_
  refine V.gen (fun S2_2 e_2 => ?_)
  have iv' := inv_sI e_2 iv (by decide) (by decide)
  have x_2 := x_sI e_2
  have E0' := ext_tr E0 x_2 (xk_is E0 i_this iv (by decide) (by decide))
  have E0 := E0'
  have i_this := is_ext x_2 i_this
  have iv := iv'
  refine v_lconst (v := 0) C dX6_fail_5 (by decide) ?_
  refine v_lret C hr (Nat.le_of_ble_eq_true rfl) (Nat.le_of_ble_eq_true rfl) dX6_fail_6 ?_
  exact ⟨_, rfl, iv, E0⟩
theorem dX6_takeFailureAway_0 : decode cX6_takeFailureAway 0 = .ok (.aload_n 0, 1) := by decide +kernel
theorem dX6_takeFailureAway_1 : decode cX6_takeFailureAway 1 = .ok (.getfield 26, 3) := by decide +kernel
theorem dX6_takeFailureAway_4 : decode cX6_takeFailureAway 4 = .ok (.ifCond .eq 20, 3) := by decide +kernel
theorem dX6_takeFailureAway_7 : decode cX6_takeFailureAway 7 = .ok (.aload_n 0, 1) := by decide +kernel
theorem dX6_takeFailureAway_8 : decode cX6_takeFailureAway 8 = .ok (.getfield 26, 3) := by decide +kernel
theorem dX6_takeFailureAway_11 : decode cX6_takeFailureAway 11 = .ok (.iconst 2, 1) := by decide +kernel
theorem dX6_takeFailureAway_12 : decode cX6_takeFailureAway 12 = .ok (.if_icmp .eq 12, 3) := by decide +kernel
theorem dX6_takeFailureAway_15 : decode cX6_takeFailureAway 15 = .ok (.aload_n 0, 1) := by decide +kernel
theorem dX6_takeFailureAway_16 : decode cX6_takeFailureAway 16 = .ok (.getfield 26, 3) := by decide +kernel
theorem dX6_takeFailureAway_19 : decode cX6_takeFailureAway 19 = .ok (.bipush 6, 2) := by decide +kernel
theorem dX6_takeFailureAway_21 : decode cX6_takeFailureAway 21 = .ok (.if_icmp .ne 5, 3) := by decide +kernel
theorem dX6_takeFailureAway_24 : decode cX6_takeFailureAway 24 = .ok (.lload_n 1, 1) := by decide +kernel
theorem dX6_takeFailureAway_25 : decode cX6_takeFailureAway 25 = .ok (.lreturn, 1) := by decide +kernel
theorem dX6_takeFailureAway_26 : decode cX6_takeFailureAway 26 = .ok (.aload_n 0, 1) := by decide +kernel
theorem dX6_takeFailureAway_27 : decode cX6_takeFailureAway 27 = .ok (.getfield 26, 3) := by decide +kernel
theorem dX6_takeFailureAway_30 : decode cX6_takeFailureAway 30 = .ok (.iconst 1, 1) := by decide +kernel
theorem dX6_takeFailureAway_31 : decode cX6_takeFailureAway 31 = .ok (.if_icmp .ne 11, 3) := by decide +kernel
theorem dX6_takeFailureAway_34 : decode cX6_takeFailureAway 34 = .ok (.aload_n 0, 1) := by decide +kernel
theorem dX6_takeFailureAway_35 : decode cX6_takeFailureAway 35 = .ok (.getfield 43, 3) := by decide +kernel
theorem dX6_takeFailureAway_38 : decode cX6_takeFailureAway 38 = .ok (.i2l, 1) := by decide +kernel
theorem dX6_takeFailureAway_39 : decode cX6_takeFailureAway 39 = .ok (.goto 11, 3) := by decide +kernel
theorem dX6_takeFailureAway_42 : decode cX6_takeFailureAway 42 = .ok (.bipush (-10), 2) := by decide +kernel
theorem dX6_takeFailureAway_44 : decode cX6_takeFailureAway 44 = .ok (.aload_n 0, 1) := by decide +kernel
theorem dX6_takeFailureAway_45 : decode cX6_takeFailureAway 45 = .ok (.getfield 26, 3) := by decide +kernel
theorem dX6_takeFailureAway_48 : decode cX6_takeFailureAway 48 = .ok (.isub, 1) := by decide +kernel
theorem dX6_takeFailureAway_49 : decode cX6_takeFailureAway 49 = .ok (.i2l, 1) := by decide +kernel
theorem dX6_takeFailureAway_50 : decode cX6_takeFailureAway 50 = .ok (.lstore_n 3, 1) := by decide +kernel
theorem dX6_takeFailureAway_51 : decode cX6_takeFailureAway 51 = .ok (.aload_n 0, 1) := by decide +kernel
theorem dX6_takeFailureAway_52 : decode cX6_takeFailureAway 52 = .ok (.iconst 0, 1) := by decide +kernel
theorem dX6_takeFailureAway_53 : decode cX6_takeFailureAway 53 = .ok (.putfield 26, 3) := by decide +kernel
theorem dX6_takeFailureAway_56 : decode cX6_takeFailureAway 56 = .ok (.lload_n 3, 1) := by decide +kernel
theorem dX6_takeFailureAway_57 : decode cX6_takeFailureAway 57 = .ok (.lreturn, 1) := by decide +kernel
set_option maxRecDepth 100000 in
set_option maxHeartbeats 4000000 in
theorem st_X6_takeFailureAway (l : Launch) (M : Nat → Prop) (h : Nat) (p0 : Int64) : Ct l yX6_takeFailureAway cX6_takeFailureAway 5 (some .long) 0 0 0 0 (fun S av => av = [.ref h, .long p0] ∧ INV M [] S ∧ is S h 6) (fun S _ r S' => ∃ v, r = some (.long v) ∧ INV M [] S' ∧ ext S S' (fun a => ¬ M a ∧ mK S a ∈ [6])) := by
  refine ct_of (by decide) (fun S av h => by obtain ⟨rfl, iv, i_this⟩ := h; exact Nat.le_of_ble_eq_true rfl) ?_
  intro p e s m args below meth c D G bs S av C hr hin hpre
  obtain ⟨rfl, iv, i_this⟩ := hpre
  have E0 : ext S S (fun a => ¬ M a ∧ mK S a ∈ [6]) := ext_rfl
  refine v_aload_n C dX6_takeFailureAway_0 rfl ?_
  refine g6_26 C i_this dX6_takeFailureAway_1 ?_
  refine v_topi (fun v1 e_v1 => ?_)
  refine v_if_eq (tgt := 24) C dX6_takeFailureAway_4 (by decide) (fun c_4 => ?_) (fun c_4 => ?_)
  · skip
    refine v_lload_n C dX6_takeFailureAway_24 rfl ?_
    refine v_lret C hr (Nat.le_of_ble_eq_true rfl) (Nat.le_of_ble_eq_true rfl) dX6_takeFailureAway_25 ?_
    exact ⟨_, rfl, iv, E0⟩
  · skip
    refine v_aload_n C dX6_takeFailureAway_7 rfl ?_
    refine g6_26 C i_this dX6_takeFailureAway_8 ?_
    refine v_topi (fun v8 e_v8 => ?_)
    refine v_iconst (v := 2) C dX6_takeFailureAway_11 (by decide) ?_
    refine v_icmp_eq (tgt := 24) C dX6_takeFailureAway_12 (by decide) (fun c_12 => ?_) (fun c_12 => ?_)
    · skip
      refine v_lload_n C dX6_takeFailureAway_24 rfl ?_
      refine v_lret C hr (Nat.le_of_ble_eq_true rfl) (Nat.le_of_ble_eq_true rfl) dX6_takeFailureAway_25 ?_
      exact ⟨_, rfl, iv, E0⟩
    · skip
      refine v_aload_n C dX6_takeFailureAway_15 rfl ?_
      refine g6_26 C i_this dX6_takeFailureAway_16 ?_
      refine v_topi (fun v16 e_v16 => ?_)
      refine v_bipush (v := 6) C dX6_takeFailureAway_19 (by decide) ?_
      refine v_icmp_ne (tgt := 26) C dX6_takeFailureAway_21 (by decide) (fun c_21 => ?_) (fun c_21 => ?_)
      · skip
        refine v_aload_n C dX6_takeFailureAway_26 rfl ?_
        refine g6_26 C i_this dX6_takeFailureAway_27 ?_
        refine v_topi (fun v27 e_v27 => ?_)
        refine v_iconst (v := 1) C dX6_takeFailureAway_30 (by decide) ?_
        refine v_icmp_ne (tgt := 42) C dX6_takeFailureAway_31 (by decide) (fun c_31 => ?_) (fun c_31 => ?_)
        · skip
          refine v_bipush (v := -10) C dX6_takeFailureAway_42 (by decide) ?_
          refine v_aload_n C dX6_takeFailureAway_44 rfl ?_
          refine g6_26 C i_this dX6_takeFailureAway_45 ?_
          refine v_topi (fun v45 e_v45 => ?_)
          refine v_isub C dX6_takeFailureAway_48 ?_
          refine v_i2l C dX6_takeFailureAway_49 ?_
          refine v_lstore_n C dX6_takeFailureAway_50 (by decide) (by first | rfl | exact cat_ok _ | simp [okS, cat_rf]) ?_
          refine v_aload_n C dX6_takeFailureAway_51 rfl ?_
          refine v_iconst (v := 0) C dX6_takeFailureAway_52 (by decide) ?_
          refine p6_26 C i_this dX6_takeFailureAway_53 ?_
          refine V.gen (fun S10_53 e_53 => ?_)
          have iv' := inv_sI e_53 iv (by decide) (by decide)
          have x_53 := x_sI e_53
          have E0' := ext_tr E0 x_53 (xk_is E0 i_this iv (by decide) (by decide))
          have E0 := E0'
          have i_this := is_ext x_53 i_this
          have iv := iv'
          refine v_lload_n C dX6_takeFailureAway_56 rfl ?_
          refine v_lret C hr (Nat.le_of_ble_eq_true rfl) (Nat.le_of_ble_eq_true rfl) dX6_takeFailureAway_57 ?_
          exact ⟨_, rfl, iv, E0⟩
        · skip
          refine v_aload_n C dX6_takeFailureAway_34 rfl ?_
          refine g6_43 C i_this dX6_takeFailureAway_35 ?_
          refine v_topi (fun v35 e_v35 => ?_)
          refine v_i2l C dX6_takeFailureAway_38 ?_
          refine v_goto (tgt := 50) C dX6_takeFailureAway_39 (by decide) ?_
          refine v_lstore_n C dX6_takeFailureAway_50 (by decide) (by first | rfl | exact cat_ok _ | simp [okS, cat_rf]) ?_
          refine v_aload_n C dX6_takeFailureAway_51 rfl ?_
          refine v_iconst (v := 0) C dX6_takeFailureAway_52 (by decide) ?_
          refine p6_26 C i_this dX6_takeFailureAway_53 ?_
          refine V.gen (fun S10_53 e_53 => ?_)
          have iv' := inv_sI e_53 iv (by decide) (by decide)
          have x_53 := x_sI e_53
          have E0' := ext_tr E0 x_53 (xk_is E0 i_this iv (by decide) (by decide))
          have E0 := E0'
          have i_this := is_ext x_53 i_this
          have iv := iv'
          refine v_lload_n C dX6_takeFailureAway_56 rfl ?_
          refine v_lret C hr (Nat.le_of_ble_eq_true rfl) (Nat.le_of_ble_eq_true rfl) dX6_takeFailureAway_57 ?_
          exact ⟨_, rfl, iv, E0⟩
      · skip
        refine v_lload_n C dX6_takeFailureAway_24 rfl ?_
        refine v_lret C hr (Nat.le_of_ble_eq_true rfl) (Nat.le_of_ble_eq_true rfl) dX6_takeFailureAway_25 ?_
        exact ⟨_, rfl, iv, E0⟩
theorem dX6_partAbove_0 : decode cX6_partAbove 0 = .ok (.aload_n 1, 1) := by decide +kernel
theorem dX6_partAbove_1 : decode cX6_partAbove 1 = .ok (.invokevirtual 168, 3) := by decide +kernel
theorem dX6_partAbove_4 : decode cX6_partAbove 4 = .ok (.ifCond .eq 18, 3) := by decide +kernel
theorem dX6_partAbove_7 : decode cX6_partAbove 7 = .ok (.aload_n 0, 1) := by decide +kernel
theorem dX6_partAbove_8 : decode cX6_partAbove 8 = .ok (.getfield 18, 3) := by decide +kernel
theorem dX6_partAbove_11 : decode cX6_partAbove 11 = .ok (.aload_n 2, 1) := by decide +kernel
theorem dX6_partAbove_12 : decode cX6_partAbove 12 = .ok (.iload_n 3, 1) := by decide +kernel
theorem dX6_partAbove_13 : decode cX6_partAbove 13 = .ok (.invokevirtual 46, 3) := by decide +kernel
theorem dX6_partAbove_16 : decode cX6_partAbove 16 = .ok (.getfield 52, 3) := by decide +kernel
theorem dX6_partAbove_19 : decode cX6_partAbove 19 = .ok (.goto 16, 3) := by decide +kernel
theorem dX6_partAbove_22 : decode cX6_partAbove 22 = .ok (.aload_n 0, 1) := by decide +kernel
theorem dX6_partAbove_23 : decode cX6_partAbove 23 = .ok (.getfield 18, 3) := by decide +kernel
theorem dX6_partAbove_26 : decode cX6_partAbove 26 = .ok (.aload_n 2, 1) := by decide +kernel
theorem dX6_partAbove_27 : decode cX6_partAbove 27 = .ok (.aload_n 1, 1) := by decide +kernel
theorem dX6_partAbove_28 : decode cX6_partAbove 28 = .ok (.getfield 130, 3) := by decide +kernel
theorem dX6_partAbove_31 : decode cX6_partAbove 31 = .ok (.iload_n 3, 1) := by decide +kernel
theorem dX6_partAbove_32 : decode cX6_partAbove 32 = .ok (.invokevirtual 172, 3) := by decide +kernel
theorem dX6_partAbove_35 : decode cX6_partAbove 35 = .ok (.areturn, 1) := by decide +kernel
set_option maxRecDepth 100000 in
set_option maxHeartbeats 4000000 in
theorem st_X6_partAbove (l : Launch) (M : Nat → Prop) (h : Nat) (p0 : Nat) (p1 : Nat) (p2 : Int32) : Ct l yX6_partAbove cX6_partAbove 4 (some (.object "PuppetCast$Part")) 4 0 0 96 (fun S av => av = [.ref h, .ref p0, .ref p1, .int p2] ∧ INV M [] S ∧ is S h 6 ∧ is S p0 5 ∧ is S p1 2) (fun S _ r S' => ∃ v, r = some (va_rf v) ∧ nOK S' 5 v ∧ INV M [] S' ∧ ext S S' (fun a => ¬ M a ∧ mK S a ∈ [0])) := by
  refine ct_of (by decide) (fun S av h => by obtain ⟨rfl, iv, i_this, i_p0, i_p1⟩ := h; exact Nat.le_of_ble_eq_true rfl) ?_
  intro p e s m args below meth c D G bs S av C hr hin hpre
  obtain ⟨rfl, iv, i_this, i_p0, i_p1⟩ := hpre
  have E0 : ext S S (fun a => ¬ M a ∧ mK S a ∈ [0]) := ext_rfl
  refine v_aload_n C dX6_partAbove_0 rfl ?_
  refine v_callV (As := []) (n := 0) C (st_X5_isGuard l _ _) rfl i_p0 (by decide) rfl ⟨wd781, wd782, wd783, wd344, wd784⟩ ⟨rfl, hy_X5_isGuard⟩ rfl ⟨Nat.le_of_ble_eq_true rfl, Nat.le_of_ble_eq_true rfl⟩ (Nat.le_of_ble_eq_true rfl) ⟨Nat.le_of_ble_eq_true rfl, Nat.le_of_ble_eq_true rfl⟩ dX6_partAbove_1 ⟨rfl, iv, i_p0⟩ (fun r_1 S2_1 h_1 => ?_)
  obtain ⟨v1, rfl, q_v1⟩ := h_1
  obtain rfl := q_v1.symm
  refine v_if_eq (tgt := 22) C dX6_partAbove_4 (by decide) (fun c_4 => ?_) (fun c_4 => ?_)
  · skip
    refine v_aload_n C dX6_partAbove_22 rfl ?_
    obtain ⟨a23, e_a23, i_a23⟩ := T384 iv i_this List.not_mem_nil
    refine r6_18 (b := a23) C i_this e_a23 dX6_partAbove_23 ?_
    refine v_aload_n C dX6_partAbove_26 rfl ?_
    refine v_aload_n C dX6_partAbove_27 rfl ?_
    refine g6_130 C i_p0 dX6_partAbove_28 ?_
    refine v_topi (fun v28 e_v28 => ?_)
    refine v_iload_n C dX6_partAbove_31 rfl ?_
    refine v_callV (As := [_, _, _]) (n := 3) C (st_X1_bodyAbove l _ _ _ _ _) rfl i_a23 (by decide) rfl ⟨wd785, wd682, wd683, wd15, wd684⟩ ⟨rfl, hy_X1_bodyAbove⟩ rfl ⟨Nat.le_of_ble_eq_true rfl, Nat.le_of_ble_eq_true rfl⟩ (Nat.le_of_ble_eq_true rfl) ⟨Nat.le_of_ble_eq_true rfl, Nat.le_of_ble_eq_true rfl⟩ dX6_partAbove_32 ⟨rfl, iv, i_a23, i_p1⟩ (fun r_32 S4_32 h_32 => ?_)
    obtain ⟨v32, rfl, n_v32, q_v32⟩ := h_32
    obtain rfl := q_v32.symm
    refine v_aret C hr (Nat.le_of_ble_eq_true rfl) (Nat.le_of_ble_eq_true rfl) dX6_partAbove_35 ?_
    exact ⟨_, rfl, n_v32, iv, E0⟩
  · skip
    refine v_aload_n C dX6_partAbove_7 rfl ?_
    obtain ⟨a8, e_a8, i_a8⟩ := T384 iv i_this List.not_mem_nil
    refine r6_18 (b := a8) C i_this e_a8 dX6_partAbove_8 ?_
    refine v_aload_n C dX6_partAbove_11 rfl ?_
    refine v_iload_n C dX6_partAbove_12 rfl ?_
    refine v_callV (As := [_, _]) (n := 2) C (st_X1_weigh l _ _ _ _) rfl i_a8 (by decide) rfl ⟨wd732, wd523, wd524, wd15, wd525⟩ ⟨rfl, hy_X1_weigh⟩ rfl ⟨Nat.le_of_ble_eq_true rfl, Nat.le_of_ble_eq_true rfl⟩ (Nat.le_of_ble_eq_true rfl) ⟨Nat.le_of_ble_eq_true rfl, Nat.le_of_ble_eq_true rfl⟩ dX6_partAbove_13 ⟨rfl, iv, i_a8, i_p1⟩ (fun r_13 S4_13 h_13 => ?_)
    obtain ⟨v13, rfl, i_v13, iv2, x_13⟩ := h_13
    have i_this := is_ext x_13 i_this
    have i_p0 := is_ext x_13 i_p0
    have i_p1 := is_ext x_13 i_p1
    have i_a8 := is_ext x_13 i_a8
    have E0' := ext_tr E0 x_13 (xk_call E0 (by decide))
    have E0 := E0'
    have iv := iv2
    have n_o16 := T1 iv i_v13 List.not_mem_nil
    refine g6_52 C i_v13 dX6_partAbove_16 ?_
    refine v_topq n_o16 (fun o16 n_o16 => ?_)
    refine v_goto (tgt := 35) C dX6_partAbove_19 (by decide) ?_
    refine v_aret C hr (Nat.le_of_ble_eq_true rfl) (Nat.le_of_ble_eq_true rfl) dX6_partAbove_35 ?_
    exact ⟨_, rfl, n_o16, iv, E0⟩
