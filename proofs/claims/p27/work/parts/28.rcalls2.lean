theorem dX10_mayBeUnder_0 : decode cX10_mayBeUnder 0 = .ok (.iload_n 1, 1) := by decide +kernel
theorem dX10_mayBeUnder_1 : decode cX10_mayBeUnder 1 = .ok (.iconst (-1), 1) := by decide +kernel
theorem dX10_mayBeUnder_2 : decode cX10_mayBeUnder 2 = .ok (.if_icmp .eq 11, 3) := by decide +kernel
theorem dX10_mayBeUnder_5 : decode cX10_mayBeUnder 5 = .ok (.aload_n 0, 1) := by decide +kernel
theorem dX10_mayBeUnder_6 : decode cX10_mayBeUnder 6 = .ok (.iload_n 1, 1) := by decide +kernel
theorem dX10_mayBeUnder_7 : decode cX10_mayBeUnder 7 = .ok (.invokevirtual 166, 3) := by decide +kernel
theorem dX10_mayBeUnder_10 : decode cX10_mayBeUnder 10 = .ok (.ifCond .eq 7, 3) := by decide +kernel
theorem dX10_mayBeUnder_13 : decode cX10_mayBeUnder 13 = .ok (.iconst 1, 1) := by decide +kernel
theorem dX10_mayBeUnder_14 : decode cX10_mayBeUnder 14 = .ok (.goto 4, 3) := by decide +kernel
theorem dX10_mayBeUnder_17 : decode cX10_mayBeUnder 17 = .ok (.iconst 0, 1) := by decide +kernel
theorem dX10_mayBeUnder_18 : decode cX10_mayBeUnder 18 = .ok (.ireturn, 1) := by decide +kernel
set_option maxRecDepth 100000 in
set_option maxHeartbeats 4000000 in
theorem rt_X10_mayBeUnder (l : Launch) (m0 : Nat) (ad : Nat → Nat) (K : RS) (x : Int32) : Ct l yX10_mayBeUnder cX10_mayBeUnder 2 (some .boolean) 2 0 0 43 (fun S av => av = [.ref m0, .int x] ∧ mdR S m0 ad K ∧ RV K) (fun S _ r S' => ∃ v : Bool, r = some (.int (bI v)) ∧ v = underF K x ∧ S' = S) := by
  refine ct_of (by decide) (fun S av h => by obtain ⟨rfl, hk, rv⟩ := h; exact Nat.le_of_ble_eq_true rfl) ?_
  intro p e s m args below meth c D G bs S av C hr hin hpre
  obtain ⟨rfl, hk, rv⟩ := hpre
  refine v_iload_n C dX10_mayBeUnder_0 rfl ?_
  refine v_iconst (v := -1) C dX10_mayBeUnder_1 (by decide) ?_
  refine v_icmp_eq (tgt := 13) C dX10_mayBeUnder_2 (by decide) (fun c_2 => ?_) (fun c_2 => ?_)
  · skip
    refine v_iconst (v := nI 1) C dX10_mayBeUnder_13 (by decide) ?_
    refine v_goto (tgt := 18) C dX10_mayBeUnder_14 (by decide) ?_
    refine v_zret C hr (by first | rfl | exact bI_nar _) (Nat.le_of_ble_eq_true rfl) (Nat.le_of_ble_eq_true rfl) dX10_mayBeUnder_18 ?_
    exact ⟨true, rfl, (by simp [underF, c_2]), rfl⟩
  · skip
    refine v_aload_n C dX10_mayBeUnder_5 rfl ?_
    refine v_iload_n C dX10_mayBeUnder_6 rfl ?_
    refine v_callV (As := [_]) (n := 1) C (rt_X10_isTrait l m0 ad _ _) rfl hk.1 (by decide) rfl ⟨wd240, wd241, wd242, wd5, wd243⟩ ⟨rfl, hy_X10_isTrait⟩ rfl ⟨Nat.le_of_ble_eq_true rfl, Nat.le_of_ble_eq_true rfl⟩ (Nat.le_of_ble_eq_true rfl) ⟨Nat.le_of_ble_eq_true rfl, Nat.le_of_ble_eq_true rfl⟩ dX10_mayBeUnder_7 ⟨rfl, hk, rv⟩ (fun r_7 S4_7 h_7 => ?_)
    obtain ⟨v7, rfl, p_v7, q_v7⟩ := h_7
    obtain rfl := q_v7.symm
    refine b_if_eq (tgt := 17) C dX10_mayBeUnder_10 (by decide) (fun c_10 => ?_) (fun c_10 => ?_)
    · skip
      refine v_iconst (v := nI 0) C dX10_mayBeUnder_17 (by decide) ?_
      refine v_zret C hr (by first | rfl | exact bI_nar _) (Nat.le_of_ble_eq_true rfl) (Nat.le_of_ble_eq_true rfl) dX10_mayBeUnder_18 ?_
      exact ⟨false, rfl, (by simp [underF, c_2, ← p_v7, c_10]), rfl⟩
    · skip
      refine v_iconst (v := nI 1) C dX10_mayBeUnder_13 (by decide) ?_
      refine v_goto (tgt := 18) C dX10_mayBeUnder_14 (by decide) ?_
      refine v_zret C hr (by first | rfl | exact bI_nar _) (Nat.le_of_ble_eq_true rfl) (Nat.le_of_ble_eq_true rfl) dX10_mayBeUnder_18 ?_
      exact ⟨true, rfl, (by simp [underF, c_2, ← p_v7, c_10]), rfl⟩
theorem dX10_begins_0 : decode cX10_begins 0 = .ok (.aload_n 0, 1) := by decide +kernel
theorem dX10_begins_1 : decode cX10_begins 1 = .ok (.getfield 35, 3) := by decide +kernel
theorem dX10_begins_4 : decode cX10_begins 4 = .ok (.iload_n 1, 1) := by decide +kernel
theorem dX10_begins_5 : decode cX10_begins 5 = .ok (.iconst 1, 1) := by decide +kernel
theorem dX10_begins_6 : decode cX10_begins 6 = .ok (.bastore, 1) := by decide +kernel
theorem dX10_begins_7 : decode cX10_begins 7 = .ok (.aload_n 0, 1) := by decide +kernel
theorem dX10_begins_8 : decode cX10_begins 8 = .ok (.getfield 39, 3) := by decide +kernel
theorem dX10_begins_11 : decode cX10_begins 11 = .ok (.iload_n 1, 1) := by decide +kernel
theorem dX10_begins_12 : decode cX10_begins 12 = .ok (.iconst 0, 1) := by decide +kernel
theorem dX10_begins_13 : decode cX10_begins 13 = .ok (.bastore, 1) := by decide +kernel
theorem dX10_begins_14 : decode cX10_begins 14 = .ok (.aload_n 0, 1) := by decide +kernel
theorem dX10_begins_15 : decode cX10_begins 15 = .ok (.getfield 51, 3) := by decide +kernel
theorem dX10_begins_18 : decode cX10_begins 18 = .ok (.iload_n 1, 1) := by decide +kernel
theorem dX10_begins_19 : decode cX10_begins 19 = .ok (.iconst 0, 1) := by decide +kernel
theorem dX10_begins_20 : decode cX10_begins 20 = .ok (.iastore, 1) := by decide +kernel
theorem dX10_begins_21 : decode cX10_begins 21 = .ok (.aload_n 0, 1) := by decide +kernel
theorem dX10_begins_22 : decode cX10_begins 22 = .ok (.iload_n 1, 1) := by decide +kernel
theorem dX10_begins_23 : decode cX10_begins 23 = .ok (.putfield 63, 3) := by decide +kernel
theorem dX10_begins_26 : decode cX10_begins 26 = .ok (.iconst 1, 1) := by decide +kernel
theorem dX10_begins_27 : decode cX10_begins 27 = .ok (.ireturn, 1) := by decide +kernel
set_option maxRecDepth 100000 in
set_option maxHeartbeats 4000000 in
theorem rt_X10_begins (l : Launch) (m0 : Nat) (ad : Nat → Nat) (K : RS) (k : Nat) : Ct l yX10_begins cX10_begins 2 (some .int) 0 0 0 0 (fun S av => av = [.ref m0, .int (nI k)] ∧ mdR S m0 ad K ∧ RV K ∧ (k < 624)) (fun S _ r S' => ∃ (v : Int32) (K' : RS), r = some (.int v) ∧ mdR S' m0 ad K' ∧ exm S S' m0 ad ∧ v = nI 1 ∧ K' = begK K k) := by
  refine ct_of (by decide) (fun S av h => by obtain ⟨rfl, hk, rv, hk2⟩ := h; exact Nat.le_of_ble_eq_true rfl) ?_
  intro p e s m args below meth c D G bs S av C hr hin hpre
  obtain ⟨rfl, hk, rv, hk2⟩ := hpre
  have E0 : exm S S m0 ad := exm_rfl
  refine v_aload_n C dX10_begins_0 rfl ?_
  refine q10_35 C hk dX10_begins_1 ?_
  refine v_iload_n C dX10_begins_4 rfl ?_
  refine v_iconst (v := nI 1) C dX10_begins_5 (by decide) ?_
  refine n_zast C hk (show (10, 13, 624) ∈ mTab by decide +kernel) (by omega) (by first | rfl | exact vp_bI _) dX10_begins_6 (fun S2_6 hk' x_6 => ?_)
  have E0 := exm_tr E0 x_6
  have hk := hk'
  clear hk'
  refine v_aload_n C dX10_begins_7 rfl ?_
  refine q10_39 C hk dX10_begins_8 ?_
  refine v_iload_n C dX10_begins_11 rfl ?_
  refine v_iconst (v := nI 0) C dX10_begins_12 (by decide) ?_
  refine n_zast C hk (show (11, 13, 624) ∈ mTab by decide +kernel) (by omega) (by first | rfl | exact vp_bI _) dX10_begins_13 (fun S2_13 hk' x_13 => ?_)
  have E0 := exm_tr E0 x_13
  have hk := hk'
  clear hk'
  refine v_aload_n C dX10_begins_14 rfl ?_
  refine q10_51 C hk dX10_begins_15 ?_
  refine v_iload_n C dX10_begins_18 rfl ?_
  refine v_iconst (v := nI 0) C dX10_begins_19 (by decide) ?_
  refine n_iast C hk (show (15, 11, 624) ∈ mTab by decide +kernel) (by omega) dX10_begins_20 (fun S2_20 hk' x_20 => ?_)
  have E0 := exm_tr E0 x_20
  have hk := hk'
  clear hk'
  refine v_aload_n C dX10_begins_21 rfl ?_
  refine v_iload_n C dX10_begins_22 rfl ?_
  refine w10_63 C hk dX10_begins_23 (fun S2_23 hk' x_23 => ?_)
  have E0 := exm_tr E0 x_23
  have hk := hk'
  clear hk'
  refine v_iconst (v := nI 1) C dX10_begins_26 (by decide) ?_
  refine v_iret C hr (Nat.le_of_ble_eq_true rfl) (Nat.le_of_ble_eq_true rfl) dX10_begins_27 ?_
  exact ⟨_, _, rfl, hk, E0, (⟨rfl, rfl⟩)⟩
theorem dX10_body_0 : decode cX10_body 0 = .ok (.aload_n 0, 1) := by decide +kernel
theorem dX10_body_1 : decode cX10_body 1 = .ok (.iload_n 1, 1) := by decide +kernel
theorem dX10_body_2 : decode cX10_body 2 = .ok (.invokevirtual 166, 3) := by decide +kernel
theorem dX10_body_5 : decode cX10_body 5 = .ok (.ifCond .eq 29, 3) := by decide +kernel
theorem dX10_body_8 : decode cX10_body 8 = .ok (.iload_n 2, 1) := by decide +kernel
theorem dX10_body_9 : decode cX10_body 9 = .ok (.invokestatic 179, 3) := by decide +kernel
theorem dX10_body_12 : decode cX10_body 12 = .ok (.ifCond .eq 22, 3) := by decide +kernel
theorem dX10_body_15 : decode cX10_body 15 = .ok (.iload_n 3, 1) := by decide +kernel
theorem dX10_body_16 : decode cX10_body 16 = .ok (.iconst 0, 1) := by decide +kernel
theorem dX10_body_17 : decode cX10_body 17 = .ok (.iconst 2, 1) := by decide +kernel
theorem dX10_body_18 : decode cX10_body 18 = .ok (.invokestatic 148, 3) := by decide +kernel
theorem dX10_body_21 : decode cX10_body 21 = .ok (.ifCond .eq 13, 3) := by decide +kernel
theorem dX10_body_24 : decode cX10_body 24 = .ok (.iload 4, 2) := by decide +kernel
theorem dX10_body_26 : decode cX10_body 26 = .ok (.iconst 0, 1) := by decide +kernel
theorem dX10_body_27 : decode cX10_body 27 = .ok (.iconst 3, 1) := by decide +kernel
theorem dX10_body_28 : decode cX10_body 28 = .ok (.invokestatic 148, 3) := by decide +kernel
theorem dX10_body_31 : decode cX10_body 31 = .ok (.ifCond .ne 6, 3) := by decide +kernel
theorem dX10_body_34 : decode cX10_body 34 = .ok (.bipush (-2), 2) := by decide +kernel
theorem dX10_body_36 : decode cX10_body 36 = .ok (.ireturn, 1) := by decide +kernel
theorem dX10_body_37 : decode cX10_body 37 = .ok (.bipush 12, 2) := by decide +kernel
theorem dX10_body_39 : decode cX10_body 39 = .ok (.iload_n 1, 1) := by decide +kernel
theorem dX10_body_40 : decode cX10_body 40 = .ok (.imul, 1) := by decide +kernel
theorem dX10_body_41 : decode cX10_body 41 = .ok (.iload_n 2, 1) := by decide +kernel
theorem dX10_body_42 : decode cX10_body 42 = .ok (.iadd, 1) := by decide +kernel
theorem dX10_body_43 : decode cX10_body 43 = .ok (.istore 5, 2) := by decide +kernel
theorem dX10_body_45 : decode cX10_body 45 = .ok (.aload_n 0, 1) := by decide +kernel
theorem dX10_body_46 : decode cX10_body 46 = .ok (.getfield 42, 3) := by decide +kernel
theorem dX10_body_49 : decode cX10_body 49 = .ok (.iload 5, 2) := by decide +kernel
theorem dX10_body_51 : decode cX10_body 51 = .ok (.iload_n 3, 1) := by decide +kernel
theorem dX10_body_52 : decode cX10_body 52 = .ok (.iastore, 1) := by decide +kernel
theorem dX10_body_53 : decode cX10_body 53 = .ok (.aload_n 0, 1) := by decide +kernel
theorem dX10_body_54 : decode cX10_body 54 = .ok (.getfield 45, 3) := by decide +kernel
theorem dX10_body_57 : decode cX10_body 57 = .ok (.iload 5, 2) := by decide +kernel
theorem dX10_body_59 : decode cX10_body 59 = .ok (.iload 4, 2) := by decide +kernel
theorem dX10_body_61 : decode cX10_body 61 = .ok (.iastore, 1) := by decide +kernel
theorem dX10_body_62 : decode cX10_body 62 = .ok (.aload_n 0, 1) := by decide +kernel
theorem dX10_body_63 : decode cX10_body 63 = .ok (.iload 5, 2) := by decide +kernel
theorem dX10_body_65 : decode cX10_body 65 = .ok (.invokevirtual 182, 3) := by decide +kernel
theorem dX10_body_68 : decode cX10_body 68 = .ok (.ireturn, 1) := by decide +kernel
set_option maxRecDepth 100000 in
set_option maxHeartbeats 4000000 in
theorem rt_X10_body (l : Launch) (m0 : Nat) (ad : Nat → Nat) (K : RS) (x0 : Int32) (x1 : Int32) (x2 : Int32) (x3 : Int32) : Ct l yX10_body cX10_body 6 (some .int) 2 0 0 43 (fun S av => av = [.ref m0, .int x0, .int x1, .int x2, .int x3] ∧ mdR S m0 ad K ∧ RV K) (fun S _ r S' => ∃ (v : Int32) (K' : RS), r = some (.int v) ∧ mdR S' m0 ad K' ∧ exm S S' m0 ad ∧ bodyP K x0 x1 x2 x3 = (v, K')) := by
  refine ct_of (by decide) (fun S av h => by obtain ⟨rfl, hk, rv⟩ := h; exact Nat.le_of_ble_eq_true rfl) ?_
  intro p e s m args below meth c D G bs S av C hr hin hpre
  obtain ⟨rfl, hk, rv⟩ := hpre
  have E0 : exm S S m0 ad := exm_rfl
  refine v_aload_n C dX10_body_0 rfl ?_
  refine v_iload_n C dX10_body_1 rfl ?_
  refine v_callV (As := [_]) (n := 1) C (rt_X10_isTrait l m0 ad _ _) rfl hk.1 (by decide) rfl ⟨wd240, wd241, wd242, wd5, wd243⟩ ⟨rfl, hy_X10_isTrait⟩ rfl ⟨Nat.le_of_ble_eq_true rfl, Nat.le_of_ble_eq_true rfl⟩ (Nat.le_of_ble_eq_true rfl) ⟨Nat.le_of_ble_eq_true rfl, Nat.le_of_ble_eq_true rfl⟩ dX10_body_2 ⟨rfl, hk, rv⟩ (fun r_2 S2_2 h_2 => ?_)
  obtain ⟨v2, rfl, p_v2, q_v2⟩ := h_2
  obtain rfl := q_v2.symm
  refine b_if_eq (tgt := 34) C dX10_body_5 (by decide) (fun c_5 => ?_) (fun c_5 => ?_)
  · skip
    refine v_bipush (v := -2) C dX10_body_34 (by decide) ?_
    refine v_iret C hr (Nat.le_of_ble_eq_true rfl) (Nat.le_of_ble_eq_true rfl) dX10_body_36 ?_
    exact ⟨_, _, rfl, hk, E0, (by simp [bodyP, ← p_v2, c_5])⟩
  · skip
    obtain ⟨t, h0t, rfl⟩ := below_some (p_v2.symm.trans c_5)
    have ht : t < 20 := by have := rv.p1.2; omega
    have e_t := nI_clamp (show t < 2 ^ 31 by omega)
    refine v_iload_n C dX10_body_8 rfl ?_
    refine v_callS (As := [_]) (n := 1) C (rt_X10_isAct l _) rfl ⟨wd368, wd369, wd5, wd370⟩ hy_X10_isAct rfl ⟨Nat.le_of_ble_eq_true rfl, Nat.le_of_ble_eq_true rfl⟩ (Nat.le_of_ble_eq_true rfl) ⟨Nat.le_of_ble_eq_true rfl, Nat.le_of_ble_eq_true rfl⟩ dX10_body_9 rfl (fun r_9 S4_9 h_9 => ?_)
    obtain ⟨v9, rfl, p_v9, q_v9⟩ := h_9
    obtain rfl := q_v9.symm
    refine b_if_eq (tgt := 34) C dX10_body_12 (by decide) (fun c_12 => ?_) (fun c_12 => ?_)
    · skip
      refine v_bipush (v := -2) C dX10_body_34 (by decide) ?_
      refine v_iret C hr (Nat.le_of_ble_eq_true rfl) (Nat.le_of_ble_eq_true rfl) dX10_body_36 ?_
      exact ⟨_, _, rfl, hk, E0, (by simp [bodyP, ← p_v2, c_5, e_t, ← p_v9, c_12])⟩
    · skip
      obtain ⟨n, hn, rfl⟩ := below_some (p_v9.symm.trans c_12)
      have e_n := nI_clamp (show n < 2 ^ 31 by omega)
      refine v_iload_n C dX10_body_15 rfl ?_
      refine v_iconst (v := nI 0) C dX10_body_16 (by decide) ?_
      refine v_iconst (v := nI 2) C dX10_body_17 (by decide) ?_
      refine v_callS (As := [_, _, _]) (n := 3) C (rt_X10_in l _ _ _) rfl ⟨wd244, wd245, wd5, wd246⟩ hy_X10_in rfl ⟨Nat.le_of_ble_eq_true rfl, Nat.le_of_ble_eq_true rfl⟩ (Nat.le_of_ble_eq_true rfl) ⟨Nat.le_of_ble_eq_true rfl, Nat.le_of_ble_eq_true rfl⟩ dX10_body_18 rfl (fun r_18 S6_18 h_18 => ?_)
      obtain ⟨v18, rfl, p_v18, q_v18⟩ := h_18
      obtain rfl := q_v18.symm
      rw [inB_below _ (n := 3) rfl] at p_v18
      refine b_if_eq (tgt := 34) C dX10_body_21 (by decide) (fun c_21 => ?_) (fun c_21 => ?_)
      · skip
        refine v_bipush (v := -2) C dX10_body_34 (by decide) ?_
        refine v_iret C hr (Nat.le_of_ble_eq_true rfl) (Nat.le_of_ble_eq_true rfl) dX10_body_36 ?_
        exact ⟨_, _, rfl, hk, E0, (by simp [bodyP, ← p_v2, c_5, e_t, ← p_v9, c_12, e_n, ← p_v18, c_21])⟩
      · skip
        obtain ⟨w, hw, rfl⟩ := below_some (p_v18.symm.trans c_21)
        have e_w := nI_clamp (show w < 2 ^ 31 by omega)
        refine v_iload C dX10_body_24 rfl ?_
        refine v_iconst (v := nI 0) C dX10_body_26 (by decide) ?_
        refine v_iconst (v := nI 3) C dX10_body_27 (by decide) ?_
        refine v_callS (As := [_, _, _]) (n := 3) C (rt_X10_in l _ _ _) rfl ⟨wd244, wd245, wd5, wd246⟩ hy_X10_in rfl ⟨Nat.le_of_ble_eq_true rfl, Nat.le_of_ble_eq_true rfl⟩ (Nat.le_of_ble_eq_true rfl) ⟨Nat.le_of_ble_eq_true rfl, Nat.le_of_ble_eq_true rfl⟩ dX10_body_28 rfl (fun r_28 S8_28 h_28 => ?_)
        obtain ⟨v28, rfl, p_v28, q_v28⟩ := h_28
        obtain rfl := q_v28.symm
        rw [inB_below _ (n := 4) rfl] at p_v28
        refine b_if_ne (tgt := 37) C dX10_body_31 (by decide) (fun c_31 => ?_) (fun c_31 => ?_)
        · skip
          obtain ⟨y, hy, rfl⟩ := below_some (p_v28.symm.trans c_31)
          have e_y := nI_clamp (show y < 2 ^ 31 by omega)
          refine v_bipush (v := nI 12) C dX10_body_37 (by decide) ?_
          refine v_iload_n C dX10_body_39 rfl ?_
          refine n_imul C dX10_body_40 ?_
          refine v_iload_n C dX10_body_41 rfl ?_
          refine n_iadd C dX10_body_42 ?_
          refine v_istore C dX10_body_43 (by decide) rfl ?_
          refine v_aload_n C dX10_body_45 rfl ?_
          refine q10_42 C hk dX10_body_46 ?_
          refine v_iload C dX10_body_49 rfl ?_
          refine v_iload_n C dX10_body_51 rfl ?_
          refine n_iast C hk (show (12, 11, 624) ∈ mTab by decide +kernel) (by omega) dX10_body_52 (fun S10_52 hk' x_52 => ?_)
          have E0 := exm_tr E0 x_52
          have hk := hk'
          clear hk'
          refine v_aload_n C dX10_body_53 rfl ?_
          refine q10_45 C hk dX10_body_54 ?_
          refine v_iload C dX10_body_57 rfl ?_
          refine v_iload C dX10_body_59 rfl ?_
          refine n_iast C hk (show (13, 11, 624) ∈ mTab by decide +kernel) (by omega) dX10_body_61 (fun S10_61 hk' x_61 => ?_)
          have E0 := exm_tr E0 x_61
          have hk := hk'
          clear hk'
          refine v_aload_n C dX10_body_62 rfl ?_
          refine v_iload C dX10_body_63 rfl ?_
          refine v_callV (As := [_]) (n := 1) C (rt_X10_begins l m0 ad _ _) rfl hk.1 (by decide) rfl ⟨wd371, wd372, wd373, wd5, wd374⟩ ⟨rfl, hy_X10_begins⟩ rfl ⟨Nat.le_of_ble_eq_true rfl, Nat.le_of_ble_eq_true rfl⟩ (Nat.le_of_ble_eq_true rfl) ⟨Nat.le_of_ble_eq_true rfl, Nat.le_of_ble_eq_true rfl⟩ dX10_body_65 ⟨rfl, hk, (RV_w13 (RV_w12 rv) ⟨y, hy, rfl⟩), (by omega)⟩ (fun r_65 S10_65 h_65 => ?_)
          obtain ⟨v65, K65, rfl, hk', x_65, p_v65⟩ := h_65
          have E0 := exm_tr E0 x_65
          have hk := hk'
          clear hk'
          obtain ⟨rfl, rfl⟩ := p_v65
          refine v_iret C hr (Nat.le_of_ble_eq_true rfl) (Nat.le_of_ble_eq_true rfl) dX10_body_68 ?_
          exact ⟨_, _, rfl, hk, E0, (by simp [bodyP, ← p_v2, c_5, e_t, ← p_v9, c_12, e_n, ← p_v18, c_21, e_w, ← p_v28, c_31, e_y])⟩
        · skip
          refine v_bipush (v := -2) C dX10_body_34 (by decide) ?_
          refine v_iret C hr (Nat.le_of_ble_eq_true rfl) (Nat.le_of_ble_eq_true rfl) dX10_body_36 ?_
          exact ⟨_, _, rfl, hk, E0, (by simp [bodyP, ← p_v2, c_5, e_t, ← p_v9, c_12, e_n, ← p_v18, c_21, e_w, ← p_v28, c_31])⟩
theorem dX10_need_0 : decode cX10_need 0 = .ok (.aload_n 0, 1) := by decide +kernel
theorem dX10_need_1 : decode cX10_need 1 = .ok (.iload_n 1, 1) := by decide +kernel
theorem dX10_need_2 : decode cX10_need 2 = .ok (.invokevirtual 166, 3) := by decide +kernel
theorem dX10_need_5 : decode cX10_need 5 = .ok (.ifCond .eq 19, 3) := by decide +kernel
theorem dX10_need_8 : decode cX10_need 8 = .ok (.iload_n 2, 1) := by decide +kernel
theorem dX10_need_9 : decode cX10_need 9 = .ok (.invokestatic 179, 3) := by decide +kernel
theorem dX10_need_12 : decode cX10_need 12 = .ok (.ifCond .eq 12, 3) := by decide +kernel
theorem dX10_need_15 : decode cX10_need 15 = .ok (.iload_n 3, 1) := by decide +kernel
theorem dX10_need_16 : decode cX10_need 16 = .ok (.iconst 0, 1) := by decide +kernel
theorem dX10_need_17 : decode cX10_need 17 = .ok (.iconst 3, 1) := by decide +kernel
theorem dX10_need_18 : decode cX10_need 18 = .ok (.invokestatic 148, 3) := by decide +kernel
theorem dX10_need_21 : decode cX10_need 21 = .ok (.ifCond .ne 6, 3) := by decide +kernel
theorem dX10_need_24 : decode cX10_need 24 = .ok (.bipush (-2), 2) := by decide +kernel
theorem dX10_need_26 : decode cX10_need 26 = .ok (.ireturn, 1) := by decide +kernel
theorem dX10_need_27 : decode cX10_need 27 = .ok (.bipush 12, 2) := by decide +kernel
theorem dX10_need_29 : decode cX10_need 29 = .ok (.iload_n 1, 1) := by decide +kernel
theorem dX10_need_30 : decode cX10_need 30 = .ok (.imul, 1) := by decide +kernel
theorem dX10_need_31 : decode cX10_need 31 = .ok (.iload_n 2, 1) := by decide +kernel
theorem dX10_need_32 : decode cX10_need 32 = .ok (.iadd, 1) := by decide +kernel
theorem dX10_need_33 : decode cX10_need 33 = .ok (.istore 4, 2) := by decide +kernel
theorem dX10_need_35 : decode cX10_need 35 = .ok (.aload_n 0, 1) := by decide +kernel
theorem dX10_need_36 : decode cX10_need 36 = .ok (.getfield 42, 3) := by decide +kernel
theorem dX10_need_39 : decode cX10_need 39 = .ok (.iload 4, 2) := by decide +kernel
theorem dX10_need_41 : decode cX10_need 41 = .ok (.iconst 0, 1) := by decide +kernel
theorem dX10_need_42 : decode cX10_need 42 = .ok (.iastore, 1) := by decide +kernel
theorem dX10_need_43 : decode cX10_need 43 = .ok (.aload_n 0, 1) := by decide +kernel
theorem dX10_need_44 : decode cX10_need 44 = .ok (.getfield 45, 3) := by decide +kernel
theorem dX10_need_47 : decode cX10_need 47 = .ok (.iload 4, 2) := by decide +kernel
theorem dX10_need_49 : decode cX10_need 49 = .ok (.iload_n 3, 1) := by decide +kernel
theorem dX10_need_50 : decode cX10_need 50 = .ok (.iastore, 1) := by decide +kernel
theorem dX10_need_51 : decode cX10_need 51 = .ok (.aload_n 0, 1) := by decide +kernel
theorem dX10_need_52 : decode cX10_need 52 = .ok (.iload 4, 2) := by decide +kernel
theorem dX10_need_54 : decode cX10_need 54 = .ok (.invokevirtual 182, 3) := by decide +kernel
theorem dX10_need_57 : decode cX10_need 57 = .ok (.pop, 1) := by decide +kernel
theorem dX10_need_58 : decode cX10_need 58 = .ok (.aload_n 0, 1) := by decide +kernel
theorem dX10_need_59 : decode cX10_need 59 = .ok (.getfield 39, 3) := by decide +kernel
theorem dX10_need_62 : decode cX10_need 62 = .ok (.iload 4, 2) := by decide +kernel
theorem dX10_need_64 : decode cX10_need 64 = .ok (.iconst 1, 1) := by decide +kernel
theorem dX10_need_65 : decode cX10_need 65 = .ok (.bastore, 1) := by decide +kernel
theorem dX10_need_66 : decode cX10_need 66 = .ok (.aload_n 0, 1) := by decide +kernel
theorem dX10_need_67 : decode cX10_need 67 = .ok (.iconst (-1), 1) := by decide +kernel
theorem dX10_need_68 : decode cX10_need 68 = .ok (.putfield 63, 3) := by decide +kernel
theorem dX10_need_71 : decode cX10_need 71 = .ok (.iconst 1, 1) := by decide +kernel
theorem dX10_need_72 : decode cX10_need 72 = .ok (.ireturn, 1) := by decide +kernel
set_option maxRecDepth 100000 in
set_option maxHeartbeats 4000000 in
theorem rt_X10_need (l : Launch) (m0 : Nat) (ad : Nat → Nat) (K : RS) (x0 : Int32) (x1 : Int32) (x2 : Int32) : Ct l yX10_need cX10_need 5 (some .int) 2 0 0 43 (fun S av => av = [.ref m0, .int x0, .int x1, .int x2] ∧ mdR S m0 ad K ∧ RV K) (fun S _ r S' => ∃ (v : Int32) (K' : RS), r = some (.int v) ∧ mdR S' m0 ad K' ∧ exm S S' m0 ad ∧ needP K x0 x1 x2 = (v, K')) := by
  refine ct_of (by decide) (fun S av h => by obtain ⟨rfl, hk, rv⟩ := h; exact Nat.le_of_ble_eq_true rfl) ?_
  intro p e s m args below meth c D G bs S av C hr hin hpre
  obtain ⟨rfl, hk, rv⟩ := hpre
  have E0 : exm S S m0 ad := exm_rfl
  refine v_aload_n C dX10_need_0 rfl ?_
  refine v_iload_n C dX10_need_1 rfl ?_
  refine v_callV (As := [_]) (n := 1) C (rt_X10_isTrait l m0 ad _ _) rfl hk.1 (by decide) rfl ⟨wd240, wd241, wd242, wd5, wd243⟩ ⟨rfl, hy_X10_isTrait⟩ rfl ⟨Nat.le_of_ble_eq_true rfl, Nat.le_of_ble_eq_true rfl⟩ (Nat.le_of_ble_eq_true rfl) ⟨Nat.le_of_ble_eq_true rfl, Nat.le_of_ble_eq_true rfl⟩ dX10_need_2 ⟨rfl, hk, rv⟩ (fun r_2 S2_2 h_2 => ?_)
  obtain ⟨v2, rfl, p_v2, q_v2⟩ := h_2
  obtain rfl := q_v2.symm
  refine b_if_eq (tgt := 24) C dX10_need_5 (by decide) (fun c_5 => ?_) (fun c_5 => ?_)
  · skip
    refine v_bipush (v := -2) C dX10_need_24 (by decide) ?_
    refine v_iret C hr (Nat.le_of_ble_eq_true rfl) (Nat.le_of_ble_eq_true rfl) dX10_need_26 ?_
    exact ⟨_, _, rfl, hk, E0, (by simp [needP, ← p_v2, c_5])⟩
  · skip
    obtain ⟨t, h0t, rfl⟩ := below_some (p_v2.symm.trans c_5)
    have ht : t < 20 := by have := rv.p1.2; omega
    have e_t := nI_clamp (show t < 2 ^ 31 by omega)
    refine v_iload_n C dX10_need_8 rfl ?_
    refine v_callS (As := [_]) (n := 1) C (rt_X10_isAct l _) rfl ⟨wd368, wd369, wd5, wd370⟩ hy_X10_isAct rfl ⟨Nat.le_of_ble_eq_true rfl, Nat.le_of_ble_eq_true rfl⟩ (Nat.le_of_ble_eq_true rfl) ⟨Nat.le_of_ble_eq_true rfl, Nat.le_of_ble_eq_true rfl⟩ dX10_need_9 rfl (fun r_9 S4_9 h_9 => ?_)
    obtain ⟨v9, rfl, p_v9, q_v9⟩ := h_9
    obtain rfl := q_v9.symm
    refine b_if_eq (tgt := 24) C dX10_need_12 (by decide) (fun c_12 => ?_) (fun c_12 => ?_)
    · skip
      refine v_bipush (v := -2) C dX10_need_24 (by decide) ?_
      refine v_iret C hr (Nat.le_of_ble_eq_true rfl) (Nat.le_of_ble_eq_true rfl) dX10_need_26 ?_
      exact ⟨_, _, rfl, hk, E0, (by simp [needP, ← p_v2, c_5, e_t, ← p_v9, c_12])⟩
    · skip
      obtain ⟨n, hn, rfl⟩ := below_some (p_v9.symm.trans c_12)
      have e_n := nI_clamp (show n < 2 ^ 31 by omega)
      refine v_iload_n C dX10_need_15 rfl ?_
      refine v_iconst (v := nI 0) C dX10_need_16 (by decide) ?_
      refine v_iconst (v := nI 3) C dX10_need_17 (by decide) ?_
      refine v_callS (As := [_, _, _]) (n := 3) C (rt_X10_in l _ _ _) rfl ⟨wd244, wd245, wd5, wd246⟩ hy_X10_in rfl ⟨Nat.le_of_ble_eq_true rfl, Nat.le_of_ble_eq_true rfl⟩ (Nat.le_of_ble_eq_true rfl) ⟨Nat.le_of_ble_eq_true rfl, Nat.le_of_ble_eq_true rfl⟩ dX10_need_18 rfl (fun r_18 S6_18 h_18 => ?_)
      obtain ⟨v18, rfl, p_v18, q_v18⟩ := h_18
      obtain rfl := q_v18.symm
      rw [inB_below _ (n := 4) rfl] at p_v18
      refine b_if_ne (tgt := 27) C dX10_need_21 (by decide) (fun c_21 => ?_) (fun c_21 => ?_)
      · skip
        obtain ⟨w, hw, rfl⟩ := below_some (p_v18.symm.trans c_21)
        have e_w := nI_clamp (show w < 2 ^ 31 by omega)
        refine v_bipush (v := nI 12) C dX10_need_27 (by decide) ?_
        refine v_iload_n C dX10_need_29 rfl ?_
        refine n_imul C dX10_need_30 ?_
        refine v_iload_n C dX10_need_31 rfl ?_
        refine n_iadd C dX10_need_32 ?_
        refine v_istore C dX10_need_33 (by decide) rfl ?_
        refine v_aload_n C dX10_need_35 rfl ?_
        refine q10_42 C hk dX10_need_36 ?_
        refine v_iload C dX10_need_39 rfl ?_
        refine v_iconst (v := nI 0) C dX10_need_41 (by decide) ?_
        refine n_iast C hk (show (12, 11, 624) ∈ mTab by decide +kernel) (by omega) dX10_need_42 (fun S8_42 hk' x_42 => ?_)
        have E0 := exm_tr E0 x_42
        have hk := hk'
        clear hk'
        refine v_aload_n C dX10_need_43 rfl ?_
        refine q10_45 C hk dX10_need_44 ?_
        refine v_iload C dX10_need_47 rfl ?_
        refine v_iload_n C dX10_need_49 rfl ?_
        refine n_iast C hk (show (13, 11, 624) ∈ mTab by decide +kernel) (by omega) dX10_need_50 (fun S8_50 hk' x_50 => ?_)
        have E0 := exm_tr E0 x_50
        have hk := hk'
        clear hk'
        refine v_aload_n C dX10_need_51 rfl ?_
        refine v_iload C dX10_need_52 rfl ?_
        refine v_callV (As := [_]) (n := 1) C (rt_X10_begins l m0 ad _ _) rfl hk.1 (by decide) rfl ⟨wd371, wd372, wd373, wd5, wd374⟩ ⟨rfl, hy_X10_begins⟩ rfl ⟨Nat.le_of_ble_eq_true rfl, Nat.le_of_ble_eq_true rfl⟩ (Nat.le_of_ble_eq_true rfl) ⟨Nat.le_of_ble_eq_true rfl, Nat.le_of_ble_eq_true rfl⟩ dX10_need_54 ⟨rfl, hk, (RV_w13 (RV_w12 rv) ⟨w, hw, rfl⟩), (by omega)⟩ (fun r_54 S8_54 h_54 => ?_)
        obtain ⟨v54, K54, rfl, hk', x_54, p_v54⟩ := h_54
        have E0 := exm_tr E0 x_54
        have hk := hk'
        clear hk'
        obtain ⟨rfl, rfl⟩ := p_v54
        refine v_pop C dX10_need_57 rfl ?_
        refine v_aload_n C dX10_need_58 rfl ?_
        refine q10_39 C hk dX10_need_59 ?_
        refine v_iload C dX10_need_62 rfl ?_
        refine v_iconst (v := nI 1) C dX10_need_64 (by decide) ?_
        refine n_zast C hk (show (11, 13, 624) ∈ mTab by decide +kernel) (by omega) (by first | rfl | exact vp_bI _) dX10_need_65 (fun S8_65 hk' x_65 => ?_)
        have E0 := exm_tr E0 x_65
        have hk := hk'
        clear hk'
        refine v_aload_n C dX10_need_66 rfl ?_
        refine v_iconst (v := -1) C dX10_need_67 (by decide) ?_
        refine w10_63 C hk dX10_need_68 (fun S8_68 hk' x_68 => ?_)
        have E0 := exm_tr E0 x_68
        have hk := hk'
        clear hk'
        refine v_iconst (v := nI 1) C dX10_need_71 (by decide) ?_
        refine v_iret C hr (Nat.le_of_ble_eq_true rfl) (Nat.le_of_ble_eq_true rfl) dX10_need_72 ?_
        exact ⟨_, _, rfl, hk, E0, (by simp [needP, ← p_v2, c_5, e_t, ← p_v9, c_12, e_n, ← p_v18, c_21, e_w])⟩
      · skip
        refine v_bipush (v := -2) C dX10_need_24 (by decide) ?_
        refine v_iret C hr (Nat.le_of_ble_eq_true rfl) (Nat.le_of_ble_eq_true rfl) dX10_need_26 ?_
        exact ⟨_, _, rfl, hk, E0, (by simp [needP, ← p_v2, c_5, e_t, ← p_v9, c_12, e_n, ← p_v18, c_21])⟩
theorem dX10_guard_0 : decode cX10_guard 0 = .ok (.aload_n 0, 1) := by decide +kernel
theorem dX10_guard_1 : decode cX10_guard 1 = .ok (.iload_n 1, 1) := by decide +kernel
theorem dX10_guard_2 : decode cX10_guard 2 = .ok (.invokevirtual 166, 3) := by decide +kernel
theorem dX10_guard_5 : decode cX10_guard 5 = .ok (.ifCond .eq 19, 3) := by decide +kernel
theorem dX10_guard_8 : decode cX10_guard 8 = .ok (.iload_n 2, 1) := by decide +kernel
theorem dX10_guard_9 : decode cX10_guard 9 = .ok (.invokestatic 179, 3) := by decide +kernel
theorem dX10_guard_12 : decode cX10_guard 12 = .ok (.ifCond .eq 12, 3) := by decide +kernel
theorem dX10_guard_15 : decode cX10_guard 15 = .ok (.iload_n 3, 1) := by decide +kernel
theorem dX10_guard_16 : decode cX10_guard 16 = .ok (.iconst 0, 1) := by decide +kernel
theorem dX10_guard_17 : decode cX10_guard 17 = .ok (.iconst 2, 1) := by decide +kernel
theorem dX10_guard_18 : decode cX10_guard 18 = .ok (.invokestatic 148, 3) := by decide +kernel
theorem dX10_guard_21 : decode cX10_guard 21 = .ok (.ifCond .ne 6, 3) := by decide +kernel
theorem dX10_guard_24 : decode cX10_guard 24 = .ok (.bipush (-2), 2) := by decide +kernel
theorem dX10_guard_26 : decode cX10_guard 26 = .ok (.ireturn, 1) := by decide +kernel
theorem dX10_guard_27 : decode cX10_guard 27 = .ok (.aload_n 0, 1) := by decide +kernel
theorem dX10_guard_28 : decode cX10_guard 28 = .ok (.getfield 48, 3) := by decide +kernel
theorem dX10_guard_31 : decode cX10_guard 31 = .ok (.sipush 240, 3) := by decide +kernel
theorem dX10_guard_34 : decode cX10_guard 34 = .ok (.bipush 12, 2) := by decide +kernel
theorem dX10_guard_36 : decode cX10_guard 36 = .ok (.iload_n 1, 1) := by decide +kernel
theorem dX10_guard_37 : decode cX10_guard 37 = .ok (.imul, 1) := by decide +kernel
theorem dX10_guard_38 : decode cX10_guard 38 = .ok (.iadd, 1) := by decide +kernel
theorem dX10_guard_39 : decode cX10_guard 39 = .ok (.iload_n 2, 1) := by decide +kernel
theorem dX10_guard_40 : decode cX10_guard 40 = .ok (.iadd, 1) := by decide +kernel
theorem dX10_guard_41 : decode cX10_guard 41 = .ok (.iload_n 3, 1) := by decide +kernel
theorem dX10_guard_42 : decode cX10_guard 42 = .ok (.iastore, 1) := by decide +kernel
theorem dX10_guard_43 : decode cX10_guard 43 = .ok (.aload_n 0, 1) := by decide +kernel
theorem dX10_guard_44 : decode cX10_guard 44 = .ok (.sipush 240, 3) := by decide +kernel
theorem dX10_guard_47 : decode cX10_guard 47 = .ok (.bipush 12, 2) := by decide +kernel
theorem dX10_guard_49 : decode cX10_guard 49 = .ok (.iload_n 1, 1) := by decide +kernel
theorem dX10_guard_50 : decode cX10_guard 50 = .ok (.imul, 1) := by decide +kernel
theorem dX10_guard_51 : decode cX10_guard 51 = .ok (.iadd, 1) := by decide +kernel
theorem dX10_guard_52 : decode cX10_guard 52 = .ok (.iload_n 2, 1) := by decide +kernel
theorem dX10_guard_53 : decode cX10_guard 53 = .ok (.iadd, 1) := by decide +kernel
theorem dX10_guard_54 : decode cX10_guard 54 = .ok (.invokevirtual 182, 3) := by decide +kernel
theorem dX10_guard_57 : decode cX10_guard 57 = .ok (.ireturn, 1) := by decide +kernel
set_option maxRecDepth 100000 in
set_option maxHeartbeats 4000000 in
theorem rt_X10_guard (l : Launch) (m0 : Nat) (ad : Nat → Nat) (K : RS) (x0 : Int32) (x1 : Int32) (x2 : Int32) : Ct l yX10_guard cX10_guard 4 (some .int) 2 0 0 43 (fun S av => av = [.ref m0, .int x0, .int x1, .int x2] ∧ mdR S m0 ad K ∧ RV K) (fun S _ r S' => ∃ (v : Int32) (K' : RS), r = some (.int v) ∧ mdR S' m0 ad K' ∧ exm S S' m0 ad ∧ guardP K x0 x1 x2 = (v, K')) := by
  refine ct_of (by decide) (fun S av h => by obtain ⟨rfl, hk, rv⟩ := h; exact Nat.le_of_ble_eq_true rfl) ?_
  intro p e s m args below meth c D G bs S av C hr hin hpre
  obtain ⟨rfl, hk, rv⟩ := hpre
  have E0 : exm S S m0 ad := exm_rfl
  refine v_aload_n C dX10_guard_0 rfl ?_
  refine v_iload_n C dX10_guard_1 rfl ?_
  refine v_callV (As := [_]) (n := 1) C (rt_X10_isTrait l m0 ad _ _) rfl hk.1 (by decide) rfl ⟨wd240, wd241, wd242, wd5, wd243⟩ ⟨rfl, hy_X10_isTrait⟩ rfl ⟨Nat.le_of_ble_eq_true rfl, Nat.le_of_ble_eq_true rfl⟩ (Nat.le_of_ble_eq_true rfl) ⟨Nat.le_of_ble_eq_true rfl, Nat.le_of_ble_eq_true rfl⟩ dX10_guard_2 ⟨rfl, hk, rv⟩ (fun r_2 S2_2 h_2 => ?_)
  obtain ⟨v2, rfl, p_v2, q_v2⟩ := h_2
  obtain rfl := q_v2.symm
  refine b_if_eq (tgt := 24) C dX10_guard_5 (by decide) (fun c_5 => ?_) (fun c_5 => ?_)
  · skip
    refine v_bipush (v := -2) C dX10_guard_24 (by decide) ?_
    refine v_iret C hr (Nat.le_of_ble_eq_true rfl) (Nat.le_of_ble_eq_true rfl) dX10_guard_26 ?_
    exact ⟨_, _, rfl, hk, E0, (by simp [guardP, ← p_v2, c_5])⟩
  · skip
    obtain ⟨t, h0t, rfl⟩ := below_some (p_v2.symm.trans c_5)
    have ht : t < 20 := by have := rv.p1.2; omega
    have e_t := nI_clamp (show t < 2 ^ 31 by omega)
    refine v_iload_n C dX10_guard_8 rfl ?_
    refine v_callS (As := [_]) (n := 1) C (rt_X10_isAct l _) rfl ⟨wd368, wd369, wd5, wd370⟩ hy_X10_isAct rfl ⟨Nat.le_of_ble_eq_true rfl, Nat.le_of_ble_eq_true rfl⟩ (Nat.le_of_ble_eq_true rfl) ⟨Nat.le_of_ble_eq_true rfl, Nat.le_of_ble_eq_true rfl⟩ dX10_guard_9 rfl (fun r_9 S4_9 h_9 => ?_)
    obtain ⟨v9, rfl, p_v9, q_v9⟩ := h_9
    obtain rfl := q_v9.symm
    refine b_if_eq (tgt := 24) C dX10_guard_12 (by decide) (fun c_12 => ?_) (fun c_12 => ?_)
    · skip
      refine v_bipush (v := -2) C dX10_guard_24 (by decide) ?_
      refine v_iret C hr (Nat.le_of_ble_eq_true rfl) (Nat.le_of_ble_eq_true rfl) dX10_guard_26 ?_
      exact ⟨_, _, rfl, hk, E0, (by simp [guardP, ← p_v2, c_5, e_t, ← p_v9, c_12])⟩
    · skip
      obtain ⟨n, hn, rfl⟩ := below_some (p_v9.symm.trans c_12)
      have e_n := nI_clamp (show n < 2 ^ 31 by omega)
      refine v_iload_n C dX10_guard_15 rfl ?_
      refine v_iconst (v := nI 0) C dX10_guard_16 (by decide) ?_
      refine v_iconst (v := nI 2) C dX10_guard_17 (by decide) ?_
      refine v_callS (As := [_, _, _]) (n := 3) C (rt_X10_in l _ _ _) rfl ⟨wd244, wd245, wd5, wd246⟩ hy_X10_in rfl ⟨Nat.le_of_ble_eq_true rfl, Nat.le_of_ble_eq_true rfl⟩ (Nat.le_of_ble_eq_true rfl) ⟨Nat.le_of_ble_eq_true rfl, Nat.le_of_ble_eq_true rfl⟩ dX10_guard_18 rfl (fun r_18 S6_18 h_18 => ?_)
      obtain ⟨v18, rfl, p_v18, q_v18⟩ := h_18
      obtain rfl := q_v18.symm
      rw [inB_below _ (n := 3) rfl] at p_v18
      refine b_if_ne (tgt := 27) C dX10_guard_21 (by decide) (fun c_21 => ?_) (fun c_21 => ?_)
      · skip
        obtain ⟨w, hw, rfl⟩ := below_some (p_v18.symm.trans c_21)
        have e_w := nI_clamp (show w < 2 ^ 31 by omega)
        refine v_aload_n C dX10_guard_27 rfl ?_
        refine q10_48 C hk dX10_guard_28 ?_
        refine v_sipush (v := nI 240) C dX10_guard_31 (by decide) ?_
        refine v_bipush (v := nI 12) C dX10_guard_34 (by decide) ?_
        refine v_iload_n C dX10_guard_36 rfl ?_
        refine n_imul C dX10_guard_37 ?_
        refine n_iadd C dX10_guard_38 ?_
        refine v_iload_n C dX10_guard_39 rfl ?_
        refine n_iadd C dX10_guard_40 ?_
        refine v_iload_n C dX10_guard_41 rfl ?_
        refine n_iast C hk (show (14, 11, 624) ∈ mTab by decide +kernel) (by omega) dX10_guard_42 (fun S8_42 hk' x_42 => ?_)
        have E0 := exm_tr E0 x_42
        have hk := hk'
        clear hk'
        refine v_aload_n C dX10_guard_43 rfl ?_
        refine v_sipush (v := nI 240) C dX10_guard_44 (by decide) ?_
        refine v_bipush (v := nI 12) C dX10_guard_47 (by decide) ?_
        refine v_iload_n C dX10_guard_49 rfl ?_
        refine n_imul C dX10_guard_50 ?_
        refine n_iadd C dX10_guard_51 ?_
        refine v_iload_n C dX10_guard_52 rfl ?_
        refine n_iadd C dX10_guard_53 ?_
        refine v_callV (As := [_]) (n := 1) C (rt_X10_begins l m0 ad _ _) rfl hk.1 (by decide) rfl ⟨wd371, wd372, wd373, wd5, wd374⟩ ⟨rfl, hy_X10_begins⟩ rfl ⟨Nat.le_of_ble_eq_true rfl, Nat.le_of_ble_eq_true rfl⟩ (Nat.le_of_ble_eq_true rfl) ⟨Nat.le_of_ble_eq_true rfl, Nat.le_of_ble_eq_true rfl⟩ dX10_guard_54 ⟨rfl, hk, (RV_w14 rv), (by omega)⟩ (fun r_54 S8_54 h_54 => ?_)
        obtain ⟨v54, K54, rfl, hk', x_54, p_v54⟩ := h_54
        have E0 := exm_tr E0 x_54
        have hk := hk'
        clear hk'
        obtain ⟨rfl, rfl⟩ := p_v54
        refine v_iret C hr (Nat.le_of_ble_eq_true rfl) (Nat.le_of_ble_eq_true rfl) dX10_guard_57 ?_
        exact ⟨_, _, rfl, hk, E0, (by simp [guardP, ← p_v2, c_5, e_t, ← p_v9, c_12, e_n, ← p_v18, c_21, e_w])⟩
      · skip
        refine v_bipush (v := -2) C dX10_guard_24 (by decide) ?_
        refine v_iret C hr (Nat.le_of_ble_eq_true rfl) (Nat.le_of_ble_eq_true rfl) dX10_guard_26 ?_
        exact ⟨_, _, rfl, hk, E0, (by simp [guardP, ← p_v2, c_5, e_t, ← p_v9, c_12, e_n, ← p_v18, c_21])⟩
theorem dX10_own_0 : decode cX10_own 0 = .ok (.aload_n 0, 1) := by decide +kernel
theorem dX10_own_1 : decode cX10_own 1 = .ok (.iload_n 1, 1) := by decide +kernel
theorem dX10_own_2 : decode cX10_own 2 = .ok (.invokevirtual 176, 3) := by decide +kernel
theorem dX10_own_5 : decode cX10_own 5 = .ok (.ifCond .eq 29, 3) := by decide +kernel
theorem dX10_own_8 : decode cX10_own 8 = .ok (.iload_n 2, 1) := by decide +kernel
theorem dX10_own_9 : decode cX10_own 9 = .ok (.invokestatic 179, 3) := by decide +kernel
theorem dX10_own_12 : decode cX10_own 12 = .ok (.ifCond .eq 22, 3) := by decide +kernel
theorem dX10_own_15 : decode cX10_own 15 = .ok (.iload_n 3, 1) := by decide +kernel
theorem dX10_own_16 : decode cX10_own 16 = .ok (.iconst 0, 1) := by decide +kernel
theorem dX10_own_17 : decode cX10_own 17 = .ok (.iconst 2, 1) := by decide +kernel
theorem dX10_own_18 : decode cX10_own 18 = .ok (.invokestatic 148, 3) := by decide +kernel
theorem dX10_own_21 : decode cX10_own 21 = .ok (.ifCond .eq 13, 3) := by decide +kernel
theorem dX10_own_24 : decode cX10_own 24 = .ok (.iload 4, 2) := by decide +kernel
theorem dX10_own_26 : decode cX10_own 26 = .ok (.iconst 0, 1) := by decide +kernel
theorem dX10_own_27 : decode cX10_own 27 = .ok (.iconst 3, 1) := by decide +kernel
theorem dX10_own_28 : decode cX10_own 28 = .ok (.invokestatic 148, 3) := by decide +kernel
theorem dX10_own_31 : decode cX10_own 31 = .ok (.ifCond .ne 6, 3) := by decide +kernel
theorem dX10_own_34 : decode cX10_own 34 = .ok (.bipush (-2), 2) := by decide +kernel
theorem dX10_own_36 : decode cX10_own 36 = .ok (.ireturn, 1) := by decide +kernel
theorem dX10_own_37 : decode cX10_own 37 = .ok (.sipush 480, 3) := by decide +kernel
theorem dX10_own_40 : decode cX10_own 40 = .ok (.bipush 12, 2) := by decide +kernel
theorem dX10_own_42 : decode cX10_own 42 = .ok (.iload_n 1, 1) := by decide +kernel
theorem dX10_own_43 : decode cX10_own 43 = .ok (.imul, 1) := by decide +kernel
theorem dX10_own_44 : decode cX10_own 44 = .ok (.iadd, 1) := by decide +kernel
theorem dX10_own_45 : decode cX10_own 45 = .ok (.iload_n 2, 1) := by decide +kernel
theorem dX10_own_46 : decode cX10_own 46 = .ok (.iadd, 1) := by decide +kernel
theorem dX10_own_47 : decode cX10_own 47 = .ok (.istore 5, 2) := by decide +kernel
theorem dX10_own_49 : decode cX10_own 49 = .ok (.aload_n 0, 1) := by decide +kernel
theorem dX10_own_50 : decode cX10_own 50 = .ok (.getfield 42, 3) := by decide +kernel
theorem dX10_own_53 : decode cX10_own 53 = .ok (.iload 5, 2) := by decide +kernel
theorem dX10_own_55 : decode cX10_own 55 = .ok (.iload_n 3, 1) := by decide +kernel
theorem dX10_own_56 : decode cX10_own 56 = .ok (.iastore, 1) := by decide +kernel
theorem dX10_own_57 : decode cX10_own 57 = .ok (.aload_n 0, 1) := by decide +kernel
theorem dX10_own_58 : decode cX10_own 58 = .ok (.getfield 45, 3) := by decide +kernel
theorem dX10_own_61 : decode cX10_own 61 = .ok (.iload 5, 2) := by decide +kernel
theorem dX10_own_63 : decode cX10_own 63 = .ok (.iload 4, 2) := by decide +kernel
theorem dX10_own_65 : decode cX10_own 65 = .ok (.iastore, 1) := by decide +kernel
theorem dX10_own_66 : decode cX10_own 66 = .ok (.aload_n 0, 1) := by decide +kernel
theorem dX10_own_67 : decode cX10_own 67 = .ok (.iload 5, 2) := by decide +kernel
theorem dX10_own_69 : decode cX10_own 69 = .ok (.invokevirtual 182, 3) := by decide +kernel
theorem dX10_own_72 : decode cX10_own 72 = .ok (.ireturn, 1) := by decide +kernel
set_option maxRecDepth 100000 in
set_option maxHeartbeats 4000000 in
theorem rt_X10_own (l : Launch) (m0 : Nat) (ad : Nat → Nat) (K : RS) (x0 : Int32) (x1 : Int32) (x2 : Int32) (x3 : Int32) : Ct l yX10_own cX10_own 6 (some .int) 2 0 0 43 (fun S av => av = [.ref m0, .int x0, .int x1, .int x2, .int x3] ∧ mdR S m0 ad K ∧ RV K) (fun S _ r S' => ∃ (v : Int32) (K' : RS), r = some (.int v) ∧ mdR S' m0 ad K' ∧ exm S S' m0 ad ∧ ownP K x0 x1 x2 x3 = (v, K')) := by
  refine ct_of (by decide) (fun S av h => by obtain ⟨rfl, hk, rv⟩ := h; exact Nat.le_of_ble_eq_true rfl) ?_
  intro p e s m args below meth c D G bs S av C hr hin hpre
  obtain ⟨rfl, hk, rv⟩ := hpre
  have E0 : exm S S m0 ad := exm_rfl
  refine v_aload_n C dX10_own_0 rfl ?_
  refine v_iload_n C dX10_own_1 rfl ?_
  refine v_callV (As := [_]) (n := 1) C (rt_X10_isCharacter l m0 ad _ _) rfl hk.1 (by decide) rfl ⟨wd334, wd335, wd336, wd5, wd337⟩ ⟨rfl, hy_X10_isCharacter⟩ rfl ⟨Nat.le_of_ble_eq_true rfl, Nat.le_of_ble_eq_true rfl⟩ (Nat.le_of_ble_eq_true rfl) ⟨Nat.le_of_ble_eq_true rfl, Nat.le_of_ble_eq_true rfl⟩ dX10_own_2 ⟨rfl, hk, rv⟩ (fun r_2 S2_2 h_2 => ?_)
  obtain ⟨v2, rfl, p_v2, q_v2⟩ := h_2
  obtain rfl := q_v2.symm
  refine b_if_eq (tgt := 34) C dX10_own_5 (by decide) (fun c_5 => ?_) (fun c_5 => ?_)
  · skip
    refine v_bipush (v := -2) C dX10_own_34 (by decide) ?_
    refine v_iret C hr (Nat.le_of_ble_eq_true rfl) (Nat.le_of_ble_eq_true rfl) dX10_own_36 ?_
    exact ⟨_, _, rfl, hk, E0, (by simp [ownP, ← p_v2, c_5])⟩
  · skip
    obtain ⟨u, h0u, rfl⟩ := below_some (p_v2.symm.trans c_5)
    have hu : u < 12 := by have := rv.p2.2; omega
    have e_u := nI_clamp (show u < 2 ^ 31 by omega)
    refine v_iload_n C dX10_own_8 rfl ?_
    refine v_callS (As := [_]) (n := 1) C (rt_X10_isAct l _) rfl ⟨wd368, wd369, wd5, wd370⟩ hy_X10_isAct rfl ⟨Nat.le_of_ble_eq_true rfl, Nat.le_of_ble_eq_true rfl⟩ (Nat.le_of_ble_eq_true rfl) ⟨Nat.le_of_ble_eq_true rfl, Nat.le_of_ble_eq_true rfl⟩ dX10_own_9 rfl (fun r_9 S4_9 h_9 => ?_)
    obtain ⟨v9, rfl, p_v9, q_v9⟩ := h_9
    obtain rfl := q_v9.symm
    refine b_if_eq (tgt := 34) C dX10_own_12 (by decide) (fun c_12 => ?_) (fun c_12 => ?_)
    · skip
      refine v_bipush (v := -2) C dX10_own_34 (by decide) ?_
      refine v_iret C hr (Nat.le_of_ble_eq_true rfl) (Nat.le_of_ble_eq_true rfl) dX10_own_36 ?_
      exact ⟨_, _, rfl, hk, E0, (by simp [ownP, ← p_v2, c_5, e_u, ← p_v9, c_12])⟩
    · skip
      obtain ⟨n, hn, rfl⟩ := below_some (p_v9.symm.trans c_12)
      have e_n := nI_clamp (show n < 2 ^ 31 by omega)
      refine v_iload_n C dX10_own_15 rfl ?_
      refine v_iconst (v := nI 0) C dX10_own_16 (by decide) ?_
      refine v_iconst (v := nI 2) C dX10_own_17 (by decide) ?_
      refine v_callS (As := [_, _, _]) (n := 3) C (rt_X10_in l _ _ _) rfl ⟨wd244, wd245, wd5, wd246⟩ hy_X10_in rfl ⟨Nat.le_of_ble_eq_true rfl, Nat.le_of_ble_eq_true rfl⟩ (Nat.le_of_ble_eq_true rfl) ⟨Nat.le_of_ble_eq_true rfl, Nat.le_of_ble_eq_true rfl⟩ dX10_own_18 rfl (fun r_18 S6_18 h_18 => ?_)
      obtain ⟨v18, rfl, p_v18, q_v18⟩ := h_18
      obtain rfl := q_v18.symm
      rw [inB_below _ (n := 3) rfl] at p_v18
      refine b_if_eq (tgt := 34) C dX10_own_21 (by decide) (fun c_21 => ?_) (fun c_21 => ?_)
      · skip
        refine v_bipush (v := -2) C dX10_own_34 (by decide) ?_
        refine v_iret C hr (Nat.le_of_ble_eq_true rfl) (Nat.le_of_ble_eq_true rfl) dX10_own_36 ?_
        exact ⟨_, _, rfl, hk, E0, (by simp [ownP, ← p_v2, c_5, e_u, ← p_v9, c_12, e_n, ← p_v18, c_21])⟩
      · skip
        obtain ⟨w, hw, rfl⟩ := below_some (p_v18.symm.trans c_21)
        have e_w := nI_clamp (show w < 2 ^ 31 by omega)
        refine v_iload C dX10_own_24 rfl ?_
        refine v_iconst (v := nI 0) C dX10_own_26 (by decide) ?_
        refine v_iconst (v := nI 3) C dX10_own_27 (by decide) ?_
        refine v_callS (As := [_, _, _]) (n := 3) C (rt_X10_in l _ _ _) rfl ⟨wd244, wd245, wd5, wd246⟩ hy_X10_in rfl ⟨Nat.le_of_ble_eq_true rfl, Nat.le_of_ble_eq_true rfl⟩ (Nat.le_of_ble_eq_true rfl) ⟨Nat.le_of_ble_eq_true rfl, Nat.le_of_ble_eq_true rfl⟩ dX10_own_28 rfl (fun r_28 S8_28 h_28 => ?_)
        obtain ⟨v28, rfl, p_v28, q_v28⟩ := h_28
        obtain rfl := q_v28.symm
        rw [inB_below _ (n := 4) rfl] at p_v28
        refine b_if_ne (tgt := 37) C dX10_own_31 (by decide) (fun c_31 => ?_) (fun c_31 => ?_)
        · skip
          obtain ⟨y, hy, rfl⟩ := below_some (p_v28.symm.trans c_31)
          have e_y := nI_clamp (show y < 2 ^ 31 by omega)
          refine v_sipush (v := nI 480) C dX10_own_37 (by decide) ?_
          refine v_bipush (v := nI 12) C dX10_own_40 (by decide) ?_
          refine v_iload_n C dX10_own_42 rfl ?_
          refine n_imul C dX10_own_43 ?_
          refine n_iadd C dX10_own_44 ?_
          refine v_iload_n C dX10_own_45 rfl ?_
          refine n_iadd C dX10_own_46 ?_
          refine v_istore C dX10_own_47 (by decide) rfl ?_
          refine v_aload_n C dX10_own_49 rfl ?_
          refine q10_42 C hk dX10_own_50 ?_
          refine v_iload C dX10_own_53 rfl ?_
          refine v_iload_n C dX10_own_55 rfl ?_
          refine n_iast C hk (show (12, 11, 624) ∈ mTab by decide +kernel) (by omega) dX10_own_56 (fun S10_56 hk' x_56 => ?_)
          have E0 := exm_tr E0 x_56
          have hk := hk'
          clear hk'
          refine v_aload_n C dX10_own_57 rfl ?_
          refine q10_45 C hk dX10_own_58 ?_
          refine v_iload C dX10_own_61 rfl ?_
          refine v_iload C dX10_own_63 rfl ?_
          refine n_iast C hk (show (13, 11, 624) ∈ mTab by decide +kernel) (by omega) dX10_own_65 (fun S10_65 hk' x_65 => ?_)
          have E0 := exm_tr E0 x_65
          have hk := hk'
          clear hk'
          refine v_aload_n C dX10_own_66 rfl ?_
          refine v_iload C dX10_own_67 rfl ?_
          refine v_callV (As := [_]) (n := 1) C (rt_X10_begins l m0 ad _ _) rfl hk.1 (by decide) rfl ⟨wd371, wd372, wd373, wd5, wd374⟩ ⟨rfl, hy_X10_begins⟩ rfl ⟨Nat.le_of_ble_eq_true rfl, Nat.le_of_ble_eq_true rfl⟩ (Nat.le_of_ble_eq_true rfl) ⟨Nat.le_of_ble_eq_true rfl, Nat.le_of_ble_eq_true rfl⟩ dX10_own_69 ⟨rfl, hk, (RV_w13 (RV_w12 rv) ⟨y, hy, rfl⟩), (by omega)⟩ (fun r_69 S10_69 h_69 => ?_)
          obtain ⟨v69, K69, rfl, hk', x_69, p_v69⟩ := h_69
          have E0 := exm_tr E0 x_69
          have hk := hk'
          clear hk'
          obtain ⟨rfl, rfl⟩ := p_v69
          refine v_iret C hr (Nat.le_of_ble_eq_true rfl) (Nat.le_of_ble_eq_true rfl) dX10_own_72 ?_
          exact ⟨_, _, rfl, hk, E0, (by simp [ownP, ← p_v2, c_5, e_u, ← p_v9, c_12, e_n, ← p_v18, c_21, e_w, ← p_v28, c_31, e_y])⟩
        · skip
          refine v_bipush (v := -2) C dX10_own_34 (by decide) ?_
          refine v_iret C hr (Nat.le_of_ble_eq_true rfl) (Nat.le_of_ble_eq_true rfl) dX10_own_36 ?_
          exact ⟨_, _, rfl, hk, E0, (by simp [ownP, ← p_v2, c_5, e_u, ← p_v9, c_12, e_n, ← p_v18, c_21, e_w, ← p_v28, c_31])⟩
theorem dX10_isOp_0 : decode cX10_isOp 0 = .ok (.iload_n 0, 1) := by decide +kernel
theorem dX10_isOp_1 : decode cX10_isOp 1 = .ok (.tableswitch 98 1 10 #[55, 55, 55, 98, 62, 98, 67, 75, 98, 62], 55) := by decide +kernel
theorem dX10_isOp_56 : decode cX10_isOp 56 = .ok (.iload_n 1, 1) := by decide +kernel
theorem dX10_isOp_57 : decode cX10_isOp 57 = .ok (.iconst 0, 1) := by decide +kernel
theorem dX10_isOp_58 : decode cX10_isOp 58 = .ok (.iconst 3, 1) := by decide +kernel
theorem dX10_isOp_59 : decode cX10_isOp 59 = .ok (.invokestatic 148, 3) := by decide +kernel
theorem dX10_isOp_62 : decode cX10_isOp 62 = .ok (.ireturn, 1) := by decide +kernel
theorem dX10_isOp_63 : decode cX10_isOp 63 = .ok (.iload_n 1, 1) := by decide +kernel
theorem dX10_isOp_64 : decode cX10_isOp 64 = .ok (.invokestatic 179, 3) := by decide +kernel
theorem dX10_isOp_67 : decode cX10_isOp 67 = .ok (.ireturn, 1) := by decide +kernel
theorem dX10_isOp_68 : decode cX10_isOp 68 = .ok (.iload_n 1, 1) := by decide +kernel
theorem dX10_isOp_69 : decode cX10_isOp 69 = .ok (.iconst 0, 1) := by decide +kernel
theorem dX10_isOp_70 : decode cX10_isOp 70 = .ok (.bipush 19, 2) := by decide +kernel
theorem dX10_isOp_72 : decode cX10_isOp 72 = .ok (.invokestatic 148, 3) := by decide +kernel
theorem dX10_isOp_75 : decode cX10_isOp 75 = .ok (.ireturn, 1) := by decide +kernel
theorem dX10_isOp_76 : decode cX10_isOp 76 = .ok (.iload_n 1, 1) := by decide +kernel
theorem dX10_isOp_77 : decode cX10_isOp 77 = .ok (.iconst 0, 1) := by decide +kernel
theorem dX10_isOp_78 : decode cX10_isOp 78 = .ok (.bipush 11, 2) := by decide +kernel
theorem dX10_isOp_80 : decode cX10_isOp 80 = .ok (.invokestatic 148, 3) := by decide +kernel
theorem dX10_isOp_83 : decode cX10_isOp 83 = .ok (.ifCond .eq 14, 3) := by decide +kernel
theorem dX10_isOp_86 : decode cX10_isOp 86 = .ok (.iload_n 2, 1) := by decide +kernel
theorem dX10_isOp_87 : decode cX10_isOp 87 = .ok (.invokestatic 179, 3) := by decide +kernel
theorem dX10_isOp_90 : decode cX10_isOp 90 = .ok (.ifCond .eq 7, 3) := by decide +kernel
theorem dX10_isOp_93 : decode cX10_isOp 93 = .ok (.iconst 1, 1) := by decide +kernel
theorem dX10_isOp_94 : decode cX10_isOp 94 = .ok (.goto 4, 3) := by decide +kernel
theorem dX10_isOp_97 : decode cX10_isOp 97 = .ok (.iconst 0, 1) := by decide +kernel
theorem dX10_isOp_98 : decode cX10_isOp 98 = .ok (.ireturn, 1) := by decide +kernel
theorem dX10_isOp_99 : decode cX10_isOp 99 = .ok (.iload_n 0, 1) := by decide +kernel
theorem dX10_isOp_100 : decode cX10_isOp 100 = .ok (.iconst 0, 1) := by decide +kernel
theorem dX10_isOp_101 : decode cX10_isOp 101 = .ok (.bipush 12, 2) := by decide +kernel
theorem dX10_isOp_103 : decode cX10_isOp 103 = .ok (.invokestatic 148, 3) := by decide +kernel
theorem dX10_isOp_106 : decode cX10_isOp 106 = .ok (.ireturn, 1) := by decide +kernel
set_option maxRecDepth 100000 in
set_option maxHeartbeats 4000000 in
theorem rt_X10_isOp (l : Launch) (k : Int32) (a : Int32) (b : Int32) : Ct l yX10_isOp cX10_isOp 3 (some .boolean) 2 0 0 42 (fun S av => av = [.int k, .int a, .int b]) (fun S _ r S' => ∃ v : Bool, r = some (.int (bI v)) ∧ v = isOpF k a b ∧ S' = S) := by
  refine ct_of (by decide) (fun S av h => by obtain rfl := h; exact Nat.le_of_ble_eq_true rfl) ?_
  intro p e s m args below meth c D G bs S av C hr hin hpre
  obtain rfl := hpre
  refine v_iload_n C dX10_isOp_0 rfl ?_
  by_cases k_1 : k = 1
  · skip
    refine v_tableIn (off := 55) (tgt := 56) C dX10_isOp_1 (by rw [k_1]; decide) (by rw [k_1]; decide) (by rw [k_1]; rfl) (by decide) ?_
    refine v_iload_n C dX10_isOp_56 rfl ?_
    refine v_iconst (v := nI 0) C dX10_isOp_57 (by decide) ?_
    refine v_iconst (v := nI 3) C dX10_isOp_58 (by decide) ?_
    refine v_callS (As := [_, _, _]) (n := 3) C (rt_X10_in l _ _ _) rfl ⟨wd244, wd245, wd5, wd246⟩ hy_X10_in rfl ⟨Nat.le_of_ble_eq_true rfl, Nat.le_of_ble_eq_true rfl⟩ (Nat.le_of_ble_eq_true rfl) ⟨Nat.le_of_ble_eq_true rfl, Nat.le_of_ble_eq_true rfl⟩ dX10_isOp_59 rfl (fun r_59 S4_59 h_59 => ?_)
    obtain ⟨v59, rfl, p_v59, q_v59⟩ := h_59
    obtain rfl := q_v59.symm
    rw [inB_below _ (n := 4) rfl] at p_v59
    refine v_zret C hr (by first | rfl | exact bI_nar _) (Nat.le_of_ble_eq_true rfl) (Nat.le_of_ble_eq_true rfl) dX10_isOp_62 ?_
    exact ⟨_, rfl, (by simp [isOpF, k_1, ← p_v59]), rfl⟩
  by_cases k_2 : k = 2
  · skip
    refine v_tableIn (off := 55) (tgt := 56) C dX10_isOp_1 (by rw [k_2]; decide) (by rw [k_2]; decide) (by rw [k_2]; rfl) (by decide) ?_
    refine v_iload_n C dX10_isOp_56 rfl ?_
    refine v_iconst (v := nI 0) C dX10_isOp_57 (by decide) ?_
    refine v_iconst (v := nI 3) C dX10_isOp_58 (by decide) ?_
    refine v_callS (As := [_, _, _]) (n := 3) C (rt_X10_in l _ _ _) rfl ⟨wd244, wd245, wd5, wd246⟩ hy_X10_in rfl ⟨Nat.le_of_ble_eq_true rfl, Nat.le_of_ble_eq_true rfl⟩ (Nat.le_of_ble_eq_true rfl) ⟨Nat.le_of_ble_eq_true rfl, Nat.le_of_ble_eq_true rfl⟩ dX10_isOp_59 rfl (fun r_59 S4_59 h_59 => ?_)
    obtain ⟨v59, rfl, p_v59, q_v59⟩ := h_59
    obtain rfl := q_v59.symm
    rw [inB_below _ (n := 4) rfl] at p_v59
    refine v_zret C hr (by first | rfl | exact bI_nar _) (Nat.le_of_ble_eq_true rfl) (Nat.le_of_ble_eq_true rfl) dX10_isOp_62 ?_
    exact ⟨_, rfl, (by simp [isOpF, k_2, ← p_v59]), rfl⟩
  by_cases k_3 : k = 3
  · skip
    refine v_tableIn (off := 55) (tgt := 56) C dX10_isOp_1 (by rw [k_3]; decide) (by rw [k_3]; decide) (by rw [k_3]; rfl) (by decide) ?_
    refine v_iload_n C dX10_isOp_56 rfl ?_
    refine v_iconst (v := nI 0) C dX10_isOp_57 (by decide) ?_
    refine v_iconst (v := nI 3) C dX10_isOp_58 (by decide) ?_
    refine v_callS (As := [_, _, _]) (n := 3) C (rt_X10_in l _ _ _) rfl ⟨wd244, wd245, wd5, wd246⟩ hy_X10_in rfl ⟨Nat.le_of_ble_eq_true rfl, Nat.le_of_ble_eq_true rfl⟩ (Nat.le_of_ble_eq_true rfl) ⟨Nat.le_of_ble_eq_true rfl, Nat.le_of_ble_eq_true rfl⟩ dX10_isOp_59 rfl (fun r_59 S4_59 h_59 => ?_)
    obtain ⟨v59, rfl, p_v59, q_v59⟩ := h_59
    obtain rfl := q_v59.symm
    rw [inB_below _ (n := 4) rfl] at p_v59
    refine v_zret C hr (by first | rfl | exact bI_nar _) (Nat.le_of_ble_eq_true rfl) (Nat.le_of_ble_eq_true rfl) dX10_isOp_62 ?_
    exact ⟨_, rfl, (by simp [isOpF, k_3, ← p_v59]), rfl⟩
  by_cases k_4 : k = 4
  · skip
    refine v_tableIn (off := 98) (tgt := 99) C dX10_isOp_1 (by rw [k_4]; decide) (by rw [k_4]; decide) (by rw [k_4]; rfl) (by decide) ?_
    refine v_iload_n C dX10_isOp_99 rfl ?_
    refine v_iconst (v := nI 0) C dX10_isOp_100 (by decide) ?_
    refine v_bipush (v := nI 12) C dX10_isOp_101 (by decide) ?_
    refine v_callS (As := [_, _, _]) (n := 3) C (rt_X10_in l _ _ _) rfl ⟨wd244, wd245, wd5, wd246⟩ hy_X10_in rfl ⟨Nat.le_of_ble_eq_true rfl, Nat.le_of_ble_eq_true rfl⟩ (Nat.le_of_ble_eq_true rfl) ⟨Nat.le_of_ble_eq_true rfl, Nat.le_of_ble_eq_true rfl⟩ dX10_isOp_103 rfl (fun r_103 S4_103 h_103 => ?_)
    obtain ⟨v103, rfl, p_v103, q_v103⟩ := h_103
    obtain rfl := q_v103.symm
    rw [inB_below _ (n := 13) rfl] at p_v103
    refine v_zret C hr (by first | rfl | exact bI_nar _) (Nat.le_of_ble_eq_true rfl) (Nat.le_of_ble_eq_true rfl) dX10_isOp_106 ?_
    exact ⟨_, rfl, (by rw [p_v103, k_4]; rfl), rfl⟩
  by_cases k_5 : k = 5
  · skip
    refine v_tableIn (off := 62) (tgt := 63) C dX10_isOp_1 (by rw [k_5]; decide) (by rw [k_5]; decide) (by rw [k_5]; rfl) (by decide) ?_
    refine v_iload_n C dX10_isOp_63 rfl ?_
    refine v_callS (As := [_]) (n := 1) C (rt_X10_isAct l _) rfl ⟨wd368, wd369, wd5, wd370⟩ hy_X10_isAct rfl ⟨Nat.le_of_ble_eq_true rfl, Nat.le_of_ble_eq_true rfl⟩ (Nat.le_of_ble_eq_true rfl) ⟨Nat.le_of_ble_eq_true rfl, Nat.le_of_ble_eq_true rfl⟩ dX10_isOp_64 rfl (fun r_64 S4_64 h_64 => ?_)
    obtain ⟨v64, rfl, p_v64, q_v64⟩ := h_64
    obtain rfl := q_v64.symm
    refine v_zret C hr (by first | rfl | exact bI_nar _) (Nat.le_of_ble_eq_true rfl) (Nat.le_of_ble_eq_true rfl) dX10_isOp_67 ?_
    exact ⟨_, rfl, (by simp [isOpF, k_5, ← p_v64]), rfl⟩
  by_cases k_6 : k = 6
  · skip
    refine v_tableIn (off := 98) (tgt := 99) C dX10_isOp_1 (by rw [k_6]; decide) (by rw [k_6]; decide) (by rw [k_6]; rfl) (by decide) ?_
    refine v_iload_n C dX10_isOp_99 rfl ?_
    refine v_iconst (v := nI 0) C dX10_isOp_100 (by decide) ?_
    refine v_bipush (v := nI 12) C dX10_isOp_101 (by decide) ?_
    refine v_callS (As := [_, _, _]) (n := 3) C (rt_X10_in l _ _ _) rfl ⟨wd244, wd245, wd5, wd246⟩ hy_X10_in rfl ⟨Nat.le_of_ble_eq_true rfl, Nat.le_of_ble_eq_true rfl⟩ (Nat.le_of_ble_eq_true rfl) ⟨Nat.le_of_ble_eq_true rfl, Nat.le_of_ble_eq_true rfl⟩ dX10_isOp_103 rfl (fun r_103 S4_103 h_103 => ?_)
    obtain ⟨v103, rfl, p_v103, q_v103⟩ := h_103
    obtain rfl := q_v103.symm
    rw [inB_below _ (n := 13) rfl] at p_v103
    refine v_zret C hr (by first | rfl | exact bI_nar _) (Nat.le_of_ble_eq_true rfl) (Nat.le_of_ble_eq_true rfl) dX10_isOp_106 ?_
    exact ⟨_, rfl, (by rw [p_v103, k_6]; rfl), rfl⟩
  by_cases k_7 : k = 7
  · skip
    refine v_tableIn (off := 67) (tgt := 68) C dX10_isOp_1 (by rw [k_7]; decide) (by rw [k_7]; decide) (by rw [k_7]; rfl) (by decide) ?_
    refine v_iload_n C dX10_isOp_68 rfl ?_
    refine v_iconst (v := nI 0) C dX10_isOp_69 (by decide) ?_
    refine v_bipush (v := nI 19) C dX10_isOp_70 (by decide) ?_
    refine v_callS (As := [_, _, _]) (n := 3) C (rt_X10_in l _ _ _) rfl ⟨wd244, wd245, wd5, wd246⟩ hy_X10_in rfl ⟨Nat.le_of_ble_eq_true rfl, Nat.le_of_ble_eq_true rfl⟩ (Nat.le_of_ble_eq_true rfl) ⟨Nat.le_of_ble_eq_true rfl, Nat.le_of_ble_eq_true rfl⟩ dX10_isOp_72 rfl (fun r_72 S4_72 h_72 => ?_)
    obtain ⟨v72, rfl, p_v72, q_v72⟩ := h_72
    obtain rfl := q_v72.symm
    rw [inB_below _ (n := 20) rfl] at p_v72
    refine v_zret C hr (by first | rfl | exact bI_nar _) (Nat.le_of_ble_eq_true rfl) (Nat.le_of_ble_eq_true rfl) dX10_isOp_75 ?_
    exact ⟨_, rfl, (by simp [isOpF, k_7, ← p_v72]), rfl⟩
  by_cases k_8 : k = 8
  · skip
    refine v_tableIn (off := 75) (tgt := 76) C dX10_isOp_1 (by rw [k_8]; decide) (by rw [k_8]; decide) (by rw [k_8]; rfl) (by decide) ?_
    refine v_iload_n C dX10_isOp_76 rfl ?_
    refine v_iconst (v := nI 0) C dX10_isOp_77 (by decide) ?_
    refine v_bipush (v := nI 11) C dX10_isOp_78 (by decide) ?_
    refine v_callS (As := [_, _, _]) (n := 3) C (rt_X10_in l _ _ _) rfl ⟨wd244, wd245, wd5, wd246⟩ hy_X10_in rfl ⟨Nat.le_of_ble_eq_true rfl, Nat.le_of_ble_eq_true rfl⟩ (Nat.le_of_ble_eq_true rfl) ⟨Nat.le_of_ble_eq_true rfl, Nat.le_of_ble_eq_true rfl⟩ dX10_isOp_80 rfl (fun r_80 S4_80 h_80 => ?_)
    obtain ⟨v80, rfl, p_v80, q_v80⟩ := h_80
    obtain rfl := q_v80.symm
    rw [inB_below _ (n := 12) rfl] at p_v80
    refine b_if_eq (tgt := 97) C dX10_isOp_83 (by decide) (fun c_83 => ?_) (fun c_83 => ?_)
    · skip
      refine v_iconst (v := nI 0) C dX10_isOp_97 (by decide) ?_
      refine v_zret C hr (by first | rfl | exact bI_nar _) (Nat.le_of_ble_eq_true rfl) (Nat.le_of_ble_eq_true rfl) dX10_isOp_98 ?_
      exact ⟨false, rfl, (by simp [isOpF, k_8, ← p_v80, c_83]), rfl⟩
    · skip
      refine v_iload_n C dX10_isOp_86 rfl ?_
      refine v_callS (As := [_]) (n := 1) C (rt_X10_isAct l _) rfl ⟨wd368, wd369, wd5, wd370⟩ hy_X10_isAct rfl ⟨Nat.le_of_ble_eq_true rfl, Nat.le_of_ble_eq_true rfl⟩ (Nat.le_of_ble_eq_true rfl) ⟨Nat.le_of_ble_eq_true rfl, Nat.le_of_ble_eq_true rfl⟩ dX10_isOp_87 rfl (fun r_87 S6_87 h_87 => ?_)
      obtain ⟨v87, rfl, p_v87, q_v87⟩ := h_87
      obtain rfl := q_v87.symm
      refine b_if_eq (tgt := 97) C dX10_isOp_90 (by decide) (fun c_90 => ?_) (fun c_90 => ?_)
      · skip
        refine v_iconst (v := nI 0) C dX10_isOp_97 (by decide) ?_
        refine v_zret C hr (by first | rfl | exact bI_nar _) (Nat.le_of_ble_eq_true rfl) (Nat.le_of_ble_eq_true rfl) dX10_isOp_98 ?_
        exact ⟨false, rfl, (by simp [isOpF, k_8, ← p_v80, c_83, ← p_v87, c_90]), rfl⟩
      · skip
        refine v_iconst (v := nI 1) C dX10_isOp_93 (by decide) ?_
        refine v_goto (tgt := 98) C dX10_isOp_94 (by decide) ?_
        refine v_zret C hr (by first | rfl | exact bI_nar _) (Nat.le_of_ble_eq_true rfl) (Nat.le_of_ble_eq_true rfl) dX10_isOp_98 ?_
        exact ⟨true, rfl, (by simp [isOpF, k_8, ← p_v80, c_83, ← p_v87, c_90]), rfl⟩
  by_cases k_9 : k = 9
  · skip
    refine v_tableIn (off := 98) (tgt := 99) C dX10_isOp_1 (by rw [k_9]; decide) (by rw [k_9]; decide) (by rw [k_9]; rfl) (by decide) ?_
    refine v_iload_n C dX10_isOp_99 rfl ?_
    refine v_iconst (v := nI 0) C dX10_isOp_100 (by decide) ?_
    refine v_bipush (v := nI 12) C dX10_isOp_101 (by decide) ?_
    refine v_callS (As := [_, _, _]) (n := 3) C (rt_X10_in l _ _ _) rfl ⟨wd244, wd245, wd5, wd246⟩ hy_X10_in rfl ⟨Nat.le_of_ble_eq_true rfl, Nat.le_of_ble_eq_true rfl⟩ (Nat.le_of_ble_eq_true rfl) ⟨Nat.le_of_ble_eq_true rfl, Nat.le_of_ble_eq_true rfl⟩ dX10_isOp_103 rfl (fun r_103 S4_103 h_103 => ?_)
    obtain ⟨v103, rfl, p_v103, q_v103⟩ := h_103
    obtain rfl := q_v103.symm
    rw [inB_below _ (n := 13) rfl] at p_v103
    refine v_zret C hr (by first | rfl | exact bI_nar _) (Nat.le_of_ble_eq_true rfl) (Nat.le_of_ble_eq_true rfl) dX10_isOp_106 ?_
    exact ⟨_, rfl, (by rw [p_v103, k_9]; rfl), rfl⟩
  by_cases k_10 : k = 10
  · skip
    refine v_tableIn (off := 62) (tgt := 63) C dX10_isOp_1 (by rw [k_10]; decide) (by rw [k_10]; decide) (by rw [k_10]; rfl) (by decide) ?_
    refine v_iload_n C dX10_isOp_63 rfl ?_
    refine v_callS (As := [_]) (n := 1) C (rt_X10_isAct l _) rfl ⟨wd368, wd369, wd5, wd370⟩ hy_X10_isAct rfl ⟨Nat.le_of_ble_eq_true rfl, Nat.le_of_ble_eq_true rfl⟩ (Nat.le_of_ble_eq_true rfl) ⟨Nat.le_of_ble_eq_true rfl, Nat.le_of_ble_eq_true rfl⟩ dX10_isOp_64 rfl (fun r_64 S4_64 h_64 => ?_)
    obtain ⟨v64, rfl, p_v64, q_v64⟩ := h_64
    obtain rfl := q_v64.symm
    refine v_zret C hr (by first | rfl | exact bI_nar _) (Nat.le_of_ble_eq_true rfl) (Nat.le_of_ble_eq_true rfl) dX10_isOp_67 ?_
    exact ⟨_, rfl, (by simp [isOpF, k_10, ← p_v64]), rfl⟩
  refine v_tableOut (tgt := 99) C dX10_isOp_1 (by have q1 := lv_neT k_1 (a := 1) rfl ; have q2 := lv_neT k_2 (a := 2) rfl ; have q3 := lv_neT k_3 (a := 3) rfl ; have q4 := lv_neT k_4 (a := 4) rfl ; have q5 := lv_neT k_5 (a := 5) rfl ; have q6 := lv_neT k_6 (a := 6) rfl ; have q7 := lv_neT k_7 (a := 7) rfl ; have q8 := lv_neT k_8 (a := 8) rfl ; have q9 := lv_neT k_9 (a := 9) rfl ; have q10 := lv_neT k_10 (a := 10) rfl ; omega) (by decide) ?_
  refine v_iload_n C dX10_isOp_99 rfl ?_
  refine v_iconst (v := nI 0) C dX10_isOp_100 (by decide) ?_
  refine v_bipush (v := nI 12) C dX10_isOp_101 (by decide) ?_
  refine v_callS (As := [_, _, _]) (n := 3) C (rt_X10_in l _ _ _) rfl ⟨wd244, wd245, wd5, wd246⟩ hy_X10_in rfl ⟨Nat.le_of_ble_eq_true rfl, Nat.le_of_ble_eq_true rfl⟩ (Nat.le_of_ble_eq_true rfl) ⟨Nat.le_of_ble_eq_true rfl, Nat.le_of_ble_eq_true rfl⟩ dX10_isOp_103 rfl (fun r_103 S2_103 h_103 => ?_)
  obtain ⟨v103, rfl, p_v103, q_v103⟩ := h_103
  obtain rfl := q_v103.symm
  rw [inB_below _ (n := 13) rfl] at p_v103
  refine v_zret C hr (by first | rfl | exact bI_nar _) (Nat.le_of_ble_eq_true rfl) (Nat.le_of_ble_eq_true rfl) dX10_isOp_106 ?_
  exact ⟨_, rfl, (by simp [isOpF, k_1, k_2, k_3, k_4, k_5, k_6, k_7, k_8, k_9, k_10, ← p_v103]), rfl⟩
theorem dX10_op_0 : decode cX10_op 0 = .ok (.iload_n 1, 1) := by decide +kernel
theorem dX10_op_1 : decode cX10_op 1 = .ok (.iload_n 2, 1) := by decide +kernel
theorem dX10_op_2 : decode cX10_op 2 = .ok (.iload_n 3, 1) := by decide +kernel
theorem dX10_op_3 : decode cX10_op 3 = .ok (.invokestatic 186, 3) := by decide +kernel
theorem dX10_op_6 : decode cX10_op 6 = .ok (.ifCond .ne 6, 3) := by decide +kernel
theorem dX10_op_9 : decode cX10_op 9 = .ok (.bipush (-2), 2) := by decide +kernel
theorem dX10_op_11 : decode cX10_op 11 = .ok (.ireturn, 1) := by decide +kernel
theorem dX10_op_12 : decode cX10_op 12 = .ok (.aload_n 0, 1) := by decide +kernel
theorem dX10_op_13 : decode cX10_op 13 = .ok (.getfield 63, 3) := by decide +kernel
theorem dX10_op_16 : decode cX10_op 16 = .ok (.iconst (-1), 1) := by decide +kernel
theorem dX10_op_17 : decode cX10_op 17 = .ok (.if_icmp .ne 6, 3) := by decide +kernel
theorem dX10_op_20 : decode cX10_op 20 = .ok (.bipush (-3), 2) := by decide +kernel
theorem dX10_op_22 : decode cX10_op 22 = .ok (.ireturn, 1) := by decide +kernel
theorem dX10_op_23 : decode cX10_op 23 = .ok (.aload_n 0, 1) := by decide +kernel
theorem dX10_op_24 : decode cX10_op 24 = .ok (.getfield 51, 3) := by decide +kernel
theorem dX10_op_27 : decode cX10_op 27 = .ok (.aload_n 0, 1) := by decide +kernel
theorem dX10_op_28 : decode cX10_op 28 = .ok (.getfield 63, 3) := by decide +kernel
theorem dX10_op_31 : decode cX10_op 31 = .ok (.iaload, 1) := by decide +kernel
theorem dX10_op_32 : decode cX10_op 32 = .ok (.bipush 8, 2) := by decide +kernel
theorem dX10_op_34 : decode cX10_op 34 = .ok (.if_icmp .ne 6, 3) := by decide +kernel
theorem dX10_op_37 : decode cX10_op 37 = .ok (.bipush (-4), 2) := by decide +kernel
theorem dX10_op_39 : decode cX10_op 39 = .ok (.ireturn, 1) := by decide +kernel
theorem dX10_op_40 : decode cX10_op 40 = .ok (.bipush 8, 2) := by decide +kernel
theorem dX10_op_42 : decode cX10_op 42 = .ok (.aload_n 0, 1) := by decide +kernel
theorem dX10_op_43 : decode cX10_op 43 = .ok (.getfield 63, 3) := by decide +kernel
theorem dX10_op_46 : decode cX10_op 46 = .ok (.imul, 1) := by decide +kernel
theorem dX10_op_47 : decode cX10_op 47 = .ok (.aload_n 0, 1) := by decide +kernel
theorem dX10_op_48 : decode cX10_op 48 = .ok (.getfield 51, 3) := by decide +kernel
theorem dX10_op_51 : decode cX10_op 51 = .ok (.aload_n 0, 1) := by decide +kernel
theorem dX10_op_52 : decode cX10_op 52 = .ok (.getfield 63, 3) := by decide +kernel
theorem dX10_op_55 : decode cX10_op 55 = .ok (.iaload, 1) := by decide +kernel
theorem dX10_op_56 : decode cX10_op 56 = .ok (.iadd, 1) := by decide +kernel
theorem dX10_op_57 : decode cX10_op 57 = .ok (.istore 4, 2) := by decide +kernel
theorem dX10_op_59 : decode cX10_op 59 = .ok (.aload_n 0, 1) := by decide +kernel
theorem dX10_op_60 : decode cX10_op 60 = .ok (.getfield 54, 3) := by decide +kernel
theorem dX10_op_63 : decode cX10_op 63 = .ok (.iload 4, 2) := by decide +kernel
theorem dX10_op_65 : decode cX10_op 65 = .ok (.iload_n 1, 1) := by decide +kernel
theorem dX10_op_66 : decode cX10_op 66 = .ok (.iastore, 1) := by decide +kernel
theorem dX10_op_67 : decode cX10_op 67 = .ok (.aload_n 0, 1) := by decide +kernel
theorem dX10_op_68 : decode cX10_op 68 = .ok (.getfield 57, 3) := by decide +kernel
theorem dX10_op_71 : decode cX10_op 71 = .ok (.iload 4, 2) := by decide +kernel
theorem dX10_op_73 : decode cX10_op 73 = .ok (.iload_n 2, 1) := by decide +kernel
theorem dX10_op_74 : decode cX10_op 74 = .ok (.iastore, 1) := by decide +kernel
theorem dX10_op_75 : decode cX10_op 75 = .ok (.aload_n 0, 1) := by decide +kernel
theorem dX10_op_76 : decode cX10_op 76 = .ok (.getfield 60, 3) := by decide +kernel
theorem dX10_op_79 : decode cX10_op 79 = .ok (.iload 4, 2) := by decide +kernel
theorem dX10_op_81 : decode cX10_op 81 = .ok (.iload_n 3, 1) := by decide +kernel
theorem dX10_op_82 : decode cX10_op 82 = .ok (.iastore, 1) := by decide +kernel
theorem dX10_op_83 : decode cX10_op 83 = .ok (.aload_n 0, 1) := by decide +kernel
theorem dX10_op_84 : decode cX10_op 84 = .ok (.getfield 51, 3) := by decide +kernel
theorem dX10_op_87 : decode cX10_op 87 = .ok (.aload_n 0, 1) := by decide +kernel
theorem dX10_op_88 : decode cX10_op 88 = .ok (.getfield 63, 3) := by decide +kernel
theorem dX10_op_91 : decode cX10_op 91 = .ok (.dup2, 1) := by decide +kernel
theorem dX10_op_92 : decode cX10_op 92 = .ok (.iaload, 1) := by decide +kernel
theorem dX10_op_93 : decode cX10_op 93 = .ok (.iconst 1, 1) := by decide +kernel
theorem dX10_op_94 : decode cX10_op 94 = .ok (.iadd, 1) := by decide +kernel
theorem dX10_op_95 : decode cX10_op 95 = .ok (.iastore, 1) := by decide +kernel
theorem dX10_op_96 : decode cX10_op 96 = .ok (.aload_n 0, 1) := by decide +kernel
theorem dX10_op_97 : decode cX10_op 97 = .ok (.getfield 51, 3) := by decide +kernel
theorem dX10_op_100 : decode cX10_op 100 = .ok (.aload_n 0, 1) := by decide +kernel
theorem dX10_op_101 : decode cX10_op 101 = .ok (.getfield 63, 3) := by decide +kernel
theorem dX10_op_104 : decode cX10_op 104 = .ok (.iaload, 1) := by decide +kernel
theorem dX10_op_105 : decode cX10_op 105 = .ok (.ireturn, 1) := by decide +kernel
set_option maxRecDepth 100000 in
set_option maxHeartbeats 4000000 in
theorem rt_X10_op (l : Launch) (m0 : Nat) (ad : Nat → Nat) (K : RS) (x0 : Int32) (x1 : Int32) (x2 : Int32) : Ct l yX10_op cX10_op 5 (some .int) 3 0 0 64 (fun S av => av = [.ref m0, .int x0, .int x1, .int x2] ∧ mdR S m0 ad K ∧ RV K) (fun S _ r S' => ∃ (v : Int32) (K' : RS), r = some (.int v) ∧ mdR S' m0 ad K' ∧ exm S S' m0 ad ∧ opP K x0 x1 x2 = (v, K')) := by
  refine ct_of (by decide) (fun S av h => by obtain ⟨rfl, hk, rv⟩ := h; exact Nat.le_of_ble_eq_true rfl) ?_
  intro p e s m args below meth c D G bs S av C hr hin hpre
  obtain ⟨rfl, hk, rv⟩ := hpre
  have E0 : exm S S m0 ad := exm_rfl
  obtain ⟨o, ho, b_o⟩ := rv.p14
  have hl := latO_eq ho b_o
  refine v_iload_n C dX10_op_0 rfl ?_
  refine v_iload_n C dX10_op_1 rfl ?_
  refine v_iload_n C dX10_op_2 rfl ?_
  refine v_callS (As := [_, _, _]) (n := 3) C (rt_X10_isOp l _ _ _) rfl ⟨wd424, wd425, wd5, wd426⟩ hy_X10_isOp rfl ⟨Nat.le_of_ble_eq_true rfl, Nat.le_of_ble_eq_true rfl⟩ (Nat.le_of_ble_eq_true rfl) ⟨Nat.le_of_ble_eq_true rfl, Nat.le_of_ble_eq_true rfl⟩ dX10_op_3 rfl (fun r_3 S2_3 h_3 => ?_)
  obtain ⟨v3, rfl, p_v3, q_v3⟩ := h_3
  obtain rfl := q_v3.symm
  refine b_if_ne (tgt := 12) C dX10_op_6 (by decide) (fun c_6 => ?_) (fun c_6 => ?_)
  · skip
    refine v_aload_n C dX10_op_12 rfl ?_
    refine q10_63 C hk dX10_op_13 ?_
    refine v_val ho ?_
    refine v_iconst (v := -1) C dX10_op_16 (by decide) ?_
    refine o_icmp_ne (tgt := 23) C (fun k z => by have := b_o k z; omega) dX10_op_17 (by decide) (fun k17 c_17 => ?_) (fun c_17 => ?_)
    · skip
      have b_k17 := b_o k17 c_17
      subst c_17
      obtain ⟨z1, z2⟩ := rv.p12 k17 b_k17
      refine v_aload_n C dX10_op_23 rfl ?_
      refine q10_51 C hk dX10_op_24 ?_
      refine v_aload_n C dX10_op_27 rfl ?_
      refine q10_63 C hk dX10_op_28 ?_
      refine v_val ho ?_
      refine n_iald C hk (show (15, 11, 624) ∈ mTab by decide +kernel) (by omega) dX10_op_31 ?_
      refine v_val z1 ?_
      refine v_bipush (v := nI 8) C dX10_op_32 (by decide) ?_
      refine n_icmp_ne (tgt := 40) C (by omega) (by omega) dX10_op_34 (by decide) (fun c_34 => ?_) (fun c_34 => ?_)
      · skip
        refine v_bipush (v := nI 8) C dX10_op_40 (by decide) ?_
        refine v_aload_n C dX10_op_42 rfl ?_
        refine q10_63 C hk dX10_op_43 ?_
        refine v_val ho ?_
        refine n_imul C dX10_op_46 ?_
        refine v_aload_n C dX10_op_47 rfl ?_
        refine q10_51 C hk dX10_op_48 ?_
        refine v_aload_n C dX10_op_51 rfl ?_
        refine q10_63 C hk dX10_op_52 ?_
        refine v_val ho ?_
        refine n_iald C hk (show (15, 11, 624) ∈ mTab by decide +kernel) (by omega) dX10_op_55 ?_
        refine v_val z1 ?_
        refine n_iadd C dX10_op_56 ?_
        refine v_istore C dX10_op_57 (by decide) rfl ?_
        refine v_aload_n C dX10_op_59 rfl ?_
        refine q10_54 C hk dX10_op_60 ?_
        refine v_iload C dX10_op_63 rfl ?_
        refine v_iload_n C dX10_op_65 rfl ?_
        refine n_iast C hk (show (16, 11, 4992) ∈ mTab by decide +kernel) (by omega) dX10_op_66 (fun S8_66 hk' x_66 => ?_)
        have E0 := exm_tr E0 x_66
        have hk := hk'
        clear hk'
        refine v_aload_n C dX10_op_67 rfl ?_
        refine q10_57 C hk dX10_op_68 ?_
        refine v_iload C dX10_op_71 rfl ?_
        refine v_iload_n C dX10_op_73 rfl ?_
        refine n_iast C hk (show (17, 11, 4992) ∈ mTab by decide +kernel) (by omega) dX10_op_74 (fun S8_74 hk' x_74 => ?_)
        have E0 := exm_tr E0 x_74
        have hk := hk'
        clear hk'
        refine v_aload_n C dX10_op_75 rfl ?_
        refine q10_60 C hk dX10_op_76 ?_
        refine v_iload C dX10_op_79 rfl ?_
        refine v_iload_n C dX10_op_81 rfl ?_
        refine n_iast C hk (show (18, 11, 4992) ∈ mTab by decide +kernel) (by omega) dX10_op_82 (fun S8_82 hk' x_82 => ?_)
        have E0 := exm_tr E0 x_82
        have hk := hk'
        clear hk'
        refine v_aload_n C dX10_op_83 rfl ?_
        refine q10_51 C hk dX10_op_84 ?_
        refine v_aload_n C dX10_op_87 rfl ?_
        refine q10_63 C hk dX10_op_88 ?_
        refine v_val ho ?_
        refine v_dup2 C dX10_op_91 rfl rfl ?_
        refine n_iald C hk (show (15, 11, 624) ∈ mTab by decide +kernel) (by omega) dX10_op_92 ?_
        refine v_val z1 ?_
        refine v_iconst (v := nI 1) C dX10_op_93 (by decide) ?_
        refine n_iadd C dX10_op_94 ?_
        refine n_iast C hk (show (15, 11, 624) ∈ mTab by decide +kernel) (by omega) dX10_op_95 (fun S8_95 hk' x_95 => ?_)
        have E0 := exm_tr E0 x_95
        have hk := hk'
        clear hk'
        refine v_aload_n C dX10_op_96 rfl ?_
        refine q10_51 C hk dX10_op_97 ?_
        refine v_aload_n C dX10_op_100 rfl ?_
        refine q10_63 C hk dX10_op_101 ?_
        refine v_val ho ?_
        refine n_iald C hk (show (15, 11, 624) ∈ mTab by decide +kernel) (by omega) dX10_op_104 ?_
        refine v_iret C hr (Nat.le_of_ble_eq_true rfl) (Nat.le_of_ble_eq_true rfl) dX10_op_105 ?_
        exact ⟨_, _, rfl, hk, E0, (by
          have e : opP K x0 x1 x2 = (nI (rN K 15 k17 + 1), opK K k17 x0 x1 x2) := by simp [opP, hl, ← p_v3, c_6, c_34]
          rw [e]
          congr 1
          exact ((rA_wA ..).trans (if_pos ⟨rfl, rfl⟩)).symm)⟩
      · skip
        refine v_bipush (v := -4) C dX10_op_37 (by decide) ?_
        refine v_iret C hr (Nat.le_of_ble_eq_true rfl) (Nat.le_of_ble_eq_true rfl) dX10_op_39 ?_
        exact ⟨_, _, rfl, hk, E0, (by simp [opP, opK, hl, ← p_v3, c_6, c_34])⟩
    · skip
      subst c_17
      refine v_bipush (v := -3) C dX10_op_20 (by decide) ?_
      refine v_iret C hr (Nat.le_of_ble_eq_true rfl) (Nat.le_of_ble_eq_true rfl) dX10_op_22 ?_
      exact ⟨_, _, rfl, hk, E0, (by simp [opP, opK, hl, ← p_v3, c_6])⟩
  · skip
    refine v_bipush (v := -2) C dX10_op_9 (by decide) ?_
    refine v_iret C hr (Nat.le_of_ble_eq_true rfl) (Nat.le_of_ble_eq_true rfl) dX10_op_11 ?_
    exact ⟨_, _, rfl, hk, E0, (by simp [opP, opK, hl, ← p_v3, c_6])⟩
theorem dX10_leave_0 : decode cX10_leave 0 = .ok (.aload_n 0, 1) := by decide +kernel
theorem dX10_leave_1 : decode cX10_leave 1 = .ok (.iload_n 1, 1) := by decide +kernel
theorem dX10_leave_2 : decode cX10_leave 2 = .ok (.invokevirtual 176, 3) := by decide +kernel
theorem dX10_leave_5 : decode cX10_leave 5 = .ok (.ifCond .eq 18, 3) := by decide +kernel
theorem dX10_leave_8 : decode cX10_leave 8 = .ok (.aload_n 0, 1) := by decide +kernel
theorem dX10_leave_9 : decode cX10_leave 9 = .ok (.iload_n 2, 1) := by decide +kernel
theorem dX10_leave_10 : decode cX10_leave 10 = .ok (.invokevirtual 166, 3) := by decide +kernel
theorem dX10_leave_13 : decode cX10_leave 13 = .ok (.ifCond .eq 10, 3) := by decide +kernel
theorem dX10_leave_16 : decode cX10_leave 16 = .ok (.iload_n 3, 1) := by decide +kernel
theorem dX10_leave_17 : decode cX10_leave 17 = .ok (.invokestatic 179, 3) := by decide +kernel
theorem dX10_leave_20 : decode cX10_leave 20 = .ok (.ifCond .ne 6, 3) := by decide +kernel
theorem dX10_leave_23 : decode cX10_leave 23 = .ok (.bipush (-2), 2) := by decide +kernel
theorem dX10_leave_25 : decode cX10_leave 25 = .ok (.ireturn, 1) := by decide +kernel
theorem dX10_leave_26 : decode cX10_leave 26 = .ok (.aload_n 0, 1) := by decide +kernel
theorem dX10_leave_27 : decode cX10_leave 27 = .ok (.iload_n 1, 1) := by decide +kernel
theorem dX10_leave_28 : decode cX10_leave 28 = .ok (.iload_n 2, 1) := by decide +kernel
theorem dX10_leave_29 : decode cX10_leave 29 = .ok (.iload_n 3, 1) := by decide +kernel
theorem dX10_leave_30 : decode cX10_leave 30 = .ok (.invokevirtual 189, 3) := by decide +kernel
theorem dX10_leave_33 : decode cX10_leave 33 = .ok (.ifCond .eq 5, 3) := by decide +kernel
theorem dX10_leave_36 : decode cX10_leave 36 = .ok (.iconst 0, 1) := by decide +kernel
theorem dX10_leave_37 : decode cX10_leave 37 = .ok (.ireturn, 1) := by decide +kernel
theorem dX10_leave_38 : decode cX10_leave 38 = .ok (.aload_n 0, 1) := by decide +kernel
theorem dX10_leave_39 : decode cX10_leave 39 = .ok (.getfield 67, 3) := by decide +kernel
theorem dX10_leave_42 : decode cX10_leave 42 = .ok (.iload_n 1, 1) := by decide +kernel
theorem dX10_leave_43 : decode cX10_leave 43 = .ok (.iaload, 1) := by decide +kernel
theorem dX10_leave_44 : decode cX10_leave 44 = .ok (.bipush 8, 2) := by decide +kernel
theorem dX10_leave_46 : decode cX10_leave 46 = .ok (.if_icmp .ne 6, 3) := by decide +kernel
theorem dX10_leave_49 : decode cX10_leave 49 = .ok (.bipush (-4), 2) := by decide +kernel
theorem dX10_leave_51 : decode cX10_leave 51 = .ok (.ireturn, 1) := by decide +kernel
theorem dX10_leave_52 : decode cX10_leave 52 = .ok (.aload_n 0, 1) := by decide +kernel
theorem dX10_leave_53 : decode cX10_leave 53 = .ok (.getfield 70, 3) := by decide +kernel
theorem dX10_leave_56 : decode cX10_leave 56 = .ok (.bipush 8, 2) := by decide +kernel
theorem dX10_leave_58 : decode cX10_leave 58 = .ok (.iload_n 1, 1) := by decide +kernel
theorem dX10_leave_59 : decode cX10_leave 59 = .ok (.imul, 1) := by decide +kernel
theorem dX10_leave_60 : decode cX10_leave 60 = .ok (.aload_n 0, 1) := by decide +kernel
theorem dX10_leave_61 : decode cX10_leave 61 = .ok (.getfield 67, 3) := by decide +kernel
theorem dX10_leave_64 : decode cX10_leave 64 = .ok (.iload_n 1, 1) := by decide +kernel
theorem dX10_leave_65 : decode cX10_leave 65 = .ok (.iaload, 1) := by decide +kernel
theorem dX10_leave_66 : decode cX10_leave 66 = .ok (.iadd, 1) := by decide +kernel
theorem dX10_leave_67 : decode cX10_leave 67 = .ok (.iload_n 2, 1) := by decide +kernel
theorem dX10_leave_68 : decode cX10_leave 68 = .ok (.iastore, 1) := by decide +kernel
theorem dX10_leave_69 : decode cX10_leave 69 = .ok (.aload_n 0, 1) := by decide +kernel
theorem dX10_leave_70 : decode cX10_leave 70 = .ok (.getfield 73, 3) := by decide +kernel
theorem dX10_leave_73 : decode cX10_leave 73 = .ok (.bipush 8, 2) := by decide +kernel
theorem dX10_leave_75 : decode cX10_leave 75 = .ok (.iload_n 1, 1) := by decide +kernel
theorem dX10_leave_76 : decode cX10_leave 76 = .ok (.imul, 1) := by decide +kernel
theorem dX10_leave_77 : decode cX10_leave 77 = .ok (.aload_n 0, 1) := by decide +kernel
theorem dX10_leave_78 : decode cX10_leave 78 = .ok (.getfield 67, 3) := by decide +kernel
theorem dX10_leave_81 : decode cX10_leave 81 = .ok (.iload_n 1, 1) := by decide +kernel
theorem dX10_leave_82 : decode cX10_leave 82 = .ok (.iaload, 1) := by decide +kernel
theorem dX10_leave_83 : decode cX10_leave 83 = .ok (.iadd, 1) := by decide +kernel
theorem dX10_leave_84 : decode cX10_leave 84 = .ok (.iload_n 3, 1) := by decide +kernel
theorem dX10_leave_85 : decode cX10_leave 85 = .ok (.iastore, 1) := by decide +kernel
theorem dX10_leave_86 : decode cX10_leave 86 = .ok (.aload_n 0, 1) := by decide +kernel
theorem dX10_leave_87 : decode cX10_leave 87 = .ok (.getfield 67, 3) := by decide +kernel
theorem dX10_leave_90 : decode cX10_leave 90 = .ok (.iload_n 1, 1) := by decide +kernel
theorem dX10_leave_91 : decode cX10_leave 91 = .ok (.dup2, 1) := by decide +kernel
theorem dX10_leave_92 : decode cX10_leave 92 = .ok (.iaload, 1) := by decide +kernel
theorem dX10_leave_93 : decode cX10_leave 93 = .ok (.iconst 1, 1) := by decide +kernel
theorem dX10_leave_94 : decode cX10_leave 94 = .ok (.iadd, 1) := by decide +kernel
theorem dX10_leave_95 : decode cX10_leave 95 = .ok (.iastore, 1) := by decide +kernel
theorem dX10_leave_96 : decode cX10_leave 96 = .ok (.iconst 1, 1) := by decide +kernel
theorem dX10_leave_97 : decode cX10_leave 97 = .ok (.ireturn, 1) := by decide +kernel
set_option maxRecDepth 100000 in
set_option maxHeartbeats 4000000 in
theorem rt_X10_leave (l : Launch) (m0 : Nat) (ad : Nat → Nat) (K : RS) (x0 : Int32) (x1 : Int32) (x2 : Int32) : Ct l yX10_leave cX10_leave 4 (some .int) 2 0 0 43 (fun S av => av = [.ref m0, .int x0, .int x1, .int x2] ∧ mdR S m0 ad K ∧ RV K) (fun S _ r S' => ∃ (v : Int32) (K' : RS), r = some (.int v) ∧ mdR S' m0 ad K' ∧ exm S S' m0 ad ∧ leaveP K x0 x1 x2 = (v, K')) := by
  refine ct_of (by decide) (fun S av h => by obtain ⟨rfl, hk, rv⟩ := h; exact Nat.le_of_ble_eq_true rfl) ?_
  intro p e s m args below meth c D G bs S av C hr hin hpre
  obtain ⟨rfl, hk, rv⟩ := hpre
  have E0 : exm S S m0 ad := exm_rfl
  refine v_aload_n C dX10_leave_0 rfl ?_
  refine v_iload_n C dX10_leave_1 rfl ?_
  refine v_callV (As := [_]) (n := 1) C (rt_X10_isCharacter l m0 ad _ _) rfl hk.1 (by decide) rfl ⟨wd334, wd335, wd336, wd5, wd337⟩ ⟨rfl, hy_X10_isCharacter⟩ rfl ⟨Nat.le_of_ble_eq_true rfl, Nat.le_of_ble_eq_true rfl⟩ (Nat.le_of_ble_eq_true rfl) ⟨Nat.le_of_ble_eq_true rfl, Nat.le_of_ble_eq_true rfl⟩ dX10_leave_2 ⟨rfl, hk, rv⟩ (fun r_2 S2_2 h_2 => ?_)
  obtain ⟨v2, rfl, p_v2, q_v2⟩ := h_2
  obtain rfl := q_v2.symm
  refine b_if_eq (tgt := 23) C dX10_leave_5 (by decide) (fun c_5 => ?_) (fun c_5 => ?_)
  · skip
    refine v_bipush (v := -2) C dX10_leave_23 (by decide) ?_
    refine v_iret C hr (Nat.le_of_ble_eq_true rfl) (Nat.le_of_ble_eq_true rfl) dX10_leave_25 ?_
    exact ⟨_, _, rfl, hk, E0, (by simp [leaveP, ← p_v2, c_5])⟩
  · skip
    obtain ⟨u, h0u, rfl⟩ := below_some (p_v2.symm.trans c_5)
    have hu : u < 12 := by have := rv.p2.2; omega
    have e_u := nI_clamp (show u < 2 ^ 31 by omega)
    refine v_aload_n C dX10_leave_8 rfl ?_
    refine v_iload_n C dX10_leave_9 rfl ?_
    refine v_callV (As := [_]) (n := 1) C (rt_X10_isTrait l m0 ad _ _) rfl hk.1 (by decide) rfl ⟨wd240, wd241, wd242, wd5, wd243⟩ ⟨rfl, hy_X10_isTrait⟩ rfl ⟨Nat.le_of_ble_eq_true rfl, Nat.le_of_ble_eq_true rfl⟩ (Nat.le_of_ble_eq_true rfl) ⟨Nat.le_of_ble_eq_true rfl, Nat.le_of_ble_eq_true rfl⟩ dX10_leave_10 ⟨rfl, hk, rv⟩ (fun r_10 S4_10 h_10 => ?_)
    obtain ⟨v10, rfl, p_v10, q_v10⟩ := h_10
    obtain rfl := q_v10.symm
    refine b_if_eq (tgt := 23) C dX10_leave_13 (by decide) (fun c_13 => ?_) (fun c_13 => ?_)
    · skip
      refine v_bipush (v := -2) C dX10_leave_23 (by decide) ?_
      refine v_iret C hr (Nat.le_of_ble_eq_true rfl) (Nat.le_of_ble_eq_true rfl) dX10_leave_25 ?_
      exact ⟨_, _, rfl, hk, E0, (by simp [leaveP, ← p_v2, c_5, e_u, ← p_v10, c_13])⟩
    · skip
      obtain ⟨t, h0t, rfl⟩ := below_some (p_v10.symm.trans c_13)
      have ht : t < 20 := by have := rv.p1.2; omega
      have e_t := nI_clamp (show t < 2 ^ 31 by omega)
      refine v_iload_n C dX10_leave_16 rfl ?_
      refine v_callS (As := [_]) (n := 1) C (rt_X10_isAct l _) rfl ⟨wd368, wd369, wd5, wd370⟩ hy_X10_isAct rfl ⟨Nat.le_of_ble_eq_true rfl, Nat.le_of_ble_eq_true rfl⟩ (Nat.le_of_ble_eq_true rfl) ⟨Nat.le_of_ble_eq_true rfl, Nat.le_of_ble_eq_true rfl⟩ dX10_leave_17 rfl (fun r_17 S6_17 h_17 => ?_)
      obtain ⟨v17, rfl, p_v17, q_v17⟩ := h_17
      obtain rfl := q_v17.symm
      refine b_if_ne (tgt := 26) C dX10_leave_20 (by decide) (fun c_20 => ?_) (fun c_20 => ?_)
      · skip
        obtain ⟨n, hn, rfl⟩ := below_some (p_v17.symm.trans c_20)
        have e_n := nI_clamp (show n < 2 ^ 31 by omega)
        refine v_aload_n C dX10_leave_26 rfl ?_
        refine v_iload_n C dX10_leave_27 rfl ?_
        refine v_iload_n C dX10_leave_28 rfl ?_
        refine v_iload_n C dX10_leave_29 rfl ?_
        refine v_callV (As := [_, _, _]) (n := 3) C (rt_X10_leaves l m0 ad _ _ _ _) rfl hk.1 (by decide) rfl ⟨wd448, wd449, wd450, wd5, wd451⟩ ⟨rfl, hy_X10_leaves⟩ rfl ⟨Nat.le_of_ble_eq_true rfl, Nat.le_of_ble_eq_true rfl⟩ (Nat.le_of_ble_eq_true rfl) ⟨Nat.le_of_ble_eq_true rfl, Nat.le_of_ble_eq_true rfl⟩ dX10_leave_30 ⟨rfl, hk, rv, (by omega)⟩ (fun r_30 S8_30 h_30 => ?_)
        obtain ⟨v30, rfl, p_v30, q_v30⟩ := h_30
        obtain rfl := q_v30.symm
        refine b_if_eq (tgt := 38) C dX10_leave_33 (by decide) (fun c_33 => ?_) (fun c_33 => ?_)
        · skip
          refine v_aload_n C dX10_leave_38 rfl ?_
          obtain ⟨z1, z2⟩ := rv.p9 u hu
          refine q10_67 C hk dX10_leave_39 ?_
          refine v_iload_n C dX10_leave_42 rfl ?_
          refine n_iald C hk (show (20, 11, 12) ∈ mTab by decide +kernel) (by omega) dX10_leave_43 ?_
          refine v_val z1 ?_
          refine v_bipush (v := nI 8) C dX10_leave_44 (by decide) ?_
          refine n_icmp_ne (tgt := 52) C (by omega) (by omega) dX10_leave_46 (by decide) (fun c_46 => ?_) (fun c_46 => ?_)
          · skip
            refine v_aload_n C dX10_leave_52 rfl ?_
            refine q10_70 C hk dX10_leave_53 ?_
            refine v_bipush (v := nI 8) C dX10_leave_56 (by decide) ?_
            refine v_iload_n C dX10_leave_58 rfl ?_
            refine n_imul C dX10_leave_59 ?_
            refine v_aload_n C dX10_leave_60 rfl ?_
            refine q10_67 C hk dX10_leave_61 ?_
            refine v_iload_n C dX10_leave_64 rfl ?_
            refine n_iald C hk (show (20, 11, 12) ∈ mTab by decide +kernel) (by omega) dX10_leave_65 ?_
            refine v_val z1 ?_
            refine n_iadd C dX10_leave_66 ?_
            refine v_iload_n C dX10_leave_67 rfl ?_
            refine n_iast C hk (show (21, 11, 96) ∈ mTab by decide +kernel) (by omega) dX10_leave_68 (fun S12_68 hk' x_68 => ?_)
            have E0 := exm_tr E0 x_68
            have hk := hk'
            clear hk'
            refine v_aload_n C dX10_leave_69 rfl ?_
            refine q10_73 C hk dX10_leave_70 ?_
            refine v_bipush (v := nI 8) C dX10_leave_73 (by decide) ?_
            refine v_iload_n C dX10_leave_75 rfl ?_
            refine n_imul C dX10_leave_76 ?_
            refine v_aload_n C dX10_leave_77 rfl ?_
            refine q10_67 C hk dX10_leave_78 ?_
            refine v_iload_n C dX10_leave_81 rfl ?_
            refine n_iald C hk (show (20, 11, 12) ∈ mTab by decide +kernel) (by omega) dX10_leave_82 ?_
            refine v_val z1 ?_
            refine n_iadd C dX10_leave_83 ?_
            refine v_iload_n C dX10_leave_84 rfl ?_
            refine n_iast C hk (show (22, 11, 96) ∈ mTab by decide +kernel) (by omega) dX10_leave_85 (fun S12_85 hk' x_85 => ?_)
            have E0 := exm_tr E0 x_85
            have hk := hk'
            clear hk'
            refine v_aload_n C dX10_leave_86 rfl ?_
            refine q10_67 C hk dX10_leave_87 ?_
            refine v_iload_n C dX10_leave_90 rfl ?_
            refine v_dup2 C dX10_leave_91 rfl rfl ?_
            refine n_iald C hk (show (20, 11, 12) ∈ mTab by decide +kernel) (by omega) dX10_leave_92 ?_
            refine v_val z1 ?_
            refine v_iconst (v := nI 1) C dX10_leave_93 (by decide) ?_
            refine n_iadd C dX10_leave_94 ?_
            refine n_iast C hk (show (20, 11, 12) ∈ mTab by decide +kernel) (by omega) dX10_leave_95 (fun S12_95 hk' x_95 => ?_)
            have E0 := exm_tr E0 x_95
            have hk := hk'
            clear hk'
            refine v_iconst (v := nI 1) C dX10_leave_96 (by decide) ?_
            refine v_iret C hr (Nat.le_of_ble_eq_true rfl) (Nat.le_of_ble_eq_true rfl) dX10_leave_97 ?_
            exact ⟨_, _, rfl, hk, E0, (by simp [leaveP, ← p_v2, c_5, e_u, ← p_v10, c_13, e_t, ← p_v17, c_20, e_n, ← p_v30, c_33, c_46])⟩
          · skip
            refine v_bipush (v := -4) C dX10_leave_49 (by decide) ?_
            refine v_iret C hr (Nat.le_of_ble_eq_true rfl) (Nat.le_of_ble_eq_true rfl) dX10_leave_51 ?_
            exact ⟨_, _, rfl, hk, E0, (by simp [leaveP, ← p_v2, c_5, e_u, ← p_v10, c_13, e_t, ← p_v17, c_20, e_n, ← p_v30, c_33, c_46])⟩
        · skip
          refine v_iconst (v := nI 0) C dX10_leave_36 (by decide) ?_
          refine v_iret C hr (Nat.le_of_ble_eq_true rfl) (Nat.le_of_ble_eq_true rfl) dX10_leave_37 ?_
          exact ⟨_, _, rfl, hk, E0, (by simp [leaveP, ← p_v2, c_5, e_u, ← p_v10, c_13, e_t, ← p_v17, c_20, e_n, ← p_v30, c_33])⟩
      · skip
        refine v_bipush (v := -2) C dX10_leave_23 (by decide) ?_
        refine v_iret C hr (Nat.le_of_ble_eq_true rfl) (Nat.le_of_ble_eq_true rfl) dX10_leave_25 ?_
        exact ⟨_, _, rfl, hk, E0, (by simp [leaveP, ← p_v2, c_5, e_u, ← p_v10, c_13, e_t, ← p_v17, c_20])⟩
theorem dX10_rename_0 : decode cX10_rename 0 = .ok (.aload_n 0, 1) := by decide +kernel
theorem dX10_rename_1 : decode cX10_rename 1 = .ok (.iload_n 1, 1) := by decide +kernel
theorem dX10_rename_2 : decode cX10_rename 2 = .ok (.invokevirtual 176, 3) := by decide +kernel
theorem dX10_rename_5 : decode cX10_rename 5 = .ok (.ifCond .eq 32, 3) := by decide +kernel
theorem dX10_rename_8 : decode cX10_rename 8 = .ok (.aload_n 0, 1) := by decide +kernel
theorem dX10_rename_9 : decode cX10_rename 9 = .ok (.iload_n 2, 1) := by decide +kernel
theorem dX10_rename_10 : decode cX10_rename 10 = .ok (.invokevirtual 166, 3) := by decide +kernel
theorem dX10_rename_13 : decode cX10_rename 13 = .ok (.ifCond .eq 24, 3) := by decide +kernel
theorem dX10_rename_16 : decode cX10_rename 16 = .ok (.iload_n 3, 1) := by decide +kernel
theorem dX10_rename_17 : decode cX10_rename 17 = .ok (.invokestatic 179, 3) := by decide +kernel
theorem dX10_rename_20 : decode cX10_rename 20 = .ok (.ifCond .eq 17, 3) := by decide +kernel
theorem dX10_rename_23 : decode cX10_rename 23 = .ok (.iload 4, 2) := by decide +kernel
theorem dX10_rename_25 : decode cX10_rename 25 = .ok (.invokestatic 179, 3) := by decide +kernel
theorem dX10_rename_28 : decode cX10_rename 28 = .ok (.ifCond .eq 9, 3) := by decide +kernel
theorem dX10_rename_31 : decode cX10_rename 31 = .ok (.iload_n 3, 1) := by decide +kernel
theorem dX10_rename_32 : decode cX10_rename 32 = .ok (.iload 4, 2) := by decide +kernel
theorem dX10_rename_34 : decode cX10_rename 34 = .ok (.if_icmp .ne 6, 3) := by decide +kernel
theorem dX10_rename_37 : decode cX10_rename 37 = .ok (.bipush (-2), 2) := by decide +kernel
theorem dX10_rename_39 : decode cX10_rename 39 = .ok (.ireturn, 1) := by decide +kernel
theorem dX10_rename_40 : decode cX10_rename 40 = .ok (.aload_n 0, 1) := by decide +kernel
theorem dX10_rename_41 : decode cX10_rename 41 = .ok (.iload_n 1, 1) := by decide +kernel
theorem dX10_rename_42 : decode cX10_rename 42 = .ok (.iload_n 2, 1) := by decide +kernel
theorem dX10_rename_43 : decode cX10_rename 43 = .ok (.iload_n 3, 1) := by decide +kernel
theorem dX10_rename_44 : decode cX10_rename 44 = .ok (.invokevirtual 192, 3) := by decide +kernel
theorem dX10_rename_47 : decode cX10_rename 47 = .ok (.iconst (-1), 1) := by decide +kernel
theorem dX10_rename_48 : decode cX10_rename 48 = .ok (.if_icmp .ne 15, 3) := by decide +kernel
theorem dX10_rename_51 : decode cX10_rename 51 = .ok (.aload_n 0, 1) := by decide +kernel
theorem dX10_rename_52 : decode cX10_rename 52 = .ok (.iload_n 1, 1) := by decide +kernel
theorem dX10_rename_53 : decode cX10_rename 53 = .ok (.iload_n 2, 1) := by decide +kernel
theorem dX10_rename_54 : decode cX10_rename 54 = .ok (.iload 4, 2) := by decide +kernel
theorem dX10_rename_56 : decode cX10_rename 56 = .ok (.invokevirtual 196, 3) := by decide +kernel
theorem dX10_rename_59 : decode cX10_rename 59 = .ok (.iconst (-1), 1) := by decide +kernel
theorem dX10_rename_60 : decode cX10_rename 60 = .ok (.if_icmp .eq 6, 3) := by decide +kernel
theorem dX10_rename_63 : decode cX10_rename 63 = .ok (.bipush (-3), 2) := by decide +kernel
theorem dX10_rename_65 : decode cX10_rename 65 = .ok (.ireturn, 1) := by decide +kernel
theorem dX10_rename_66 : decode cX10_rename 66 = .ok (.aload_n 0, 1) := by decide +kernel
theorem dX10_rename_67 : decode cX10_rename 67 = .ok (.getfield 76, 3) := by decide +kernel
theorem dX10_rename_70 : decode cX10_rename 70 = .ok (.iload_n 1, 1) := by decide +kernel
theorem dX10_rename_71 : decode cX10_rename 71 = .ok (.iaload, 1) := by decide +kernel
theorem dX10_rename_72 : decode cX10_rename 72 = .ok (.bipush 8, 2) := by decide +kernel
theorem dX10_rename_74 : decode cX10_rename 74 = .ok (.if_icmp .ne 6, 3) := by decide +kernel
theorem dX10_rename_77 : decode cX10_rename 77 = .ok (.bipush (-4), 2) := by decide +kernel
theorem dX10_rename_79 : decode cX10_rename 79 = .ok (.ireturn, 1) := by decide +kernel
theorem dX10_rename_80 : decode cX10_rename 80 = .ok (.bipush 8, 2) := by decide +kernel
theorem dX10_rename_82 : decode cX10_rename 82 = .ok (.iload_n 1, 1) := by decide +kernel
theorem dX10_rename_83 : decode cX10_rename 83 = .ok (.imul, 1) := by decide +kernel
theorem dX10_rename_84 : decode cX10_rename 84 = .ok (.aload_n 0, 1) := by decide +kernel
theorem dX10_rename_85 : decode cX10_rename 85 = .ok (.getfield 76, 3) := by decide +kernel
theorem dX10_rename_88 : decode cX10_rename 88 = .ok (.iload_n 1, 1) := by decide +kernel
theorem dX10_rename_89 : decode cX10_rename 89 = .ok (.iaload, 1) := by decide +kernel
theorem dX10_rename_90 : decode cX10_rename 90 = .ok (.iadd, 1) := by decide +kernel
theorem dX10_rename_91 : decode cX10_rename 91 = .ok (.istore 5, 2) := by decide +kernel
theorem dX10_rename_93 : decode cX10_rename 93 = .ok (.aload_n 0, 1) := by decide +kernel
theorem dX10_rename_94 : decode cX10_rename 94 = .ok (.getfield 79, 3) := by decide +kernel
theorem dX10_rename_97 : decode cX10_rename 97 = .ok (.iload 5, 2) := by decide +kernel
theorem dX10_rename_99 : decode cX10_rename 99 = .ok (.iload_n 2, 1) := by decide +kernel
theorem dX10_rename_100 : decode cX10_rename 100 = .ok (.iastore, 1) := by decide +kernel
theorem dX10_rename_101 : decode cX10_rename 101 = .ok (.aload_n 0, 1) := by decide +kernel
theorem dX10_rename_102 : decode cX10_rename 102 = .ok (.getfield 82, 3) := by decide +kernel
theorem dX10_rename_105 : decode cX10_rename 105 = .ok (.iload 5, 2) := by decide +kernel
theorem dX10_rename_107 : decode cX10_rename 107 = .ok (.iload_n 3, 1) := by decide +kernel
theorem dX10_rename_108 : decode cX10_rename 108 = .ok (.iastore, 1) := by decide +kernel
theorem dX10_rename_109 : decode cX10_rename 109 = .ok (.aload_n 0, 1) := by decide +kernel
theorem dX10_rename_110 : decode cX10_rename 110 = .ok (.getfield 85, 3) := by decide +kernel
theorem dX10_rename_113 : decode cX10_rename 113 = .ok (.iload 5, 2) := by decide +kernel
theorem dX10_rename_115 : decode cX10_rename 115 = .ok (.iload 4, 2) := by decide +kernel
theorem dX10_rename_117 : decode cX10_rename 117 = .ok (.iastore, 1) := by decide +kernel
theorem dX10_rename_118 : decode cX10_rename 118 = .ok (.aload_n 0, 1) := by decide +kernel
theorem dX10_rename_119 : decode cX10_rename 119 = .ok (.getfield 76, 3) := by decide +kernel
theorem dX10_rename_122 : decode cX10_rename 122 = .ok (.iload_n 1, 1) := by decide +kernel
theorem dX10_rename_123 : decode cX10_rename 123 = .ok (.dup2, 1) := by decide +kernel
theorem dX10_rename_124 : decode cX10_rename 124 = .ok (.iaload, 1) := by decide +kernel
theorem dX10_rename_125 : decode cX10_rename 125 = .ok (.iconst 1, 1) := by decide +kernel
theorem dX10_rename_126 : decode cX10_rename 126 = .ok (.iadd, 1) := by decide +kernel
theorem dX10_rename_127 : decode cX10_rename 127 = .ok (.iastore, 1) := by decide +kernel
theorem dX10_rename_128 : decode cX10_rename 128 = .ok (.iconst 1, 1) := by decide +kernel
theorem dX10_rename_129 : decode cX10_rename 129 = .ok (.ireturn, 1) := by decide +kernel
set_option maxRecDepth 100000 in
set_option maxHeartbeats 4000000 in
theorem rt_X10_rename (l : Launch) (m0 : Nat) (ad : Nat → Nat) (K : RS) (x0 : Int32) (x1 : Int32) (x2 : Int32) (x3 : Int32) : Ct l yX10_rename cX10_rename 6 (some .int) 2 0 0 43 (fun S av => av = [.ref m0, .int x0, .int x1, .int x2, .int x3] ∧ mdR S m0 ad K ∧ RV K) (fun S _ r S' => ∃ (v : Int32) (K' : RS), r = some (.int v) ∧ mdR S' m0 ad K' ∧ exm S S' m0 ad ∧ renameP K x0 x1 x2 x3 = (v, K')) := by
  refine ct_of (by decide) (fun S av h => by obtain ⟨rfl, hk, rv⟩ := h; exact Nat.le_of_ble_eq_true rfl) ?_
  intro p e s m args below meth c D G bs S av C hr hin hpre
  obtain ⟨rfl, hk, rv⟩ := hpre
  have E0 : exm S S m0 ad := exm_rfl
  refine v_aload_n C dX10_rename_0 rfl ?_
  refine v_iload_n C dX10_rename_1 rfl ?_
  refine v_callV (As := [_]) (n := 1) C (rt_X10_isCharacter l m0 ad _ _) rfl hk.1 (by decide) rfl ⟨wd334, wd335, wd336, wd5, wd337⟩ ⟨rfl, hy_X10_isCharacter⟩ rfl ⟨Nat.le_of_ble_eq_true rfl, Nat.le_of_ble_eq_true rfl⟩ (Nat.le_of_ble_eq_true rfl) ⟨Nat.le_of_ble_eq_true rfl, Nat.le_of_ble_eq_true rfl⟩ dX10_rename_2 ⟨rfl, hk, rv⟩ (fun r_2 S2_2 h_2 => ?_)
  obtain ⟨v2, rfl, p_v2, q_v2⟩ := h_2
  obtain rfl := q_v2.symm
  refine b_if_eq (tgt := 37) C dX10_rename_5 (by decide) (fun c_5 => ?_) (fun c_5 => ?_)
  · skip
    refine v_bipush (v := -2) C dX10_rename_37 (by decide) ?_
    refine v_iret C hr (Nat.le_of_ble_eq_true rfl) (Nat.le_of_ble_eq_true rfl) dX10_rename_39 ?_
    exact ⟨_, _, rfl, hk, E0, (by simp [renameP, renameK, ← p_v2, c_5])⟩
  · skip
    obtain ⟨u, h0u, rfl⟩ := below_some (p_v2.symm.trans c_5)
    have hu : u < 12 := by have := rv.p2.2; omega
    have e_u := nI_clamp (show u < 2 ^ 31 by omega)
    refine v_aload_n C dX10_rename_8 rfl ?_
    refine v_iload_n C dX10_rename_9 rfl ?_
    refine v_callV (As := [_]) (n := 1) C (rt_X10_isTrait l m0 ad _ _) rfl hk.1 (by decide) rfl ⟨wd240, wd241, wd242, wd5, wd243⟩ ⟨rfl, hy_X10_isTrait⟩ rfl ⟨Nat.le_of_ble_eq_true rfl, Nat.le_of_ble_eq_true rfl⟩ (Nat.le_of_ble_eq_true rfl) ⟨Nat.le_of_ble_eq_true rfl, Nat.le_of_ble_eq_true rfl⟩ dX10_rename_10 ⟨rfl, hk, rv⟩ (fun r_10 S4_10 h_10 => ?_)
    obtain ⟨v10, rfl, p_v10, q_v10⟩ := h_10
    obtain rfl := q_v10.symm
    refine b_if_eq (tgt := 37) C dX10_rename_13 (by decide) (fun c_13 => ?_) (fun c_13 => ?_)
    · skip
      refine v_bipush (v := -2) C dX10_rename_37 (by decide) ?_
      refine v_iret C hr (Nat.le_of_ble_eq_true rfl) (Nat.le_of_ble_eq_true rfl) dX10_rename_39 ?_
      exact ⟨_, _, rfl, hk, E0, (by simp [renameP, renameK, ← p_v2, c_5, e_u, ← p_v10, c_13])⟩
    · skip
      obtain ⟨t, h0t, rfl⟩ := below_some (p_v10.symm.trans c_13)
      have ht : t < 20 := by have := rv.p1.2; omega
      have e_t := nI_clamp (show t < 2 ^ 31 by omega)
      refine v_iload_n C dX10_rename_16 rfl ?_
      refine v_callS (As := [_]) (n := 1) C (rt_X10_isAct l _) rfl ⟨wd368, wd369, wd5, wd370⟩ hy_X10_isAct rfl ⟨Nat.le_of_ble_eq_true rfl, Nat.le_of_ble_eq_true rfl⟩ (Nat.le_of_ble_eq_true rfl) ⟨Nat.le_of_ble_eq_true rfl, Nat.le_of_ble_eq_true rfl⟩ dX10_rename_17 rfl (fun r_17 S6_17 h_17 => ?_)
      obtain ⟨v17, rfl, p_v17, q_v17⟩ := h_17
      obtain rfl := q_v17.symm
      refine b_if_eq (tgt := 37) C dX10_rename_20 (by decide) (fun c_20 => ?_) (fun c_20 => ?_)
      · skip
        refine v_bipush (v := -2) C dX10_rename_37 (by decide) ?_
        refine v_iret C hr (Nat.le_of_ble_eq_true rfl) (Nat.le_of_ble_eq_true rfl) dX10_rename_39 ?_
        exact ⟨_, _, rfl, hk, E0, (by simp [renameP, renameK, ← p_v2, c_5, e_u, ← p_v10, c_13, e_t, ← p_v17, c_20])⟩
      · skip
        obtain ⟨n, hn, rfl⟩ := below_some (p_v17.symm.trans c_20)
        have e_n := nI_clamp (show n < 2 ^ 31 by omega)
        refine v_iload C dX10_rename_23 rfl ?_
        refine v_callS (As := [_]) (n := 1) C (rt_X10_isAct l _) rfl ⟨wd368, wd369, wd5, wd370⟩ hy_X10_isAct rfl ⟨Nat.le_of_ble_eq_true rfl, Nat.le_of_ble_eq_true rfl⟩ (Nat.le_of_ble_eq_true rfl) ⟨Nat.le_of_ble_eq_true rfl, Nat.le_of_ble_eq_true rfl⟩ dX10_rename_25 rfl (fun r_25 S8_25 h_25 => ?_)
        obtain ⟨v25, rfl, p_v25, q_v25⟩ := h_25
        obtain rfl := q_v25.symm
        refine b_if_eq (tgt := 37) C dX10_rename_28 (by decide) (fun c_28 => ?_) (fun c_28 => ?_)
        · skip
          refine v_bipush (v := -2) C dX10_rename_37 (by decide) ?_
          refine v_iret C hr (Nat.le_of_ble_eq_true rfl) (Nat.le_of_ble_eq_true rfl) dX10_rename_39 ?_
          exact ⟨_, _, rfl, hk, E0, (by simp [renameP, renameK, ← p_v2, c_5, e_u, ← p_v10, c_13, e_t, ← p_v17, c_20, e_n, ← p_v25, c_28])⟩
        · skip
          obtain ⟨y, hy, rfl⟩ := below_some (p_v25.symm.trans c_28)
          have e_y := nI_clamp (show y < 2 ^ 31 by omega)
          refine v_iload_n C dX10_rename_31 rfl ?_
          refine v_iload C dX10_rename_32 rfl ?_
          refine n_icmp_ne (tgt := 40) C (by omega) (by omega) dX10_rename_34 (by decide) (fun c_34 => ?_) (fun c_34 => ?_)
          · skip
            have he : ¬ nI n = nI y := fun z => c_34 ((nI_eq (by omega) (by omega)).mp z)
            refine v_aload_n C dX10_rename_40 rfl ?_
            refine v_iload_n C dX10_rename_41 rfl ?_
            refine v_iload_n C dX10_rename_42 rfl ?_
            refine v_iload_n C dX10_rename_43 rfl ?_
            refine v_callV (As := [_, _, _]) (n := 3) C (rt_X10_renamed l m0 ad _ _ _ _) rfl hk.1 (by decide) rfl ⟨wd474, wd475, wd476, wd5, wd477⟩ ⟨rfl, hy_X10_renamed⟩ rfl ⟨Nat.le_of_ble_eq_true rfl, Nat.le_of_ble_eq_true rfl⟩ (Nat.le_of_ble_eq_true rfl) ⟨Nat.le_of_ble_eq_true rfl, Nat.le_of_ble_eq_true rfl⟩ dX10_rename_44 ⟨rfl, hk, rv, (by omega)⟩ (fun r_44 S12_44 h_44 => ?_)
            obtain ⟨v44, rfl, p_v44, b_v44, q_v44⟩ := h_44
            obtain rfl := q_v44.symm
            refine v_iconst (v := -1) C dX10_rename_47 (by decide) ?_
            refine o_icmp_ne (tgt := 63) C (fun k z => by have := b_v44 k z; omega) dX10_rename_48 (by decide) (fun k48 c_48 => ?_) (fun c_48 => ?_)
            · skip
              have b_k48 := b_v44 k48 c_48
              subst c_48
              refine v_bipush (v := -3) C dX10_rename_63 (by decide) ?_
              refine v_iret C hr (Nat.le_of_ble_eq_true rfl) (Nat.le_of_ble_eq_true rfl) dX10_rename_65 ?_
              exact ⟨_, _, rfl, hk, E0, (by simp [renameP, renameK, ← p_v2, c_5, e_u, ← p_v10, c_13, e_t, ← p_v17, c_20, e_n, ← p_v25, c_28, e_y, c_34, he, ← p_v44])⟩
            · skip
              subst c_48
              refine v_aload_n C dX10_rename_51 rfl ?_
              refine v_iload_n C dX10_rename_52 rfl ?_
              refine v_iload_n C dX10_rename_53 rfl ?_
              refine v_iload C dX10_rename_54 rfl ?_
              refine v_callV (As := [_, _, _]) (n := 3) C (rt_X10_named l m0 ad _ _ _ _) rfl hk.1 (by decide) rfl ⟨wd478, wd479, wd480, wd5, wd481⟩ ⟨rfl, hy_X10_named⟩ rfl ⟨Nat.le_of_ble_eq_true rfl, Nat.le_of_ble_eq_true rfl⟩ (Nat.le_of_ble_eq_true rfl) ⟨Nat.le_of_ble_eq_true rfl, Nat.le_of_ble_eq_true rfl⟩ dX10_rename_56 ⟨rfl, hk, rv, (by omega)⟩ (fun r_56 S14_56 h_56 => ?_)
              obtain ⟨v56, rfl, p_v56, b_v56, q_v56⟩ := h_56
              obtain rfl := q_v56.symm
              refine v_iconst (v := -1) C dX10_rename_59 (by decide) ?_
              refine o_icmp_eq (tgt := 66) C (fun k z => by have := b_v56 k z; omega) dX10_rename_60 (by decide) (fun c_60 => ?_) (fun k60 c_60 => ?_)
              · skip
                subst c_60
                refine v_aload_n C dX10_rename_66 rfl ?_
                obtain ⟨z1, z2⟩ := rv.p10 u hu
                refine q10_76 C hk dX10_rename_67 ?_
                refine v_iload_n C dX10_rename_70 rfl ?_
                refine n_iald C hk (show (23, 11, 12) ∈ mTab by decide +kernel) (by omega) dX10_rename_71 ?_
                refine v_val z1 ?_
                refine v_bipush (v := nI 8) C dX10_rename_72 (by decide) ?_
                refine n_icmp_ne (tgt := 80) C (by omega) (by omega) dX10_rename_74 (by decide) (fun c_74 => ?_) (fun c_74 => ?_)
                · skip
                  refine v_bipush (v := nI 8) C dX10_rename_80 (by decide) ?_
                  refine v_iload_n C dX10_rename_82 rfl ?_
                  refine n_imul C dX10_rename_83 ?_
                  refine v_aload_n C dX10_rename_84 rfl ?_
                  refine q10_76 C hk dX10_rename_85 ?_
                  refine v_iload_n C dX10_rename_88 rfl ?_
                  refine n_iald C hk (show (23, 11, 12) ∈ mTab by decide +kernel) (by omega) dX10_rename_89 ?_
                  refine v_val z1 ?_
                  refine n_iadd C dX10_rename_90 ?_
                  refine v_istore C dX10_rename_91 (by decide) rfl ?_
                  refine v_aload_n C dX10_rename_93 rfl ?_
                  refine q10_79 C hk dX10_rename_94 ?_
                  refine v_iload C dX10_rename_97 rfl ?_
                  refine v_iload_n C dX10_rename_99 rfl ?_
                  refine n_iast C hk (show (24, 11, 96) ∈ mTab by decide +kernel) (by omega) dX10_rename_100 (fun S18_100 hk' x_100 => ?_)
                  have E0 := exm_tr E0 x_100
                  have hk := hk'
                  clear hk'
                  refine v_aload_n C dX10_rename_101 rfl ?_
                  refine q10_82 C hk dX10_rename_102 ?_
                  refine v_iload C dX10_rename_105 rfl ?_
                  refine v_iload_n C dX10_rename_107 rfl ?_
                  refine n_iast C hk (show (25, 11, 96) ∈ mTab by decide +kernel) (by omega) dX10_rename_108 (fun S18_108 hk' x_108 => ?_)
                  have E0 := exm_tr E0 x_108
                  have hk := hk'
                  clear hk'
                  refine v_aload_n C dX10_rename_109 rfl ?_
                  refine q10_85 C hk dX10_rename_110 ?_
                  refine v_iload C dX10_rename_113 rfl ?_
                  refine v_iload C dX10_rename_115 rfl ?_
                  refine n_iast C hk (show (26, 11, 96) ∈ mTab by decide +kernel) (by omega) dX10_rename_117 (fun S18_117 hk' x_117 => ?_)
                  have E0 := exm_tr E0 x_117
                  have hk := hk'
                  clear hk'
                  refine v_aload_n C dX10_rename_118 rfl ?_
                  refine q10_76 C hk dX10_rename_119 ?_
                  refine v_iload_n C dX10_rename_122 rfl ?_
                  refine v_dup2 C dX10_rename_123 rfl rfl ?_
                  refine n_iald C hk (show (23, 11, 12) ∈ mTab by decide +kernel) (by omega) dX10_rename_124 ?_
                  refine v_val z1 ?_
                  refine v_iconst (v := nI 1) C dX10_rename_125 (by decide) ?_
                  refine n_iadd C dX10_rename_126 ?_
                  refine n_iast C hk (show (23, 11, 12) ∈ mTab by decide +kernel) (by omega) dX10_rename_127 (fun S18_127 hk' x_127 => ?_)
                  have E0 := exm_tr E0 x_127
                  have hk := hk'
                  clear hk'
                  refine v_iconst (v := nI 1) C dX10_rename_128 (by decide) ?_
                  refine v_iret C hr (Nat.le_of_ble_eq_true rfl) (Nat.le_of_ble_eq_true rfl) dX10_rename_129 ?_
                  exact ⟨_, _, rfl, hk, E0, (by simp [renameP, renameK, ← p_v2, c_5, e_u, ← p_v10, c_13, e_t, ← p_v17, c_20, e_n, ← p_v25, c_28, e_y, c_34, he, ← p_v44, ← p_v56, c_74])⟩
                · skip
                  refine v_bipush (v := -4) C dX10_rename_77 (by decide) ?_
                  refine v_iret C hr (Nat.le_of_ble_eq_true rfl) (Nat.le_of_ble_eq_true rfl) dX10_rename_79 ?_
                  exact ⟨_, _, rfl, hk, E0, (by simp [renameP, renameK, ← p_v2, c_5, e_u, ← p_v10, c_13, e_t, ← p_v17, c_20, e_n, ← p_v25, c_28, e_y, c_34, he, ← p_v44, ← p_v56, c_74])⟩
              · skip
                have b_k60 := b_v56 k60 c_60
                subst c_60
                refine v_bipush (v := -3) C dX10_rename_63 (by decide) ?_
                refine v_iret C hr (Nat.le_of_ble_eq_true rfl) (Nat.le_of_ble_eq_true rfl) dX10_rename_65 ?_
                exact ⟨_, _, rfl, hk, E0, (by simp [renameP, renameK, ← p_v2, c_5, e_u, ← p_v10, c_13, e_t, ← p_v17, c_20, e_n, ← p_v25, c_28, e_y, c_34, he, ← p_v44, ← p_v56])⟩
          · skip
            refine v_bipush (v := -2) C dX10_rename_37 (by decide) ?_
            refine v_iret C hr (Nat.le_of_ble_eq_true rfl) (Nat.le_of_ble_eq_true rfl) dX10_rename_39 ?_
            exact ⟨_, _, rfl, hk, E0, (by simp [renameP, renameK, ← p_v2, c_5, e_u, ← p_v10, c_13, e_t, ← p_v17, c_20, e_n, ← p_v25, c_28, e_y, c_34])⟩
theorem dX10_prefer_0 : decode cX10_prefer 0 = .ok (.aload_n 0, 1) := by decide +kernel
theorem dX10_prefer_1 : decode cX10_prefer 1 = .ok (.iload_n 1, 1) := by decide +kernel
theorem dX10_prefer_2 : decode cX10_prefer 2 = .ok (.invokevirtual 176, 3) := by decide +kernel
theorem dX10_prefer_5 : decode cX10_prefer 5 = .ok (.ifCond .eq 23, 3) := by decide +kernel
theorem dX10_prefer_8 : decode cX10_prefer 8 = .ok (.iload_n 2, 1) := by decide +kernel
theorem dX10_prefer_9 : decode cX10_prefer 9 = .ok (.invokestatic 179, 3) := by decide +kernel
theorem dX10_prefer_12 : decode cX10_prefer 12 = .ok (.ifCond .eq 16, 3) := by decide +kernel
theorem dX10_prefer_15 : decode cX10_prefer 15 = .ok (.iload_n 3, 1) := by decide +kernel
theorem dX10_prefer_16 : decode cX10_prefer 16 = .ok (.iconst (-1), 1) := by decide +kernel
theorem dX10_prefer_17 : decode cX10_prefer 17 = .ok (.if_icmp .eq 14, 3) := by decide +kernel
theorem dX10_prefer_20 : decode cX10_prefer 20 = .ok (.aload_n 0, 1) := by decide +kernel
theorem dX10_prefer_21 : decode cX10_prefer 21 = .ok (.iload_n 3, 1) := by decide +kernel
theorem dX10_prefer_22 : decode cX10_prefer 22 = .ok (.invokevirtual 166, 3) := by decide +kernel
theorem dX10_prefer_25 : decode cX10_prefer 25 = .ok (.ifCond .ne 6, 3) := by decide +kernel
theorem dX10_prefer_28 : decode cX10_prefer 28 = .ok (.bipush (-2), 2) := by decide +kernel
theorem dX10_prefer_30 : decode cX10_prefer 30 = .ok (.ireturn, 1) := by decide +kernel
theorem dX10_prefer_31 : decode cX10_prefer 31 = .ok (.aload_n 0, 1) := by decide +kernel
theorem dX10_prefer_32 : decode cX10_prefer 32 = .ok (.getfield 88, 3) := by decide +kernel
theorem dX10_prefer_35 : decode cX10_prefer 35 = .ok (.bipush 12, 2) := by decide +kernel
theorem dX10_prefer_37 : decode cX10_prefer 37 = .ok (.iload_n 1, 1) := by decide +kernel
theorem dX10_prefer_38 : decode cX10_prefer 38 = .ok (.imul, 1) := by decide +kernel
theorem dX10_prefer_39 : decode cX10_prefer 39 = .ok (.iload_n 2, 1) := by decide +kernel
theorem dX10_prefer_40 : decode cX10_prefer 40 = .ok (.iadd, 1) := by decide +kernel
theorem dX10_prefer_41 : decode cX10_prefer 41 = .ok (.iaload, 1) := by decide +kernel
theorem dX10_prefer_42 : decode cX10_prefer 42 = .ok (.istore 4, 2) := by decide +kernel
theorem dX10_prefer_44 : decode cX10_prefer 44 = .ok (.aload_n 0, 1) := by decide +kernel
theorem dX10_prefer_45 : decode cX10_prefer 45 = .ok (.getfield 88, 3) := by decide +kernel
theorem dX10_prefer_48 : decode cX10_prefer 48 = .ok (.bipush 12, 2) := by decide +kernel
theorem dX10_prefer_50 : decode cX10_prefer 50 = .ok (.iload_n 1, 1) := by decide +kernel
theorem dX10_prefer_51 : decode cX10_prefer 51 = .ok (.imul, 1) := by decide +kernel
theorem dX10_prefer_52 : decode cX10_prefer 52 = .ok (.iload_n 2, 1) := by decide +kernel
theorem dX10_prefer_53 : decode cX10_prefer 53 = .ok (.iadd, 1) := by decide +kernel
theorem dX10_prefer_54 : decode cX10_prefer 54 = .ok (.iload_n 3, 1) := by decide +kernel
theorem dX10_prefer_55 : decode cX10_prefer 55 = .ok (.iastore, 1) := by decide +kernel
theorem dX10_prefer_56 : decode cX10_prefer 56 = .ok (.iload 4, 2) := by decide +kernel
theorem dX10_prefer_58 : decode cX10_prefer 58 = .ok (.ireturn, 1) := by decide +kernel
set_option maxRecDepth 100000 in
set_option maxHeartbeats 4000000 in
theorem rt_X10_prefer (l : Launch) (m0 : Nat) (ad : Nat → Nat) (K : RS) (x0 : Int32) (x1 : Int32) (x2 : Int32) : Ct l yX10_prefer cX10_prefer 5 (some .int) 2 0 0 43 (fun S av => av = [.ref m0, .int x0, .int x1, .int x2] ∧ mdR S m0 ad K ∧ RV K) (fun S _ r S' => ∃ (v : Int32) (K' : RS), r = some (.int v) ∧ mdR S' m0 ad K' ∧ exm S S' m0 ad ∧ preferP K x0 x1 x2 = (v, K')) := by
  refine ct_of (by decide) (fun S av h => by obtain ⟨rfl, hk, rv⟩ := h; exact Nat.le_of_ble_eq_true rfl) ?_
  intro p e s m args below meth c D G bs S av C hr hin hpre
  obtain ⟨rfl, hk, rv⟩ := hpre
  have E0 : exm S S m0 ad := exm_rfl
  refine v_aload_n C dX10_prefer_0 rfl ?_
  refine v_iload_n C dX10_prefer_1 rfl ?_
  refine v_callV (As := [_]) (n := 1) C (rt_X10_isCharacter l m0 ad _ _) rfl hk.1 (by decide) rfl ⟨wd334, wd335, wd336, wd5, wd337⟩ ⟨rfl, hy_X10_isCharacter⟩ rfl ⟨Nat.le_of_ble_eq_true rfl, Nat.le_of_ble_eq_true rfl⟩ (Nat.le_of_ble_eq_true rfl) ⟨Nat.le_of_ble_eq_true rfl, Nat.le_of_ble_eq_true rfl⟩ dX10_prefer_2 ⟨rfl, hk, rv⟩ (fun r_2 S2_2 h_2 => ?_)
  obtain ⟨v2, rfl, p_v2, q_v2⟩ := h_2
  obtain rfl := q_v2.symm
  refine b_if_eq (tgt := 28) C dX10_prefer_5 (by decide) (fun c_5 => ?_) (fun c_5 => ?_)
  · skip
    refine v_bipush (v := -2) C dX10_prefer_28 (by decide) ?_
    refine v_iret C hr (Nat.le_of_ble_eq_true rfl) (Nat.le_of_ble_eq_true rfl) dX10_prefer_30 ?_
    exact ⟨_, _, rfl, hk, E0, (by simp [preferP, ← p_v2, c_5])⟩
  · skip
    obtain ⟨u, h0u, rfl⟩ := below_some (p_v2.symm.trans c_5)
    have hu : u < 12 := by have := rv.p2.2; omega
    have e_u := nI_clamp (show u < 2 ^ 31 by omega)
    refine v_iload_n C dX10_prefer_8 rfl ?_
    refine v_callS (As := [_]) (n := 1) C (rt_X10_isAct l _) rfl ⟨wd368, wd369, wd5, wd370⟩ hy_X10_isAct rfl ⟨Nat.le_of_ble_eq_true rfl, Nat.le_of_ble_eq_true rfl⟩ (Nat.le_of_ble_eq_true rfl) ⟨Nat.le_of_ble_eq_true rfl, Nat.le_of_ble_eq_true rfl⟩ dX10_prefer_9 rfl (fun r_9 S4_9 h_9 => ?_)
    obtain ⟨v9, rfl, p_v9, q_v9⟩ := h_9
    obtain rfl := q_v9.symm
    refine b_if_eq (tgt := 28) C dX10_prefer_12 (by decide) (fun c_12 => ?_) (fun c_12 => ?_)
    · skip
      refine v_bipush (v := -2) C dX10_prefer_28 (by decide) ?_
      refine v_iret C hr (Nat.le_of_ble_eq_true rfl) (Nat.le_of_ble_eq_true rfl) dX10_prefer_30 ?_
      exact ⟨_, _, rfl, hk, E0, (by simp [preferP, ← p_v2, c_5, e_u, ← p_v9, c_12])⟩
    · skip
      obtain ⟨n, hn, rfl⟩ := below_some (p_v9.symm.trans c_12)
      have e_n := nI_clamp (show n < 2 ^ 31 by omega)
      refine v_iload_n C dX10_prefer_15 rfl ?_
      refine v_iconst (v := -1) C dX10_prefer_16 (by decide) ?_
      refine v_icmp_eq (tgt := 31) C dX10_prefer_17 (by decide) (fun c_17 => ?_) (fun c_17 => ?_)
      · skip
        refine v_aload_n C dX10_prefer_31 rfl ?_
        refine q10_88 C hk dX10_prefer_32 ?_
        refine v_bipush (v := nI 12) C dX10_prefer_35 (by decide) ?_
        refine v_iload_n C dX10_prefer_37 rfl ?_
        refine n_imul C dX10_prefer_38 ?_
        refine v_iload_n C dX10_prefer_39 rfl ?_
        refine n_iadd C dX10_prefer_40 ?_
        refine n_iald C hk (show (27, 11, 144) ∈ mTab by decide +kernel) (by omega) dX10_prefer_41 ?_
        refine v_istore C dX10_prefer_42 (by decide) rfl ?_
        refine v_aload_n C dX10_prefer_44 rfl ?_
        refine q10_88 C hk dX10_prefer_45 ?_
        refine v_bipush (v := nI 12) C dX10_prefer_48 (by decide) ?_
        refine v_iload_n C dX10_prefer_50 rfl ?_
        refine n_imul C dX10_prefer_51 ?_
        refine v_iload_n C dX10_prefer_52 rfl ?_
        refine n_iadd C dX10_prefer_53 ?_
        refine v_iload_n C dX10_prefer_54 rfl ?_
        refine n_iast C hk (show (27, 11, 144) ∈ mTab by decide +kernel) (by omega) dX10_prefer_55 (fun S8_55 hk' x_55 => ?_)
        have E0 := exm_tr E0 x_55
        have hk := hk'
        clear hk'
        refine v_iload C dX10_prefer_56 rfl ?_
        refine v_iret C hr (Nat.le_of_ble_eq_true rfl) (Nat.le_of_ble_eq_true rfl) dX10_prefer_58 ?_
        exact ⟨_, _, rfl, hk, E0, (by simp [preferP, ← p_v2, c_5, e_u, ← p_v9, c_12, e_n, c_17])⟩
      · skip
        refine v_aload_n C dX10_prefer_20 rfl ?_
        refine v_iload_n C dX10_prefer_21 rfl ?_
        refine v_callV (As := [_]) (n := 1) C (rt_X10_isTrait l m0 ad _ _) rfl hk.1 (by decide) rfl ⟨wd240, wd241, wd242, wd5, wd243⟩ ⟨rfl, hy_X10_isTrait⟩ rfl ⟨Nat.le_of_ble_eq_true rfl, Nat.le_of_ble_eq_true rfl⟩ (Nat.le_of_ble_eq_true rfl) ⟨Nat.le_of_ble_eq_true rfl, Nat.le_of_ble_eq_true rfl⟩ dX10_prefer_22 ⟨rfl, hk, rv⟩ (fun r_22 S8_22 h_22 => ?_)
        obtain ⟨v22, rfl, p_v22, q_v22⟩ := h_22
        obtain rfl := q_v22.symm
        refine b_if_ne (tgt := 31) C dX10_prefer_25 (by decide) (fun c_25 => ?_) (fun c_25 => ?_)
        · skip
          obtain ⟨t, h0t, rfl⟩ := below_some (p_v22.symm.trans c_25)
          have ht : t < 20 := by have := rv.p1.2; omega
          have e_t := nI_clamp (show t < 2 ^ 31 by omega)
          refine v_aload_n C dX10_prefer_31 rfl ?_
          refine q10_88 C hk dX10_prefer_32 ?_
          refine v_bipush (v := nI 12) C dX10_prefer_35 (by decide) ?_
          refine v_iload_n C dX10_prefer_37 rfl ?_
          refine n_imul C dX10_prefer_38 ?_
          refine v_iload_n C dX10_prefer_39 rfl ?_
          refine n_iadd C dX10_prefer_40 ?_
          refine n_iald C hk (show (27, 11, 144) ∈ mTab by decide +kernel) (by omega) dX10_prefer_41 ?_
          refine v_istore C dX10_prefer_42 (by decide) rfl ?_
          refine v_aload_n C dX10_prefer_44 rfl ?_
          refine q10_88 C hk dX10_prefer_45 ?_
          refine v_bipush (v := nI 12) C dX10_prefer_48 (by decide) ?_
          refine v_iload_n C dX10_prefer_50 rfl ?_
          refine n_imul C dX10_prefer_51 ?_
          refine v_iload_n C dX10_prefer_52 rfl ?_
          refine n_iadd C dX10_prefer_53 ?_
          refine v_iload_n C dX10_prefer_54 rfl ?_
          refine n_iast C hk (show (27, 11, 144) ∈ mTab by decide +kernel) (by omega) dX10_prefer_55 (fun S10_55 hk' x_55 => ?_)
          have E0 := exm_tr E0 x_55
          have hk := hk'
          clear hk'
          refine v_iload C dX10_prefer_56 rfl ?_
          refine v_iret C hr (Nat.le_of_ble_eq_true rfl) (Nat.le_of_ble_eq_true rfl) dX10_prefer_58 ?_
          exact ⟨_, _, rfl, hk, E0, (by simp [preferP, ← p_v2, c_5, e_u, ← p_v9, c_12, e_n, c_17, ← p_v22, c_25, e_t])⟩
        · skip
          refine v_bipush (v := -2) C dX10_prefer_28 (by decide) ?_
          refine v_iret C hr (Nat.le_of_ble_eq_true rfl) (Nat.le_of_ble_eq_true rfl) dX10_prefer_30 ?_
          exact ⟨_, _, rfl, hk, E0, (by simp [preferP, ← p_v2, c_5, e_u, ← p_v9, c_12, e_n, c_17, ← p_v22, c_25])⟩
theorem dX10_setMood_0 : decode cX10_setMood 0 = .ok (.aload_n 0, 1) := by decide +kernel
theorem dX10_setMood_1 : decode cX10_setMood 1 = .ok (.iload_n 1, 1) := by decide +kernel
theorem dX10_setMood_2 : decode cX10_setMood 2 = .ok (.invokevirtual 176, 3) := by decide +kernel
theorem dX10_setMood_5 : decode cX10_setMood 5 = .ok (.ifCond .eq 12, 3) := by decide +kernel
theorem dX10_setMood_8 : decode cX10_setMood 8 = .ok (.iload_n 2, 1) := by decide +kernel
theorem dX10_setMood_9 : decode cX10_setMood 9 = .ok (.iconst 0, 1) := by decide +kernel
theorem dX10_setMood_10 : decode cX10_setMood 10 = .ok (.iconst 3, 1) := by decide +kernel
theorem dX10_setMood_11 : decode cX10_setMood 11 = .ok (.invokestatic 148, 3) := by decide +kernel
theorem dX10_setMood_14 : decode cX10_setMood 14 = .ok (.ifCond .ne 6, 3) := by decide +kernel
theorem dX10_setMood_17 : decode cX10_setMood 17 = .ok (.bipush (-2), 2) := by decide +kernel
theorem dX10_setMood_19 : decode cX10_setMood 19 = .ok (.ireturn, 1) := by decide +kernel
theorem dX10_setMood_20 : decode cX10_setMood 20 = .ok (.aload_n 0, 1) := by decide +kernel
theorem dX10_setMood_21 : decode cX10_setMood 21 = .ok (.getfield 31, 3) := by decide +kernel
theorem dX10_setMood_24 : decode cX10_setMood 24 = .ok (.iconst 4, 1) := by decide +kernel
theorem dX10_setMood_25 : decode cX10_setMood 25 = .ok (.iload_n 1, 1) := by decide +kernel
theorem dX10_setMood_26 : decode cX10_setMood 26 = .ok (.imul, 1) := by decide +kernel
theorem dX10_setMood_27 : decode cX10_setMood 27 = .ok (.iload_n 2, 1) := by decide +kernel
theorem dX10_setMood_28 : decode cX10_setMood 28 = .ok (.iadd, 1) := by decide +kernel
theorem dX10_setMood_29 : decode cX10_setMood 29 = .ok (.lload_n 3, 1) := by decide +kernel
theorem dX10_setMood_30 : decode cX10_setMood 30 = .ok (.lastore, 1) := by decide +kernel
theorem dX10_setMood_31 : decode cX10_setMood 31 = .ok (.iconst 1, 1) := by decide +kernel
theorem dX10_setMood_32 : decode cX10_setMood 32 = .ok (.ireturn, 1) := by decide +kernel
set_option maxRecDepth 100000 in
set_option maxHeartbeats 4000000 in
theorem rt_X10_setMood (l : Launch) (m0 : Nat) (ad : Nat → Nat) (K : RS) (x0 : Int32) (x1 : Int32) (x2 : Int64) : Ct l yX10_setMood cX10_setMood 5 (some .int) 2 0 0 43 (fun S av => av = [.ref m0, .int x0, .int x1, .long x2] ∧ mdR S m0 ad K ∧ RV K) (fun S _ r S' => ∃ (v : Int32) (K' : RS), r = some (.int v) ∧ mdR S' m0 ad K' ∧ exm S S' m0 ad ∧ setMoodP K x0 x1 x2 = (v, K')) := by
  refine ct_of (by decide) (fun S av h => by obtain ⟨rfl, hk, rv⟩ := h; exact Nat.le_of_ble_eq_true rfl) ?_
  intro p e s m args below meth c D G bs S av C hr hin hpre
  obtain ⟨rfl, hk, rv⟩ := hpre
  have E0 : exm S S m0 ad := exm_rfl
  refine v_aload_n C dX10_setMood_0 rfl ?_
  refine v_iload_n C dX10_setMood_1 rfl ?_
  refine v_callV (As := [_]) (n := 1) C (rt_X10_isCharacter l m0 ad _ _) rfl hk.1 (by decide) rfl ⟨wd334, wd335, wd336, wd5, wd337⟩ ⟨rfl, hy_X10_isCharacter⟩ rfl ⟨Nat.le_of_ble_eq_true rfl, Nat.le_of_ble_eq_true rfl⟩ (Nat.le_of_ble_eq_true rfl) ⟨Nat.le_of_ble_eq_true rfl, Nat.le_of_ble_eq_true rfl⟩ dX10_setMood_2 ⟨rfl, hk, rv⟩ (fun r_2 S2_2 h_2 => ?_)
  obtain ⟨v2, rfl, p_v2, q_v2⟩ := h_2
  obtain rfl := q_v2.symm
  refine b_if_eq (tgt := 17) C dX10_setMood_5 (by decide) (fun c_5 => ?_) (fun c_5 => ?_)
  · skip
    refine v_bipush (v := -2) C dX10_setMood_17 (by decide) ?_
    refine v_iret C hr (Nat.le_of_ble_eq_true rfl) (Nat.le_of_ble_eq_true rfl) dX10_setMood_19 ?_
    exact ⟨_, _, rfl, hk, E0, (by simp [setMoodP, ← p_v2, c_5])⟩
  · skip
    obtain ⟨u, h0u, rfl⟩ := below_some (p_v2.symm.trans c_5)
    have hu : u < 12 := by have := rv.p2.2; omega
    have e_u := nI_clamp (show u < 2 ^ 31 by omega)
    refine v_iload_n C dX10_setMood_8 rfl ?_
    refine v_iconst (v := nI 0) C dX10_setMood_9 (by decide) ?_
    refine v_iconst (v := nI 3) C dX10_setMood_10 (by decide) ?_
    refine v_callS (As := [_, _, _]) (n := 3) C (rt_X10_in l _ _ _) rfl ⟨wd244, wd245, wd5, wd246⟩ hy_X10_in rfl ⟨Nat.le_of_ble_eq_true rfl, Nat.le_of_ble_eq_true rfl⟩ (Nat.le_of_ble_eq_true rfl) ⟨Nat.le_of_ble_eq_true rfl, Nat.le_of_ble_eq_true rfl⟩ dX10_setMood_11 rfl (fun r_11 S4_11 h_11 => ?_)
    obtain ⟨v11, rfl, p_v11, q_v11⟩ := h_11
    obtain rfl := q_v11.symm
    rw [inB_below _ (n := 4) rfl] at p_v11
    refine b_if_ne (tgt := 20) C dX10_setMood_14 (by decide) (fun c_14 => ?_) (fun c_14 => ?_)
    · skip
      obtain ⟨w, hw, rfl⟩ := below_some (p_v11.symm.trans c_14)
      have e_w := nI_clamp (show w < 2 ^ 31 by omega)
      refine v_aload_n C dX10_setMood_20 rfl ?_
      refine q10_31 C hk dX10_setMood_21 ?_
      refine v_iconst (v := nI 4) C dX10_setMood_24 (by decide) ?_
      refine v_iload_n C dX10_setMood_25 rfl ?_
      refine n_imul C dX10_setMood_26 ?_
      refine v_iload_n C dX10_setMood_27 rfl ?_
      refine n_iadd C dX10_setMood_28 ?_
      refine v_lload_n C dX10_setMood_29 rfl ?_
      refine n_last C hk (show (9, 12, 48) ∈ mTab by decide +kernel) (by omega) dX10_setMood_30 (fun S6_30 hk' x_30 => ?_)
      have E0 := exm_tr E0 x_30
      have hk := hk'
      clear hk'
      refine v_iconst (v := nI 1) C dX10_setMood_31 (by decide) ?_
      refine v_iret C hr (Nat.le_of_ble_eq_true rfl) (Nat.le_of_ble_eq_true rfl) dX10_setMood_32 ?_
      exact ⟨_, _, rfl, hk, E0, (by simp [setMoodP, ← p_v2, c_5, e_u, ← p_v11, c_14, e_w])⟩
    · skip
      refine v_bipush (v := -2) C dX10_setMood_17 (by decide) ?_
      refine v_iret C hr (Nat.le_of_ble_eq_true rfl) (Nat.le_of_ble_eq_true rfl) dX10_setMood_19 ?_
      exact ⟨_, _, rfl, hk, E0, (by simp [setMoodP, ← p_v2, c_5, e_u, ← p_v11, c_14])⟩
theorem dX10_character_0 : decode cX10_character 0 = .ok (.iload_n 1, 1) := by decide +kernel
theorem dX10_character_1 : decode cX10_character 1 = .ok (.iconst 0, 1) := by decide +kernel
theorem dX10_character_2 : decode cX10_character 2 = .ok (.iconst 3, 1) := by decide +kernel
theorem dX10_character_3 : decode cX10_character 3 = .ok (.invokestatic 148, 3) := by decide +kernel
theorem dX10_character_6 : decode cX10_character 6 = .ok (.ifCond .ne 6, 3) := by decide +kernel
theorem dX10_character_9 : decode cX10_character 9 = .ok (.bipush (-2), 2) := by decide +kernel
theorem dX10_character_11 : decode cX10_character 11 = .ok (.ireturn, 1) := by decide +kernel
theorem dX10_character_12 : decode cX10_character 12 = .ok (.aload_n 0, 1) := by decide +kernel
theorem dX10_character_13 : decode cX10_character 13 = .ok (.getfield 152, 3) := by decide +kernel
theorem dX10_character_16 : decode cX10_character 16 = .ok (.bipush 12, 2) := by decide +kernel
theorem dX10_character_18 : decode cX10_character 18 = .ok (.if_icmp .ne 6, 3) := by decide +kernel
theorem dX10_character_21 : decode cX10_character 21 = .ok (.bipush (-4), 2) := by decide +kernel
theorem dX10_character_23 : decode cX10_character 23 = .ok (.ireturn, 1) := by decide +kernel
theorem dX10_character_24 : decode cX10_character 24 = .ok (.aload_n 0, 1) := by decide +kernel
theorem dX10_character_25 : decode cX10_character 25 = .ok (.getfield 16, 3) := by decide +kernel
theorem dX10_character_28 : decode cX10_character 28 = .ok (.aload_n 0, 1) := by decide +kernel
theorem dX10_character_29 : decode cX10_character 29 = .ok (.getfield 152, 3) := by decide +kernel
theorem dX10_character_32 : decode cX10_character 32 = .ok (.iload_n 1, 1) := by decide +kernel
theorem dX10_character_33 : decode cX10_character 33 = .ok (.iastore, 1) := by decide +kernel
theorem dX10_character_34 : decode cX10_character 34 = .ok (.iconst 0, 1) := by decide +kernel
theorem dX10_character_35 : decode cX10_character 35 = .ok (.istore_n 2, 1) := by decide +kernel
theorem dX10_character_36 : decode cX10_character 36 = .ok (.iload_n 2, 1) := by decide +kernel
theorem dX10_character_37 : decode cX10_character 37 = .ok (.bipush 12, 2) := by decide +kernel
theorem dX10_character_39 : decode cX10_character 39 = .ok (.if_icmp .ge 24, 3) := by decide +kernel
theorem dX10_character_42 : decode cX10_character 42 = .ok (.aload_n 0, 1) := by decide +kernel
theorem dX10_character_43 : decode cX10_character 43 = .ok (.getfield 88, 3) := by decide +kernel
theorem dX10_character_46 : decode cX10_character 46 = .ok (.bipush 12, 2) := by decide +kernel
theorem dX10_character_48 : decode cX10_character 48 = .ok (.aload_n 0, 1) := by decide +kernel
theorem dX10_character_49 : decode cX10_character 49 = .ok (.getfield 152, 3) := by decide +kernel
theorem dX10_character_52 : decode cX10_character 52 = .ok (.imul, 1) := by decide +kernel
theorem dX10_character_53 : decode cX10_character 53 = .ok (.iload_n 2, 1) := by decide +kernel
theorem dX10_character_54 : decode cX10_character 54 = .ok (.iadd, 1) := by decide +kernel
theorem dX10_character_55 : decode cX10_character 55 = .ok (.iconst (-1), 1) := by decide +kernel
theorem dX10_character_56 : decode cX10_character 56 = .ok (.iastore, 1) := by decide +kernel
theorem dX10_character_57 : decode cX10_character 57 = .ok (.iinc 2 1, 3) := by decide +kernel
theorem dX10_character_60 : decode cX10_character 60 = .ok (.goto (-24), 3) := by decide +kernel
theorem dX10_character_63 : decode cX10_character 63 = .ok (.aload_n 0, 1) := by decide +kernel
theorem dX10_character_64 : decode cX10_character 64 = .ok (.dup, 1) := by decide +kernel
theorem dX10_character_65 : decode cX10_character 65 = .ok (.getfield 152, 3) := by decide +kernel
theorem dX10_character_68 : decode cX10_character 68 = .ok (.iconst 1, 1) := by decide +kernel
theorem dX10_character_69 : decode cX10_character 69 = .ok (.iadd, 1) := by decide +kernel
theorem dX10_character_70 : decode cX10_character 70 = .ok (.putfield 152, 3) := by decide +kernel
theorem dX10_character_73 : decode cX10_character 73 = .ok (.aload_n 0, 1) := by decide +kernel
theorem dX10_character_74 : decode cX10_character 74 = .ok (.getfield 152, 3) := by decide +kernel
theorem dX10_character_77 : decode cX10_character 77 = .ok (.iconst 1, 1) := by decide +kernel
theorem dX10_character_78 : decode cX10_character 78 = .ok (.isub, 1) := by decide +kernel
theorem dX10_character_79 : decode cX10_character 79 = .ok (.ireturn, 1) := by decide +kernel
set_option maxRecDepth 100000 in
set_option maxHeartbeats 4000000 in
theorem rt_X10_character (l : Launch) (m0 : Nat) (ad : Nat → Nat) (K : RS) (x0 : Int32) : Ct l yX10_character cX10_character 3 (some .int) 1 0 0 22 (fun S av => av = [.ref m0, .int x0] ∧ mdR S m0 ad K ∧ RV K) (fun S _ r S' => ∃ (v : Int32) (K' : RS), r = some (.int v) ∧ mdR S' m0 ad K' ∧ exm S S' m0 ad ∧ charR K x0 v K') := by
  refine ct_of (by decide) (fun S av h => by obtain ⟨rfl, hk, rv⟩ := h; exact Nat.le_of_ble_eq_true rfl) ?_
  intro p e s m args below meth c D G bs S av C hr hin hpre
  obtain ⟨rfl, hk, rv⟩ := hpre
  have E0 : exm S S m0 ad := exm_rfl
  refine v_iload_n C dX10_character_0 rfl ?_
  refine v_iconst (v := nI 0) C dX10_character_1 (by decide) ?_
  refine v_iconst (v := nI 3) C dX10_character_2 (by decide) ?_
  refine v_callS (As := [_, _, _]) (n := 3) C (rt_X10_in l _ _ _) rfl ⟨wd244, wd245, wd5, wd246⟩ hy_X10_in rfl ⟨Nat.le_of_ble_eq_true rfl, Nat.le_of_ble_eq_true rfl⟩ (Nat.le_of_ble_eq_true rfl) ⟨Nat.le_of_ble_eq_true rfl, Nat.le_of_ble_eq_true rfl⟩ dX10_character_3 rfl (fun r_3 S2_3 h_3 => ?_)
  obtain ⟨v3, rfl, p_v3, q_v3⟩ := h_3
  obtain rfl := q_v3.symm
  rw [inB_below _ (n := 4) rfl] at p_v3
  refine b_if_ne (tgt := 12) C dX10_character_6 (by decide) (fun c_6 => ?_) (fun c_6 => ?_)
  · skip
    obtain ⟨w, hw, rfl⟩ := below_some (p_v3.symm.trans c_6)
    have e_w := nI_clamp (show w < 2 ^ 31 by omega)
    refine v_aload_n C dX10_character_12 rfl ?_
    have zc := rv.p2.2
    refine q10_152 C hk dX10_character_13 ?_
    refine v_val rv.p2.1 ?_
    refine v_bipush (v := nI 12) C dX10_character_16 (by decide) ?_
    refine n_icmp_ne (tgt := 24) C (by omega) (by omega) dX10_character_18 (by decide) (fun c_18 => ?_) (fun c_18 => ?_)
    · skip
      refine v_aload_n C dX10_character_24 rfl ?_
      refine q10_16 C hk dX10_character_25 ?_
      refine v_aload_n C dX10_character_28 rfl ?_
      refine q10_152 C hk dX10_character_29 ?_
      refine v_val rv.p2.1 ?_
      refine v_iload_n C dX10_character_32 rfl ?_
      refine n_iast C hk (show (4, 11, 12) ∈ mTab by decide +kernel) (by omega) dX10_character_33 (fun S6_33 hk' x_33 => ?_)
      have E0 := exm_tr E0 x_33
      have hk := hk'
      clear hk'
      refine v_iconst (v := nI 0) C dX10_character_34 (by decide) ?_
      refine v_istore_n C dX10_character_35 (by decide) rfl ?_
      refine V.lits (lv' := [_, _, _]) rfl ?_
      refine v_loop (fun (tt : (Nat) × (RS)) lv0 => (lv0.set 2 (some (.int (nI tt.1))))) (fun (S1 : Mem) (tt : (Nat) × (RS)) => mdR S1 m0 ad tt.2 ∧ exm S S1 m0 ad ∧ (tt.1 ≤ 12) ∧ (rF tt.2 3 = nI (fN K 3)) ∧ (rA tt.2 4 (fN K 3) = nI w ∧ ∀ c, c ≠ fN K 3 → rA tt.2 4 c = rA K 4 c) ∧ (∀ j, j < tt.1 → rA tt.2 27 (12 * fN K 3 + j) = -1) ∧ (∀ i, i < 12 * fN K 3 ∨ 12 * fN K 3 + 12 ≤ i → rA tt.2 27 i = rA K 27 i) ∧ (keep [3] [4, 27] [] [] K tt.2)) (fun (S1 : Mem) (tt : (Nat) × (RS)) => 12 - tt.1) (t := (0, (wA K 4 (fN K 3) (nI w)))) rfl ⟨hk, E0, (Nat.zero_le _), rv.p2.1, ⟨(by rw [rA_wA, if_pos ⟨rfl, rfl⟩]), fun c hc => (by rw [rA_wA, if_neg (fun z => hc z.2)])⟩, (fun j h => absurd h (Nat.not_lt_zero j)), (fun i _ => by rw [rA_wA, if_neg (fun z => absurd z.1 (by decide))]), (keep_wA keep_rfl (by decide))⟩ ?_
      intro L36 tt h_36 ih_36
      obtain ⟨n, KA⟩ := tt
      obtain ⟨hk, E0, hn, h3, h4, h27, h28, kA⟩ := h_36
      try dsimp only at *
      refine v_iload_n C dX10_character_36 rfl ?_
      refine v_bipush (v := nI 12) C dX10_character_37 (by decide) ?_
      refine n_icmp_ge (tgt := 63) C (by omega) (by omega) dX10_character_39 (by decide) (fun c_39 => ?_) (fun c_39 => ?_)
      · skip
        refine v_aload_n C dX10_character_63 rfl ?_
        refine v_dup C dX10_character_64 rfl ?_
        refine q10_152 C hk dX10_character_65 ?_
        refine v_val h3 ?_
        refine v_iconst (v := nI 1) C dX10_character_68 (by decide) ?_
        refine n_iadd C dX10_character_69 ?_
        refine w10_152 C hk dX10_character_70 (fun S2_70 hk' x_70 => ?_)
        have E0 := exm_tr E0 x_70
        have hk := hk'
        clear hk'
        refine v_aload_n C dX10_character_73 rfl ?_
        refine q10_152 C hk dX10_character_74 ?_
        refine v_val (show rF (wF KA 3 (nI (fN K 3 + 1))) 3 = nI (fN K 3 + 1) by rw [rF_wF, if_pos rfl]) ?_
        refine v_iconst (v := nI 1) C dX10_character_77 (by decide) ?_
        refine n_isub C (by omega) dX10_character_78 ?_
        refine v_iret C hr (Nat.le_of_ble_eq_true rfl) (Nat.le_of_ble_eq_true rfl) dX10_character_79 ?_
        exact ⟨_, _, rfl, hk, E0, (Or.inr (Or.inr ⟨p_v3.symm.trans c_6, by omega, rfl, by rw [rF_wF, if_pos rfl], by rw [rA_wF]; exact h4.1, fun j hj => by rw [rA_wF]; exact h27 j (by omega), fun c hc => by rw [rA_wF]; exact h4.2 c hc, fun i hi => by rw [rA_wF]; exact h28 i hi, keep_wF kA (by decide)⟩))⟩
      · skip
        refine v_aload_n C dX10_character_42 rfl ?_
        refine q10_88 C hk dX10_character_43 ?_
        refine v_bipush (v := nI 12) C dX10_character_46 (by decide) ?_
        refine v_aload_n C dX10_character_48 rfl ?_
        refine q10_152 C hk dX10_character_49 ?_
        refine v_val h3 ?_
        refine n_imul C dX10_character_52 ?_
        refine v_iload_n C dX10_character_53 rfl ?_
        refine n_iadd C dX10_character_54 ?_
        refine v_iconst (v := -1) C dX10_character_55 (by decide) ?_
        refine n_iast C hk (show (27, 11, 144) ∈ mTab by decide +kernel) (by omega) dX10_character_56 (fun S2_56 hk' x_56 => ?_)
        have E0 := exm_tr E0 x_56
        have hk := hk'
        clear hk'
        refine v_iinc C dX10_character_57 rfl (nI_inc _) (by decide) rfl ?_
        refine v_goto (tgt := 36) C dX10_character_60 (by decide) ?_
        refine V.lits (lv' := [_, _, _]) rfl ?_
        have h27' : ∀ j, j < n + 1 → rA (wA KA 27 (12 * fN K 3 + n) (-1)) 27 (12 * fN K 3 + j) = -1 := by
          intro j hj
          rw [rA_wA]
          by_cases hz : j = n
          · rw [if_pos ⟨rfl, by omega⟩]
          · rw [if_neg (fun z => hz (by omega))]; exact h27 j (by omega)
        exact ih_36 _ ((n + 1), (wA KA 27 (12 * fN K 3 + n) (-1))) (by first | omega | (dsimp only; omega)) ⟨hk, E0, (by omega), h3, ⟨(by rw [rA_wA, if_neg (fun z => absurd z.1 (by decide))]; exact h4.1), fun c hc => (by rw [rA_wA, if_neg (fun z => absurd z.1 (by decide))]; exact h4.2 c hc)⟩, h27', (fun i hi => by rw [rA_wA, if_neg (fun z => by omega)]; exact h28 i hi), (keep_wA kA (by decide))⟩
    · skip
      refine v_bipush (v := -4) C dX10_character_21 (by decide) ?_
      refine v_iret C hr (Nat.le_of_ble_eq_true rfl) (Nat.le_of_ble_eq_true rfl) dX10_character_23 ?_
      exact ⟨_, _, rfl, hk, E0, (Or.inr (Or.inl ⟨p_v3.symm.trans c_6, c_18, rfl, rfl⟩))⟩
  · skip
    refine v_bipush (v := -2) C dX10_character_9 (by decide) ?_
    refine v_iret C hr (Nat.le_of_ble_eq_true rfl) (Nat.le_of_ble_eq_true rfl) dX10_character_11 ?_
    exact ⟨_, _, rfl, hk, E0, (Or.inl ⟨p_v3.symm.trans c_6, rfl, rfl⟩)⟩
