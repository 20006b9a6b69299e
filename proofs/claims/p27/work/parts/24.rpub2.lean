theorem dX10_lineOf_0 : decode cX10_lineOf 0 = .ok (.aload_n 0, 1) := by decide +kernel
theorem dX10_lineOf_1 : decode cX10_lineOf 1 = .ok (.iload_n 1, 1) := by decide +kernel
theorem dX10_lineOf_2 : decode cX10_lineOf 2 = .ok (.invokevirtual 166, 3) := by decide +kernel
theorem dX10_lineOf_5 : decode cX10_lineOf 5 = .ok (.ifCond .ne 8, 3) := by decide +kernel
theorem dX10_lineOf_8 : decode cX10_lineOf 8 = .ok (.bipush (-2), 2) := by decide +kernel
theorem dX10_lineOf_10 : decode cX10_lineOf 10 = .ok (.goto 34, 3) := by decide +kernel
theorem dX10_lineOf_13 : decode cX10_lineOf 13 = .ok (.iload_n 2, 1) := by decide +kernel
theorem dX10_lineOf_14 : decode cX10_lineOf 14 = .ok (.iconst 0, 1) := by decide +kernel
theorem dX10_lineOf_15 : decode cX10_lineOf 15 = .ok (.aload_n 0, 1) := by decide +kernel
theorem dX10_lineOf_16 : decode cX10_lineOf 16 = .ok (.getfield 13, 3) := by decide +kernel
theorem dX10_lineOf_19 : decode cX10_lineOf 19 = .ok (.iload_n 1, 1) := by decide +kernel
theorem dX10_lineOf_20 : decode cX10_lineOf 20 = .ok (.iaload, 1) := by decide +kernel
theorem dX10_lineOf_21 : decode cX10_lineOf 21 = .ok (.iconst 1, 1) := by decide +kernel
theorem dX10_lineOf_22 : decode cX10_lineOf 22 = .ok (.isub, 1) := by decide +kernel
theorem dX10_lineOf_23 : decode cX10_lineOf 23 = .ok (.invokestatic 148, 3) := by decide +kernel
theorem dX10_lineOf_26 : decode cX10_lineOf 26 = .ok (.ifCond .eq 17, 3) := by decide +kernel
theorem dX10_lineOf_29 : decode cX10_lineOf 29 = .ok (.aload_n 0, 1) := by decide +kernel
theorem dX10_lineOf_30 : decode cX10_lineOf 30 = .ok (.getfield 7, 3) := by decide +kernel
theorem dX10_lineOf_33 : decode cX10_lineOf 33 = .ok (.bipush 20, 2) := by decide +kernel
theorem dX10_lineOf_35 : decode cX10_lineOf 35 = .ok (.iload_n 1, 1) := by decide +kernel
theorem dX10_lineOf_36 : decode cX10_lineOf 36 = .ok (.imul, 1) := by decide +kernel
theorem dX10_lineOf_37 : decode cX10_lineOf 37 = .ok (.iload_n 2, 1) := by decide +kernel
theorem dX10_lineOf_38 : decode cX10_lineOf 38 = .ok (.iadd, 1) := by decide +kernel
theorem dX10_lineOf_39 : decode cX10_lineOf 39 = .ok (.iaload, 1) := by decide +kernel
theorem dX10_lineOf_40 : decode cX10_lineOf 40 = .ok (.goto 4, 3) := by decide +kernel
theorem dX10_lineOf_43 : decode cX10_lineOf 43 = .ok (.iconst (-1), 1) := by decide +kernel
theorem dX10_lineOf_44 : decode cX10_lineOf 44 = .ok (.ireturn, 1) := by decide +kernel
set_option maxRecDepth 100000 in
set_option maxHeartbeats 4000000 in
theorem rt_X10_lineOf (l : Launch) (m0 : Nat) (ad : Nat → Nat) (K : RS) (x0 : Int32) (x1 : Int32) : Ct l yX10_lineOf cX10_lineOf 3 (some .int) 2 0 0 43 (fun S av => av = [.ref m0, .int x0, .int x1] ∧ mdR S m0 ad K ∧ RV K) (fun S _ r S' => ∃ v : Int32, r = some (.int v) ∧ v = v ∧ S' = S) := by
  refine ct_of (by decide) (fun S av h => by obtain ⟨rfl, hk, rv⟩ := h; exact Nat.le_of_ble_eq_true rfl) ?_
  intro p e s m args below meth c D G bs S av C hr hin hpre
  obtain ⟨rfl, hk, rv⟩ := hpre
  refine v_aload_n C dX10_lineOf_0 rfl ?_
  refine v_iload_n C dX10_lineOf_1 rfl ?_
  refine v_callV (As := [_]) (n := 1) C (rt_X10_isTrait l m0 ad _ _) rfl hk.1 (by decide) rfl ⟨wd240, wd241, wd242, wd5, wd243⟩ ⟨rfl, hy_X10_isTrait⟩ rfl ⟨Nat.le_of_ble_eq_true rfl, Nat.le_of_ble_eq_true rfl⟩ (Nat.le_of_ble_eq_true rfl) ⟨Nat.le_of_ble_eq_true rfl, Nat.le_of_ble_eq_true rfl⟩ dX10_lineOf_2 ⟨rfl, hk, rv⟩ (fun r_2 S2_2 h_2 => ?_)
  obtain ⟨v2, rfl, p_v2, q_v2⟩ := h_2
  obtain rfl := q_v2.symm
  refine b_if_ne (tgt := 13) C dX10_lineOf_5 (by decide) (fun c_5 => ?_) (fun c_5 => ?_)
  · skip
    obtain ⟨t, h0t, rfl⟩ := below_some (p_v2.symm.trans c_5)
    have ht : t < 20 := by have := rv.p1.2; omega
    have e_t := nI_clamp (show t < 2 ^ 31 by omega)
    refine v_iload_n C dX10_lineOf_13 rfl ?_
    refine v_iconst (v := nI 0) C dX10_lineOf_14 (by decide) ?_
    refine v_aload_n C dX10_lineOf_15 rfl ?_
    refine q10_13 C hk dX10_lineOf_16 ?_
    refine v_iload_n C dX10_lineOf_19 rfl ?_
    obtain ⟨z1, z2⟩ := rv.p3 t ht
    refine n_iald C hk (show (2, 11, 20) ∈ mTab by decide +kernel) (by omega) dX10_lineOf_20 ?_
    refine v_val z1 ?_
    refine v_iconst (v := nI 1) C dX10_lineOf_21 (by decide) ?_
    refine v_isub C dX10_lineOf_22 ?_
    refine v_callS (As := [_, _, _]) (n := 3) C (rt_X10_in l _ _ _) rfl ⟨wd244, wd245, wd5, wd246⟩ hy_X10_in rfl ⟨Nat.le_of_ble_eq_true rfl, Nat.le_of_ble_eq_true rfl⟩ (Nat.le_of_ble_eq_true rfl) ⟨Nat.le_of_ble_eq_true rfl, Nat.le_of_ble_eq_true rfl⟩ dX10_lineOf_23 rfl (fun r_23 S4_23 h_23 => ?_)
    obtain ⟨v23, rfl, p_v23, q_v23⟩ := h_23
    obtain rfl := q_v23.symm
    rw [inB_less _ (show rN K 2 t < 2 ^ 31 by omega)] at p_v23
    refine b_if_eq (tgt := 43) C dX10_lineOf_26 (by decide) (fun c_26 => ?_) (fun c_26 => ?_)
    · skip
      refine v_iconst (v := -1) C dX10_lineOf_43 (by decide) ?_
      refine v_iret C hr (Nat.le_of_ble_eq_true rfl) (Nat.le_of_ble_eq_true rfl) dX10_lineOf_44 ?_
      exact ⟨_, rfl, (rfl), rfl⟩
    · skip
      obtain ⟨i, hi, rfl⟩ := below_some (p_v23.symm.trans c_26)
      refine v_aload_n C dX10_lineOf_29 rfl ?_
      refine q10_7 C hk dX10_lineOf_30 ?_
      refine v_bipush (v := nI 20) C dX10_lineOf_33 (by decide) ?_
      refine v_iload_n C dX10_lineOf_35 rfl ?_
      refine n_imul C dX10_lineOf_36 ?_
      refine v_iload_n C dX10_lineOf_37 rfl ?_
      refine n_iadd C dX10_lineOf_38 ?_
      refine n_iald C hk (show (1, 11, 400) ∈ mTab by decide +kernel) (by omega) dX10_lineOf_39 ?_
      refine v_goto (tgt := 44) C dX10_lineOf_40 (by decide) ?_
      refine v_iret C hr (Nat.le_of_ble_eq_true rfl) (Nat.le_of_ble_eq_true rfl) dX10_lineOf_44 ?_
      exact ⟨_, rfl, (rfl), rfl⟩
  · skip
    refine v_bipush (v := -2) C dX10_lineOf_8 (by decide) ?_
    refine v_goto (tgt := 44) C dX10_lineOf_10 (by decide) ?_
    refine v_iret C hr (Nat.le_of_ble_eq_true rfl) (Nat.le_of_ble_eq_true rfl) dX10_lineOf_44 ?_
    exact ⟨_, rfl, (rfl), rfl⟩
theorem dX10_line_0 : decode cX10_line 0 = .ok (.aload_n 0, 1) := by decide +kernel
theorem dX10_line_1 : decode cX10_line 1 = .ok (.iload_n 1, 1) := by decide +kernel
theorem dX10_line_2 : decode cX10_line 2 = .ok (.invokevirtual 176, 3) := by decide +kernel
theorem dX10_line_5 : decode cX10_line 5 = .ok (.ifCond .ne 8, 3) := by decide +kernel
theorem dX10_line_8 : decode cX10_line 8 = .ok (.bipush (-2), 2) := by decide +kernel
theorem dX10_line_10 : decode cX10_line 10 = .ok (.goto 34, 3) := by decide +kernel
theorem dX10_line_13 : decode cX10_line 13 = .ok (.iload_n 2, 1) := by decide +kernel
theorem dX10_line_14 : decode cX10_line 14 = .ok (.iconst 0, 1) := by decide +kernel
theorem dX10_line_15 : decode cX10_line 15 = .ok (.aload_n 0, 1) := by decide +kernel
theorem dX10_line_16 : decode cX10_line 16 = .ok (.getfield 28, 3) := by decide +kernel
theorem dX10_line_19 : decode cX10_line 19 = .ok (.iload_n 1, 1) := by decide +kernel
theorem dX10_line_20 : decode cX10_line 20 = .ok (.iaload, 1) := by decide +kernel
theorem dX10_line_21 : decode cX10_line 21 = .ok (.iconst 1, 1) := by decide +kernel
theorem dX10_line_22 : decode cX10_line 22 = .ok (.isub, 1) := by decide +kernel
theorem dX10_line_23 : decode cX10_line 23 = .ok (.invokestatic 148, 3) := by decide +kernel
theorem dX10_line_26 : decode cX10_line 26 = .ok (.ifCond .eq 17, 3) := by decide +kernel
theorem dX10_line_29 : decode cX10_line 29 = .ok (.aload_n 0, 1) := by decide +kernel
theorem dX10_line_30 : decode cX10_line 30 = .ok (.getfield 25, 3) := by decide +kernel
theorem dX10_line_33 : decode cX10_line 33 = .ok (.bipush 20, 2) := by decide +kernel
theorem dX10_line_35 : decode cX10_line 35 = .ok (.iload_n 1, 1) := by decide +kernel
theorem dX10_line_36 : decode cX10_line 36 = .ok (.imul, 1) := by decide +kernel
theorem dX10_line_37 : decode cX10_line 37 = .ok (.iload_n 2, 1) := by decide +kernel
theorem dX10_line_38 : decode cX10_line 38 = .ok (.iadd, 1) := by decide +kernel
theorem dX10_line_39 : decode cX10_line 39 = .ok (.iaload, 1) := by decide +kernel
theorem dX10_line_40 : decode cX10_line 40 = .ok (.goto 4, 3) := by decide +kernel
theorem dX10_line_43 : decode cX10_line 43 = .ok (.iconst (-1), 1) := by decide +kernel
theorem dX10_line_44 : decode cX10_line 44 = .ok (.ireturn, 1) := by decide +kernel
set_option maxRecDepth 100000 in
set_option maxHeartbeats 4000000 in
theorem rt_X10_line (l : Launch) (m0 : Nat) (ad : Nat → Nat) (K : RS) (x0 : Int32) (x1 : Int32) : Ct l yX10_line cX10_line 3 (some .int) 2 0 0 43 (fun S av => av = [.ref m0, .int x0, .int x1] ∧ mdR S m0 ad K ∧ RV K) (fun S _ r S' => ∃ v : Int32, r = some (.int v) ∧ v = v ∧ S' = S) := by
  refine ct_of (by decide) (fun S av h => by obtain ⟨rfl, hk, rv⟩ := h; exact Nat.le_of_ble_eq_true rfl) ?_
  intro p e s m args below meth c D G bs S av C hr hin hpre
  obtain ⟨rfl, hk, rv⟩ := hpre
  refine v_aload_n C dX10_line_0 rfl ?_
  refine v_iload_n C dX10_line_1 rfl ?_
  refine v_callV (As := [_]) (n := 1) C (rt_X10_isCharacter l m0 ad _ _) rfl hk.1 (by decide) rfl ⟨wd334, wd335, wd336, wd5, wd337⟩ ⟨rfl, hy_X10_isCharacter⟩ rfl ⟨Nat.le_of_ble_eq_true rfl, Nat.le_of_ble_eq_true rfl⟩ (Nat.le_of_ble_eq_true rfl) ⟨Nat.le_of_ble_eq_true rfl, Nat.le_of_ble_eq_true rfl⟩ dX10_line_2 ⟨rfl, hk, rv⟩ (fun r_2 S2_2 h_2 => ?_)
  obtain ⟨v2, rfl, p_v2, q_v2⟩ := h_2
  obtain rfl := q_v2.symm
  refine b_if_ne (tgt := 13) C dX10_line_5 (by decide) (fun c_5 => ?_) (fun c_5 => ?_)
  · skip
    obtain ⟨u, h0u, rfl⟩ := below_some (p_v2.symm.trans c_5)
    have hu : u < 12 := by have := rv.p2.2; omega
    have e_u := nI_clamp (show u < 2 ^ 31 by omega)
    refine v_iload_n C dX10_line_13 rfl ?_
    refine v_iconst (v := nI 0) C dX10_line_14 (by decide) ?_
    refine v_aload_n C dX10_line_15 rfl ?_
    refine q10_28 C hk dX10_line_16 ?_
    refine v_iload_n C dX10_line_19 rfl ?_
    obtain ⟨z1, z2⟩ := rv.p5 u hu
    refine n_iald C hk (show (8, 11, 12) ∈ mTab by decide +kernel) (by omega) dX10_line_20 ?_
    refine v_val z1 ?_
    refine v_iconst (v := nI 1) C dX10_line_21 (by decide) ?_
    refine v_isub C dX10_line_22 ?_
    refine v_callS (As := [_, _, _]) (n := 3) C (rt_X10_in l _ _ _) rfl ⟨wd244, wd245, wd5, wd246⟩ hy_X10_in rfl ⟨Nat.le_of_ble_eq_true rfl, Nat.le_of_ble_eq_true rfl⟩ (Nat.le_of_ble_eq_true rfl) ⟨Nat.le_of_ble_eq_true rfl, Nat.le_of_ble_eq_true rfl⟩ dX10_line_23 rfl (fun r_23 S4_23 h_23 => ?_)
    obtain ⟨v23, rfl, p_v23, q_v23⟩ := h_23
    obtain rfl := q_v23.symm
    rw [inB_less _ (show rN K 8 u < 2 ^ 31 by omega)] at p_v23
    refine b_if_eq (tgt := 43) C dX10_line_26 (by decide) (fun c_26 => ?_) (fun c_26 => ?_)
    · skip
      refine v_iconst (v := -1) C dX10_line_43 (by decide) ?_
      refine v_iret C hr (Nat.le_of_ble_eq_true rfl) (Nat.le_of_ble_eq_true rfl) dX10_line_44 ?_
      exact ⟨_, rfl, (rfl), rfl⟩
    · skip
      obtain ⟨i, hi, rfl⟩ := below_some (p_v23.symm.trans c_26)
      refine v_aload_n C dX10_line_29 rfl ?_
      refine q10_25 C hk dX10_line_30 ?_
      refine v_bipush (v := nI 20) C dX10_line_33 (by decide) ?_
      refine v_iload_n C dX10_line_35 rfl ?_
      refine n_imul C dX10_line_36 ?_
      refine v_iload_n C dX10_line_37 rfl ?_
      refine n_iadd C dX10_line_38 ?_
      refine n_iald C hk (show (7, 11, 240) ∈ mTab by decide +kernel) (by omega) dX10_line_39 ?_
      refine v_goto (tgt := 44) C dX10_line_40 (by decide) ?_
      refine v_iret C hr (Nat.le_of_ble_eq_true rfl) (Nat.le_of_ble_eq_true rfl) dX10_line_44 ?_
      exact ⟨_, rfl, (rfl), rfl⟩
  · skip
    refine v_bipush (v := -2) C dX10_line_8 (by decide) ?_
    refine v_goto (tgt := 44) C dX10_line_10 (by decide) ?_
    refine v_iret C hr (Nat.le_of_ble_eq_true rfl) (Nat.le_of_ble_eq_true rfl) dX10_line_44 ?_
    exact ⟨_, rfl, (rfl), rfl⟩
theorem dX10_told_0 : decode cX10_told 0 = .ok (.iload_n 1, 1) := by decide +kernel
theorem dX10_told_1 : decode cX10_told 1 = .ok (.ifCond .ne 10, 3) := by decide +kernel
theorem dX10_told_4 : decode cX10_told 4 = .ok (.aload_n 0, 1) := by decide +kernel
theorem dX10_told_5 : decode cX10_told 5 = .ok (.getfield 292, 3) := by decide +kernel
theorem dX10_told_8 : decode cX10_told 8 = .ok (.goto 43, 3) := by decide +kernel
theorem dX10_told_11 : decode cX10_told 11 = .ok (.iload_n 1, 1) := by decide +kernel
theorem dX10_told_12 : decode cX10_told 12 = .ok (.iconst 1, 1) := by decide +kernel
theorem dX10_told_13 : decode cX10_told 13 = .ok (.if_icmp .ne 11, 3) := by decide +kernel
theorem dX10_told_16 : decode cX10_told 16 = .ok (.aload_n 0, 1) := by decide +kernel
theorem dX10_told_17 : decode cX10_told 17 = .ok (.getfield 257, 3) := by decide +kernel
theorem dX10_told_20 : decode cX10_told 20 = .ok (.i2l, 1) := by decide +kernel
theorem dX10_told_21 : decode cX10_told 21 = .ok (.goto 30, 3) := by decide +kernel
theorem dX10_told_24 : decode cX10_told 24 = .ok (.iload_n 1, 1) := by decide +kernel
theorem dX10_told_25 : decode cX10_told 25 = .ok (.iconst 2, 1) := by decide +kernel
theorem dX10_told_26 : decode cX10_told 26 = .ok (.if_icmp .ne 11, 3) := by decide +kernel
theorem dX10_told_29 : decode cX10_told 29 = .ok (.aload_n 0, 1) := by decide +kernel
theorem dX10_told_30 : decode cX10_told 30 = .ok (.getfield 281, 3) := by decide +kernel
theorem dX10_told_33 : decode cX10_told 33 = .ok (.i2l, 1) := by decide +kernel
theorem dX10_told_34 : decode cX10_told 34 = .ok (.goto 17, 3) := by decide +kernel
theorem dX10_told_37 : decode cX10_told 37 = .ok (.iload_n 1, 1) := by decide +kernel
theorem dX10_told_38 : decode cX10_told 38 = .ok (.iconst 3, 1) := by decide +kernel
theorem dX10_told_39 : decode cX10_told 39 = .ok (.if_icmp .ne 11, 3) := by decide +kernel
theorem dX10_told_42 : decode cX10_told 42 = .ok (.aload_n 0, 1) := by decide +kernel
theorem dX10_told_43 : decode cX10_told 43 = .ok (.getfield 272, 3) := by decide +kernel
theorem dX10_told_46 : decode cX10_told 46 = .ok (.i2l, 1) := by decide +kernel
theorem dX10_told_47 : decode cX10_told 47 = .ok (.goto 4, 3) := by decide +kernel
theorem dX10_told_50 : decode cX10_told 50 = .ok (.lconst 0, 1) := by decide +kernel
theorem dX10_told_51 : decode cX10_told 51 = .ok (.lreturn, 1) := by decide +kernel
set_option maxRecDepth 100000 in
set_option maxHeartbeats 4000000 in
theorem rt_X10_told (l : Launch) (m0 : Nat) (ad : Nat → Nat) (K : RS) (x0 : Int32) : Ct l yX10_told cX10_told 2 (some .long) 0 0 0 0 (fun S av => av = [.ref m0, .int x0] ∧ mdR S m0 ad K ∧ RV K) (fun S _ r S' => ∃ v : Int64, r = some (.long v) ∧ v = v ∧ S' = S) := by
  refine ct_of (by decide) (fun S av h => by obtain ⟨rfl, hk, rv⟩ := h; exact Nat.le_of_ble_eq_true rfl) ?_
  intro p e s m args below meth c D G bs S av C hr hin hpre
  obtain ⟨rfl, hk, rv⟩ := hpre
  refine v_iload_n C dX10_told_0 rfl ?_
  refine v_if_ne (tgt := 11) C dX10_told_1 (by decide) (fun c_1 => ?_) (fun c_1 => ?_)
  · skip
    refine v_iload_n C dX10_told_11 rfl ?_
    refine v_iconst (v := nI 1) C dX10_told_12 (by decide) ?_
    refine v_icmp_ne (tgt := 24) C dX10_told_13 (by decide) (fun c_13 => ?_) (fun c_13 => ?_)
    · skip
      refine v_iload_n C dX10_told_24 rfl ?_
      refine v_iconst (v := nI 2) C dX10_told_25 (by decide) ?_
      refine v_icmp_ne (tgt := 37) C dX10_told_26 (by decide) (fun c_26 => ?_) (fun c_26 => ?_)
      · skip
        refine v_iload_n C dX10_told_37 rfl ?_
        refine v_iconst (v := nI 3) C dX10_told_38 (by decide) ?_
        refine v_icmp_ne (tgt := 50) C dX10_told_39 (by decide) (fun c_39 => ?_) (fun c_39 => ?_)
        · skip
          refine v_lconst (v := 0) C dX10_told_50 (by decide) ?_
          refine v_lret C hr (Nat.le_of_ble_eq_true rfl) (Nat.le_of_ble_eq_true rfl) dX10_told_51 ?_
          exact ⟨_, rfl, (rfl), rfl⟩
        · skip
          refine v_aload_n C dX10_told_42 rfl ?_
          refine q10_272 C hk dX10_told_43 ?_
          refine v_i2l C dX10_told_46 ?_
          refine v_goto (tgt := 51) C dX10_told_47 (by decide) ?_
          refine v_lret C hr (Nat.le_of_ble_eq_true rfl) (Nat.le_of_ble_eq_true rfl) dX10_told_51 ?_
          exact ⟨_, rfl, (rfl), rfl⟩
      · skip
        refine v_aload_n C dX10_told_29 rfl ?_
        refine q10_281 C hk dX10_told_30 ?_
        refine v_i2l C dX10_told_33 ?_
        refine v_goto (tgt := 51) C dX10_told_34 (by decide) ?_
        refine v_lret C hr (Nat.le_of_ble_eq_true rfl) (Nat.le_of_ble_eq_true rfl) dX10_told_51 ?_
        exact ⟨_, rfl, (rfl), rfl⟩
    · skip
      refine v_aload_n C dX10_told_16 rfl ?_
      refine q10_257 C hk dX10_told_17 ?_
      refine v_i2l C dX10_told_20 ?_
      refine v_goto (tgt := 51) C dX10_told_21 (by decide) ?_
      refine v_lret C hr (Nat.le_of_ble_eq_true rfl) (Nat.le_of_ble_eq_true rfl) dX10_told_51 ?_
      exact ⟨_, rfl, (rfl), rfl⟩
  · skip
    refine v_aload_n C dX10_told_4 rfl ?_
    refine q10_292 C hk dX10_told_5 ?_
    refine v_goto (tgt := 51) C dX10_told_8 (by decide) ?_
    refine v_lret C hr (Nat.le_of_ble_eq_true rfl) (Nat.le_of_ble_eq_true rfl) dX10_told_51 ?_
    exact ⟨_, rfl, (rfl), rfl⟩
theorem dX10_marks_0 : decode cX10_marks 0 = .ok (.aload_n 0, 1) := by decide +kernel
theorem dX10_marks_1 : decode cX10_marks 1 = .ok (.getfield 266, 3) := by decide +kernel
theorem dX10_marks_4 : decode cX10_marks 4 = .ok (.ireturn, 1) := by decide +kernel
set_option maxRecDepth 100000 in
set_option maxHeartbeats 4000000 in
theorem rt_X10_marks (l : Launch) (m0 : Nat) (ad : Nat → Nat) (K : RS)  : Ct l yX10_marks cX10_marks 1 (some .int) 0 0 0 0 (fun S av => av = [.ref m0] ∧ mdR S m0 ad K ∧ RV K) (fun S _ r S' => ∃ v : Int32, r = some (.int v) ∧ v = v ∧ S' = S) := by
  refine ct_of (by decide) (fun S av h => by obtain ⟨rfl, hk, rv⟩ := h; exact Nat.le_of_ble_eq_true rfl) ?_
  intro p e s m args below meth c D G bs S av C hr hin hpre
  obtain ⟨rfl, hk, rv⟩ := hpre
  refine v_aload_n C dX10_marks_0 rfl ?_
  refine q10_266 C hk dX10_marks_1 ?_
  refine v_iret C hr (Nat.le_of_ble_eq_true rfl) (Nat.le_of_ble_eq_true rfl) dX10_marks_4 ?_
  exact ⟨_, rfl, (rfl), rfl⟩
theorem dX10_mark_0 : decode cX10_mark 0 = .ok (.iload_n 1, 1) := by decide +kernel
theorem dX10_mark_1 : decode cX10_mark 1 = .ok (.iconst 0, 1) := by decide +kernel
theorem dX10_mark_2 : decode cX10_mark 2 = .ok (.aload_n 0, 1) := by decide +kernel
theorem dX10_mark_3 : decode cX10_mark 3 = .ok (.getfield 266, 3) := by decide +kernel
theorem dX10_mark_6 : decode cX10_mark 6 = .ok (.iconst 1, 1) := by decide +kernel
theorem dX10_mark_7 : decode cX10_mark 7 = .ok (.isub, 1) := by decide +kernel
theorem dX10_mark_8 : decode cX10_mark 8 = .ok (.invokestatic 148, 3) := by decide +kernel
theorem dX10_mark_11 : decode cX10_mark 11 = .ok (.ifCond .ne 5, 3) := by decide +kernel
theorem dX10_mark_14 : decode cX10_mark 14 = .ok (.lconst 0, 1) := by decide +kernel
theorem dX10_mark_15 : decode cX10_mark 15 = .ok (.lreturn, 1) := by decide +kernel
theorem dX10_mark_16 : decode cX10_mark 16 = .ok (.iload_n 2, 1) := by decide +kernel
theorem dX10_mark_17 : decode cX10_mark 17 = .ok (.ifCond .ne 13, 3) := by decide +kernel
theorem dX10_mark_20 : decode cX10_mark 20 = .ok (.aload_n 0, 1) := by decide +kernel
theorem dX10_mark_21 : decode cX10_mark 21 = .ok (.getfield 130, 3) := by decide +kernel
theorem dX10_mark_24 : decode cX10_mark 24 = .ok (.iload_n 1, 1) := by decide +kernel
theorem dX10_mark_25 : decode cX10_mark 25 = .ok (.iaload, 1) := by decide +kernel
theorem dX10_mark_26 : decode cX10_mark 26 = .ok (.i2l, 1) := by decide +kernel
theorem dX10_mark_27 : decode cX10_mark 27 = .ok (.goto 63, 3) := by decide +kernel
theorem dX10_mark_30 : decode cX10_mark 30 = .ok (.iload_n 2, 1) := by decide +kernel
theorem dX10_mark_31 : decode cX10_mark 31 = .ok (.iconst 1, 1) := by decide +kernel
theorem dX10_mark_32 : decode cX10_mark 32 = .ok (.if_icmp .ne 13, 3) := by decide +kernel
theorem dX10_mark_35 : decode cX10_mark 35 = .ok (.aload_n 0, 1) := by decide +kernel
theorem dX10_mark_36 : decode cX10_mark 36 = .ok (.getfield 133, 3) := by decide +kernel
theorem dX10_mark_39 : decode cX10_mark 39 = .ok (.iload_n 1, 1) := by decide +kernel
theorem dX10_mark_40 : decode cX10_mark 40 = .ok (.iaload, 1) := by decide +kernel
theorem dX10_mark_41 : decode cX10_mark 41 = .ok (.i2l, 1) := by decide +kernel
theorem dX10_mark_42 : decode cX10_mark 42 = .ok (.goto 48, 3) := by decide +kernel
theorem dX10_mark_45 : decode cX10_mark 45 = .ok (.iload_n 2, 1) := by decide +kernel
theorem dX10_mark_46 : decode cX10_mark 46 = .ok (.iconst 2, 1) := by decide +kernel
theorem dX10_mark_47 : decode cX10_mark 47 = .ok (.if_icmp .ne 13, 3) := by decide +kernel
theorem dX10_mark_50 : decode cX10_mark 50 = .ok (.aload_n 0, 1) := by decide +kernel
theorem dX10_mark_51 : decode cX10_mark 51 = .ok (.getfield 136, 3) := by decide +kernel
theorem dX10_mark_54 : decode cX10_mark 54 = .ok (.iload_n 1, 1) := by decide +kernel
theorem dX10_mark_55 : decode cX10_mark 55 = .ok (.iaload, 1) := by decide +kernel
theorem dX10_mark_56 : decode cX10_mark 56 = .ok (.i2l, 1) := by decide +kernel
theorem dX10_mark_57 : decode cX10_mark 57 = .ok (.goto 33, 3) := by decide +kernel
theorem dX10_mark_60 : decode cX10_mark 60 = .ok (.iload_n 2, 1) := by decide +kernel
theorem dX10_mark_61 : decode cX10_mark 61 = .ok (.iconst 3, 1) := by decide +kernel
theorem dX10_mark_62 : decode cX10_mark 62 = .ok (.if_icmp .ne 13, 3) := by decide +kernel
theorem dX10_mark_65 : decode cX10_mark 65 = .ok (.aload_n 0, 1) := by decide +kernel
theorem dX10_mark_66 : decode cX10_mark 66 = .ok (.getfield 139, 3) := by decide +kernel
theorem dX10_mark_69 : decode cX10_mark 69 = .ok (.iload_n 1, 1) := by decide +kernel
theorem dX10_mark_70 : decode cX10_mark 70 = .ok (.iaload, 1) := by decide +kernel
theorem dX10_mark_71 : decode cX10_mark 71 = .ok (.i2l, 1) := by decide +kernel
theorem dX10_mark_72 : decode cX10_mark 72 = .ok (.goto 18, 3) := by decide +kernel
theorem dX10_mark_75 : decode cX10_mark 75 = .ok (.iload_n 2, 1) := by decide +kernel
theorem dX10_mark_76 : decode cX10_mark 76 = .ok (.iconst 4, 1) := by decide +kernel
theorem dX10_mark_77 : decode cX10_mark 77 = .ok (.if_icmp .ne 12, 3) := by decide +kernel
theorem dX10_mark_80 : decode cX10_mark 80 = .ok (.aload_n 0, 1) := by decide +kernel
theorem dX10_mark_81 : decode cX10_mark 81 = .ok (.getfield 142, 3) := by decide +kernel
theorem dX10_mark_84 : decode cX10_mark 84 = .ok (.iload_n 1, 1) := by decide +kernel
theorem dX10_mark_85 : decode cX10_mark 85 = .ok (.laload, 1) := by decide +kernel
theorem dX10_mark_86 : decode cX10_mark 86 = .ok (.goto 4, 3) := by decide +kernel
theorem dX10_mark_89 : decode cX10_mark 89 = .ok (.lconst 0, 1) := by decide +kernel
theorem dX10_mark_90 : decode cX10_mark 90 = .ok (.lreturn, 1) := by decide +kernel
set_option maxRecDepth 100000 in
set_option maxHeartbeats 4000000 in
theorem rt_X10_mark (l : Launch) (m0 : Nat) (ad : Nat → Nat) (K : RS) (x0 : Int32) (x1 : Int32) : Ct l yX10_mark cX10_mark 3 (some .long) 1 0 0 22 (fun S av => av = [.ref m0, .int x0, .int x1] ∧ mdR S m0 ad K ∧ RV K) (fun S _ r S' => ∃ v : Int64, r = some (.long v) ∧ v = v ∧ S' = S) := by
  refine ct_of (by decide) (fun S av h => by obtain ⟨rfl, hk, rv⟩ := h; exact Nat.le_of_ble_eq_true rfl) ?_
  intro p e s m args below meth c D G bs S av C hr hin hpre
  obtain ⟨rfl, hk, rv⟩ := hpre
  have zm := rv.p16.2
  refine v_iload_n C dX10_mark_0 rfl ?_
  refine v_iconst (v := nI 0) C dX10_mark_1 (by decide) ?_
  refine v_aload_n C dX10_mark_2 rfl ?_
  refine q10_266 C hk dX10_mark_3 ?_
  refine v_val rv.p16.1 ?_
  refine v_iconst (v := nI 1) C dX10_mark_6 (by decide) ?_
  refine v_isub C dX10_mark_7 ?_
  refine v_callS (As := [_, _, _]) (n := 3) C (rt_X10_in l _ _ _) rfl ⟨wd244, wd245, wd5, wd246⟩ hy_X10_in rfl ⟨Nat.le_of_ble_eq_true rfl, Nat.le_of_ble_eq_true rfl⟩ (Nat.le_of_ble_eq_true rfl) ⟨Nat.le_of_ble_eq_true rfl, Nat.le_of_ble_eq_true rfl⟩ dX10_mark_8 rfl (fun r_8 S2_8 h_8 => ?_)
  obtain ⟨v8, rfl, p_v8, q_v8⟩ := h_8
  obtain rfl := q_v8.symm
  rw [inB_less _ (show fN K 49 < 2 ^ 31 by omega)] at p_v8
  refine b_if_ne (tgt := 16) C dX10_mark_11 (by decide) (fun c_11 => ?_) (fun c_11 => ?_)
  · skip
    obtain ⟨i, hi, rfl⟩ := below_some (p_v8.symm.trans c_11)
    refine v_iload_n C dX10_mark_16 rfl ?_
    refine v_if_ne (tgt := 30) C dX10_mark_17 (by decide) (fun c_17 => ?_) (fun c_17 => ?_)
    · skip
      refine v_iload_n C dX10_mark_30 rfl ?_
      refine v_iconst (v := nI 1) C dX10_mark_31 (by decide) ?_
      refine v_icmp_ne (tgt := 45) C dX10_mark_32 (by decide) (fun c_32 => ?_) (fun c_32 => ?_)
      · skip
        refine v_iload_n C dX10_mark_45 rfl ?_
        refine v_iconst (v := nI 2) C dX10_mark_46 (by decide) ?_
        refine v_icmp_ne (tgt := 60) C dX10_mark_47 (by decide) (fun c_47 => ?_) (fun c_47 => ?_)
        · skip
          refine v_iload_n C dX10_mark_60 rfl ?_
          refine v_iconst (v := nI 3) C dX10_mark_61 (by decide) ?_
          refine v_icmp_ne (tgt := 75) C dX10_mark_62 (by decide) (fun c_62 => ?_) (fun c_62 => ?_)
          · skip
            refine v_iload_n C dX10_mark_75 rfl ?_
            refine v_iconst (v := nI 4) C dX10_mark_76 (by decide) ?_
            refine v_icmp_ne (tgt := 89) C dX10_mark_77 (by decide) (fun c_77 => ?_) (fun c_77 => ?_)
            · skip
              refine v_lconst (v := 0) C dX10_mark_89 (by decide) ?_
              refine v_lret C hr (Nat.le_of_ble_eq_true rfl) (Nat.le_of_ble_eq_true rfl) dX10_mark_90 ?_
              exact ⟨_, rfl, (rfl), rfl⟩
            · skip
              refine v_aload_n C dX10_mark_80 rfl ?_
              refine q10_142 C hk dX10_mark_81 ?_
              refine v_iload_n C dX10_mark_84 rfl ?_
              refine n_lald C hk (show (54, 12, 200) ∈ mTab by decide +kernel) (by omega) dX10_mark_85 ?_
              refine v_goto (tgt := 90) C dX10_mark_86 (by decide) ?_
              refine v_lret C hr (Nat.le_of_ble_eq_true rfl) (Nat.le_of_ble_eq_true rfl) dX10_mark_90 ?_
              exact ⟨_, rfl, (rfl), rfl⟩
          · skip
            refine v_aload_n C dX10_mark_65 rfl ?_
            refine q10_139 C hk dX10_mark_66 ?_
            refine v_iload_n C dX10_mark_69 rfl ?_
            refine n_iald C hk (show (53, 11, 200) ∈ mTab by decide +kernel) (by omega) dX10_mark_70 ?_
            refine v_i2l C dX10_mark_71 ?_
            refine v_goto (tgt := 90) C dX10_mark_72 (by decide) ?_
            refine v_lret C hr (Nat.le_of_ble_eq_true rfl) (Nat.le_of_ble_eq_true rfl) dX10_mark_90 ?_
            exact ⟨_, rfl, (rfl), rfl⟩
        · skip
          refine v_aload_n C dX10_mark_50 rfl ?_
          refine q10_136 C hk dX10_mark_51 ?_
          refine v_iload_n C dX10_mark_54 rfl ?_
          refine n_iald C hk (show (52, 11, 200) ∈ mTab by decide +kernel) (by omega) dX10_mark_55 ?_
          refine v_i2l C dX10_mark_56 ?_
          refine v_goto (tgt := 90) C dX10_mark_57 (by decide) ?_
          refine v_lret C hr (Nat.le_of_ble_eq_true rfl) (Nat.le_of_ble_eq_true rfl) dX10_mark_90 ?_
          exact ⟨_, rfl, (rfl), rfl⟩
      · skip
        refine v_aload_n C dX10_mark_35 rfl ?_
        refine q10_133 C hk dX10_mark_36 ?_
        refine v_iload_n C dX10_mark_39 rfl ?_
        refine n_iald C hk (show (51, 11, 200) ∈ mTab by decide +kernel) (by omega) dX10_mark_40 ?_
        refine v_i2l C dX10_mark_41 ?_
        refine v_goto (tgt := 90) C dX10_mark_42 (by decide) ?_
        refine v_lret C hr (Nat.le_of_ble_eq_true rfl) (Nat.le_of_ble_eq_true rfl) dX10_mark_90 ?_
        exact ⟨_, rfl, (rfl), rfl⟩
    · skip
      refine v_aload_n C dX10_mark_20 rfl ?_
      refine q10_130 C hk dX10_mark_21 ?_
      refine v_iload_n C dX10_mark_24 rfl ?_
      refine n_iald C hk (show (50, 11, 200) ∈ mTab by decide +kernel) (by omega) dX10_mark_25 ?_
      refine v_i2l C dX10_mark_26 ?_
      refine v_goto (tgt := 90) C dX10_mark_27 (by decide) ?_
      refine v_lret C hr (Nat.le_of_ble_eq_true rfl) (Nat.le_of_ble_eq_true rfl) dX10_mark_90 ?_
      exact ⟨_, rfl, (rfl), rfl⟩
  · skip
    refine v_lconst (v := 0) C dX10_mark_14 (by decide) ?_
    refine v_lret C hr (Nat.le_of_ble_eq_true rfl) (Nat.le_of_ble_eq_true rfl) dX10_mark_15 ?_
    exact ⟨_, rfl, (rfl), rfl⟩
theorem dX10_mood_0 : decode cX10_mood 0 = .ok (.aload_n 0, 1) := by decide +kernel
theorem dX10_mood_1 : decode cX10_mood 1 = .ok (.iload_n 1, 1) := by decide +kernel
theorem dX10_mood_2 : decode cX10_mood 2 = .ok (.invokevirtual 176, 3) := by decide +kernel
theorem dX10_mood_5 : decode cX10_mood 5 = .ok (.ifCond .eq 25, 3) := by decide +kernel
theorem dX10_mood_8 : decode cX10_mood 8 = .ok (.iload_n 2, 1) := by decide +kernel
theorem dX10_mood_9 : decode cX10_mood 9 = .ok (.iconst 0, 1) := by decide +kernel
theorem dX10_mood_10 : decode cX10_mood 10 = .ok (.iconst 3, 1) := by decide +kernel
theorem dX10_mood_11 : decode cX10_mood 11 = .ok (.invokestatic 148, 3) := by decide +kernel
theorem dX10_mood_14 : decode cX10_mood 14 = .ok (.ifCond .eq 16, 3) := by decide +kernel
theorem dX10_mood_17 : decode cX10_mood 17 = .ok (.aload_n 0, 1) := by decide +kernel
theorem dX10_mood_18 : decode cX10_mood 18 = .ok (.getfield 31, 3) := by decide +kernel
theorem dX10_mood_21 : decode cX10_mood 21 = .ok (.iconst 4, 1) := by decide +kernel
theorem dX10_mood_22 : decode cX10_mood 22 = .ok (.iload_n 1, 1) := by decide +kernel
theorem dX10_mood_23 : decode cX10_mood 23 = .ok (.imul, 1) := by decide +kernel
theorem dX10_mood_24 : decode cX10_mood 24 = .ok (.iload_n 2, 1) := by decide +kernel
theorem dX10_mood_25 : decode cX10_mood 25 = .ok (.iadd, 1) := by decide +kernel
theorem dX10_mood_26 : decode cX10_mood 26 = .ok (.laload, 1) := by decide +kernel
theorem dX10_mood_27 : decode cX10_mood 27 = .ok (.goto 4, 3) := by decide +kernel
theorem dX10_mood_30 : decode cX10_mood 30 = .ok (.lconst 0, 1) := by decide +kernel
theorem dX10_mood_31 : decode cX10_mood 31 = .ok (.lreturn, 1) := by decide +kernel
set_option maxRecDepth 100000 in
set_option maxHeartbeats 4000000 in
theorem rt_X10_mood (l : Launch) (m0 : Nat) (ad : Nat → Nat) (K : RS) (x0 : Int32) (x1 : Int32) : Ct l yX10_mood cX10_mood 3 (some .long) 2 0 0 43 (fun S av => av = [.ref m0, .int x0, .int x1] ∧ mdR S m0 ad K ∧ RV K) (fun S _ r S' => ∃ v : Int64, r = some (.long v) ∧ v = v ∧ S' = S) := by
  refine ct_of (by decide) (fun S av h => by obtain ⟨rfl, hk, rv⟩ := h; exact Nat.le_of_ble_eq_true rfl) ?_
  intro p e s m args below meth c D G bs S av C hr hin hpre
  obtain ⟨rfl, hk, rv⟩ := hpre
  refine v_aload_n C dX10_mood_0 rfl ?_
  refine v_iload_n C dX10_mood_1 rfl ?_
  refine v_callV (As := [_]) (n := 1) C (rt_X10_isCharacter l m0 ad _ _) rfl hk.1 (by decide) rfl ⟨wd334, wd335, wd336, wd5, wd337⟩ ⟨rfl, hy_X10_isCharacter⟩ rfl ⟨Nat.le_of_ble_eq_true rfl, Nat.le_of_ble_eq_true rfl⟩ (Nat.le_of_ble_eq_true rfl) ⟨Nat.le_of_ble_eq_true rfl, Nat.le_of_ble_eq_true rfl⟩ dX10_mood_2 ⟨rfl, hk, rv⟩ (fun r_2 S2_2 h_2 => ?_)
  obtain ⟨v2, rfl, p_v2, q_v2⟩ := h_2
  obtain rfl := q_v2.symm
  refine b_if_eq (tgt := 30) C dX10_mood_5 (by decide) (fun c_5 => ?_) (fun c_5 => ?_)
  · skip
    refine v_lconst (v := 0) C dX10_mood_30 (by decide) ?_
    refine v_lret C hr (Nat.le_of_ble_eq_true rfl) (Nat.le_of_ble_eq_true rfl) dX10_mood_31 ?_
    exact ⟨_, rfl, (rfl), rfl⟩
  · skip
    obtain ⟨u, h0u, rfl⟩ := below_some (p_v2.symm.trans c_5)
    have hu : u < 12 := by have := rv.p2.2; omega
    have e_u := nI_clamp (show u < 2 ^ 31 by omega)
    refine v_iload_n C dX10_mood_8 rfl ?_
    refine v_iconst (v := nI 0) C dX10_mood_9 (by decide) ?_
    refine v_iconst (v := nI 3) C dX10_mood_10 (by decide) ?_
    refine v_callS (As := [_, _, _]) (n := 3) C (rt_X10_in l _ _ _) rfl ⟨wd244, wd245, wd5, wd246⟩ hy_X10_in rfl ⟨Nat.le_of_ble_eq_true rfl, Nat.le_of_ble_eq_true rfl⟩ (Nat.le_of_ble_eq_true rfl) ⟨Nat.le_of_ble_eq_true rfl, Nat.le_of_ble_eq_true rfl⟩ dX10_mood_11 rfl (fun r_11 S4_11 h_11 => ?_)
    obtain ⟨v11, rfl, p_v11, q_v11⟩ := h_11
    obtain rfl := q_v11.symm
    rw [inB_below _ (n := 4) rfl] at p_v11
    refine b_if_eq (tgt := 30) C dX10_mood_14 (by decide) (fun c_14 => ?_) (fun c_14 => ?_)
    · skip
      refine v_lconst (v := 0) C dX10_mood_30 (by decide) ?_
      refine v_lret C hr (Nat.le_of_ble_eq_true rfl) (Nat.le_of_ble_eq_true rfl) dX10_mood_31 ?_
      exact ⟨_, rfl, (rfl), rfl⟩
    · skip
      obtain ⟨w, hw, rfl⟩ := below_some (p_v11.symm.trans c_14)
      have e_w := nI_clamp (show w < 2 ^ 31 by omega)
      refine v_aload_n C dX10_mood_17 rfl ?_
      refine q10_31 C hk dX10_mood_18 ?_
      refine v_iconst (v := nI 4) C dX10_mood_21 (by decide) ?_
      refine v_iload_n C dX10_mood_22 rfl ?_
      refine n_imul C dX10_mood_23 ?_
      refine v_iload_n C dX10_mood_24 rfl ?_
      refine n_iadd C dX10_mood_25 ?_
      refine n_lald C hk (show (9, 12, 48) ∈ mTab by decide +kernel) (by omega) dX10_mood_26 ?_
      refine v_goto (tgt := 31) C dX10_mood_27 (by decide) ?_
      refine v_lret C hr (Nat.le_of_ble_eq_true rfl) (Nat.le_of_ble_eq_true rfl) dX10_mood_31 ?_
      exact ⟨_, rfl, (rfl), rfl⟩
theorem dX10_guards_0 : decode cX10_guards 0 = .ok (.aload_n 0, 1) := by decide +kernel
theorem dX10_guards_1 : decode cX10_guards 1 = .ok (.iload_n 1, 1) := by decide +kernel
theorem dX10_guards_2 : decode cX10_guards 2 = .ok (.invokevirtual 176, 3) := by decide +kernel
theorem dX10_guards_5 : decode cX10_guards 5 = .ok (.ifCond .eq 10, 3) := by decide +kernel
theorem dX10_guards_8 : decode cX10_guards 8 = .ok (.iload_n 2, 1) := by decide +kernel
theorem dX10_guards_9 : decode cX10_guards 9 = .ok (.invokestatic 179, 3) := by decide +kernel
theorem dX10_guards_12 : decode cX10_guards 12 = .ok (.ifCond .ne 6, 3) := by decide +kernel
theorem dX10_guards_15 : decode cX10_guards 15 = .ok (.bipush (-2), 2) := by decide +kernel
theorem dX10_guards_17 : decode cX10_guards 17 = .ok (.ireturn, 1) := by decide +kernel
theorem dX10_guards_18 : decode cX10_guards 18 = .ok (.aload_n 0, 1) := by decide +kernel
theorem dX10_guards_19 : decode cX10_guards 19 = .ok (.iload_n 1, 1) := by decide +kernel
theorem dX10_guards_20 : decode cX10_guards 20 = .ok (.iload_n 2, 1) := by decide +kernel
theorem dX10_guards_21 : decode cX10_guards 21 = .ok (.iload_n 3, 1) := by decide +kernel
theorem dX10_guards_22 : decode cX10_guards 22 = .ok (.invokevirtual 227, 3) := by decide +kernel
theorem dX10_guards_25 : decode cX10_guards 25 = .ok (.istore 4, 2) := by decide +kernel
theorem dX10_guards_27 : decode cX10_guards 27 = .ok (.iload 4, 2) := by decide +kernel
theorem dX10_guards_29 : decode cX10_guards 29 = .ok (.iconst (-1), 1) := by decide +kernel
theorem dX10_guards_30 : decode cX10_guards 30 = .ok (.if_icmp .ne 7, 3) := by decide +kernel
theorem dX10_guards_33 : decode cX10_guards 33 = .ok (.iconst (-1), 1) := by decide +kernel
theorem dX10_guards_34 : decode cX10_guards 34 = .ok (.goto 17, 3) := by decide +kernel
theorem dX10_guards_37 : decode cX10_guards 37 = .ok (.aload_n 0, 1) := by decide +kernel
theorem dX10_guards_38 : decode cX10_guards 38 = .ok (.getfield 25, 3) := by decide +kernel
theorem dX10_guards_41 : decode cX10_guards 41 = .ok (.bipush 20, 2) := by decide +kernel
theorem dX10_guards_43 : decode cX10_guards 43 = .ok (.iload_n 1, 1) := by decide +kernel
theorem dX10_guards_44 : decode cX10_guards 44 = .ok (.imul, 1) := by decide +kernel
theorem dX10_guards_45 : decode cX10_guards 45 = .ok (.iload 4, 2) := by decide +kernel
theorem dX10_guards_47 : decode cX10_guards 47 = .ok (.iadd, 1) := by decide +kernel
theorem dX10_guards_48 : decode cX10_guards 48 = .ok (.iconst 1, 1) := by decide +kernel
theorem dX10_guards_49 : decode cX10_guards 49 = .ok (.isub, 1) := by decide +kernel
theorem dX10_guards_50 : decode cX10_guards 50 = .ok (.iaload, 1) := by decide +kernel
theorem dX10_guards_51 : decode cX10_guards 51 = .ok (.ireturn, 1) := by decide +kernel
set_option maxRecDepth 100000 in
set_option maxHeartbeats 4000000 in
theorem rt_X10_guards (l : Launch) (m0 : Nat) (ad : Nat → Nat) (K : RS) (x0 : Int32) (x1 : Int32) (x2 : Int32) : Ct l yX10_guards cX10_guards 5 (some .int) 2 0 0 43 (fun S av => av = [.ref m0, .int x0, .int x1, .int x2] ∧ mdR S m0 ad K ∧ RV K) (fun S _ r S' => ∃ v : Int32, r = some (.int v) ∧ v = v ∧ S' = S) := by
  refine ct_of (by decide) (fun S av h => by obtain ⟨rfl, hk, rv⟩ := h; exact Nat.le_of_ble_eq_true rfl) ?_
  intro p e s m args below meth c D G bs S av C hr hin hpre
  obtain ⟨rfl, hk, rv⟩ := hpre
  refine v_aload_n C dX10_guards_0 rfl ?_
  refine v_iload_n C dX10_guards_1 rfl ?_
  refine v_callV (As := [_]) (n := 1) C (rt_X10_isCharacter l m0 ad _ _) rfl hk.1 (by decide) rfl ⟨wd334, wd335, wd336, wd5, wd337⟩ ⟨rfl, hy_X10_isCharacter⟩ rfl ⟨Nat.le_of_ble_eq_true rfl, Nat.le_of_ble_eq_true rfl⟩ (Nat.le_of_ble_eq_true rfl) ⟨Nat.le_of_ble_eq_true rfl, Nat.le_of_ble_eq_true rfl⟩ dX10_guards_2 ⟨rfl, hk, rv⟩ (fun r_2 S2_2 h_2 => ?_)
  obtain ⟨v2, rfl, p_v2, q_v2⟩ := h_2
  obtain rfl := q_v2.symm
  refine b_if_eq (tgt := 15) C dX10_guards_5 (by decide) (fun c_5 => ?_) (fun c_5 => ?_)
  · skip
    refine v_bipush (v := -2) C dX10_guards_15 (by decide) ?_
    refine v_iret C hr (Nat.le_of_ble_eq_true rfl) (Nat.le_of_ble_eq_true rfl) dX10_guards_17 ?_
    exact ⟨_, rfl, (rfl), rfl⟩
  · skip
    obtain ⟨u, h0u, rfl⟩ := below_some (p_v2.symm.trans c_5)
    have hu : u < 12 := by have := rv.p2.2; omega
    have e_u := nI_clamp (show u < 2 ^ 31 by omega)
    refine v_iload_n C dX10_guards_8 rfl ?_
    refine v_callS (As := [_]) (n := 1) C (rt_X10_isAct l _) rfl ⟨wd368, wd369, wd5, wd370⟩ hy_X10_isAct rfl ⟨Nat.le_of_ble_eq_true rfl, Nat.le_of_ble_eq_true rfl⟩ (Nat.le_of_ble_eq_true rfl) ⟨Nat.le_of_ble_eq_true rfl, Nat.le_of_ble_eq_true rfl⟩ dX10_guards_9 rfl (fun r_9 S4_9 h_9 => ?_)
    obtain ⟨v9, rfl, p_v9, q_v9⟩ := h_9
    obtain rfl := q_v9.symm
    refine b_if_ne (tgt := 18) C dX10_guards_12 (by decide) (fun c_12 => ?_) (fun c_12 => ?_)
    · skip
      obtain ⟨n, hn, rfl⟩ := below_some (p_v9.symm.trans c_12)
      have e_n := nI_clamp (show n < 2 ^ 31 by omega)
      by_cases hneg : x2 < 0
      · skip
        refine v_aload_n C dX10_guards_18 rfl ?_
        refine v_iload_n C dX10_guards_19 rfl ?_
        refine v_iload_n C dX10_guards_20 rfl ?_
        refine v_iload_n C dX10_guards_21 rfl ?_
        refine v_callV (As := [_, _, _]) (n := 3) C (rt_X10_guardAt_neg l m0 ad _ _ _ _) rfl hk.1 (by decide) rfl ⟨wd664, wd665, wd666, wd5, wd667⟩ ⟨rfl, hy_X10_guardAt⟩ rfl ⟨Nat.le_of_ble_eq_true rfl, Nat.le_of_ble_eq_true rfl⟩ (Nat.le_of_ble_eq_true rfl) ⟨Nat.le_of_ble_eq_true rfl, Nat.le_of_ble_eq_true rfl⟩ dX10_guards_22 ⟨rfl, hk, rv, (by omega), (by omega), hneg⟩ (fun r_22 S2_22 h_22 => ?_)
        obtain ⟨v22, rfl, p_v22, b_v22, q_v22⟩ := h_22
        obtain rfl := q_v22.symm
        obtain rfl := p_v22
        refine v_istore C dX10_guards_25 (by decide) rfl ?_
        refine v_iload C dX10_guards_27 rfl ?_
        refine v_iconst (v := -1) C dX10_guards_29 (by decide) ?_
        refine v_icmp_ne (tgt := 37) C dX10_guards_30 (by decide) (fun c_30 => ?_) (fun c_30 => ?_)
        · skip
          exact absurd c_30 (by decide)
        · skip
          refine v_iconst (v := -1) C dX10_guards_33 (by decide) ?_
          refine v_goto (tgt := 51) C dX10_guards_34 (by decide) ?_
          refine v_iret C hr (Nat.le_of_ble_eq_true rfl) (Nat.le_of_ble_eq_true rfl) dX10_guards_51 ?_
          exact ⟨_, rfl, (rfl), rfl⟩
      · skip
        obtain ⟨i, hi, rfl⟩ := nI_of hneg
        obtain ⟨z1, z2⟩ := rv.p5 u hu
        refine v_aload_n C dX10_guards_18 rfl ?_
        refine v_iload_n C dX10_guards_19 rfl ?_
        refine v_iload_n C dX10_guards_20 rfl ?_
        refine v_iload_n C dX10_guards_21 rfl ?_
        refine v_callV (As := [_, _, _]) (n := 3) C (rt_X10_guardAt l m0 ad _ _ _ _) rfl hk.1 (by decide) rfl ⟨wd664, wd665, wd666, wd5, wd667⟩ ⟨rfl, hy_X10_guardAt⟩ rfl ⟨Nat.le_of_ble_eq_true rfl, Nat.le_of_ble_eq_true rfl⟩ (Nat.le_of_ble_eq_true rfl) ⟨Nat.le_of_ble_eq_true rfl, Nat.le_of_ble_eq_true rfl⟩ dX10_guards_22 ⟨rfl, hk, rv, (by omega), (by omega), (by omega)⟩ (fun r_22 S2_22 h_22 => ?_)
        obtain ⟨v22, rfl, p_v22, b_v22, q_v22⟩ := h_22
        obtain rfl := q_v22.symm
        refine v_istore C dX10_guards_25 (by decide) rfl ?_
        refine v_iload C dX10_guards_27 rfl ?_
        refine v_iconst (v := -1) C dX10_guards_29 (by decide) ?_
        refine o_icmp_ne (tgt := 37) C (fun k z => by have := b_v22 k z; omega) dX10_guards_30 (by decide) (fun k30 c_30 => ?_) (fun c_30 => ?_)
        · skip
          have b_k30 := b_v22 k30 c_30
          subst c_30
          obtain ⟨g1, g2, g3⟩ := guardF_le p_v22.symm
          refine v_aload_n C dX10_guards_37 rfl ?_
          refine q10_25 C hk dX10_guards_38 ?_
          refine v_bipush (v := nI 20) C dX10_guards_41 (by decide) ?_
          refine v_iload_n C dX10_guards_43 rfl ?_
          refine n_imul C dX10_guards_44 ?_
          refine v_iload C dX10_guards_45 rfl ?_
          refine n_iadd C dX10_guards_47 ?_
          refine v_iconst (v := nI 1) C dX10_guards_48 (by decide) ?_
          refine n_isub C (by omega) dX10_guards_49 ?_
          obtain ⟨y1, y2⟩ := line_p rv hu (p := k30) (by omega) g2
          refine n_iald C hk (show (7, 11, 240) ∈ mTab by decide +kernel) (by omega) dX10_guards_50 ?_
          refine v_val y1 ?_
          refine v_iret C hr (Nat.le_of_ble_eq_true rfl) (Nat.le_of_ble_eq_true rfl) dX10_guards_51 ?_
          exact ⟨_, rfl, (rfl), rfl⟩
        · skip
          subst c_30
          refine v_iconst (v := -1) C dX10_guards_33 (by decide) ?_
          refine v_goto (tgt := 51) C dX10_guards_34 (by decide) ?_
          refine v_iret C hr (Nat.le_of_ble_eq_true rfl) (Nat.le_of_ble_eq_true rfl) dX10_guards_51 ?_
          exact ⟨_, rfl, (rfl), rfl⟩
    · skip
      refine v_bipush (v := -2) C dX10_guards_15 (by decide) ?_
      refine v_iret C hr (Nat.le_of_ble_eq_true rfl) (Nat.le_of_ble_eq_true rfl) dX10_guards_17 ?_
      exact ⟨_, rfl, (rfl), rfl⟩
theorem dX10_count_0 : decode cX10_count 0 = .ok (.iload_n 1, 1) := by decide +kernel
theorem dX10_count_1 : decode cX10_count 1 = .ok (.iconst 0, 1) := by decide +kernel
theorem dX10_count_2 : decode cX10_count 2 = .ok (.iconst 5, 1) := by decide +kernel
theorem dX10_count_3 : decode cX10_count 3 = .ok (.invokestatic 148, 3) := by decide +kernel
theorem dX10_count_6 : decode cX10_count 6 = .ok (.ifCond .ne 6, 3) := by decide +kernel
theorem dX10_count_9 : decode cX10_count 9 = .ok (.bipush (-2), 2) := by decide +kernel
theorem dX10_count_11 : decode cX10_count 11 = .ok (.ireturn, 1) := by decide +kernel
theorem dX10_count_12 : decode cX10_count 12 = .ok (.iload_n 1, 1) := by decide +kernel
theorem dX10_count_13 : decode cX10_count 13 = .ok (.iconst 2, 1) := by decide +kernel
theorem dX10_count_14 : decode cX10_count 14 = .ok (.if_icmp .ge 19, 3) := by decide +kernel
theorem dX10_count_17 : decode cX10_count 17 = .ok (.iload_n 1, 1) := by decide +kernel
theorem dX10_count_18 : decode cX10_count 18 = .ok (.ifCond .ne 10, 3) := by decide +kernel
theorem dX10_count_21 : decode cX10_count 21 = .ok (.aload_n 0, 1) := by decide +kernel
theorem dX10_count_22 : decode cX10_count 22 = .ok (.getfield 145, 3) := by decide +kernel
theorem dX10_count_25 : decode cX10_count 25 = .ok (.goto 7, 3) := by decide +kernel
theorem dX10_count_28 : decode cX10_count 28 = .ok (.aload_n 0, 1) := by decide +kernel
theorem dX10_count_29 : decode cX10_count 29 = .ok (.getfield 152, 3) := by decide +kernel
theorem dX10_count_32 : decode cX10_count 32 = .ok (.ireturn, 1) := by decide +kernel
theorem dX10_count_33 : decode cX10_count 33 = .ok (.iconst 0, 1) := by decide +kernel
theorem dX10_count_34 : decode cX10_count 34 = .ok (.istore_n 2, 1) := by decide +kernel
theorem dX10_count_35 : decode cX10_count 35 = .ok (.iload_n 1, 1) := by decide +kernel
theorem dX10_count_36 : decode cX10_count 36 = .ok (.iconst 4, 1) := by decide +kernel
theorem dX10_count_37 : decode cX10_count 37 = .ok (.if_icmp .ge 50, 3) := by decide +kernel
theorem dX10_count_40 : decode cX10_count 40 = .ok (.iconst 0, 1) := by decide +kernel
theorem dX10_count_41 : decode cX10_count 41 = .ok (.istore_n 3, 1) := by decide +kernel
theorem dX10_count_42 : decode cX10_count 42 = .ok (.iload_n 3, 1) := by decide +kernel
theorem dX10_count_43 : decode cX10_count 43 = .ok (.sipush 240, 3) := by decide +kernel
theorem dX10_count_46 : decode cX10_count 46 = .ok (.if_icmp .ge 39, 3) := by decide +kernel
theorem dX10_count_49 : decode cX10_count 49 = .ok (.iload_n 2, 1) := by decide +kernel
theorem dX10_count_50 : decode cX10_count 50 = .ok (.aload_n 0, 1) := by decide +kernel
theorem dX10_count_51 : decode cX10_count 51 = .ok (.getfield 35, 3) := by decide +kernel
theorem dX10_count_54 : decode cX10_count 54 = .ok (.iload_n 3, 1) := by decide +kernel
theorem dX10_count_55 : decode cX10_count 55 = .ok (.iload_n 1, 1) := by decide +kernel
theorem dX10_count_56 : decode cX10_count 56 = .ok (.iconst 2, 1) := by decide +kernel
theorem dX10_count_57 : decode cX10_count 57 = .ok (.if_icmp .ne 7, 3) := by decide +kernel
theorem dX10_count_60 : decode cX10_count 60 = .ok (.iconst 0, 1) := by decide +kernel
theorem dX10_count_61 : decode cX10_count 61 = .ok (.goto 6, 3) := by decide +kernel
theorem dX10_count_64 : decode cX10_count 64 = .ok (.sipush 240, 3) := by decide +kernel
theorem dX10_count_67 : decode cX10_count 67 = .ok (.iadd, 1) := by decide +kernel
theorem dX10_count_68 : decode cX10_count 68 = .ok (.baload, 1) := by decide +kernel
theorem dX10_count_69 : decode cX10_count 69 = .ok (.ifCond .eq 7, 3) := by decide +kernel
theorem dX10_count_72 : decode cX10_count 72 = .ok (.iconst 1, 1) := by decide +kernel
theorem dX10_count_73 : decode cX10_count 73 = .ok (.goto 4, 3) := by decide +kernel
theorem dX10_count_76 : decode cX10_count 76 = .ok (.iconst 0, 1) := by decide +kernel
theorem dX10_count_77 : decode cX10_count 77 = .ok (.iadd, 1) := by decide +kernel
theorem dX10_count_78 : decode cX10_count 78 = .ok (.istore_n 2, 1) := by decide +kernel
theorem dX10_count_79 : decode cX10_count 79 = .ok (.iinc 3 1, 3) := by decide +kernel
theorem dX10_count_82 : decode cX10_count 82 = .ok (.goto (-40), 3) := by decide +kernel
theorem dX10_count_85 : decode cX10_count 85 = .ok (.iload_n 2, 1) := by decide +kernel
theorem dX10_count_86 : decode cX10_count 86 = .ok (.ireturn, 1) := by decide +kernel
theorem dX10_count_87 : decode cX10_count 87 = .ok (.iconst 0, 1) := by decide +kernel
theorem dX10_count_88 : decode cX10_count 88 = .ok (.istore_n 3, 1) := by decide +kernel
theorem dX10_count_89 : decode cX10_count 89 = .ok (.iload_n 3, 1) := by decide +kernel
theorem dX10_count_90 : decode cX10_count 90 = .ok (.aload_n 0, 1) := by decide +kernel
theorem dX10_count_91 : decode cX10_count 91 = .ok (.getfield 152, 3) := by decide +kernel
theorem dX10_count_94 : decode cX10_count 94 = .ok (.if_icmp .ge 63, 3) := by decide +kernel
theorem dX10_count_97 : decode cX10_count 97 = .ok (.iconst 0, 1) := by decide +kernel
theorem dX10_count_98 : decode cX10_count 98 = .ok (.istore 4, 2) := by decide +kernel
theorem dX10_count_100 : decode cX10_count 100 = .ok (.iload 4, 2) := by decide +kernel
theorem dX10_count_102 : decode cX10_count 102 = .ok (.bipush 12, 2) := by decide +kernel
theorem dX10_count_104 : decode cX10_count 104 = .ok (.if_icmp .ge 47, 3) := by decide +kernel
theorem dX10_count_107 : decode cX10_count 107 = .ok (.iload_n 2, 1) := by decide +kernel
theorem dX10_count_108 : decode cX10_count 108 = .ok (.iload_n 1, 1) := by decide +kernel
theorem dX10_count_109 : decode cX10_count 109 = .ok (.iconst 4, 1) := by decide +kernel
theorem dX10_count_110 : decode cX10_count 110 = .ok (.if_icmp .ne 16, 3) := by decide +kernel
theorem dX10_count_113 : decode cX10_count 113 = .ok (.aload_n 0, 1) := by decide +kernel
theorem dX10_count_114 : decode cX10_count 114 = .ok (.iload_n 3, 1) := by decide +kernel
theorem dX10_count_115 : decode cX10_count 115 = .ok (.iload 4, 2) := by decide +kernel
theorem dX10_count_117 : decode cX10_count 117 = .ok (.invokevirtual 224, 3) := by decide +kernel
theorem dX10_count_120 : decode cX10_count 120 = .ok (.ifCond .le 22, 3) := by decide +kernel
theorem dX10_count_123 : decode cX10_count 123 = .ok (.goto 15, 3) := by decide +kernel
theorem dX10_count_126 : decode cX10_count 126 = .ok (.aload_n 0, 1) := by decide +kernel
theorem dX10_count_127 : decode cX10_count 127 = .ok (.iload_n 3, 1) := by decide +kernel
theorem dX10_count_128 : decode cX10_count 128 = .ok (.iload 4, 2) := by decide +kernel
theorem dX10_count_130 : decode cX10_count 130 = .ok (.invokevirtual 221, 3) := by decide +kernel
theorem dX10_count_133 : decode cX10_count 133 = .ok (.bipush (-5), 2) := by decide +kernel
theorem dX10_count_135 : decode cX10_count 135 = .ok (.if_icmp .ne 7, 3) := by decide +kernel
theorem dX10_count_138 : decode cX10_count 138 = .ok (.iconst 1, 1) := by decide +kernel
theorem dX10_count_139 : decode cX10_count 139 = .ok (.goto 4, 3) := by decide +kernel
theorem dX10_count_142 : decode cX10_count 142 = .ok (.iconst 0, 1) := by decide +kernel
theorem dX10_count_143 : decode cX10_count 143 = .ok (.iadd, 1) := by decide +kernel
theorem dX10_count_144 : decode cX10_count 144 = .ok (.istore_n 2, 1) := by decide +kernel
theorem dX10_count_145 : decode cX10_count 145 = .ok (.iinc 4 1, 3) := by decide +kernel
theorem dX10_count_148 : decode cX10_count 148 = .ok (.goto (-48), 3) := by decide +kernel
theorem dX10_count_151 : decode cX10_count 151 = .ok (.iinc 3 1, 3) := by decide +kernel
theorem dX10_count_154 : decode cX10_count 154 = .ok (.goto (-65), 3) := by decide +kernel
theorem dX10_count_157 : decode cX10_count 157 = .ok (.iload_n 2, 1) := by decide +kernel
theorem dX10_count_158 : decode cX10_count 158 = .ok (.ireturn, 1) := by decide +kernel
set_option maxRecDepth 100000 in
set_option maxHeartbeats 4000000 in
theorem rt_X10_count (l : Launch) (m0 : Nat) (ad : Nat → Nat) (K : RS) (x0 : Int32) : Ct l yX10_count cX10_count 5 (some .int) 5 0 0 125 (fun S av => av = [.ref m0, .int x0] ∧ mdR S m0 ad K ∧ RV K) (fun S _ r S' => ∃ v : Int32, r = some (.int v) ∧ v = countP K x0 ∧ S' = S) := by
  refine ct_of (by decide) (fun S av h => by obtain ⟨rfl, hk, rv⟩ := h; exact Nat.le_of_ble_eq_true rfl) ?_
  intro p e s m args below meth c D G bs S av C hr hin hpre
  obtain ⟨rfl, hk, rv⟩ := hpre
  refine v_iload_n C dX10_count_0 rfl ?_
  refine v_iconst (v := nI 0) C dX10_count_1 (by decide) ?_
  refine v_iconst (v := nI 5) C dX10_count_2 (by decide) ?_
  refine v_callS (As := [_, _, _]) (n := 3) C (rt_X10_in l _ _ _) rfl ⟨wd244, wd245, wd5, wd246⟩ hy_X10_in rfl ⟨Nat.le_of_ble_eq_true rfl, Nat.le_of_ble_eq_true rfl⟩ (Nat.le_of_ble_eq_true rfl) ⟨Nat.le_of_ble_eq_true rfl, Nat.le_of_ble_eq_true rfl⟩ dX10_count_3 rfl (fun r_3 S2_3 h_3 => ?_)
  obtain ⟨v3, rfl, p_v3, q_v3⟩ := h_3
  obtain rfl := q_v3.symm
  rw [inB_below _ (n := 6) rfl] at p_v3
  refine b_if_ne (tgt := 12) C dX10_count_6 (by decide) (fun c_6 => ?_) (fun c_6 => ?_)
  · skip
    obtain ⟨w, hw, rfl⟩ := below_some (p_v3.symm.trans c_6)
    have e_w := nI_clamp (show w < 2 ^ 31 by omega)
    refine v_iload_n C dX10_count_12 rfl ?_
    refine v_iconst (v := nI 2) C dX10_count_13 (by decide) ?_
    refine n_icmp_ge (tgt := 33) C (by omega) (by omega) dX10_count_14 (by decide) (fun c_14 => ?_) (fun c_14 => ?_)
    · skip
      have hP : countP K (nI w) = countF K w := by simp [countP, e_w, ← p_v3, c_6]
      refine v_iconst (v := nI 0) C dX10_count_33 (by decide) ?_
      refine v_istore_n C dX10_count_34 (by decide) rfl ?_
      refine v_iload_n C dX10_count_35 rfl ?_
      refine v_iconst (v := nI 4) C dX10_count_36 (by decide) ?_
      refine n_icmp_ge (tgt := 87) C (by omega) (by omega) dX10_count_37 (by decide) (fun c_37 => ?_) (fun c_37 => ?_)
      · skip
        have hF : countF K w = nI (sm (rowN K w) (fN K 3 - 0) 0) := by unfold countF; rw [if_neg (by omega), if_neg (by omega), if_neg (by omega)]
        have zc := rv.p2.2
        refine v_iconst (v := nI 0) C dX10_count_87 (by decide) ?_
        refine v_istore_n C dX10_count_88 (by decide) rfl ?_
        refine V.lits (lv' := [_, _, _, _, _]) rfl ?_
        refine v_loop (fun (tt : (Nat) × (Nat)) lv0 => ((lv0.set 3 (some (.int (nI tt.1)))).set 2 (some (.int (nI tt.2))))) (fun (S1 : Mem) (tt : (Nat) × (Nat)) => S1 = S ∧ (tt.1 ≤ fN K 3 ∧ tt.2 ≤ 12 * tt.1) ∧ (sm (rowN K w) (fN K 3 - 0) 0 = tt.2 + sm (rowN K w) (fN K 3 - tt.1) tt.1)) (fun (S1 : Mem) (tt : (Nat) × (Nat)) => fN K 3 - tt.1) (t := (0, 0)) rfl ⟨rfl, (by omega), (Nat.zero_add _).symm⟩ ?_
        intro L89 tt h_89 ih_89
        obtain ⟨u, a⟩ := tt
        obtain ⟨e_S, hb, ho⟩ := h_89
        subst e_S
        try dsimp only at *
        refine v_iload_n C dX10_count_89 rfl ?_
        refine v_aload_n C dX10_count_90 rfl ?_
        refine q10_152 C hk dX10_count_91 ?_
        refine v_val rv.p2.1 ?_
        refine n_icmp_ge (tgt := 157) C (by omega) (by omega) dX10_count_94 (by decide) (fun c_94 => ?_) (fun c_94 => ?_)
        · skip
          refine v_iload_n C dX10_count_157 rfl ?_
          refine v_iret C hr (Nat.le_of_ble_eq_true rfl) (Nat.le_of_ble_eq_true rfl) dX10_count_158 ?_
          exact ⟨_, rfl, (by rw [hP, hF, ho, sm_end (by omega)]; rfl), rfl⟩
        · skip
          refine v_iconst (v := nI 0) C dX10_count_97 (by decide) ?_
          refine v_istore C dX10_count_98 (by decide) rfl ?_
          refine V.lits (lv' := [_, _, _, _, _]) rfl ?_
          refine v_loop (fun (tt : (Nat) × (Nat)) lv0 => ((lv0.set 4 (some (.int (nI tt.1)))).set 2 (some (.int (nI tt.2))))) (fun (S1 : Mem) (tt : (Nat) × (Nat)) => S1 = L89 ∧ (tt.1 ≤ 12 ∧ tt.2 ≤ 12 * u + tt.1) ∧ (sm (rowN K w) (fN K 3 - 0) 0 = tt.2 + cn (pickP K w u) (12 - tt.1) tt.1 + sm (rowN K w) (fN K 3 - (u + 1)) (u + 1))) (fun (S1 : Mem) (tt : (Nat) × (Nat)) => 12 - tt.1) (t := (0, a)) rfl ⟨rfl, (by omega), (ho.trans (by rw [sm_step (by omega : u < fN K 3), ← Nat.add_assoc]; rfl))⟩ ?_
          intro L100 tt h_100 ih_100
          obtain ⟨b, a⟩ := tt
          obtain ⟨e_S, hb2, hi⟩ := h_100
          subst e_S
          try dsimp only at *
          refine v_iload C dX10_count_100 rfl ?_
          refine v_bipush (v := nI 12) C dX10_count_102 (by decide) ?_
          refine n_icmp_ge (tgt := 151) C (by omega) (by omega) dX10_count_104 (by decide) (fun c_104 => ?_) (fun c_104 => ?_)
          · skip
            refine v_iinc C dX10_count_151 rfl (nI_inc _) (by decide) rfl ?_
            refine v_goto (tgt := 89) C dX10_count_154 (by decide) ?_
            refine V.drop 4 ?_
            refine V.lits (lv' := [_, _, _, _, _]) rfl ?_
            exact ih_89 _ ((u + 1), a) (by first | omega | (dsimp only; omega)) ⟨rfl, (by omega), (hi.trans (by rw [cn_end (by omega), Nat.add_zero]))⟩
          · skip
            refine v_iload_n C dX10_count_107 rfl ?_
            refine v_iload_n C dX10_count_108 rfl ?_
            refine v_iconst (v := nI 4) C dX10_count_109 (by decide) ?_
            refine n_icmp_ne (tgt := 126) C (by omega) (by omega) dX10_count_110 (by decide) (fun c_110 => ?_) (fun c_110 => ?_)
            · skip
              refine v_aload_n C dX10_count_126 rfl ?_
              refine v_iload_n C dX10_count_127 rfl ?_
              refine v_iload C dX10_count_128 rfl ?_
              refine v_callV (As := [_, _]) (n := 2) C (rt_X10_chosenOf l m0 ad _ _ _) rfl hk.1 (by decide) rfl ⟨wd585, wd586, wd587, wd5, wd588⟩ ⟨rfl, hy_X10_chosenOf⟩ rfl ⟨Nat.le_of_ble_eq_true rfl, Nat.le_of_ble_eq_true rfl⟩ (Nat.le_of_ble_eq_true rfl) ⟨Nat.le_of_ble_eq_true rfl, Nat.le_of_ble_eq_true rfl⟩ dX10_count_130 ⟨rfl, hk, rv, (by omega), (by omega)⟩ (fun r_130 S4_130 h_130 => ?_)
              obtain ⟨v130, rfl, p_v130, q_v130⟩ := h_130
              obtain rfl := q_v130.symm
              refine v_bipush (v := -5) C dX10_count_133 (by decide) ?_
              refine v_icmp_ne (tgt := 142) C dX10_count_135 (by decide) (fun c_135 => ?_) (fun c_135 => ?_)
              · skip
                refine v_iconst (v := nI 0) C dX10_count_142 (by decide) ?_
                refine n_iadd C dX10_count_143 ?_
                refine v_istore_n C dX10_count_144 (by decide) rfl ?_
                refine v_iinc C dX10_count_145 rfl (nI_inc _) (by decide) rfl ?_
                refine v_goto (tgt := 100) C dX10_count_148 (by decide) ?_
                refine V.lits (lv' := [_, _, _, _, _]) rfl ?_
                have hp : pickP K w u b = false := by unfold pickP; rw [if_neg c_110, ← p_v130]; exact decide_eq_false c_135
                exact ih_100 _ ((b + 1), (a + 0)) (by first | omega | (dsimp only; omega)) ⟨rfl, (by omega), (hi.trans (by rw [cn_step (by omega : b < 12), hp]; simp only [cond_true, cond_false]; omega))⟩
              · skip
                refine v_iconst (v := nI 1) C dX10_count_138 (by decide) ?_
                refine v_goto (tgt := 143) C dX10_count_139 (by decide) ?_
                refine n_iadd C dX10_count_143 ?_
                refine v_istore_n C dX10_count_144 (by decide) rfl ?_
                refine v_iinc C dX10_count_145 rfl (nI_inc _) (by decide) rfl ?_
                refine v_goto (tgt := 100) C dX10_count_148 (by decide) ?_
                refine V.lits (lv' := [_, _, _, _, _]) rfl ?_
                have hp : pickP K w u b = true := by unfold pickP; rw [if_neg c_110, ← p_v130]; exact decide_eq_true c_135
                exact ih_100 _ ((b + 1), (a + 1)) (by first | omega | (dsimp only; omega)) ⟨rfl, (by omega), (hi.trans (by rw [cn_step (by omega : b < 12), hp]; simp only [cond_true, cond_false]; omega))⟩
            · skip
              refine v_aload_n C dX10_count_113 rfl ?_
              refine v_iload_n C dX10_count_114 rfl ?_
              refine v_iload C dX10_count_115 rfl ?_
              refine v_callV (As := [_, _]) (n := 2) C (rt_X10_clashOf l m0 ad _ _ _) rfl hk.1 (by decide) rfl ⟨wd618, wd619, wd620, wd5, wd621⟩ ⟨rfl, hy_X10_clashOf⟩ rfl ⟨Nat.le_of_ble_eq_true rfl, Nat.le_of_ble_eq_true rfl⟩ (Nat.le_of_ble_eq_true rfl) ⟨Nat.le_of_ble_eq_true rfl, Nat.le_of_ble_eq_true rfl⟩ dX10_count_117 ⟨rfl, hk, rv, (by omega), (by omega)⟩ (fun r_117 S4_117 h_117 => ?_)
              obtain ⟨v117, rfl, p_v117, b_v117, q_v117⟩ := h_117
              obtain rfl := q_v117.symm
              refine n_if_le (tgt := 142) C (by omega) dX10_count_120 (by decide) (fun c_120 => ?_) (fun c_120 => ?_)
              · skip
                refine v_iconst (v := nI 0) C dX10_count_142 (by decide) ?_
                refine n_iadd C dX10_count_143 ?_
                refine v_istore_n C dX10_count_144 (by decide) rfl ?_
                refine v_iinc C dX10_count_145 rfl (nI_inc _) (by decide) rfl ?_
                refine v_goto (tgt := 100) C dX10_count_148 (by decide) ?_
                refine V.lits (lv' := [_, _, _, _, _]) rfl ?_
                have hp : pickP K w u b = false := by unfold pickP; rw [if_pos c_110, ← p_v117]; exact decide_eq_false (by omega : ¬ 0 < v117)
                exact ih_100 _ ((b + 1), (a + 0)) (by first | omega | (dsimp only; omega)) ⟨rfl, (by omega), (hi.trans (by rw [cn_step (by omega : b < 12), hp]; simp only [cond_true, cond_false]; omega))⟩
              · skip
                refine v_goto (tgt := 138) C dX10_count_123 (by decide) ?_
                refine v_iconst (v := nI 1) C dX10_count_138 (by decide) ?_
                refine v_goto (tgt := 143) C dX10_count_139 (by decide) ?_
                refine n_iadd C dX10_count_143 ?_
                refine v_istore_n C dX10_count_144 (by decide) rfl ?_
                refine v_iinc C dX10_count_145 rfl (nI_inc _) (by decide) rfl ?_
                refine v_goto (tgt := 100) C dX10_count_148 (by decide) ?_
                refine V.lits (lv' := [_, _, _, _, _]) rfl ?_
                have hp : pickP K w u b = true := by unfold pickP; rw [if_pos c_110, ← p_v117]; exact decide_eq_true c_120
                exact ih_100 _ ((b + 1), (a + 1)) (by first | omega | (dsimp only; omega)) ⟨rfl, (by omega), (hi.trans (by rw [cn_step (by omega : b < 12), hp]; simp only [cond_true, cond_false]; omega))⟩
      · skip
        have hF : countF K w = nI (cn (hasP K (if w = 2 then 0 else 240)) (240 - 0) 0) := by unfold countF; rw [if_neg (by omega), if_neg (by omega), if_pos (by omega)]
        refine v_iconst (v := nI 0) C dX10_count_40 (by decide) ?_
        refine v_istore_n C dX10_count_41 (by decide) rfl ?_
        refine V.lits (lv' := [_, _, _, _, _]) rfl ?_
        refine v_loop (fun (tt : (Nat) × (Nat)) lv0 => ((lv0.set 3 (some (.int (nI tt.1)))).set 2 (some (.int (nI tt.2))))) (fun (S1 : Mem) (tt : (Nat) × (Nat)) => S1 = S ∧ (tt.1 ≤ 240 ∧ tt.2 ≤ tt.1) ∧ (cn (hasP K (if w = 2 then 0 else 240)) (240 - 0) 0 = tt.2 + cn (hasP K (if w = 2 then 0 else 240)) (240 - tt.1) tt.1)) (fun (S1 : Mem) (tt : (Nat) × (Nat)) => 240 - tt.1) (t := (0, 0)) rfl ⟨rfl, (by omega), (Nat.zero_add _).symm⟩ ?_
        intro L42 tt h_42 ih_42
        obtain ⟨k, a⟩ := tt
        obtain ⟨e_S, hb, ho⟩ := h_42
        subst e_S
        try dsimp only at *
        refine v_iload_n C dX10_count_42 rfl ?_
        refine v_sipush (v := nI 240) C dX10_count_43 (by decide) ?_
        refine n_icmp_ge (tgt := 85) C (by omega) (by omega) dX10_count_46 (by decide) (fun c_46 => ?_) (fun c_46 => ?_)
        · skip
          refine v_iload_n C dX10_count_85 rfl ?_
          refine v_iret C hr (Nat.le_of_ble_eq_true rfl) (Nat.le_of_ble_eq_true rfl) dX10_count_86 ?_
          exact ⟨_, rfl, (by rw [hP, hF, ho, cn_end (by omega)]; rfl), rfl⟩
        · skip
          refine v_iload_n C dX10_count_49 rfl ?_
          refine v_aload_n C dX10_count_50 rfl ?_
          refine q10_35 C hk dX10_count_51 ?_
          refine v_iload_n C dX10_count_54 rfl ?_
          refine v_iload_n C dX10_count_55 rfl ?_
          refine v_iconst (v := nI 2) C dX10_count_56 (by decide) ?_
          refine n_icmp_ne (tgt := 64) C (by omega) (by omega) dX10_count_57 (by decide) (fun c_57 => ?_) (fun c_57 => ?_)
          · skip
            refine v_sipush (v := nI 240) C dX10_count_64 (by decide) ?_
            refine n_iadd C dX10_count_67 ?_
            refine n_zald C hk (show (10, 13, 624) ∈ mTab by decide +kernel) (by omega) dX10_count_68 ?_
            refine v_if_eq (tgt := 76) C dX10_count_69 (by decide) (fun c_69 => ?_) (fun c_69 => ?_)
            · skip
              refine v_iconst (v := nI 0) C dX10_count_76 (by decide) ?_
              refine n_iadd C dX10_count_77 ?_
              refine v_istore_n C dX10_count_78 (by decide) rfl ?_
              refine v_iinc C dX10_count_79 rfl (nI_inc _) (by decide) rfl ?_
              refine v_goto (tgt := 42) C dX10_count_82 (by decide) ?_
              refine V.lits (lv' := [_, _, _, _, _]) rfl ?_
              have hp : hasP K (if w = 2 then 0 else 240) k = false := by unfold hasP; rw [if_neg c_57, decide_eq_true c_69]; rfl
              exact ih_42 _ ((k + 1), (a + 0)) (by first | omega | (dsimp only; omega)) ⟨rfl, (by omega), (ho.trans (by rw [cn_step (by omega : k < 240), hp]; simp only [cond_true, cond_false]; omega))⟩
            · skip
              refine v_iconst (v := nI 1) C dX10_count_72 (by decide) ?_
              refine v_goto (tgt := 77) C dX10_count_73 (by decide) ?_
              refine n_iadd C dX10_count_77 ?_
              refine v_istore_n C dX10_count_78 (by decide) rfl ?_
              refine v_iinc C dX10_count_79 rfl (nI_inc _) (by decide) rfl ?_
              refine v_goto (tgt := 42) C dX10_count_82 (by decide) ?_
              refine V.lits (lv' := [_, _, _, _, _]) rfl ?_
              have hp : hasP K (if w = 2 then 0 else 240) k = true := by unfold hasP; rw [if_neg c_57, decide_eq_false c_69]; rfl
              exact ih_42 _ ((k + 1), (a + 1)) (by first | omega | (dsimp only; omega)) ⟨rfl, (by omega), (ho.trans (by rw [cn_step (by omega : k < 240), hp]; simp only [cond_true, cond_false]; omega))⟩
          · skip
            refine v_iconst (v := nI 0) C dX10_count_60 (by decide) ?_
            refine v_goto (tgt := 67) C dX10_count_61 (by decide) ?_
            refine n_iadd C dX10_count_67 ?_
            refine n_zald C hk (show (10, 13, 624) ∈ mTab by decide +kernel) (by omega) dX10_count_68 ?_
            refine v_if_eq (tgt := 76) C dX10_count_69 (by decide) (fun c_69 => ?_) (fun c_69 => ?_)
            · skip
              refine v_iconst (v := nI 0) C dX10_count_76 (by decide) ?_
              refine n_iadd C dX10_count_77 ?_
              refine v_istore_n C dX10_count_78 (by decide) rfl ?_
              refine v_iinc C dX10_count_79 rfl (nI_inc _) (by decide) rfl ?_
              refine v_goto (tgt := 42) C dX10_count_82 (by decide) ?_
              refine V.lits (lv' := [_, _, _, _, _]) rfl ?_
              have hp : hasP K (if w = 2 then 0 else 240) k = false := by unfold hasP; rw [if_pos c_57, decide_eq_true c_69]; rfl
              exact ih_42 _ ((k + 1), (a + 0)) (by first | omega | (dsimp only; omega)) ⟨rfl, (by omega), (ho.trans (by rw [cn_step (by omega : k < 240), hp]; simp only [cond_true, cond_false]; omega))⟩
            · skip
              refine v_iconst (v := nI 1) C dX10_count_72 (by decide) ?_
              refine v_goto (tgt := 77) C dX10_count_73 (by decide) ?_
              refine n_iadd C dX10_count_77 ?_
              refine v_istore_n C dX10_count_78 (by decide) rfl ?_
              refine v_iinc C dX10_count_79 rfl (nI_inc _) (by decide) rfl ?_
              refine v_goto (tgt := 42) C dX10_count_82 (by decide) ?_
              refine V.lits (lv' := [_, _, _, _, _]) rfl ?_
              have hp : hasP K (if w = 2 then 0 else 240) k = true := by unfold hasP; rw [if_pos c_57, decide_eq_false c_69]; rfl
              exact ih_42 _ ((k + 1), (a + 1)) (by first | omega | (dsimp only; omega)) ⟨rfl, (by omega), (ho.trans (by rw [cn_step (by omega : k < 240), hp]; simp only [cond_true, cond_false]; omega))⟩
    · skip
      refine v_iload_n C dX10_count_17 rfl ?_
      refine n_if_ne (tgt := 28) C (by omega) dX10_count_18 (by decide) (fun c_18 => ?_) (fun c_18 => ?_)
      · skip
        obtain rfl : w = 1 := by omega
        refine v_aload_n C dX10_count_28 rfl ?_
        refine q10_152 C hk dX10_count_29 ?_
        refine v_iret C hr (Nat.le_of_ble_eq_true rfl) (Nat.le_of_ble_eq_true rfl) dX10_count_32 ?_
        exact ⟨_, rfl, (by simp [countP, countF, e_w, ← p_v3, c_6]), rfl⟩
      · skip
        subst c_18
        refine v_aload_n C dX10_count_21 rfl ?_
        refine q10_145 C hk dX10_count_22 ?_
        refine v_goto (tgt := 32) C dX10_count_25 (by decide) ?_
        refine v_iret C hr (Nat.le_of_ble_eq_true rfl) (Nat.le_of_ble_eq_true rfl) dX10_count_32 ?_
        exact ⟨_, rfl, (by simp [countP, countF, e_w, ← p_v3, c_6]), rfl⟩
  · skip
    refine v_bipush (v := -2) C dX10_count_9 (by decide) ?_
    refine v_iret C hr (Nat.le_of_ble_eq_true rfl) (Nat.le_of_ble_eq_true rfl) dX10_count_11 ?_
    exact ⟨_, rfl, (by simp [countP, ← p_v3, c_6]), rfl⟩
theorem dX10_digest_0 : decode cX10_digest 0 = .ok (.ldc2_w 302, 3) := by decide +kernel
theorem dX10_digest_3 : decode cX10_digest 3 = .ok (.lstore_n 1, 1) := by decide +kernel
theorem dX10_digest_4 : decode cX10_digest 4 = .ok (.iconst 0, 1) := by decide +kernel
theorem dX10_digest_5 : decode cX10_digest 5 = .ok (.istore_n 3, 1) := by decide +kernel
theorem dX10_digest_6 : decode cX10_digest 6 = .ok (.iload_n 3, 1) := by decide +kernel
theorem dX10_digest_7 : decode cX10_digest 7 = .ok (.aload_n 0, 1) := by decide +kernel
theorem dX10_digest_8 : decode cX10_digest 8 = .ok (.getfield 152, 3) := by decide +kernel
theorem dX10_digest_11 : decode cX10_digest 11 = .ok (.if_icmp .ge 140, 3) := by decide +kernel
theorem dX10_digest_14 : decode cX10_digest 14 = .ok (.iconst 0, 1) := by decide +kernel
theorem dX10_digest_15 : decode cX10_digest 15 = .ok (.istore 4, 2) := by decide +kernel
theorem dX10_digest_17 : decode cX10_digest 17 = .ok (.iload 4, 2) := by decide +kernel
theorem dX10_digest_19 : decode cX10_digest 19 = .ok (.aload_n 0, 1) := by decide +kernel
theorem dX10_digest_20 : decode cX10_digest 20 = .ok (.getfield 28, 3) := by decide +kernel
theorem dX10_digest_23 : decode cX10_digest 23 = .ok (.iload_n 3, 1) := by decide +kernel
theorem dX10_digest_24 : decode cX10_digest 24 = .ok (.iaload, 1) := by decide +kernel
theorem dX10_digest_25 : decode cX10_digest 25 = .ok (.if_icmp .ge 29, 3) := by decide +kernel
theorem dX10_digest_28 : decode cX10_digest 28 = .ok (.ldc2_w 304, 3) := by decide +kernel
theorem dX10_digest_31 : decode cX10_digest 31 = .ok (.lload_n 1, 1) := by decide +kernel
theorem dX10_digest_32 : decode cX10_digest 32 = .ok (.lmul, 1) := by decide +kernel
theorem dX10_digest_33 : decode cX10_digest 33 = .ok (.aload_n 0, 1) := by decide +kernel
theorem dX10_digest_34 : decode cX10_digest 34 = .ok (.getfield 25, 3) := by decide +kernel
theorem dX10_digest_37 : decode cX10_digest 37 = .ok (.bipush 20, 2) := by decide +kernel
theorem dX10_digest_39 : decode cX10_digest 39 = .ok (.iload_n 3, 1) := by decide +kernel
theorem dX10_digest_40 : decode cX10_digest 40 = .ok (.imul, 1) := by decide +kernel
theorem dX10_digest_41 : decode cX10_digest 41 = .ok (.iload 4, 2) := by decide +kernel
theorem dX10_digest_43 : decode cX10_digest 43 = .ok (.iadd, 1) := by decide +kernel
theorem dX10_digest_44 : decode cX10_digest 44 = .ok (.iaload, 1) := by decide +kernel
theorem dX10_digest_45 : decode cX10_digest 45 = .ok (.i2l, 1) := by decide +kernel
theorem dX10_digest_46 : decode cX10_digest 46 = .ok (.ladd, 1) := by decide +kernel
theorem dX10_digest_47 : decode cX10_digest 47 = .ok (.lstore_n 1, 1) := by decide +kernel
theorem dX10_digest_48 : decode cX10_digest 48 = .ok (.iinc 4 1, 3) := by decide +kernel
theorem dX10_digest_51 : decode cX10_digest 51 = .ok (.goto (-34), 3) := by decide +kernel
theorem dX10_digest_54 : decode cX10_digest 54 = .ok (.iconst 0, 1) := by decide +kernel
theorem dX10_digest_55 : decode cX10_digest 55 = .ok (.istore 4, 2) := by decide +kernel
theorem dX10_digest_57 : decode cX10_digest 57 = .ok (.iload 4, 2) := by decide +kernel
theorem dX10_digest_59 : decode cX10_digest 59 = .ok (.bipush 12, 2) := by decide +kernel
theorem dX10_digest_61 : decode cX10_digest 61 = .ok (.if_icmp .ge 51, 3) := by decide +kernel
theorem dX10_digest_64 : decode cX10_digest 64 = .ok (.ldc2_w 304, 3) := by decide +kernel
theorem dX10_digest_67 : decode cX10_digest 67 = .ok (.ldc2_w 304, 3) := by decide +kernel
theorem dX10_digest_70 : decode cX10_digest 70 = .ok (.ldc2_w 304, 3) := by decide +kernel
theorem dX10_digest_73 : decode cX10_digest 73 = .ok (.lload_n 1, 1) := by decide +kernel
theorem dX10_digest_74 : decode cX10_digest 74 = .ok (.lmul, 1) := by decide +kernel
theorem dX10_digest_75 : decode cX10_digest 75 = .ok (.aload_n 0, 1) := by decide +kernel
theorem dX10_digest_76 : decode cX10_digest 76 = .ok (.iload_n 3, 1) := by decide +kernel
theorem dX10_digest_77 : decode cX10_digest 77 = .ok (.iload 4, 2) := by decide +kernel
theorem dX10_digest_79 : decode cX10_digest 79 = .ok (.invokevirtual 221, 3) := by decide +kernel
theorem dX10_digest_82 : decode cX10_digest 82 = .ok (.i2l, 1) := by decide +kernel
theorem dX10_digest_83 : decode cX10_digest 83 = .ok (.ladd, 1) := by decide +kernel
theorem dX10_digest_84 : decode cX10_digest 84 = .ok (.lmul, 1) := by decide +kernel
theorem dX10_digest_85 : decode cX10_digest 85 = .ok (.aload_n 0, 1) := by decide +kernel
theorem dX10_digest_86 : decode cX10_digest 86 = .ok (.iload_n 3, 1) := by decide +kernel
theorem dX10_digest_87 : decode cX10_digest 87 = .ok (.iload 4, 2) := by decide +kernel
theorem dX10_digest_89 : decode cX10_digest 89 = .ok (.invokevirtual 224, 3) := by decide +kernel
theorem dX10_digest_92 : decode cX10_digest 92 = .ok (.i2l, 1) := by decide +kernel
theorem dX10_digest_93 : decode cX10_digest 93 = .ok (.ladd, 1) := by decide +kernel
theorem dX10_digest_94 : decode cX10_digest 94 = .ok (.lmul, 1) := by decide +kernel
theorem dX10_digest_95 : decode cX10_digest 95 = .ok (.aload_n 0, 1) := by decide +kernel
theorem dX10_digest_96 : decode cX10_digest 96 = .ok (.iload_n 3, 1) := by decide +kernel
theorem dX10_digest_97 : decode cX10_digest 97 = .ok (.iload 4, 2) := by decide +kernel
theorem dX10_digest_99 : decode cX10_digest 99 = .ok (.iconst 3, 1) := by decide +kernel
theorem dX10_digest_100 : decode cX10_digest 100 = .ok (.invokevirtual 233, 3) := by decide +kernel
theorem dX10_digest_103 : decode cX10_digest 103 = .ok (.i2l, 1) := by decide +kernel
theorem dX10_digest_104 : decode cX10_digest 104 = .ok (.ladd, 1) := by decide +kernel
theorem dX10_digest_105 : decode cX10_digest 105 = .ok (.lstore_n 1, 1) := by decide +kernel
theorem dX10_digest_106 : decode cX10_digest 106 = .ok (.iinc 4 1, 3) := by decide +kernel
theorem dX10_digest_109 : decode cX10_digest 109 = .ok (.goto (-52), 3) := by decide +kernel
theorem dX10_digest_112 : decode cX10_digest 112 = .ok (.iconst 0, 1) := by decide +kernel
theorem dX10_digest_113 : decode cX10_digest 113 = .ok (.istore 4, 2) := by decide +kernel
theorem dX10_digest_115 : decode cX10_digest 115 = .ok (.iload 4, 2) := by decide +kernel
theorem dX10_digest_117 : decode cX10_digest 117 = .ok (.iconst 4, 1) := by decide +kernel
theorem dX10_digest_118 : decode cX10_digest 118 = .ok (.if_icmp .ge 27, 3) := by decide +kernel
theorem dX10_digest_121 : decode cX10_digest 121 = .ok (.ldc2_w 304, 3) := by decide +kernel
theorem dX10_digest_124 : decode cX10_digest 124 = .ok (.lload_n 1, 1) := by decide +kernel
theorem dX10_digest_125 : decode cX10_digest 125 = .ok (.lmul, 1) := by decide +kernel
theorem dX10_digest_126 : decode cX10_digest 126 = .ok (.aload_n 0, 1) := by decide +kernel
theorem dX10_digest_127 : decode cX10_digest 127 = .ok (.getfield 31, 3) := by decide +kernel
theorem dX10_digest_130 : decode cX10_digest 130 = .ok (.iconst 4, 1) := by decide +kernel
theorem dX10_digest_131 : decode cX10_digest 131 = .ok (.iload_n 3, 1) := by decide +kernel
theorem dX10_digest_132 : decode cX10_digest 132 = .ok (.imul, 1) := by decide +kernel
theorem dX10_digest_133 : decode cX10_digest 133 = .ok (.iload 4, 2) := by decide +kernel
theorem dX10_digest_135 : decode cX10_digest 135 = .ok (.iadd, 1) := by decide +kernel
theorem dX10_digest_136 : decode cX10_digest 136 = .ok (.laload, 1) := by decide +kernel
theorem dX10_digest_137 : decode cX10_digest 137 = .ok (.ladd, 1) := by decide +kernel
theorem dX10_digest_138 : decode cX10_digest 138 = .ok (.lstore_n 1, 1) := by decide +kernel
theorem dX10_digest_139 : decode cX10_digest 139 = .ok (.iinc 4 1, 3) := by decide +kernel
theorem dX10_digest_142 : decode cX10_digest 142 = .ok (.goto (-27), 3) := by decide +kernel
theorem dX10_digest_145 : decode cX10_digest 145 = .ok (.iinc 3 1, 3) := by decide +kernel
theorem dX10_digest_148 : decode cX10_digest 148 = .ok (.goto (-142), 3) := by decide +kernel
theorem dX10_digest_151 : decode cX10_digest 151 = .ok (.lload_n 1, 1) := by decide +kernel
theorem dX10_digest_152 : decode cX10_digest 152 = .ok (.lreturn, 1) := by decide +kernel
set_option maxRecDepth 100000 in
set_option maxHeartbeats 4000000 in
theorem rt_X10_digest (l : Launch) (m0 : Nat) (ad : Nat → Nat) (K : RS)  : Ct l yX10_digest cX10_digest 5 (some .long) 5 0 0 125 (fun S av => av = [.ref m0] ∧ mdR S m0 ad K ∧ RV K) (fun S _ r S' => ∃ v : Int64, r = some (.long v) ∧ v = v ∧ S' = S) := by
  refine ct_of (by decide) (fun S av h => by obtain ⟨rfl, hk, rv⟩ := h; exact Nat.le_of_ble_eq_true rfl) ?_
  intro p e s m args below meth c D G bs S av C hr hin hpre
  obtain ⟨rfl, hk, rv⟩ := hpre
  have zc := rv.p2.2
  refine v_ldc2 (v := (5)) C wd983 dX10_digest_0 ?_
  refine v_lstore_n C dX10_digest_3 (by decide) rfl ?_
  refine v_iconst (v := nI 0) C dX10_digest_4 (by decide) ?_
  refine v_istore_n C dX10_digest_5 (by decide) rfl ?_
  refine V.lits (lv' := [_, _, _, _, _]) rfl ?_
  refine v_loop (fun (tt : (Nat) × (Int64)) lv0 => ((lv0.set 3 (some (.int (nI tt.1)))).set 1 (some (.long tt.2)))) (fun (S1 : Mem) (tt : (Nat) × (Int64)) => S1 = S ∧ (tt.1 ≤ fN K 3)) (fun (S1 : Mem) (tt : (Nat) × (Int64)) => fN K 3 - tt.1) (t := (0, _)) rfl ⟨rfl, (by omega)⟩ ?_
  intro L6 tt h_6 ih_6
  obtain ⟨u, h⟩ := tt
  obtain ⟨e_S, hb⟩ := h_6
  subst e_S
  try dsimp only at *
  refine v_iload_n C dX10_digest_6 rfl ?_
  refine v_aload_n C dX10_digest_7 rfl ?_
  refine q10_152 C hk dX10_digest_8 ?_
  refine v_val rv.p2.1 ?_
  refine n_icmp_ge (tgt := 151) C (by omega) (by omega) dX10_digest_11 (by decide) (fun c_11 => ?_) (fun c_11 => ?_)
  · skip
    refine v_lload_n C dX10_digest_151 rfl ?_
    refine v_lret C hr (Nat.le_of_ble_eq_true rfl) (Nat.le_of_ble_eq_true rfl) dX10_digest_152 ?_
    exact ⟨_, rfl, (rfl), rfl⟩
  · skip
    refine v_iconst (v := nI 0) C dX10_digest_14 (by decide) ?_
    refine v_istore C dX10_digest_15 (by decide) rfl ?_
    refine V.lits (lv' := [_, _, _, _, _]) rfl ?_
    refine v_loop (fun (tt : (Nat) × (Int64)) lv0 => ((lv0.set 4 (some (.int (nI tt.1)))).set 1 (some (.long tt.2)))) (fun (S1 : Mem) (tt : (Nat) × (Int64)) => S1 = L6 ∧ (tt.1 ≤ 20)) (fun (S1 : Mem) (tt : (Nat) × (Int64)) => rN K 8 u - tt.1) (t := (0, _)) rfl ⟨rfl, (by omega)⟩ ?_
    intro L17 tt h_17 ih_17
    obtain ⟨i, h⟩ := tt
    obtain ⟨e_S, hb2⟩ := h_17
    subst e_S
    try dsimp only at *
    refine v_iload C dX10_digest_17 rfl ?_
    refine v_aload_n C dX10_digest_19 rfl ?_
    refine q10_28 C hk dX10_digest_20 ?_
    refine v_iload_n C dX10_digest_23 rfl ?_
    obtain ⟨z1, z2⟩ := rv.p5 u (by omega)
    refine n_iald C hk (show (8, 11, 12) ∈ mTab by decide +kernel) (by omega) dX10_digest_24 ?_
    refine v_val z1 ?_
    refine n_icmp_ge (tgt := 54) C (by omega) (by omega) dX10_digest_25 (by decide) (fun c_25 => ?_) (fun c_25 => ?_)
    · skip
      refine v_iconst (v := nI 0) C dX10_digest_54 (by decide) ?_
      refine v_istore C dX10_digest_55 (by decide) rfl ?_
      refine V.lits (lv' := [_, _, _, _, _]) rfl ?_
      refine v_loop (fun (tt : (Nat) × (Int64)) lv0 => ((lv0.set 4 (some (.int (nI tt.1)))).set 1 (some (.long tt.2)))) (fun (S1 : Mem) (tt : (Nat) × (Int64)) => S1 = L17 ∧ (tt.1 ≤ 12)) (fun (S1 : Mem) (tt : (Nat) × (Int64)) => 12 - tt.1) (t := (0, _)) rfl ⟨rfl, (by omega)⟩ ?_
      intro L57 tt h_57 ih_57
      obtain ⟨i, h⟩ := tt
      obtain ⟨e_S, hb2⟩ := h_57
      subst e_S
      try dsimp only at *
      refine v_iload C dX10_digest_57 rfl ?_
      refine v_bipush (v := nI 12) C dX10_digest_59 (by decide) ?_
      refine n_icmp_ge (tgt := 112) C (by omega) (by omega) dX10_digest_61 (by decide) (fun c_61 => ?_) (fun c_61 => ?_)
      · skip
        refine v_iconst (v := nI 0) C dX10_digest_112 (by decide) ?_
        refine v_istore C dX10_digest_113 (by decide) rfl ?_
        refine V.lits (lv' := [_, _, _, _, _]) rfl ?_
        refine v_loop (fun (tt : (Nat) × (Int64)) lv0 => ((lv0.set 4 (some (.int (nI tt.1)))).set 1 (some (.long tt.2)))) (fun (S1 : Mem) (tt : (Nat) × (Int64)) => S1 = L57 ∧ (tt.1 ≤ 4)) (fun (S1 : Mem) (tt : (Nat) × (Int64)) => 4 - tt.1) (t := (0, _)) rfl ⟨rfl, (by omega)⟩ ?_
        intro L115 tt h_115 ih_115
        obtain ⟨i, h⟩ := tt
        obtain ⟨e_S, hb2⟩ := h_115
        subst e_S
        try dsimp only at *
        refine v_iload C dX10_digest_115 rfl ?_
        refine v_iconst (v := nI 4) C dX10_digest_117 (by decide) ?_
        refine n_icmp_ge (tgt := 145) C (by omega) (by omega) dX10_digest_118 (by decide) (fun c_118 => ?_) (fun c_118 => ?_)
        · skip
          refine v_iinc C dX10_digest_145 rfl (nI_inc _) (by decide) rfl ?_
          refine v_goto (tgt := 6) C dX10_digest_148 (by decide) ?_
          refine V.drop 4 ?_
          refine V.lits (lv' := [_, _, _, _, _]) rfl ?_
          exact ih_6 _ ((u + 1), _) (by first | omega | (dsimp only; omega)) ⟨rfl, (by omega)⟩
        · skip
          refine v_ldc2 (v := (31)) C wd984 dX10_digest_121 ?_
          refine v_lload_n C dX10_digest_124 rfl ?_
          refine v_lmul C dX10_digest_125 ?_
          refine v_aload_n C dX10_digest_126 rfl ?_
          refine q10_31 C hk dX10_digest_127 ?_
          refine v_iconst (v := nI 4) C dX10_digest_130 (by decide) ?_
          refine v_iload_n C dX10_digest_131 rfl ?_
          refine n_imul C dX10_digest_132 ?_
          refine v_iload C dX10_digest_133 rfl ?_
          refine n_iadd C dX10_digest_135 ?_
          refine n_lald C hk (show (9, 12, 48) ∈ mTab by decide +kernel) (by omega) dX10_digest_136 ?_
          refine v_ladd C dX10_digest_137 ?_
          refine v_lstore_n C dX10_digest_138 (by decide) rfl ?_
          refine v_iinc C dX10_digest_139 rfl (nI_inc _) (by decide) rfl ?_
          refine v_goto (tgt := 115) C dX10_digest_142 (by decide) ?_
          refine V.lits (lv' := [_, _, _, _, _]) rfl ?_
          exact ih_115 _ ((i + 1), _) (by first | omega | (dsimp only; omega)) ⟨rfl, (by omega)⟩
      · skip
        refine v_ldc2 (v := (31)) C wd984 dX10_digest_64 ?_
        refine v_ldc2 (v := (31)) C wd984 dX10_digest_67 ?_
        refine v_ldc2 (v := (31)) C wd984 dX10_digest_70 ?_
        refine v_lload_n C dX10_digest_73 rfl ?_
        refine v_lmul C dX10_digest_74 ?_
        refine v_aload_n C dX10_digest_75 rfl ?_
        refine v_iload_n C dX10_digest_76 rfl ?_
        refine v_iload C dX10_digest_77 rfl ?_
        refine v_callV (As := [_, _]) (n := 2) C (rt_X10_chosenOf l m0 ad _ _ _) rfl hk.1 (by decide) rfl ⟨wd585, wd586, wd587, wd5, wd588⟩ ⟨rfl, hy_X10_chosenOf⟩ rfl ⟨Nat.le_of_ble_eq_true rfl, Nat.le_of_ble_eq_true rfl⟩ (Nat.le_of_ble_eq_true rfl) ⟨Nat.le_of_ble_eq_true rfl, Nat.le_of_ble_eq_true rfl⟩ dX10_digest_79 ⟨rfl, hk, rv, (by omega), (by omega)⟩ (fun r_79 S2_79 h_79 => ?_)
        obtain ⟨v79, rfl, p_v79, q_v79⟩ := h_79
        obtain rfl := q_v79.symm
        refine v_i2l C dX10_digest_82 ?_
        refine v_ladd C dX10_digest_83 ?_
        refine v_lmul C dX10_digest_84 ?_
        refine v_aload_n C dX10_digest_85 rfl ?_
        refine v_iload_n C dX10_digest_86 rfl ?_
        refine v_iload C dX10_digest_87 rfl ?_
        refine v_callV (As := [_, _]) (n := 2) C (rt_X10_clashOf l m0 ad _ _ _) rfl hk.1 (by decide) rfl ⟨wd618, wd619, wd620, wd5, wd621⟩ ⟨rfl, hy_X10_clashOf⟩ rfl ⟨Nat.le_of_ble_eq_true rfl, Nat.le_of_ble_eq_true rfl⟩ (Nat.le_of_ble_eq_true rfl) ⟨Nat.le_of_ble_eq_true rfl, Nat.le_of_ble_eq_true rfl⟩ dX10_digest_89 ⟨rfl, hk, rv, (by omega), (by omega)⟩ (fun r_89 S2_89 h_89 => ?_)
        obtain ⟨v89, rfl, p_v89, b_v89, q_v89⟩ := h_89
        obtain rfl := q_v89.symm
        refine v_i2l C dX10_digest_92 ?_
        refine v_ladd C dX10_digest_93 ?_
        refine v_lmul C dX10_digest_94 ?_
        refine v_aload_n C dX10_digest_95 rfl ?_
        refine v_iload_n C dX10_digest_96 rfl ?_
        refine v_iload C dX10_digest_97 rfl ?_
        refine v_iconst (v := nI 3) C dX10_digest_99 (by decide) ?_
        refine v_callV (As := [_, _, _]) (n := 3) C (rt_X10_aboutOf l m0 ad _ _ _ _) rfl hk.1 (by decide) rfl ⟨wd660, wd661, wd662, wd5, wd663⟩ ⟨rfl, hy_X10_aboutOf⟩ rfl ⟨Nat.le_of_ble_eq_true rfl, Nat.le_of_ble_eq_true rfl⟩ (Nat.le_of_ble_eq_true rfl) ⟨Nat.le_of_ble_eq_true rfl, Nat.le_of_ble_eq_true rfl⟩ dX10_digest_100 ⟨rfl, hk, rv, (by omega), (by omega), (by omega)⟩ (fun r_100 S2_100 h_100 => ?_)
        obtain ⟨v100, rfl, p_v100, q_v100⟩ := h_100
        obtain rfl := q_v100.symm
        refine v_i2l C dX10_digest_103 ?_
        refine v_ladd C dX10_digest_104 ?_
        refine v_lstore_n C dX10_digest_105 (by decide) rfl ?_
        refine v_iinc C dX10_digest_106 rfl (nI_inc _) (by decide) rfl ?_
        refine v_goto (tgt := 57) C dX10_digest_109 (by decide) ?_
        refine V.lits (lv' := [_, _, _, _, _]) rfl ?_
        exact ih_57 _ ((i + 1), _) (by first | omega | (dsimp only; omega)) ⟨rfl, (by omega)⟩
    · skip
      refine v_ldc2 (v := (31)) C wd984 dX10_digest_28 ?_
      refine v_lload_n C dX10_digest_31 rfl ?_
      refine v_lmul C dX10_digest_32 ?_
      refine v_aload_n C dX10_digest_33 rfl ?_
      refine q10_25 C hk dX10_digest_34 ?_
      refine v_bipush (v := nI 20) C dX10_digest_37 (by decide) ?_
      refine v_iload_n C dX10_digest_39 rfl ?_
      refine n_imul C dX10_digest_40 ?_
      refine v_iload C dX10_digest_41 rfl ?_
      refine n_iadd C dX10_digest_43 ?_
      refine n_iald C hk (show (7, 11, 240) ∈ mTab by decide +kernel) (by omega) dX10_digest_44 ?_
      refine v_i2l C dX10_digest_45 ?_
      refine v_ladd C dX10_digest_46 ?_
      refine v_lstore_n C dX10_digest_47 (by decide) rfl ?_
      refine v_iinc C dX10_digest_48 rfl (nI_inc _) (by decide) rfl ?_
      refine v_goto (tgt := 17) C dX10_digest_51 (by decide) ?_
      refine V.lits (lv' := [_, _, _, _, _]) rfl ?_
      exact ih_17 _ ((i + 1), _) (by first | omega | (dsimp only; omega)) ⟨rfl, (by omega)⟩
