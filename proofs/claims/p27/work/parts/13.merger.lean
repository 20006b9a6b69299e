theorem mI_P {S S' : Mem} {g a a' i : Nat} {v : Option Nat} (e : S' = sP S a' i v) : mI S' g a = mI S g a := by rw [e, mI_sP]
theorem lo_in {i y : Int32} {n : Nat} (h : 0 ≤ i.toInt) (c : ¬ y ≤ i) (hy : y.toInt = n) : vp_in i n := vp_in_iff.mpr ⟨h, by rw [Int32.le_iff_toInt_le] at c; omega⟩
theorem up0 {i y : Int32} (h : 0 ≤ i.toInt) (c : ¬ y ≤ i) : 0 ≤ (i + Int32.ofInt 1).toInt := by rw [i32_inc c]; omega
theorem len20 {M : Nat → Prop} {S : Mem} {a : Nat} {v : Int32} (iv : INV M [] S) (i : is S a 3) (e : v = mI S 194 a) : 0 ≤ v.toInt ∧ v.toInt ≤ 20 := by
  obtain ⟨n, h1, h2⟩ := iv.2.2.2.1 a i.1 List.not_mem_nil i.2
  rw [e, h2, show nI n = Int32.ofInt (n : Int) from (Int32.ofInt_eq_ofNat ..).symm, Int32.toInt_ofInt, show Int32.size = 4294967296 from rfl, Int.bmod_def]
  split <;> omega
theorem ip_mid {i v : Int32} (h : 0 ≤ i.toInt) (c : ¬ v ≤ i) (b : 0 ≤ v.toInt ∧ v.toInt ≤ 20) : 0 ≤ i.toInt ∧ i.toInt ≤ 20 := by
  rw [Int32.le_iff_toInt_le] at c; omega
theorem dX4_firstOf_0 : decode cX4_firstOf 0 = .ok (.iload_n 1, 1) := by decide +kernel
theorem dX4_firstOf_1 : decode cX4_firstOf 1 = .ok (.bipush 7, 2) := by decide +kernel
theorem dX4_firstOf_3 : decode cX4_firstOf 3 = .ok (.invokestatic 44, 3) := by decide +kernel
theorem dX4_firstOf_6 : decode cX4_firstOf 6 = .ok (.ifCond .eq 12, 3) := by decide +kernel
theorem dX4_firstOf_9 : decode cX4_firstOf 9 = .ok (.aload_n 0, 1) := by decide +kernel
theorem dX4_firstOf_10 : decode cX4_firstOf 10 = .ok (.getfield 13, 3) := by decide +kernel
theorem dX4_firstOf_13 : decode cX4_firstOf 13 = .ok (.iload_n 1, 1) := by decide +kernel
theorem dX4_firstOf_14 : decode cX4_firstOf 14 = .ok (.aaload, 1) := by decide +kernel
theorem dX4_firstOf_15 : decode cX4_firstOf 15 = .ok (.goto 4, 3) := by decide +kernel
theorem dX4_firstOf_18 : decode cX4_firstOf 18 = .ok (.aconst_null, 1) := by decide +kernel
theorem dX4_firstOf_19 : decode cX4_firstOf 19 = .ok (.astore_n 2, 1) := by decide +kernel
theorem dX4_firstOf_20 : decode cX4_firstOf 20 = .ok (.aload_n 2, 1) := by decide +kernel
theorem dX4_firstOf_21 : decode cX4_firstOf 21 = .ok (.ifnonnull 7, 3) := by decide +kernel
theorem dX4_firstOf_24 : decode cX4_firstOf 24 = .ok (.iconst (-1), 1) := by decide +kernel
theorem dX4_firstOf_25 : decode cX4_firstOf 25 = .ok (.goto 13, 3) := by decide +kernel
theorem dX4_firstOf_28 : decode cX4_firstOf 28 = .ok (.aload_n 2, 1) := by decide +kernel
theorem dX4_firstOf_29 : decode cX4_firstOf 29 = .ok (.aload_n 0, 1) := by decide +kernel
theorem dX4_firstOf_30 : decode cX4_firstOf 30 = .ok (.getfield 17, 3) := by decide +kernel
theorem dX4_firstOf_33 : decode cX4_firstOf 33 = .ok (.iload_n 1, 1) := by decide +kernel
theorem dX4_firstOf_34 : decode cX4_firstOf 34 = .ok (.iaload, 1) := by decide +kernel
theorem dX4_firstOf_35 : decode cX4_firstOf 35 = .ok (.invokevirtual 67, 3) := by decide +kernel
theorem dX4_firstOf_38 : decode cX4_firstOf 38 = .ok (.ireturn, 1) := by decide +kernel
set_option maxRecDepth 100000 in
set_option maxHeartbeats 4000000 in
theorem st_X4_firstOf (l : Launch) (M : Nat → Prop) (h : Nat) (p0 : Int32) : Ct l yX4_firstOf cX4_firstOf 3 (some .int) 2 0 0 42 (fun S av => av = [.ref h, .int p0] ∧ INV M [] S ∧ is S h 4) (fun S _ r S' => ∃ v, r = some (.int v) ∧ S' = S) := by
  refine ct_of (by decide) (fun S av h => by obtain ⟨rfl, iv, i_this⟩ := h; exact Nat.le_of_ble_eq_true rfl) ?_
  intro p e s m args below meth c D G bs S av C hr hin hpre
  obtain ⟨rfl, iv, i_this⟩ := hpre
  refine v_iload_n C dX4_firstOf_0 rfl ?_
  refine v_bipush (v := 7) C dX4_firstOf_1 (by decide) ?_
  refine v_callSN (As := [_, _]) (n := 2) C (sb_isBelow l _ _) rfl ⟨(by decide +kernel), wd141, wd2, wd142⟩ hy_X9_isBelow rfl ⟨Nat.le_of_ble_eq_true rfl, Nat.le_of_ble_eq_true rfl⟩ (Nat.le_of_ble_eq_true rfl) ⟨Nat.le_of_ble_eq_true rfl, Nat.le_of_ble_eq_true rfl⟩ dX4_firstOf_3 rfl (fun r_3 S2_3 h_3 => ?_)
  obtain ⟨v3, rfl, p_v3, q_v3⟩ := h_3
  obtain rfl := q_v3.symm
  refine v_if_eq (tgt := 18) C dX4_firstOf_6 (by decide) (fun c_6 => ?_) (fun c_6 => ?_)
  · skip
    refine v_null C dX4_firstOf_18 ?_
    refine v_qstore_n C dX4_firstOf_19 (by decide) (by first | rfl | exact cat_ok _ | simp [okS, cat_rf]) ?_
    refine v_qload_n C dX4_firstOf_20 rfl ?_
    refine v_ifnonnull (tgt := 28) C dX4_firstOf_21 (by decide) (fun b21 c_21 => ?_) (fun c_21 => ?_)
    · skip
      cases c_21
    · skip
      refine v_iconst (v := -1) C dX4_firstOf_24 (by decide) ?_
      refine v_goto (tgt := 38) C dX4_firstOf_25 (by decide) ?_
      refine v_iret C hr (Nat.le_of_ble_eq_true rfl) (Nat.le_of_ble_eq_true rfl) dX4_firstOf_38 ?_
      exact ⟨_, rfl, rfl⟩
  · skip
    refine v_aload_n C dX4_firstOf_9 rfl ?_
    obtain ⟨r10, e_r10, i_r10, m_r10⟩ := T256 iv i_this List.not_mem_nil
    refine r4_13 (b := r10) C i_this e_r10 dX4_firstOf_10 ?_
    refine v_iload_n C dX4_firstOf_13 rfl ?_
    have n_o14 := inv_el (k := 3) iv i_r10 (by decide)
    refine v_aald (t0 := 4) C i_r10 (by decide) rfl (bI_ne p_v3 c_6 rfl) dX4_firstOf_14 ?_
    refine v_topq (n_o14 _) (fun o14 n_o14 => ?_)
    refine v_goto (tgt := 19) C dX4_firstOf_15 (by decide) ?_
    refine v_qstore_n C dX4_firstOf_19 (by decide) (by first | rfl | exact cat_ok _ | simp [okS, cat_rf]) ?_
    refine v_qload_n C dX4_firstOf_20 rfl ?_
    refine v_ifnonnull (tgt := 28) C dX4_firstOf_21 (by decide) (fun b21 c_21 => ?_) (fun c_21 => ?_)
    · skip
      subst c_21
      have i_b21 := nOK_some n_o14 rfl
      refine v_aload_n C dX4_firstOf_28 rfl ?_
      refine v_aload_n C dX4_firstOf_29 rfl ?_
      obtain ⟨r30, e_r30, i_r30, m_r30⟩ := T257 iv i_this List.not_mem_nil
      refine r4_17 (b := r30) C i_this e_r30 dX4_firstOf_30 ?_
      refine v_iload_n C dX4_firstOf_33 rfl ?_
      refine v_iald C i_r30 (bI_ne p_v3 c_6 rfl) dX4_firstOf_34 ?_
      refine v_topi (fun v34 e_v34 => ?_)
      refine v_callV (As := [_]) (n := 1) C (st_X3_at l _ _ _) rfl i_b21 (by decide) rfl ⟨wd186, wd187, wd188, wd45, wd189⟩ ⟨rfl, hy_X3_at⟩ rfl ⟨Nat.le_of_ble_eq_true rfl, Nat.le_of_ble_eq_true rfl⟩ (Nat.le_of_ble_eq_true rfl) ⟨Nat.le_of_ble_eq_true rfl, Nat.le_of_ble_eq_true rfl⟩ dX4_firstOf_35 ⟨rfl, iv, i_b21⟩ (fun r_35 S6_35 h_35 => ?_)
      obtain ⟨v35, rfl, q_v35⟩ := h_35
      obtain rfl := q_v35.symm
      refine v_iret C hr (Nat.le_of_ble_eq_true rfl) (Nat.le_of_ble_eq_true rfl) dX4_firstOf_38 ?_
      exact ⟨_, rfl, rfl⟩
    · skip
      subst c_21
      refine v_iconst (v := -1) C dX4_firstOf_24 (by decide) ?_
      refine v_goto (tgt := 38) C dX4_firstOf_25 (by decide) ?_
      refine v_iret C hr (Nat.le_of_ble_eq_true rfl) (Nat.le_of_ble_eq_true rfl) dX4_firstOf_38 ?_
      exact ⟨_, rfl, rfl⟩
theorem dX4_standsBehind_0 : decode cX4_standsBehind 0 = .ok (.iconst 0, 1) := by decide +kernel
theorem dX4_standsBehind_1 : decode cX4_standsBehind 1 = .ok (.istore_n 2, 1) := by decide +kernel
theorem dX4_standsBehind_2 : decode cX4_standsBehind 2 = .ok (.iload_n 2, 1) := by decide +kernel
theorem dX4_standsBehind_3 : decode cX4_standsBehind 3 = .ok (.aload_n 0, 1) := by decide +kernel
theorem dX4_standsBehind_4 : decode cX4_standsBehind 4 = .ok (.getfield 32, 3) := by decide +kernel
theorem dX4_standsBehind_7 : decode cX4_standsBehind 7 = .ok (.if_icmp .ge 42, 3) := by decide +kernel
theorem dX4_standsBehind_10 : decode cX4_standsBehind 10 = .ok (.iload_n 2, 1) := by decide +kernel
theorem dX4_standsBehind_11 : decode cX4_standsBehind 11 = .ok (.bipush 7, 2) := by decide +kernel
theorem dX4_standsBehind_13 : decode cX4_standsBehind 13 = .ok (.if_icmp .ge 36, 3) := by decide +kernel
theorem dX4_standsBehind_16 : decode cX4_standsBehind 16 = .ok (.aload_n 0, 1) := by decide +kernel
theorem dX4_standsBehind_17 : decode cX4_standsBehind 17 = .ok (.getfield 13, 3) := by decide +kernel
theorem dX4_standsBehind_20 : decode cX4_standsBehind 20 = .ok (.iload_n 2, 1) := by decide +kernel
theorem dX4_standsBehind_21 : decode cX4_standsBehind 21 = .ok (.aaload, 1) := by decide +kernel
theorem dX4_standsBehind_22 : decode cX4_standsBehind 22 = .ok (.astore_n 3, 1) := by decide +kernel
theorem dX4_standsBehind_23 : decode cX4_standsBehind 23 = .ok (.aload_n 3, 1) := by decide +kernel
theorem dX4_standsBehind_24 : decode cX4_standsBehind 24 = .ok (.ifnull 19, 3) := by decide +kernel
theorem dX4_standsBehind_27 : decode cX4_standsBehind 27 = .ok (.aload_n 3, 1) := by decide +kernel
theorem dX4_standsBehind_28 : decode cX4_standsBehind 28 = .ok (.iload_n 1, 1) := by decide +kernel
theorem dX4_standsBehind_29 : decode cX4_standsBehind 29 = .ok (.invokevirtual 70, 3) := by decide +kernel
theorem dX4_standsBehind_32 : decode cX4_standsBehind 32 = .ok (.aload_n 0, 1) := by decide +kernel
theorem dX4_standsBehind_33 : decode cX4_standsBehind 33 = .ok (.getfield 17, 3) := by decide +kernel
theorem dX4_standsBehind_36 : decode cX4_standsBehind 36 = .ok (.iload_n 2, 1) := by decide +kernel
theorem dX4_standsBehind_37 : decode cX4_standsBehind 37 = .ok (.iaload, 1) := by decide +kernel
theorem dX4_standsBehind_38 : decode cX4_standsBehind 38 = .ok (.if_icmp .le 5, 3) := by decide +kernel
theorem dX4_standsBehind_41 : decode cX4_standsBehind 41 = .ok (.iconst 1, 1) := by decide +kernel
theorem dX4_standsBehind_42 : decode cX4_standsBehind 42 = .ok (.ireturn, 1) := by decide +kernel
theorem dX4_standsBehind_43 : decode cX4_standsBehind 43 = .ok (.iinc 2 1, 3) := by decide +kernel
theorem dX4_standsBehind_46 : decode cX4_standsBehind 46 = .ok (.goto (-44), 3) := by decide +kernel
theorem dX4_standsBehind_49 : decode cX4_standsBehind 49 = .ok (.iconst 0, 1) := by decide +kernel
theorem dX4_standsBehind_50 : decode cX4_standsBehind 50 = .ok (.ireturn, 1) := by decide +kernel
set_option maxRecDepth 100000 in
set_option maxHeartbeats 4000000 in
theorem st_X4_standsBehind (l : Launch) (M : Nat → Prop) (h : Nat) (p0 : Int32) : Ct l yX4_standsBehind cX4_standsBehind 4 (some .boolean) 2 0 0 42 (fun S av => av = [.ref h, .int p0] ∧ INV M [] S ∧ is S h 4) (fun S _ r S' => ∃ v, r = some (.int (bI v)) ∧ S' = S) := by
  refine ct_of (by decide) (fun S av h => by obtain ⟨rfl, iv, i_this⟩ := h; exact Nat.le_of_ble_eq_true rfl) ?_
  intro p e s m args below meth c D G bs S av C hr hin hpre
  obtain ⟨rfl, iv, i_this⟩ := hpre
  refine v_iconst (v := 0) C dX4_standsBehind_0 (by decide) ?_
  refine v_istore_n C dX4_standsBehind_1 (by decide) (by first | rfl | exact cat_ok _ | simp [okS, cat_rf]) ?_
  refine V.lits (lv' := [_, _, _, _]) rfl ?_
  refine v_loop (fun (t : Int32) lv0 => (lv0.set 2 (some (.int t)))) (fun (S1 : Mem) (t : Int32) => INV M [] S1 ∧ is S1 h 4 ∧ 0 ≤ t.toInt ∧ S1 = S) (fun (S1 : Mem) (t : Int32) => upm t) (t := _) rfl ⟨iv, i_this, (by decide), rfl⟩ ?_
  intro L2 t h_2 ih_2
  revert h_2 ih_2
  revert t
  intro t0_2 h_2 ih_2
  obtain ⟨iv, i_this, z0, e_S⟩ := h_2
  subst e_S
  try dsimp only
  refine v_iload_n C dX4_standsBehind_2 rfl ?_
  refine v_aload_n C dX4_standsBehind_3 rfl ?_
  refine g4_32 C i_this dX4_standsBehind_4 ?_
  refine v_topi (fun v4 e_v4 => ?_)
  refine v_icmp_ge (tgt := 49) C dX4_standsBehind_7 (by decide) (fun c_7 => ?_) (fun c_7 => ?_)
  · skip
    refine v_iconst (v := 0) C dX4_standsBehind_49 (by decide) ?_
    refine v_zret C hr (by first | rfl | exact bI_nar _) (Nat.le_of_ble_eq_true rfl) (Nat.le_of_ble_eq_true rfl) dX4_standsBehind_50 ?_
    first
      | exact ⟨true, rfl, rfl⟩
      | exact ⟨false, rfl, rfl⟩
      | exact ⟨_, rfl, rfl⟩
  · skip
    refine v_iload_n C dX4_standsBehind_10 rfl ?_
    refine v_bipush (v := 7) C dX4_standsBehind_11 (by decide) ?_
    refine v_icmp_ge (tgt := 49) C dX4_standsBehind_13 (by decide) (fun c_13 => ?_) (fun c_13 => ?_)
    · skip
      refine v_iconst (v := 0) C dX4_standsBehind_49 (by decide) ?_
      refine v_zret C hr (by first | rfl | exact bI_nar _) (Nat.le_of_ble_eq_true rfl) (Nat.le_of_ble_eq_true rfl) dX4_standsBehind_50 ?_
      first
        | exact ⟨true, rfl, rfl⟩
        | exact ⟨false, rfl, rfl⟩
        | exact ⟨_, rfl, rfl⟩
    · skip
      refine v_aload_n C dX4_standsBehind_16 rfl ?_
      obtain ⟨r17, e_r17, i_r17, m_r17⟩ := T256 iv i_this List.not_mem_nil
      refine r4_13 (b := r17) C i_this e_r17 dX4_standsBehind_17 ?_
      refine v_iload_n C dX4_standsBehind_20 rfl ?_
      have n_o21 := inv_el (k := 3) iv i_r17 (by decide)
      refine v_aald (t0 := 4) C i_r17 (by decide) rfl (lo_in z0 c_13 rfl) dX4_standsBehind_21 ?_
      refine v_topq (n_o21 _) (fun o21 n_o21 => ?_)
      refine v_qstore_n C dX4_standsBehind_22 (by decide) (by first | rfl | exact cat_ok _ | simp [okS, cat_rf]) ?_
      refine v_qload_n C dX4_standsBehind_23 rfl ?_
      refine v_ifnull (tgt := 43) C dX4_standsBehind_24 (by decide) (fun c_24 => ?_) (fun b24 c_24 => ?_)
      · skip
        subst c_24
        refine v_iinc C dX4_standsBehind_43 rfl rfl (by decide) (by first | rfl | exact cat_ok _ | simp [okS, cat_rf]) ?_
        refine v_goto (tgt := 2) C dX4_standsBehind_46 (by decide) ?_
        refine V.drop 3 ?_
        refine V.lits (lv' := [_, _, _, _]) rfl ?_
        exact ih_2 _ _ (upm_lt c_7) ⟨iv, i_this, (up0 z0 c_7), rfl⟩
      · skip
        subst c_24
        have i_b24 := nOK_some n_o21 rfl
        refine v_aload_n C dX4_standsBehind_27 rfl ?_
        refine v_iload_n C dX4_standsBehind_28 rfl ?_
        refine v_callV (As := [_]) (n := 1) C (st_X3_placeOf l _ _ _) rfl i_b24 (by decide) rfl ⟨wd194, wd195, wd196, wd45, wd197⟩ ⟨rfl, hy_X3_placeOf⟩ rfl ⟨Nat.le_of_ble_eq_true rfl, Nat.le_of_ble_eq_true rfl⟩ (Nat.le_of_ble_eq_true rfl) ⟨Nat.le_of_ble_eq_true rfl, Nat.le_of_ble_eq_true rfl⟩ dX4_standsBehind_29 ⟨rfl, iv, i_b24⟩ (fun r_29 S6_29 h_29 => ?_)
        obtain ⟨v29, rfl, q_v29⟩ := h_29
        obtain rfl := q_v29.symm
        refine v_aload_n C dX4_standsBehind_32 rfl ?_
        obtain ⟨r33, e_r33, i_r33, m_r33⟩ := T257 iv i_this List.not_mem_nil
        refine r4_17 (b := r33) C i_this e_r33 dX4_standsBehind_33 ?_
        refine v_iload_n C dX4_standsBehind_36 rfl ?_
        refine v_iald C i_r33 (lo_in z0 c_13 rfl) dX4_standsBehind_37 ?_
        refine v_topi (fun v37 e_v37 => ?_)
        refine v_icmp_le (tgt := 43) C dX4_standsBehind_38 (by decide) (fun c_38 => ?_) (fun c_38 => ?_)
        · skip
          refine v_iinc C dX4_standsBehind_43 rfl rfl (by decide) (by first | rfl | exact cat_ok _ | simp [okS, cat_rf]) ?_
          refine v_goto (tgt := 2) C dX4_standsBehind_46 (by decide) ?_
          refine V.drop 3 ?_
          refine V.lits (lv' := [_, _, _, _]) rfl ?_
          exact ih_2 _ _ (upm_lt c_7) ⟨iv, i_this, (up0 z0 c_7), rfl⟩
        · skip
          refine v_iconst (v := 1) C dX4_standsBehind_41 (by decide) ?_
          refine v_zret C hr (by first | rfl | exact bI_nar _) (Nat.le_of_ble_eq_true rfl) (Nat.le_of_ble_eq_true rfl) dX4_standsBehind_42 ?_
          first
            | exact ⟨true, rfl, rfl⟩
            | exact ⟨false, rfl, rfl⟩
            | exact ⟨_, rfl, rfl⟩
theorem dX4_strike_0 : decode cX4_strike 0 = .ok (.iconst 0, 1) := by decide +kernel
theorem dX4_strike_1 : decode cX4_strike 1 = .ok (.istore_n 2, 1) := by decide +kernel
theorem dX4_strike_2 : decode cX4_strike 2 = .ok (.iload_n 2, 1) := by decide +kernel
theorem dX4_strike_3 : decode cX4_strike 3 = .ok (.aload_n 0, 1) := by decide +kernel
theorem dX4_strike_4 : decode cX4_strike 4 = .ok (.getfield 32, 3) := by decide +kernel
theorem dX4_strike_7 : decode cX4_strike 7 = .ok (.if_icmp .ge 34, 3) := by decide +kernel
theorem dX4_strike_10 : decode cX4_strike 10 = .ok (.iload_n 2, 1) := by decide +kernel
theorem dX4_strike_11 : decode cX4_strike 11 = .ok (.bipush 7, 2) := by decide +kernel
theorem dX4_strike_13 : decode cX4_strike 13 = .ok (.if_icmp .ge 28, 3) := by decide +kernel
theorem dX4_strike_16 : decode cX4_strike 16 = .ok (.aload_n 0, 1) := by decide +kernel
theorem dX4_strike_17 : decode cX4_strike 17 = .ok (.iload_n 2, 1) := by decide +kernel
theorem dX4_strike_18 : decode cX4_strike 18 = .ok (.invokevirtual 59, 3) := by decide +kernel
theorem dX4_strike_21 : decode cX4_strike 21 = .ok (.iload_n 1, 1) := by decide +kernel
theorem dX4_strike_22 : decode cX4_strike 22 = .ok (.if_icmp .ne 13, 3) := by decide +kernel
theorem dX4_strike_25 : decode cX4_strike 25 = .ok (.aload_n 0, 1) := by decide +kernel
theorem dX4_strike_26 : decode cX4_strike 26 = .ok (.getfield 17, 3) := by decide +kernel
theorem dX4_strike_29 : decode cX4_strike 29 = .ok (.iload_n 2, 1) := by decide +kernel
theorem dX4_strike_30 : decode cX4_strike 30 = .ok (.dup2, 1) := by decide +kernel
theorem dX4_strike_31 : decode cX4_strike 31 = .ok (.iaload, 1) := by decide +kernel
theorem dX4_strike_32 : decode cX4_strike 32 = .ok (.iconst 1, 1) := by decide +kernel
theorem dX4_strike_33 : decode cX4_strike 33 = .ok (.iadd, 1) := by decide +kernel
theorem dX4_strike_34 : decode cX4_strike 34 = .ok (.iastore, 1) := by decide +kernel
theorem dX4_strike_35 : decode cX4_strike 35 = .ok (.iinc 2 1, 3) := by decide +kernel
theorem dX4_strike_38 : decode cX4_strike 38 = .ok (.goto (-36), 3) := by decide +kernel
theorem dX4_strike_41 : decode cX4_strike 41 = .ok (.return_, 1) := by decide +kernel
set_option maxRecDepth 100000 in
set_option maxHeartbeats 4000000 in
theorem st_X4_strike (l : Launch) (M : Nat → Prop) (h : Nat) (p0 : Int32) : Ct l yX4_strike cX4_strike 3 none 3 0 0 64 (fun S av => av = [.ref h, .int p0] ∧ INV M [] S ∧ is S h 4) (fun S _ r S' => r = none ∧ INV M [] S' ∧ ext S S' (fun a => ¬ M a ∧ mK S a ∈ [11])) := by
  refine ct_of (by decide) (fun S av h => by obtain ⟨rfl, iv, i_this⟩ := h; exact Nat.le_of_ble_eq_true rfl) ?_
  intro p e s m args below meth c D G bs S av C hr hin hpre
  obtain ⟨rfl, iv, i_this⟩ := hpre
  have E0 : ext S S (fun a => ¬ M a ∧ mK S a ∈ [11]) := ext_rfl
  refine v_iconst (v := 0) C dX4_strike_0 (by decide) ?_
  refine v_istore_n C dX4_strike_1 (by decide) (by first | rfl | exact cat_ok _ | simp [okS, cat_rf]) ?_
  refine V.lits (lv' := [_, _, _]) rfl ?_
  refine v_loop (fun (t : Int32) lv0 => (lv0.set 2 (some (.int t)))) (fun (S1 : Mem) (t : Int32) => INV M [] S1 ∧ is S1 h 4 ∧ 0 ≤ t.toInt ∧ ext S S1 (fun a => ¬ M a ∧ mK S a ∈ [11])) (fun (S1 : Mem) (t : Int32) => upm t) (t := _) rfl ⟨iv, i_this, (by decide), E0⟩ ?_
  intro L2 t h_2 ih_2
  revert h_2 ih_2
  revert t
  intro t0_2 h_2 ih_2
  obtain ⟨iv, i_this, z0, E0⟩ := h_2
  try dsimp only
  refine v_iload_n C dX4_strike_2 rfl ?_
  refine v_aload_n C dX4_strike_3 rfl ?_
  refine g4_32 C i_this dX4_strike_4 ?_
  refine v_topi (fun v4 e_v4 => ?_)
  refine v_icmp_ge (tgt := 41) C dX4_strike_7 (by decide) (fun c_7 => ?_) (fun c_7 => ?_)
  · skip
    refine v_vret C hr (Nat.le_of_ble_eq_true rfl) (Nat.le_of_ble_eq_true rfl) dX4_strike_41 ?_
    exact ⟨rfl, iv, E0⟩
  · skip
    refine v_iload_n C dX4_strike_10 rfl ?_
    refine v_bipush (v := 7) C dX4_strike_11 (by decide) ?_
    refine v_icmp_ge (tgt := 41) C dX4_strike_13 (by decide) (fun c_13 => ?_) (fun c_13 => ?_)
    · skip
      refine v_vret C hr (Nat.le_of_ble_eq_true rfl) (Nat.le_of_ble_eq_true rfl) dX4_strike_41 ?_
      exact ⟨rfl, iv, E0⟩
    · skip
      refine v_aload_n C dX4_strike_16 rfl ?_
      refine v_iload_n C dX4_strike_17 rfl ?_
      refine v_callV (As := [_]) (n := 1) C (st_X4_firstOf l _ _ _) rfl i_this (by decide) rfl ⟨wd182, wd183, wd184, wd31, wd185⟩ ⟨rfl, hy_X4_firstOf⟩ rfl ⟨Nat.le_of_ble_eq_true rfl, Nat.le_of_ble_eq_true rfl⟩ (Nat.le_of_ble_eq_true rfl) ⟨Nat.le_of_ble_eq_true rfl, Nat.le_of_ble_eq_true rfl⟩ dX4_strike_18 ⟨rfl, iv, i_this⟩ (fun r_18 S4_18 h_18 => ?_)
      obtain ⟨v18, rfl, q_v18⟩ := h_18
      obtain rfl := q_v18.symm
      refine v_iload_n C dX4_strike_21 rfl ?_
      refine v_icmp_ne (tgt := 35) C dX4_strike_22 (by decide) (fun c_22 => ?_) (fun c_22 => ?_)
      · skip
        refine v_iinc C dX4_strike_35 rfl rfl (by decide) (by first | rfl | exact cat_ok _ | simp [okS, cat_rf]) ?_
        refine v_goto (tgt := 2) C dX4_strike_38 (by decide) ?_
        refine V.lits (lv' := [_, _, _]) rfl ?_
        exact ih_2 _ _ (upm_lt c_7) ⟨iv, i_this, (up0 z0 c_7), E0⟩
      · skip
        refine v_aload_n C dX4_strike_25 rfl ?_
        obtain ⟨r26, e_r26, i_r26, m_r26⟩ := T257 iv i_this List.not_mem_nil
        refine r4_17 (b := r26) C i_this e_r26 dX4_strike_26 ?_
        refine v_iload_n C dX4_strike_29 rfl ?_
        refine v_dup2 C dX4_strike_30 rfl rfl ?_
        refine v_iald C i_r26 (lo_in z0 c_13 rfl) dX4_strike_31 ?_
        refine v_topi (fun v31 e_v31 => ?_)
        refine v_iconst (v := 1) C dX4_strike_32 (by decide) ?_
        refine v_iadd C dX4_strike_33 ?_
        refine v_iast C i_r26 (lo_in z0 c_13 rfl) dX4_strike_34 ?_
        refine V.gen (fun S6_34 e_34 => ?_)
        have iv' := inv_sA e_34 iv
        have x_34 := x_sA e_34
        have E0' := ext_tr E0 x_34 (xk_A E0 i_r26 m_r26 (by decide))
        have E0 := E0'
        have i_this := is_ext x_34 i_this
        have i_r26 := isA_ext x_34 i_r26
        have iv := iv'
        refine v_iinc C dX4_strike_35 rfl rfl (by decide) (by first | rfl | exact cat_ok _ | simp [okS, cat_rf]) ?_
        refine v_goto (tgt := 2) C dX4_strike_38 (by decide) ?_
        refine V.lits (lv' := [_, _, _]) rfl ?_
        exact ih_2 _ _ (upm_lt c_7) ⟨iv, i_this, (up0 z0 c_7), E0⟩
theorem dX4_nextTrait_0 : decode cX4_nextTrait 0 = .ok (.iconst 0, 1) := by decide +kernel
theorem dX4_nextTrait_1 : decode cX4_nextTrait 1 = .ok (.istore_n 1, 1) := by decide +kernel
theorem dX4_nextTrait_2 : decode cX4_nextTrait 2 = .ok (.iload_n 1, 1) := by decide +kernel
theorem dX4_nextTrait_3 : decode cX4_nextTrait 3 = .ok (.aload_n 0, 1) := by decide +kernel
theorem dX4_nextTrait_4 : decode cX4_nextTrait 4 = .ok (.getfield 32, 3) := by decide +kernel
theorem dX4_nextTrait_7 : decode cX4_nextTrait 7 = .ok (.if_icmp .ge 30, 3) := by decide +kernel
theorem dX4_nextTrait_10 : decode cX4_nextTrait 10 = .ok (.aload_n 0, 1) := by decide +kernel
theorem dX4_nextTrait_11 : decode cX4_nextTrait 11 = .ok (.iload_n 1, 1) := by decide +kernel
theorem dX4_nextTrait_12 : decode cX4_nextTrait 12 = .ok (.invokevirtual 59, 3) := by decide +kernel
theorem dX4_nextTrait_15 : decode cX4_nextTrait 15 = .ok (.istore_n 2, 1) := by decide +kernel
theorem dX4_nextTrait_16 : decode cX4_nextTrait 16 = .ok (.iload_n 2, 1) := by decide +kernel
theorem dX4_nextTrait_17 : decode cX4_nextTrait 17 = .ok (.iconst (-1), 1) := by decide +kernel
theorem dX4_nextTrait_18 : decode cX4_nextTrait 18 = .ok (.if_icmp .eq 13, 3) := by decide +kernel
theorem dX4_nextTrait_21 : decode cX4_nextTrait 21 = .ok (.aload_n 0, 1) := by decide +kernel
theorem dX4_nextTrait_22 : decode cX4_nextTrait 22 = .ok (.iload_n 2, 1) := by decide +kernel
theorem dX4_nextTrait_23 : decode cX4_nextTrait 23 = .ok (.invokevirtual 63, 3) := by decide +kernel
theorem dX4_nextTrait_26 : decode cX4_nextTrait 26 = .ok (.ifCond .ne 5, 3) := by decide +kernel
theorem dX4_nextTrait_29 : decode cX4_nextTrait 29 = .ok (.iload_n 2, 1) := by decide +kernel
theorem dX4_nextTrait_30 : decode cX4_nextTrait 30 = .ok (.ireturn, 1) := by decide +kernel
theorem dX4_nextTrait_31 : decode cX4_nextTrait 31 = .ok (.iinc 1 1, 3) := by decide +kernel
theorem dX4_nextTrait_34 : decode cX4_nextTrait 34 = .ok (.goto (-32), 3) := by decide +kernel
theorem dX4_nextTrait_37 : decode cX4_nextTrait 37 = .ok (.iconst (-1), 1) := by decide +kernel
theorem dX4_nextTrait_38 : decode cX4_nextTrait 38 = .ok (.ireturn, 1) := by decide +kernel
set_option maxRecDepth 100000 in
set_option maxHeartbeats 4000000 in
theorem st_X4_nextTrait (l : Launch) (M : Nat → Prop) (h : Nat) : Ct l yX4_nextTrait cX4_nextTrait 3 (some .int) 3 0 0 65 (fun S av => av = [.ref h] ∧ INV M [] S ∧ is S h 4) (fun S _ r S' => ∃ v, r = some (.int v) ∧ S' = S) := by
  refine ct_of (by decide) (fun S av h => by obtain ⟨rfl, iv, i_this⟩ := h; exact Nat.le_of_ble_eq_true rfl) ?_
  intro p e s m args below meth c D G bs S av C hr hin hpre
  obtain ⟨rfl, iv, i_this⟩ := hpre
  refine v_iconst (v := 0) C dX4_nextTrait_0 (by decide) ?_
  refine v_istore_n C dX4_nextTrait_1 (by decide) (by first | rfl | exact cat_ok _ | simp [okS, cat_rf]) ?_
  refine V.lits (lv' := [_, _, _]) rfl ?_
  refine v_loop (fun (t : Int32) lv0 => (lv0.set 1 (some (.int t)))) (fun (S1 : Mem) (t : Int32) => INV M [] S1 ∧ is S1 h 4 ∧ S1 = S) (fun (S1 : Mem) (t : Int32) => upm t) (t := _) rfl ⟨iv, i_this, rfl⟩ ?_
  intro L2 t h_2 ih_2
  revert h_2 ih_2
  revert t
  intro t0_2 h_2 ih_2
  obtain ⟨iv, i_this, e_S⟩ := h_2
  subst e_S
  try dsimp only
  refine v_iload_n C dX4_nextTrait_2 rfl ?_
  refine v_aload_n C dX4_nextTrait_3 rfl ?_
  refine g4_32 C i_this dX4_nextTrait_4 ?_
  refine v_topi (fun v4 e_v4 => ?_)
  refine v_icmp_ge (tgt := 37) C dX4_nextTrait_7 (by decide) (fun c_7 => ?_) (fun c_7 => ?_)
  · skip
    refine v_iconst (v := -1) C dX4_nextTrait_37 (by decide) ?_
    refine v_iret C hr (Nat.le_of_ble_eq_true rfl) (Nat.le_of_ble_eq_true rfl) dX4_nextTrait_38 ?_
    exact ⟨_, rfl, rfl⟩
  · skip
    refine v_aload_n C dX4_nextTrait_10 rfl ?_
    refine v_iload_n C dX4_nextTrait_11 rfl ?_
    refine v_callV (As := [_]) (n := 1) C (st_X4_firstOf l _ _ _) rfl i_this (by decide) rfl ⟨wd182, wd183, wd184, wd31, wd185⟩ ⟨rfl, hy_X4_firstOf⟩ rfl ⟨Nat.le_of_ble_eq_true rfl, Nat.le_of_ble_eq_true rfl⟩ (Nat.le_of_ble_eq_true rfl) ⟨Nat.le_of_ble_eq_true rfl, Nat.le_of_ble_eq_true rfl⟩ dX4_nextTrait_12 ⟨rfl, iv, i_this⟩ (fun r_12 S2_12 h_12 => ?_)
    obtain ⟨v12, rfl, q_v12⟩ := h_12
    obtain rfl := q_v12.symm
    refine v_istore_n C dX4_nextTrait_15 (by decide) (by first | rfl | exact cat_ok _ | simp [okS, cat_rf]) ?_
    refine v_iload_n C dX4_nextTrait_16 rfl ?_
    refine v_iconst (v := -1) C dX4_nextTrait_17 (by decide) ?_
    refine v_icmp_eq (tgt := 31) C dX4_nextTrait_18 (by decide) (fun c_18 => ?_) (fun c_18 => ?_)
    · skip
      refine v_iinc C dX4_nextTrait_31 rfl rfl (by decide) (by first | rfl | exact cat_ok _ | simp [okS, cat_rf]) ?_
      refine v_goto (tgt := 2) C dX4_nextTrait_34 (by decide) ?_
      refine V.drop 2 ?_
      refine V.lits (lv' := [_, _, _]) rfl ?_
      exact ih_2 _ _ (upm_lt c_7) ⟨iv, i_this, rfl⟩
    · skip
      refine v_aload_n C dX4_nextTrait_21 rfl ?_
      refine v_iload_n C dX4_nextTrait_22 rfl ?_
      refine v_callV (As := [_]) (n := 1) C (st_X4_standsBehind l _ _ _) rfl i_this (by decide) rfl ⟨wd190, wd191, wd192, wd31, wd193⟩ ⟨rfl, hy_X4_standsBehind⟩ rfl ⟨Nat.le_of_ble_eq_true rfl, Nat.le_of_ble_eq_true rfl⟩ (Nat.le_of_ble_eq_true rfl) ⟨Nat.le_of_ble_eq_true rfl, Nat.le_of_ble_eq_true rfl⟩ dX4_nextTrait_23 ⟨rfl, iv, i_this⟩ (fun r_23 S4_23 h_23 => ?_)
      obtain ⟨v23, rfl, q_v23⟩ := h_23
      obtain rfl := q_v23.symm
      refine v_if_ne (tgt := 31) C dX4_nextTrait_26 (by decide) (fun c_26 => ?_) (fun c_26 => ?_)
      · skip
        refine v_iinc C dX4_nextTrait_31 rfl rfl (by decide) (by first | rfl | exact cat_ok _ | simp [okS, cat_rf]) ?_
        refine v_goto (tgt := 2) C dX4_nextTrait_34 (by decide) ?_
        refine V.drop 2 ?_
        refine V.lits (lv' := [_, _, _]) rfl ?_
        exact ih_2 _ _ (upm_lt c_7) ⟨iv, i_this, rfl⟩
      · skip
        refine v_iload_n C dX4_nextTrait_29 rfl ?_
        refine v_iret C hr (Nat.le_of_ble_eq_true rfl) (Nat.le_of_ble_eq_true rfl) dX4_nextTrait_30 ?_
        exact ⟨_, rfl, rfl⟩
theorem dX4_allDone_0 : decode cX4_allDone 0 = .ok (.iconst 0, 1) := by decide +kernel
theorem dX4_allDone_1 : decode cX4_allDone 1 = .ok (.istore_n 1, 1) := by decide +kernel
theorem dX4_allDone_2 : decode cX4_allDone 2 = .ok (.iload_n 1, 1) := by decide +kernel
theorem dX4_allDone_3 : decode cX4_allDone 3 = .ok (.aload_n 0, 1) := by decide +kernel
theorem dX4_allDone_4 : decode cX4_allDone 4 = .ok (.getfield 32, 3) := by decide +kernel
theorem dX4_allDone_7 : decode cX4_allDone 7 = .ok (.if_icmp .ge 20, 3) := by decide +kernel
theorem dX4_allDone_10 : decode cX4_allDone 10 = .ok (.aload_n 0, 1) := by decide +kernel
theorem dX4_allDone_11 : decode cX4_allDone 11 = .ok (.iload_n 1, 1) := by decide +kernel
theorem dX4_allDone_12 : decode cX4_allDone 12 = .ok (.invokevirtual 59, 3) := by decide +kernel
theorem dX4_allDone_15 : decode cX4_allDone 15 = .ok (.iconst (-1), 1) := by decide +kernel
theorem dX4_allDone_16 : decode cX4_allDone 16 = .ok (.if_icmp .eq 5, 3) := by decide +kernel
theorem dX4_allDone_19 : decode cX4_allDone 19 = .ok (.iconst 0, 1) := by decide +kernel
theorem dX4_allDone_20 : decode cX4_allDone 20 = .ok (.ireturn, 1) := by decide +kernel
theorem dX4_allDone_21 : decode cX4_allDone 21 = .ok (.iinc 1 1, 3) := by decide +kernel
theorem dX4_allDone_24 : decode cX4_allDone 24 = .ok (.goto (-22), 3) := by decide +kernel
theorem dX4_allDone_27 : decode cX4_allDone 27 = .ok (.iconst 1, 1) := by decide +kernel
theorem dX4_allDone_28 : decode cX4_allDone 28 = .ok (.ireturn, 1) := by decide +kernel
set_option maxRecDepth 100000 in
set_option maxHeartbeats 4000000 in
theorem st_X4_allDone (l : Launch) (M : Nat → Prop) (h : Nat) : Ct l yX4_allDone cX4_allDone 2 (some .boolean) 3 0 0 64 (fun S av => av = [.ref h] ∧ INV M [] S ∧ is S h 4) (fun S _ r S' => ∃ v, r = some (.int (bI v)) ∧ S' = S) := by
  refine ct_of (by decide) (fun S av h => by obtain ⟨rfl, iv, i_this⟩ := h; exact Nat.le_of_ble_eq_true rfl) ?_
  intro p e s m args below meth c D G bs S av C hr hin hpre
  obtain ⟨rfl, iv, i_this⟩ := hpre
  refine v_iconst (v := 0) C dX4_allDone_0 (by decide) ?_
  refine v_istore_n C dX4_allDone_1 (by decide) (by first | rfl | exact cat_ok _ | simp [okS, cat_rf]) ?_
  refine V.lits (lv' := [_, _]) rfl ?_
  refine v_loop (fun (t : Int32) lv0 => (lv0.set 1 (some (.int t)))) (fun (S1 : Mem) (t : Int32) => INV M [] S1 ∧ is S1 h 4 ∧ S1 = S) (fun (S1 : Mem) (t : Int32) => upm t) (t := _) rfl ⟨iv, i_this, rfl⟩ ?_
  intro L2 t h_2 ih_2
  revert h_2 ih_2
  revert t
  intro t0_2 h_2 ih_2
  obtain ⟨iv, i_this, e_S⟩ := h_2
  subst e_S
  try dsimp only
  refine v_iload_n C dX4_allDone_2 rfl ?_
  refine v_aload_n C dX4_allDone_3 rfl ?_
  refine g4_32 C i_this dX4_allDone_4 ?_
  refine v_topi (fun v4 e_v4 => ?_)
  refine v_icmp_ge (tgt := 27) C dX4_allDone_7 (by decide) (fun c_7 => ?_) (fun c_7 => ?_)
  · skip
    refine v_iconst (v := 1) C dX4_allDone_27 (by decide) ?_
    refine v_zret C hr (by first | rfl | exact bI_nar _) (Nat.le_of_ble_eq_true rfl) (Nat.le_of_ble_eq_true rfl) dX4_allDone_28 ?_
    first
      | exact ⟨true, rfl, rfl⟩
      | exact ⟨false, rfl, rfl⟩
      | exact ⟨_, rfl, rfl⟩
  · skip
    refine v_aload_n C dX4_allDone_10 rfl ?_
    refine v_iload_n C dX4_allDone_11 rfl ?_
    refine v_callV (As := [_]) (n := 1) C (st_X4_firstOf l _ _ _) rfl i_this (by decide) rfl ⟨wd182, wd183, wd184, wd31, wd185⟩ ⟨rfl, hy_X4_firstOf⟩ rfl ⟨Nat.le_of_ble_eq_true rfl, Nat.le_of_ble_eq_true rfl⟩ (Nat.le_of_ble_eq_true rfl) ⟨Nat.le_of_ble_eq_true rfl, Nat.le_of_ble_eq_true rfl⟩ dX4_allDone_12 ⟨rfl, iv, i_this⟩ (fun r_12 S2_12 h_12 => ?_)
    obtain ⟨v12, rfl, q_v12⟩ := h_12
    obtain rfl := q_v12.symm
    refine v_iconst (v := -1) C dX4_allDone_15 (by decide) ?_
    refine v_icmp_eq (tgt := 21) C dX4_allDone_16 (by decide) (fun c_16 => ?_) (fun c_16 => ?_)
    · skip
      refine v_iinc C dX4_allDone_21 rfl rfl (by decide) (by first | rfl | exact cat_ok _ | simp [okS, cat_rf]) ?_
      refine v_goto (tgt := 2) C dX4_allDone_24 (by decide) ?_
      refine V.lits (lv' := [_, _]) rfl ?_
      exact ih_2 _ _ (upm_lt c_7) ⟨iv, i_this, rfl⟩
    · skip
      refine v_iconst (v := 0) C dX4_allDone_19 (by decide) ?_
      refine v_zret C hr (by first | rfl | exact bI_nar _) (Nat.le_of_ble_eq_true rfl) (Nat.le_of_ble_eq_true rfl) dX4_allDone_20 ?_
      first
        | exact ⟨true, rfl, rfl⟩
        | exact ⟨false, rfl, rfl⟩
        | exact ⟨_, rfl, rfl⟩
theorem dX4_begin_0 : decode cX4_begin 0 = .ok (.aload_n 0, 1) := by decide +kernel
theorem dX4_begin_1 : decode cX4_begin 1 = .ok (.getfield 22, 3) := by decide +kernel
theorem dX4_begin_4 : decode cX4_begin 4 = .ok (.invokevirtual 29, 3) := by decide +kernel
theorem dX4_begin_7 : decode cX4_begin 7 = .ok (.aload_n 0, 1) := by decide +kernel
theorem dX4_begin_8 : decode cX4_begin 8 = .ok (.getfield 26, 3) := by decide +kernel
theorem dX4_begin_11 : decode cX4_begin 11 = .ok (.invokevirtual 29, 3) := by decide +kernel
theorem dX4_begin_14 : decode cX4_begin 14 = .ok (.aload_n 0, 1) := by decide +kernel
theorem dX4_begin_15 : decode cX4_begin 15 = .ok (.iconst 0, 1) := by decide +kernel
theorem dX4_begin_16 : decode cX4_begin 16 = .ok (.putfield 32, 3) := by decide +kernel
theorem dX4_begin_19 : decode cX4_begin 19 = .ok (.return_, 1) := by decide +kernel
set_option maxRecDepth 100000 in
set_option maxHeartbeats 4000000 in
theorem st_X4_begin (l : Launch) (M : Nat → Prop) (h : Nat) : Ct l yX4_begin cX4_begin 1 none 2 0 0 43 (fun S av => av = [.ref h] ∧ INV M [] S ∧ is S h 4) (fun S _ r S' => r = none ∧ INV M [] S' ∧ ext S S' (fun a => ¬ M a ∧ mK S a ∈ [3, 4, 11])) := by
  refine ct_of (by decide) (fun S av h => by obtain ⟨rfl, iv, i_this⟩ := h; exact Nat.le_of_ble_eq_true rfl) ?_
  intro p e s m args below meth c D G bs S av C hr hin hpre
  obtain ⟨rfl, iv, i_this⟩ := hpre
  have E0 : ext S S (fun a => ¬ M a ∧ mK S a ∈ [3, 4, 11]) := ext_rfl
  refine v_aload_n C dX4_begin_0 rfl ?_
  obtain ⟨a1, e_a1, i_a1⟩ := T258 iv i_this List.not_mem_nil
  refine r4_22 (b := a1) C i_this e_a1 dX4_begin_1 ?_
  refine v_callV (As := []) (n := 0) C (st_X3_empty l _ _) rfl i_a1 (by decide) rfl ⟨wd152, wd153, wd154, wd45, wd155⟩ ⟨rfl, hy_X3_empty⟩ rfl ⟨Nat.le_of_ble_eq_true rfl, Nat.le_of_ble_eq_true rfl⟩ (Nat.le_of_ble_eq_true rfl) ⟨Nat.le_of_ble_eq_true rfl, Nat.le_of_ble_eq_true rfl⟩ dX4_begin_4 ⟨rfl, iv, i_a1⟩ (fun r_4 S2_4 h_4 => ?_)
  obtain ⟨rfl, iv2, x_4⟩ := h_4
  have i_this := is_ext x_4 i_this
  have i_a1 := is_ext x_4 i_a1
  have E0' := ext_tr E0 x_4 (xk_call E0 (by decide))
  have E0 := E0'
  have iv := iv2
  refine v_aload_n C dX4_begin_7 rfl ?_
  obtain ⟨a8, e_a8, i_a8⟩ := T259 iv i_this List.not_mem_nil
  refine r4_26 (b := a8) C i_this e_a8 dX4_begin_8 ?_
  refine v_callV (As := []) (n := 0) C (st_X3_empty l _ _) rfl i_a8 (by decide) rfl ⟨wd152, wd153, wd154, wd45, wd155⟩ ⟨rfl, hy_X3_empty⟩ rfl ⟨Nat.le_of_ble_eq_true rfl, Nat.le_of_ble_eq_true rfl⟩ (Nat.le_of_ble_eq_true rfl) ⟨Nat.le_of_ble_eq_true rfl, Nat.le_of_ble_eq_true rfl⟩ dX4_begin_11 ⟨rfl, iv, i_a8⟩ (fun r_11 S2_11 h_11 => ?_)
  obtain ⟨rfl, iv2, x_11⟩ := h_11
  have i_this := is_ext x_11 i_this
  have i_a1 := is_ext x_11 i_a1
  have i_a8 := is_ext x_11 i_a8
  have E0' := ext_tr E0 x_11 (xk_call E0 (by decide))
  have E0 := E0'
  have iv := iv2
  refine v_aload_n C dX4_begin_14 rfl ?_
  refine v_iconst (v := 0) C dX4_begin_15 (by decide) ?_
  refine p4_32 C i_this dX4_begin_16 ?_
  refine V.gen (fun S2_16 e_16 => ?_)
  have iv' := inv_sI e_16 iv (by decide) (by decide)
  have x_16 := x_sI e_16
  have E0' := ext_tr E0 x_16 (xk_is E0 i_this iv (by decide) (by decide))
  have E0 := E0'
  have i_this := is_ext x_16 i_this
  have i_a1 := is_ext x_16 i_a1
  have i_a8 := is_ext x_16 i_a8
  have iv := iv'
  refine v_vret C hr (Nat.le_of_ble_eq_true rfl) (Nat.le_of_ble_eq_true rfl) dX4_begin_19 ?_
  exact ⟨rfl, iv, E0⟩
theorem dX4_addRow_0 : decode cX4_addRow 0 = .ok (.aload_n 0, 1) := by decide +kernel
theorem dX4_addRow_1 : decode cX4_addRow 1 = .ok (.getfield 32, 3) := by decide +kernel
theorem dX4_addRow_4 : decode cX4_addRow 4 = .ok (.bipush 7, 2) := by decide +kernel
theorem dX4_addRow_6 : decode cX4_addRow 6 = .ok (.invokestatic 44, 3) := by decide +kernel
theorem dX4_addRow_9 : decode cX4_addRow 9 = .ok (.ifCond .eq 33, 3) := by decide +kernel
theorem dX4_addRow_12 : decode cX4_addRow 12 = .ok (.aload_n 0, 1) := by decide +kernel
theorem dX4_addRow_13 : decode cX4_addRow 13 = .ok (.getfield 13, 3) := by decide +kernel
theorem dX4_addRow_16 : decode cX4_addRow 16 = .ok (.aload_n 0, 1) := by decide +kernel
theorem dX4_addRow_17 : decode cX4_addRow 17 = .ok (.getfield 32, 3) := by decide +kernel
theorem dX4_addRow_20 : decode cX4_addRow 20 = .ok (.aload_n 1, 1) := by decide +kernel
theorem dX4_addRow_21 : decode cX4_addRow 21 = .ok (.aastore, 1) := by decide +kernel
theorem dX4_addRow_22 : decode cX4_addRow 22 = .ok (.aload_n 0, 1) := by decide +kernel
theorem dX4_addRow_23 : decode cX4_addRow 23 = .ok (.getfield 17, 3) := by decide +kernel
theorem dX4_addRow_26 : decode cX4_addRow 26 = .ok (.aload_n 0, 1) := by decide +kernel
theorem dX4_addRow_27 : decode cX4_addRow 27 = .ok (.getfield 32, 3) := by decide +kernel
theorem dX4_addRow_30 : decode cX4_addRow 30 = .ok (.iconst 0, 1) := by decide +kernel
theorem dX4_addRow_31 : decode cX4_addRow 31 = .ok (.iastore, 1) := by decide +kernel
theorem dX4_addRow_32 : decode cX4_addRow 32 = .ok (.aload_n 0, 1) := by decide +kernel
theorem dX4_addRow_33 : decode cX4_addRow 33 = .ok (.dup, 1) := by decide +kernel
theorem dX4_addRow_34 : decode cX4_addRow 34 = .ok (.getfield 32, 3) := by decide +kernel
theorem dX4_addRow_37 : decode cX4_addRow 37 = .ok (.iconst 1, 1) := by decide +kernel
theorem dX4_addRow_38 : decode cX4_addRow 38 = .ok (.iadd, 1) := by decide +kernel
theorem dX4_addRow_39 : decode cX4_addRow 39 = .ok (.putfield 32, 3) := by decide +kernel
theorem dX4_addRow_42 : decode cX4_addRow 42 = .ok (.return_, 1) := by decide +kernel
set_option maxRecDepth 100000 in
set_option maxHeartbeats 4000000 in
theorem st_X4_addRow (l : Launch) (M : Nat → Prop) (h : Nat) (p0 : Nat) : Ct l yX4_addRow cX4_addRow 2 none 1 0 0 21 (fun S av => av = [.ref h, .ref p0] ∧ INV M [] S ∧ is S h 4 ∧ is S p0 3) (fun S _ r S' => r = none ∧ INV M [] S' ∧ ext S S' (fun a => ¬ M a ∧ mK S a ∈ [4, 11, 15])) := by
  refine ct_of (by decide) (fun S av h => by obtain ⟨rfl, iv, i_this, i_p0⟩ := h; exact Nat.le_of_ble_eq_true rfl) ?_
  intro p e s m args below meth c D G bs S av C hr hin hpre
  obtain ⟨rfl, iv, i_this, i_p0⟩ := hpre
  have E0 : ext S S (fun a => ¬ M a ∧ mK S a ∈ [4, 11, 15]) := ext_rfl
  refine v_aload_n C dX4_addRow_0 rfl ?_
  refine g4_32 C i_this dX4_addRow_1 ?_
  refine v_topi (fun v1 e_v1 => ?_)
  refine v_bipush (v := 7) C dX4_addRow_4 (by decide) ?_
  refine v_callSN (As := [_, _]) (n := 2) C (sb_isBelow l _ _) rfl ⟨(by decide +kernel), wd141, wd2, wd142⟩ hy_X9_isBelow rfl ⟨Nat.le_of_ble_eq_true rfl, Nat.le_of_ble_eq_true rfl⟩ (Nat.le_of_ble_eq_true rfl) ⟨Nat.le_of_ble_eq_true rfl, Nat.le_of_ble_eq_true rfl⟩ dX4_addRow_6 rfl (fun r_6 S2_6 h_6 => ?_)
  obtain ⟨v6, rfl, p_v6, q_v6⟩ := h_6
  obtain rfl := q_v6.symm
  refine v_if_eq (tgt := 42) C dX4_addRow_9 (by decide) (fun c_9 => ?_) (fun c_9 => ?_)
  · skip
    refine v_vret C hr (Nat.le_of_ble_eq_true rfl) (Nat.le_of_ble_eq_true rfl) dX4_addRow_42 ?_
    exact ⟨rfl, iv, E0⟩
  · skip
    refine v_aload_n C dX4_addRow_12 rfl ?_
    obtain ⟨r13, e_r13, i_r13, m_r13⟩ := T256 iv i_this List.not_mem_nil
    refine r4_13 (b := r13) C i_this e_r13 dX4_addRow_13 ?_
    refine v_aload_n C dX4_addRow_16 rfl ?_
    refine g4_32 C i_this dX4_addRow_17 ?_
    refine v_topi (fun v17 e_v17 => ?_)
    refine v_aload_n C dX4_addRow_20 rfl ?_
    refine v_aast (t0 := 4) C i_r13 (by decide) i_p0 (by decide) rfl rfl (eq_in (e_v17.trans e_v1.symm) (bI_ne p_v6 c_9 rfl)) dX4_addRow_21 ?_
    refine V.gen (fun S4_21 e_21 => ?_)
    have iv' := inv_sP e_21 iv i_r13.2.1 (by decide) (nOK_is i_p0)
    have x_21 := x_sP e_21
    have E0' := ext_tr E0 x_21 (xk_P E0 i_r13 iv (by decide) (by decide))
    have E0 := E0'
    have i_this := is_ext x_21 i_this
    have i_p0 := is_ext x_21 i_p0
    have i_r13 := isA_ext x_21 i_r13
    have iv := iv'
    refine v_aload_n C dX4_addRow_22 rfl ?_
    obtain ⟨r23, e_r23, i_r23, m_r23⟩ := T257 iv i_this List.not_mem_nil
    refine r4_17 (b := r23) C i_this e_r23 dX4_addRow_23 ?_
    refine v_aload_n C dX4_addRow_26 rfl ?_
    refine g4_32 C i_this dX4_addRow_27 ?_
    refine v_topi (fun v27 e_v27 => ?_)
    refine v_iconst (v := 0) C dX4_addRow_30 (by decide) ?_
    refine v_iast C i_r23 (eq_in (e_v27.trans ((mI_P e_21).trans e_v1.symm)) (bI_ne p_v6 c_9 rfl)) dX4_addRow_31 ?_
    refine V.gen (fun S4_31 e_31 => ?_)
    have iv' := inv_sA e_31 iv
    have x_31 := x_sA e_31
    have E0' := ext_tr E0 x_31 (xk_A E0 i_r23 m_r23 (by decide))
    have E0 := E0'
    have i_this := is_ext x_31 i_this
    have i_p0 := is_ext x_31 i_p0
    have i_r13 := isA_ext x_31 i_r13
    have i_r23 := isA_ext x_31 i_r23
    have iv := iv'
    refine v_aload_n C dX4_addRow_32 rfl ?_
    refine v_dup C dX4_addRow_33 rfl ?_
    refine g4_32 C i_this dX4_addRow_34 ?_
    refine v_topi (fun v34 e_v34 => ?_)
    refine v_iconst (v := 1) C dX4_addRow_37 (by decide) ?_
    refine v_iadd C dX4_addRow_38 ?_
    refine p4_32 C i_this dX4_addRow_39 ?_
    refine V.gen (fun S4_39 e_39 => ?_)
    have iv' := inv_sI e_39 iv (by decide) (by decide)
    have x_39 := x_sI e_39
    have E0' := ext_tr E0 x_39 (xk_is E0 i_this iv (by decide) (by decide))
    have E0 := E0'
    have i_this := is_ext x_39 i_this
    have i_p0 := is_ext x_39 i_p0
    have i_r13 := isA_ext x_39 i_r13
    have i_r23 := isA_ext x_39 i_r23
    have iv := iv'
    refine v_vret C hr (Nat.le_of_ble_eq_true rfl) (Nat.le_of_ble_eq_true rfl) dX4_addRow_42 ?_
    exact ⟨rfl, iv, E0⟩
theorem dX4_addGiver_0 : decode cX4_addGiver 0 = .ok (.aload_n 0, 1) := by decide +kernel
theorem dX4_addGiver_1 : decode cX4_addGiver 1 = .ok (.getfield 22, 3) := by decide +kernel
theorem dX4_addGiver_4 : decode cX4_addGiver 4 = .ok (.iload_n 1, 1) := by decide +kernel
theorem dX4_addGiver_5 : decode cX4_addGiver 5 = .ok (.invokevirtual 36, 3) := by decide +kernel
theorem dX4_addGiver_8 : decode cX4_addGiver 8 = .ok (.aload_n 0, 1) := by decide +kernel
theorem dX4_addGiver_9 : decode cX4_addGiver 9 = .ok (.aload_n 2, 1) := by decide +kernel
theorem dX4_addGiver_10 : decode cX4_addGiver 10 = .ok (.invokevirtual 40, 3) := by decide +kernel
theorem dX4_addGiver_13 : decode cX4_addGiver 13 = .ok (.return_, 1) := by decide +kernel
set_option maxRecDepth 100000 in
set_option maxHeartbeats 4000000 in
theorem st_X4_addGiver (l : Launch) (M : Nat → Prop) (h : Nat) (p0 : Int32) (p1 : Nat) : Ct l yX4_addGiver cX4_addGiver 3 none 2 0 0 42 (fun S av => av = [.ref h, .int p0, .ref p1] ∧ INV M [] S ∧ is S h 4 ∧ is S p1 3) (fun S _ r S' => r = none ∧ INV M [] S' ∧ ext S S' (fun a => ¬ M a ∧ mK S a ∈ [3, 4, 11, 15])) := by
  refine ct_of (by decide) (fun S av h => by obtain ⟨rfl, iv, i_this, i_p1⟩ := h; exact Nat.le_of_ble_eq_true rfl) ?_
  intro p e s m args below meth c D G bs S av C hr hin hpre
  obtain ⟨rfl, iv, i_this, i_p1⟩ := hpre
  have E0 : ext S S (fun a => ¬ M a ∧ mK S a ∈ [3, 4, 11, 15]) := ext_rfl
  refine v_aload_n C dX4_addGiver_0 rfl ?_
  obtain ⟨a1, e_a1, i_a1⟩ := T258 iv i_this List.not_mem_nil
  refine r4_22 (b := a1) C i_this e_a1 dX4_addGiver_1 ?_
  refine v_iload_n C dX4_addGiver_4 rfl ?_
  refine v_callV (As := [_]) (n := 1) C (st_X3_add l _ _ _) rfl i_a1 (by decide) rfl ⟨wd166, wd167, wd168, wd45, wd169⟩ ⟨rfl, hy_X3_add⟩ rfl ⟨Nat.le_of_ble_eq_true rfl, Nat.le_of_ble_eq_true rfl⟩ (Nat.le_of_ble_eq_true rfl) ⟨Nat.le_of_ble_eq_true rfl, Nat.le_of_ble_eq_true rfl⟩ dX4_addGiver_5 ⟨rfl, iv, i_a1⟩ (fun r_5 S2_5 h_5 => ?_)
  obtain ⟨rfl, iv2, x_5⟩ := h_5
  have i_this := is_ext x_5 i_this
  have i_p1 := is_ext x_5 i_p1
  have i_a1 := is_ext x_5 i_a1
  have E0' := ext_tr E0 x_5 (xk_call E0 (by decide))
  have E0 := E0'
  have iv := iv2
  refine v_aload_n C dX4_addGiver_8 rfl ?_
  refine v_aload_n C dX4_addGiver_9 rfl ?_
  refine v_callV (As := [_]) (n := 1) C (st_X4_addRow l _ _ _) rfl i_this (by decide) rfl ⟨wd170, wd171, wd172, wd31, wd173⟩ ⟨rfl, hy_X4_addRow⟩ rfl ⟨Nat.le_of_ble_eq_true rfl, Nat.le_of_ble_eq_true rfl⟩ (Nat.le_of_ble_eq_true rfl) ⟨Nat.le_of_ble_eq_true rfl, Nat.le_of_ble_eq_true rfl⟩ dX4_addGiver_10 ⟨rfl, iv, i_this, i_p1⟩ (fun r_10 S2_10 h_10 => ?_)
  obtain ⟨rfl, iv2, x_10⟩ := h_10
  have i_this := is_ext x_10 i_this
  have i_p1 := is_ext x_10 i_p1
  have i_a1 := is_ext x_10 i_a1
  have E0' := ext_tr E0 x_10 (xk_call E0 (by decide))
  have E0 := E0'
  have iv := iv2
  refine v_vret C hr (Nat.le_of_ble_eq_true rfl) (Nat.le_of_ble_eq_true rfl) dX4_addGiver_13 ?_
  exact ⟨rfl, iv, E0⟩
theorem dX4_merges_0 : decode cX4_merges 0 = .ok (.aload_n 0, 1) := by decide +kernel
theorem dX4_merges_1 : decode cX4_merges 1 = .ok (.aload_n 0, 1) := by decide +kernel
theorem dX4_merges_2 : decode cX4_merges 2 = .ok (.getfield 22, 3) := by decide +kernel
theorem dX4_merges_5 : decode cX4_merges 5 = .ok (.invokevirtual 40, 3) := by decide +kernel
theorem dX4_merges_8 : decode cX4_merges 8 = .ok (.iconst 0, 1) := by decide +kernel
theorem dX4_merges_9 : decode cX4_merges 9 = .ok (.istore_n 1, 1) := by decide +kernel
theorem dX4_merges_10 : decode cX4_merges 10 = .ok (.iload_n 1, 1) := by decide +kernel
theorem dX4_merges_11 : decode cX4_merges 11 = .ok (.bipush 20, 2) := by decide +kernel
theorem dX4_merges_13 : decode cX4_merges 13 = .ok (.if_icmp .ge 35, 3) := by decide +kernel
theorem dX4_merges_16 : decode cX4_merges 16 = .ok (.aload_n 0, 1) := by decide +kernel
theorem dX4_merges_17 : decode cX4_merges 17 = .ok (.invokevirtual 48, 3) := by decide +kernel
theorem dX4_merges_20 : decode cX4_merges 20 = .ok (.istore_n 2, 1) := by decide +kernel
theorem dX4_merges_21 : decode cX4_merges 21 = .ok (.iload_n 2, 1) := by decide +kernel
theorem dX4_merges_22 : decode cX4_merges 22 = .ok (.iconst (-1), 1) := by decide +kernel
theorem dX4_merges_23 : decode cX4_merges 23 = .ok (.if_icmp .ne 6, 3) := by decide +kernel
theorem dX4_merges_26 : decode cX4_merges 26 = .ok (.goto 22, 3) := by decide +kernel
theorem dX4_merges_29 : decode cX4_merges 29 = .ok (.aload_n 0, 1) := by decide +kernel
theorem dX4_merges_30 : decode cX4_merges 30 = .ok (.getfield 26, 3) := by decide +kernel
theorem dX4_merges_33 : decode cX4_merges 33 = .ok (.iload_n 2, 1) := by decide +kernel
theorem dX4_merges_34 : decode cX4_merges 34 = .ok (.invokevirtual 36, 3) := by decide +kernel
theorem dX4_merges_37 : decode cX4_merges 37 = .ok (.aload_n 0, 1) := by decide +kernel
theorem dX4_merges_38 : decode cX4_merges 38 = .ok (.iload_n 2, 1) := by decide +kernel
theorem dX4_merges_39 : decode cX4_merges 39 = .ok (.invokevirtual 52, 3) := by decide +kernel
theorem dX4_merges_42 : decode cX4_merges 42 = .ok (.iinc 1 1, 3) := by decide +kernel
theorem dX4_merges_45 : decode cX4_merges 45 = .ok (.goto (-35), 3) := by decide +kernel
theorem dX4_merges_48 : decode cX4_merges 48 = .ok (.aload_n 0, 1) := by decide +kernel
theorem dX4_merges_49 : decode cX4_merges 49 = .ok (.invokevirtual 55, 3) := by decide +kernel
theorem dX4_merges_52 : decode cX4_merges 52 = .ok (.ireturn, 1) := by decide +kernel
set_option maxRecDepth 100000 in
set_option maxHeartbeats 4000000 in
theorem st_X4_merges (l : Launch) (M : Nat → Prop) (h : Nat) : Ct l yX4_merges cX4_merges 3 (some .boolean) 4 0 0 87 (fun S av => av = [.ref h] ∧ INV M [] S ∧ is S h 4) (fun S _ r S' => ∃ v, r = some (.int (bI v)) ∧ INV M [] S' ∧ ext S S' (fun a => ¬ M a ∧ mK S a ∈ [3, 4, 11, 15])) := by
  refine ct_of (by decide) (fun S av h => by obtain ⟨rfl, iv, i_this⟩ := h; exact Nat.le_of_ble_eq_true rfl) ?_
  intro p e s m args below meth c D G bs S av C hr hin hpre
  obtain ⟨rfl, iv, i_this⟩ := hpre
  have E0 : ext S S (fun a => ¬ M a ∧ mK S a ∈ [3, 4, 11, 15]) := ext_rfl
  refine v_aload_n C dX4_merges_0 rfl ?_
  refine v_aload_n C dX4_merges_1 rfl ?_
  obtain ⟨a2, e_a2, i_a2⟩ := T258 iv i_this List.not_mem_nil
  refine r4_22 (b := a2) C i_this e_a2 dX4_merges_2 ?_
  refine v_callV (As := [_]) (n := 1) C (st_X4_addRow l _ _ _) rfl i_this (by decide) rfl ⟨wd170, wd171, wd172, wd31, wd173⟩ ⟨rfl, hy_X4_addRow⟩ rfl ⟨Nat.le_of_ble_eq_true rfl, Nat.le_of_ble_eq_true rfl⟩ (Nat.le_of_ble_eq_true rfl) ⟨Nat.le_of_ble_eq_true rfl, Nat.le_of_ble_eq_true rfl⟩ dX4_merges_5 ⟨rfl, iv, i_this, i_a2⟩ (fun r_5 S2_5 h_5 => ?_)
  obtain ⟨rfl, iv2, x_5⟩ := h_5
  have i_this := is_ext x_5 i_this
  have i_a2 := is_ext x_5 i_a2
  have E0' := ext_tr E0 x_5 (xk_call E0 (by decide))
  have E0 := E0'
  have iv := iv2
  refine v_iconst (v := 0) C dX4_merges_8 (by decide) ?_
  refine v_istore_n C dX4_merges_9 (by decide) (by first | rfl | exact cat_ok _ | simp [okS, cat_rf]) ?_
  refine V.lits (lv' := [_, _, _]) rfl ?_
  refine v_loop (fun (t : Int32) lv0 => (lv0.set 1 (some (.int t)))) (fun (S1 : Mem) (t : Int32) => INV M [] S1 ∧ is S1 h 4 ∧ ext S S1 (fun a => ¬ M a ∧ mK S a ∈ [3, 4, 11, 15])) (fun (S1 : Mem) (t : Int32) => upm t) (t := _) rfl ⟨iv, i_this, E0⟩ ?_
  intro L10 t h_10 ih_10
  revert h_10 ih_10
  revert t
  intro t0_10 h_10 ih_10
  obtain ⟨iv, i_this, E0⟩ := h_10
  try dsimp only
  refine v_iload_n C dX4_merges_10 rfl ?_
  refine v_bipush (v := 20) C dX4_merges_11 (by decide) ?_
  refine v_icmp_ge (tgt := 48) C dX4_merges_13 (by decide) (fun c_13 => ?_) (fun c_13 => ?_)
  · skip
    refine v_aload_n C dX4_merges_48 rfl ?_
    refine v_callV (As := []) (n := 0) C (st_X4_allDone l _ _) rfl i_this (by decide) rfl ⟨wd202, wd203, wd204, wd31, wd205⟩ ⟨rfl, hy_X4_allDone⟩ rfl ⟨Nat.le_of_ble_eq_true rfl, Nat.le_of_ble_eq_true rfl⟩ (Nat.le_of_ble_eq_true rfl) ⟨Nat.le_of_ble_eq_true rfl, Nat.le_of_ble_eq_true rfl⟩ dX4_merges_49 ⟨rfl, iv, i_this⟩ (fun r_49 S2_49 h_49 => ?_)
    obtain ⟨v49, rfl, q_v49⟩ := h_49
    obtain rfl := q_v49.symm
    refine v_zret C hr (by first | rfl | exact bI_nar _) (Nat.le_of_ble_eq_true rfl) (Nat.le_of_ble_eq_true rfl) dX4_merges_52 ?_
    first
      | exact ⟨true, rfl, iv, E0⟩
      | exact ⟨false, rfl, iv, E0⟩
      | exact ⟨_, rfl, iv, E0⟩
  · skip
    refine v_aload_n C dX4_merges_16 rfl ?_
    refine v_callV (As := []) (n := 0) C (st_X4_nextTrait l _ _) rfl i_this (by decide) rfl ⟨wd178, wd179, wd180, wd31, wd181⟩ ⟨rfl, hy_X4_nextTrait⟩ rfl ⟨Nat.le_of_ble_eq_true rfl, Nat.le_of_ble_eq_true rfl⟩ (Nat.le_of_ble_eq_true rfl) ⟨Nat.le_of_ble_eq_true rfl, Nat.le_of_ble_eq_true rfl⟩ dX4_merges_17 ⟨rfl, iv, i_this⟩ (fun r_17 S2_17 h_17 => ?_)
    obtain ⟨v17, rfl, q_v17⟩ := h_17
    obtain rfl := q_v17.symm
    refine v_istore_n C dX4_merges_20 (by decide) (by first | rfl | exact cat_ok _ | simp [okS, cat_rf]) ?_
    refine v_iload_n C dX4_merges_21 rfl ?_
    refine v_iconst (v := -1) C dX4_merges_22 (by decide) ?_
    refine v_icmp_ne (tgt := 29) C dX4_merges_23 (by decide) (fun c_23 => ?_) (fun c_23 => ?_)
    · skip
      refine v_aload_n C dX4_merges_29 rfl ?_
      obtain ⟨a30, e_a30, i_a30⟩ := T259 iv i_this List.not_mem_nil
      refine r4_26 (b := a30) C i_this e_a30 dX4_merges_30 ?_
      refine v_iload_n C dX4_merges_33 rfl ?_
      refine v_callV (As := [_]) (n := 1) C (st_X3_add l _ _ _) rfl i_a30 (by decide) rfl ⟨wd166, wd167, wd168, wd45, wd169⟩ ⟨rfl, hy_X3_add⟩ rfl ⟨Nat.le_of_ble_eq_true rfl, Nat.le_of_ble_eq_true rfl⟩ (Nat.le_of_ble_eq_true rfl) ⟨Nat.le_of_ble_eq_true rfl, Nat.le_of_ble_eq_true rfl⟩ dX4_merges_34 ⟨rfl, iv, i_a30⟩ (fun r_34 S4_34 h_34 => ?_)
      obtain ⟨rfl, iv2, x_34⟩ := h_34
      have i_this := is_ext x_34 i_this
      have i_a30 := is_ext x_34 i_a30
      have E0' := ext_tr E0 x_34 (xk_call E0 (by decide))
      have E0 := E0'
      have iv := iv2
      refine v_aload_n C dX4_merges_37 rfl ?_
      refine v_iload_n C dX4_merges_38 rfl ?_
      refine v_callV (As := [_]) (n := 1) C (st_X4_strike l _ _ _) rfl i_this (by decide) rfl ⟨wd198, wd199, wd200, wd31, wd201⟩ ⟨rfl, hy_X4_strike⟩ rfl ⟨Nat.le_of_ble_eq_true rfl, Nat.le_of_ble_eq_true rfl⟩ (Nat.le_of_ble_eq_true rfl) ⟨Nat.le_of_ble_eq_true rfl, Nat.le_of_ble_eq_true rfl⟩ dX4_merges_39 ⟨rfl, iv, i_this⟩ (fun r_39 S4_39 h_39 => ?_)
      obtain ⟨rfl, iv2, x_39⟩ := h_39
      have i_this := is_ext x_39 i_this
      have i_a30 := is_ext x_39 i_a30
      have E0' := ext_tr E0 x_39 (xk_call E0 (by decide))
      have E0 := E0'
      have iv := iv2
      refine v_iinc C dX4_merges_42 rfl rfl (by decide) (by first | rfl | exact cat_ok _ | simp [okS, cat_rf]) ?_
      refine v_goto (tgt := 10) C dX4_merges_45 (by decide) ?_
      refine V.drop 2 ?_
      refine V.lits (lv' := [_, _, _]) rfl ?_
      exact ih_10 _ _ (upm_lt c_13) ⟨iv, i_this, E0⟩
    · skip
      refine v_goto (tgt := 48) C dX4_merges_26 (by decide) ?_
      refine v_aload_n C dX4_merges_48 rfl ?_
      refine v_callV (As := []) (n := 0) C (st_X4_allDone l _ _) rfl i_this (by decide) rfl ⟨wd202, wd203, wd204, wd31, wd205⟩ ⟨rfl, hy_X4_allDone⟩ rfl ⟨Nat.le_of_ble_eq_true rfl, Nat.le_of_ble_eq_true rfl⟩ (Nat.le_of_ble_eq_true rfl) ⟨Nat.le_of_ble_eq_true rfl, Nat.le_of_ble_eq_true rfl⟩ dX4_merges_49 ⟨rfl, iv, i_this⟩ (fun r_49 S4_49 h_49 => ?_)
      obtain ⟨v49, rfl, q_v49⟩ := h_49
      obtain rfl := q_v49.symm
      refine v_zret C hr (by first | rfl | exact bI_nar _) (Nat.le_of_ble_eq_true rfl) (Nat.le_of_ble_eq_true rfl) dX4_merges_52 ?_
      first
        | exact ⟨true, rfl, iv, E0⟩
        | exact ⟨false, rfl, iv, E0⟩
        | exact ⟨_, rfl, iv, E0⟩
