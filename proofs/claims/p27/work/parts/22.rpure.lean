theorem vp_bI (b : Bool) : vp_nar .boolean (bI b) = bI b := by cases b <;> rfl
theorem dX10_in_0 : decode cX10_in 0 = .ok (.iload_n 0, 1) := by decide +kernel
theorem dX10_in_1 : decode cX10_in 1 = .ok (.iload_n 1, 1) := by decide +kernel
theorem dX10_in_2 : decode cX10_in 2 = .ok (.if_icmp .lt 12, 3) := by decide +kernel
theorem dX10_in_5 : decode cX10_in 5 = .ok (.iload_n 0, 1) := by decide +kernel
theorem dX10_in_6 : decode cX10_in 6 = .ok (.iload_n 2, 1) := by decide +kernel
theorem dX10_in_7 : decode cX10_in 7 = .ok (.if_icmp .gt 7, 3) := by decide +kernel
theorem dX10_in_10 : decode cX10_in 10 = .ok (.iconst 1, 1) := by decide +kernel
theorem dX10_in_11 : decode cX10_in 11 = .ok (.goto 4, 3) := by decide +kernel
theorem dX10_in_14 : decode cX10_in 14 = .ok (.iconst 0, 1) := by decide +kernel
theorem dX10_in_15 : decode cX10_in 15 = .ok (.ireturn, 1) := by decide +kernel
set_option maxRecDepth 100000 in
set_option maxHeartbeats 4000000 in
theorem rt_X10_in (l : Launch) (v0 : Int32) (a : Int32) (b : Int32) : Ct l yX10_in cX10_in 3 (some .boolean) 0 0 0 0 (fun S av => av = [.int v0, .int a, .int b]) (fun S _ r S' => ∃ v : Bool, r = some (.int (bI v)) ∧ v = inB v0 a b ∧ S' = S) := by
  refine ct_of (by decide) (fun S av h => by obtain rfl := h; exact Nat.le_of_ble_eq_true rfl) ?_
  intro p e s m args below meth c D G bs S av C hr hin hpre
  obtain rfl := hpre
  refine v_iload_n C dX10_in_0 rfl ?_
  refine v_iload_n C dX10_in_1 rfl ?_
  refine v_icmp_lt (tgt := 14) C dX10_in_2 (by decide) (fun c_2 => ?_) (fun c_2 => ?_)
  · skip
    refine v_iconst (v := nI 0) C dX10_in_14 (by decide) ?_
    refine v_zret C hr (by first | rfl | exact bI_nar _) (Nat.le_of_ble_eq_true rfl) (Nat.le_of_ble_eq_true rfl) dX10_in_15 ?_
    exact ⟨false, rfl, (by
      first
      | (rw [show inB v0 a b = true from by simp only [inB, Bool.and_eq_true, decide_eq_true_eq]; exact ⟨Int32.not_lt.mp c_2, Int32.not_lt.mp c_7⟩])
      | (rw [show inB v0 a b = false from by simp only [inB, Bool.and_eq_false_imp, decide_eq_true_eq, decide_eq_false_iff_not]; exact fun _ => Int32.not_le.mpr c_7])
      | (rw [show inB v0 a b = false from by simp only [inB, Bool.and_eq_false_imp, decide_eq_true_eq, decide_eq_false_iff_not]; exact fun z => absurd c_2 (Int32.not_lt.mpr z)])), rfl⟩
  · skip
    refine v_iload_n C dX10_in_5 rfl ?_
    refine v_iload_n C dX10_in_6 rfl ?_
    refine v_icmp_gt (tgt := 14) C dX10_in_7 (by decide) (fun c_7 => ?_) (fun c_7 => ?_)
    · skip
      refine v_iconst (v := nI 0) C dX10_in_14 (by decide) ?_
      refine v_zret C hr (by first | rfl | exact bI_nar _) (Nat.le_of_ble_eq_true rfl) (Nat.le_of_ble_eq_true rfl) dX10_in_15 ?_
      exact ⟨false, rfl, (by
        first
        | (rw [show inB v0 a b = true from by simp only [inB, Bool.and_eq_true, decide_eq_true_eq]; exact ⟨Int32.not_lt.mp c_2, Int32.not_lt.mp c_7⟩])
        | (rw [show inB v0 a b = false from by simp only [inB, Bool.and_eq_false_imp, decide_eq_true_eq, decide_eq_false_iff_not]; exact fun _ => Int32.not_le.mpr c_7])
        | (rw [show inB v0 a b = false from by simp only [inB, Bool.and_eq_false_imp, decide_eq_true_eq, decide_eq_false_iff_not]; exact fun z => absurd c_2 (Int32.not_lt.mpr z)])), rfl⟩
    · skip
      refine v_iconst (v := nI 1) C dX10_in_10 (by decide) ?_
      refine v_goto (tgt := 15) C dX10_in_11 (by decide) ?_
      refine v_zret C hr (by first | rfl | exact bI_nar _) (Nat.le_of_ble_eq_true rfl) (Nat.le_of_ble_eq_true rfl) dX10_in_15 ?_
      exact ⟨true, rfl, (by
        first
        | (rw [show inB v0 a b = true from by simp only [inB, Bool.and_eq_true, decide_eq_true_eq]; exact ⟨Int32.not_lt.mp c_2, Int32.not_lt.mp c_7⟩])
        | (rw [show inB v0 a b = false from by simp only [inB, Bool.and_eq_false_imp, decide_eq_true_eq, decide_eq_false_iff_not]; exact fun _ => Int32.not_le.mpr c_7])
        | (rw [show inB v0 a b = false from by simp only [inB, Bool.and_eq_false_imp, decide_eq_true_eq, decide_eq_false_iff_not]; exact fun z => absurd c_2 (Int32.not_lt.mpr z)])), rfl⟩
theorem dX10_isAct_0 : decode cX10_isAct 0 = .ok (.iload_n 0, 1) := by decide +kernel
theorem dX10_isAct_1 : decode cX10_isAct 1 = .ok (.iconst 0, 1) := by decide +kernel
theorem dX10_isAct_2 : decode cX10_isAct 2 = .ok (.bipush 11, 2) := by decide +kernel
theorem dX10_isAct_4 : decode cX10_isAct 4 = .ok (.invokestatic 148, 3) := by decide +kernel
theorem dX10_isAct_7 : decode cX10_isAct 7 = .ok (.ireturn, 1) := by decide +kernel
set_option maxRecDepth 100000 in
set_option maxHeartbeats 4000000 in
theorem rt_X10_isAct (l : Launch) (x : Int32) : Ct l yX10_isAct cX10_isAct 1 (some .boolean) 1 0 0 22 (fun S av => av = [.int x]) (fun S _ r S' => ∃ v : Bool, r = some (.int (bI v)) ∧ v = below x 12 ∧ S' = S) := by
  refine ct_of (by decide) (fun S av h => by obtain rfl := h; exact Nat.le_of_ble_eq_true rfl) ?_
  intro p e s m args below meth c D G bs S av C hr hin hpre
  obtain rfl := hpre
  refine v_iload_n C dX10_isAct_0 rfl ?_
  refine v_iconst (v := nI 0) C dX10_isAct_1 (by decide) ?_
  refine v_bipush (v := nI 11) C dX10_isAct_2 (by decide) ?_
  refine v_callS (As := [_, _, _]) (n := 3) C (rt_X10_in l _ _ _) rfl ⟨wd244, wd245, wd5, wd246⟩ hy_X10_in rfl ⟨Nat.le_of_ble_eq_true rfl, Nat.le_of_ble_eq_true rfl⟩ (Nat.le_of_ble_eq_true rfl) ⟨Nat.le_of_ble_eq_true rfl, Nat.le_of_ble_eq_true rfl⟩ dX10_isAct_4 rfl (fun r_4 S2_4 h_4 => ?_)
  obtain ⟨v4, rfl, p_v4, q_v4⟩ := h_4
  obtain rfl := q_v4.symm
  refine v_zret C hr (by first | rfl | exact bI_nar _) (Nat.le_of_ble_eq_true rfl) (Nat.le_of_ble_eq_true rfl) dX10_isAct_7 ?_
  exact ⟨_, rfl, (p_v4.trans (inB_below x rfl)), rfl⟩
theorem dX10_isTrait_0 : decode cX10_isTrait 0 = .ok (.iload_n 1, 1) := by decide +kernel
theorem dX10_isTrait_1 : decode cX10_isTrait 1 = .ok (.iconst 0, 1) := by decide +kernel
theorem dX10_isTrait_2 : decode cX10_isTrait 2 = .ok (.aload_n 0, 1) := by decide +kernel
theorem dX10_isTrait_3 : decode cX10_isTrait 3 = .ok (.getfield 145, 3) := by decide +kernel
theorem dX10_isTrait_6 : decode cX10_isTrait 6 = .ok (.iconst 1, 1) := by decide +kernel
theorem dX10_isTrait_7 : decode cX10_isTrait 7 = .ok (.isub, 1) := by decide +kernel
theorem dX10_isTrait_8 : decode cX10_isTrait 8 = .ok (.invokestatic 148, 3) := by decide +kernel
theorem dX10_isTrait_11 : decode cX10_isTrait 11 = .ok (.ireturn, 1) := by decide +kernel
set_option maxRecDepth 100000 in
set_option maxHeartbeats 4000000 in
theorem rt_X10_isTrait (l : Launch) (m0 : Nat) (ad : Nat → Nat) (K : RS) (x : Int32) : Ct l yX10_isTrait cX10_isTrait 2 (some .boolean) 1 0 0 22 (fun S av => av = [.ref m0, .int x] ∧ mdR S m0 ad K ∧ RV K) (fun S _ r S' => ∃ v : Bool, r = some (.int (bI v)) ∧ v = below x (fN K 0) ∧ S' = S) := by
  refine ct_of (by decide) (fun S av h => by obtain ⟨rfl, hk, rv⟩ := h; exact Nat.le_of_ble_eq_true rfl) ?_
  intro p e s m args below meth c D G bs S av C hr hin hpre
  obtain ⟨rfl, hk, rv⟩ := hpre
  have z := rv.p1.2
  refine v_iload_n C dX10_isTrait_0 rfl ?_
  refine v_iconst (v := nI 0) C dX10_isTrait_1 (by decide) ?_
  refine v_aload_n C dX10_isTrait_2 rfl ?_
  refine q10_145 C hk dX10_isTrait_3 ?_
  refine v_val rv.p1.1 ?_
  refine v_iconst (v := nI 1) C dX10_isTrait_6 (by decide) ?_
  refine v_isub C dX10_isTrait_7 ?_
  refine v_callS (As := [_, _, _]) (n := 3) C (rt_X10_in l _ _ _) rfl ⟨wd244, wd245, wd5, wd246⟩ hy_X10_in rfl ⟨Nat.le_of_ble_eq_true rfl, Nat.le_of_ble_eq_true rfl⟩ (Nat.le_of_ble_eq_true rfl) ⟨Nat.le_of_ble_eq_true rfl, Nat.le_of_ble_eq_true rfl⟩ dX10_isTrait_8 rfl (fun r_8 S2_8 h_8 => ?_)
  obtain ⟨v8, rfl, p_v8, q_v8⟩ := h_8
  obtain rfl := q_v8.symm
  refine v_zret C hr (by first | rfl | exact bI_nar _) (Nat.le_of_ble_eq_true rfl) (Nat.le_of_ble_eq_true rfl) dX10_isTrait_11 ?_
  exact ⟨_, rfl, (p_v8.trans (inB_less x (by omega))), rfl⟩
theorem dX10_isCharacter_0 : decode cX10_isCharacter 0 = .ok (.iload_n 1, 1) := by decide +kernel
theorem dX10_isCharacter_1 : decode cX10_isCharacter 1 = .ok (.iconst 0, 1) := by decide +kernel
theorem dX10_isCharacter_2 : decode cX10_isCharacter 2 = .ok (.aload_n 0, 1) := by decide +kernel
theorem dX10_isCharacter_3 : decode cX10_isCharacter 3 = .ok (.getfield 152, 3) := by decide +kernel
theorem dX10_isCharacter_6 : decode cX10_isCharacter 6 = .ok (.iconst 1, 1) := by decide +kernel
theorem dX10_isCharacter_7 : decode cX10_isCharacter 7 = .ok (.isub, 1) := by decide +kernel
theorem dX10_isCharacter_8 : decode cX10_isCharacter 8 = .ok (.invokestatic 148, 3) := by decide +kernel
theorem dX10_isCharacter_11 : decode cX10_isCharacter 11 = .ok (.ireturn, 1) := by decide +kernel
set_option maxRecDepth 100000 in
set_option maxHeartbeats 4000000 in
theorem rt_X10_isCharacter (l : Launch) (m0 : Nat) (ad : Nat → Nat) (K : RS) (x : Int32) : Ct l yX10_isCharacter cX10_isCharacter 2 (some .boolean) 1 0 0 22 (fun S av => av = [.ref m0, .int x] ∧ mdR S m0 ad K ∧ RV K) (fun S _ r S' => ∃ v : Bool, r = some (.int (bI v)) ∧ v = below x (fN K 3) ∧ S' = S) := by
  refine ct_of (by decide) (fun S av h => by obtain ⟨rfl, hk, rv⟩ := h; exact Nat.le_of_ble_eq_true rfl) ?_
  intro p e s m args below meth c D G bs S av C hr hin hpre
  obtain ⟨rfl, hk, rv⟩ := hpre
  have z := rv.p2.2
  refine v_iload_n C dX10_isCharacter_0 rfl ?_
  refine v_iconst (v := nI 0) C dX10_isCharacter_1 (by decide) ?_
  refine v_aload_n C dX10_isCharacter_2 rfl ?_
  refine q10_152 C hk dX10_isCharacter_3 ?_
  refine v_val rv.p2.1 ?_
  refine v_iconst (v := nI 1) C dX10_isCharacter_6 (by decide) ?_
  refine v_isub C dX10_isCharacter_7 ?_
  refine v_callS (As := [_, _, _]) (n := 3) C (rt_X10_in l _ _ _) rfl ⟨wd244, wd245, wd5, wd246⟩ hy_X10_in rfl ⟨Nat.le_of_ble_eq_true rfl, Nat.le_of_ble_eq_true rfl⟩ (Nat.le_of_ble_eq_true rfl) ⟨Nat.le_of_ble_eq_true rfl, Nat.le_of_ble_eq_true rfl⟩ dX10_isCharacter_8 rfl (fun r_8 S2_8 h_8 => ?_)
  obtain ⟨v8, rfl, p_v8, q_v8⟩ := h_8
  obtain rfl := q_v8.symm
  refine v_zret C hr (by first | rfl | exact bI_nar _) (Nat.le_of_ble_eq_true rfl) (Nat.le_of_ble_eq_true rfl) dX10_isCharacter_11 ?_
  exact ⟨_, rfl, (p_v8.trans (inB_less x (by omega))), rfl⟩
theorem dX10_leaves_0 : decode cX10_leaves 0 = .ok (.bipush 8, 2) := by decide +kernel
theorem dX10_leaves_2 : decode cX10_leaves 2 = .ok (.iload_n 1, 1) := by decide +kernel
theorem dX10_leaves_3 : decode cX10_leaves 3 = .ok (.imul, 1) := by decide +kernel
theorem dX10_leaves_4 : decode cX10_leaves 4 = .ok (.istore 4, 2) := by decide +kernel
theorem dX10_leaves_6 : decode cX10_leaves 6 = .ok (.iload 4, 2) := by decide +kernel
theorem dX10_leaves_8 : decode cX10_leaves 8 = .ok (.bipush 8, 2) := by decide +kernel
theorem dX10_leaves_10 : decode cX10_leaves 10 = .ok (.iload_n 1, 1) := by decide +kernel
theorem dX10_leaves_11 : decode cX10_leaves 11 = .ok (.imul, 1) := by decide +kernel
theorem dX10_leaves_12 : decode cX10_leaves 12 = .ok (.aload_n 0, 1) := by decide +kernel
theorem dX10_leaves_13 : decode cX10_leaves 13 = .ok (.getfield 67, 3) := by decide +kernel
theorem dX10_leaves_16 : decode cX10_leaves 16 = .ok (.iload_n 1, 1) := by decide +kernel
theorem dX10_leaves_17 : decode cX10_leaves 17 = .ok (.iaload, 1) := by decide +kernel
theorem dX10_leaves_18 : decode cX10_leaves 18 = .ok (.iadd, 1) := by decide +kernel
theorem dX10_leaves_19 : decode cX10_leaves 19 = .ok (.if_icmp .ge 33, 3) := by decide +kernel
theorem dX10_leaves_22 : decode cX10_leaves 22 = .ok (.aload_n 0, 1) := by decide +kernel
theorem dX10_leaves_23 : decode cX10_leaves 23 = .ok (.getfield 70, 3) := by decide +kernel
theorem dX10_leaves_26 : decode cX10_leaves 26 = .ok (.iload 4, 2) := by decide +kernel
theorem dX10_leaves_28 : decode cX10_leaves 28 = .ok (.iaload, 1) := by decide +kernel
theorem dX10_leaves_29 : decode cX10_leaves 29 = .ok (.iload_n 2, 1) := by decide +kernel
theorem dX10_leaves_30 : decode cX10_leaves 30 = .ok (.if_icmp .ne 16, 3) := by decide +kernel
theorem dX10_leaves_33 : decode cX10_leaves 33 = .ok (.aload_n 0, 1) := by decide +kernel
theorem dX10_leaves_34 : decode cX10_leaves 34 = .ok (.getfield 73, 3) := by decide +kernel
theorem dX10_leaves_37 : decode cX10_leaves 37 = .ok (.iload 4, 2) := by decide +kernel
theorem dX10_leaves_39 : decode cX10_leaves 39 = .ok (.iaload, 1) := by decide +kernel
theorem dX10_leaves_40 : decode cX10_leaves 40 = .ok (.iload_n 3, 1) := by decide +kernel
theorem dX10_leaves_41 : decode cX10_leaves 41 = .ok (.if_icmp .ne 5, 3) := by decide +kernel
theorem dX10_leaves_44 : decode cX10_leaves 44 = .ok (.iconst 1, 1) := by decide +kernel
theorem dX10_leaves_45 : decode cX10_leaves 45 = .ok (.ireturn, 1) := by decide +kernel
theorem dX10_leaves_46 : decode cX10_leaves 46 = .ok (.iinc 4 1, 3) := by decide +kernel
theorem dX10_leaves_49 : decode cX10_leaves 49 = .ok (.goto (-43), 3) := by decide +kernel
theorem dX10_leaves_52 : decode cX10_leaves 52 = .ok (.iconst 0, 1) := by decide +kernel
theorem dX10_leaves_53 : decode cX10_leaves 53 = .ok (.ireturn, 1) := by decide +kernel
set_option maxRecDepth 100000 in
set_option maxHeartbeats 4000000 in
theorem rt_X10_leaves (l : Launch) (m0 : Nat) (ad : Nat → Nat) (K : RS) (u : Nat) (t : Nat) (n : Nat) : Ct l yX10_leaves cX10_leaves 5 (some .boolean) 0 0 0 0 (fun S av => av = [.ref m0, .int (nI u), .int (nI t), .int (nI n)] ∧ mdR S m0 ad K ∧ RV K ∧ (u < 12)) (fun S _ r S' => ∃ v : Bool, r = some (.int (bI v)) ∧ v = leavesF K u t n ∧ S' = S) := by
  refine ct_of (by decide) (fun S av h => by obtain ⟨rfl, hk, rv, hu⟩ := h; exact Nat.le_of_ble_eq_true rfl) ?_
  intro p e s m args below meth c D G bs S av C hr hin hpre
  obtain ⟨rfl, hk, rv, hu⟩ := hpre
  obtain ⟨z1, z2⟩ := rv.p9 u hu
  refine v_bipush (v := nI 8) C dX10_leaves_0 (by decide) ?_
  refine v_iload_n C dX10_leaves_2 rfl ?_
  refine n_imul C dX10_leaves_3 ?_
  refine v_istore C dX10_leaves_4 (by decide) rfl ?_
  refine V.lits (lv' := [_, _, _, _, _]) rfl ?_
  refine v_loop (fun (tt : (Nat)) lv0 => (lv0.set 4 (some (.int (nI (8 * u + tt)))))) (fun (S1 : Mem) (tt : (Nat)) => S1 = S ∧ (0 ≤ tt ∧ tt ≤ rN K 20 u + 1) ∧ (leavesF K u t n = Option.isSome (sc (lvP K u t n) (rN K 20 u - tt) tt))) (fun (S1 : Mem) (tt : (Nat)) => rN K 20 u - tt) (t := (0)) rfl ⟨rfl, (by omega), rfl⟩ ?_
  intro L6 tt h_6 ih_6
  revert h_6 ih_6
  revert tt
  intro i h_6 ih_6
  obtain ⟨e_S, hi, hs⟩ := h_6
  subst e_S
  try dsimp only at *
  refine v_iload C dX10_leaves_6 rfl ?_
  refine v_bipush (v := nI 8) C dX10_leaves_8 (by decide) ?_
  refine v_iload_n C dX10_leaves_10 rfl ?_
  refine n_imul C dX10_leaves_11 ?_
  refine v_aload_n C dX10_leaves_12 rfl ?_
  refine q10_67 C hk dX10_leaves_13 ?_
  refine v_iload_n C dX10_leaves_16 rfl ?_
  refine n_iald C hk (show (20, 11, 12) ∈ mTab by decide +kernel) (by omega) dX10_leaves_17 ?_
  refine v_val z1 ?_
  refine n_iadd C dX10_leaves_18 ?_
  refine n_icmp_ge (tgt := 52) C (by omega) (by omega) dX10_leaves_19 (by decide) (fun c_19 => ?_) (fun c_19 => ?_)
  · skip
    refine v_iconst (v := nI 0) C dX10_leaves_52 (by decide) ?_
    refine v_zret C hr (by first | rfl | exact bI_nar _) (Nat.le_of_ble_eq_true rfl) (Nat.le_of_ble_eq_true rfl) dX10_leaves_53 ?_
    exact ⟨false, rfl, (by rw [hs, sc_end (by omega)]; rfl), rfl⟩
  · skip
    refine v_aload_n C dX10_leaves_22 rfl ?_
    refine q10_70 C hk dX10_leaves_23 ?_
    refine v_iload C dX10_leaves_26 rfl ?_
    refine n_iald C hk (show (21, 11, 96) ∈ mTab by decide +kernel) (by omega) dX10_leaves_28 ?_
    refine v_iload_n C dX10_leaves_29 rfl ?_
    refine v_icmp_ne (tgt := 46) C dX10_leaves_30 (by decide) (fun c_30 => ?_) (fun c_30 => ?_)
    · skip
      refine v_iinc C dX10_leaves_46 rfl (nI_inc _) (by decide) rfl ?_
      refine v_goto (tgt := 6) C dX10_leaves_49 (by decide) ?_
      refine V.lits (lv' := [_, _, _, _, _]) rfl ?_
      exact ih_6 _ ((i + 1)) (by first | omega | (dsimp only; omega)) ⟨rfl, (by omega), (hs.trans (congrArg (fun o => Option.isSome o) (sc_step (by omega) (by simp [lvP, c_19, c_30]))))⟩
    · skip
      refine v_aload_n C dX10_leaves_33 rfl ?_
      refine q10_73 C hk dX10_leaves_34 ?_
      refine v_iload C dX10_leaves_37 rfl ?_
      refine n_iald C hk (show (22, 11, 96) ∈ mTab by decide +kernel) (by omega) dX10_leaves_39 ?_
      refine v_iload_n C dX10_leaves_40 rfl ?_
      refine v_icmp_ne (tgt := 46) C dX10_leaves_41 (by decide) (fun c_41 => ?_) (fun c_41 => ?_)
      · skip
        refine v_iinc C dX10_leaves_46 rfl (nI_inc _) (by decide) rfl ?_
        refine v_goto (tgt := 6) C dX10_leaves_49 (by decide) ?_
        refine V.lits (lv' := [_, _, _, _, _]) rfl ?_
        exact ih_6 _ ((i + 1)) (by first | omega | (dsimp only; omega)) ⟨rfl, (by omega), (hs.trans (congrArg (fun o => Option.isSome o) (sc_step (by omega) (by simp [lvP, c_19, c_30, c_41]))))⟩
      · skip
        refine v_iconst (v := nI 1) C dX10_leaves_44 (by decide) ?_
        refine v_zret C hr (by first | rfl | exact bI_nar _) (Nat.le_of_ble_eq_true rfl) (Nat.le_of_ble_eq_true rfl) dX10_leaves_45 ?_
        exact ⟨true, rfl, (by rw [hs, sc_hit (by omega) (by simp [lvP, c_19, c_30, c_41])]; rfl), rfl⟩
theorem dX10_renamed_0 : decode cX10_renamed 0 = .ok (.bipush 8, 2) := by decide +kernel
theorem dX10_renamed_2 : decode cX10_renamed 2 = .ok (.iload_n 1, 1) := by decide +kernel
theorem dX10_renamed_3 : decode cX10_renamed 3 = .ok (.imul, 1) := by decide +kernel
theorem dX10_renamed_4 : decode cX10_renamed 4 = .ok (.istore 4, 2) := by decide +kernel
theorem dX10_renamed_6 : decode cX10_renamed 6 = .ok (.iload 4, 2) := by decide +kernel
theorem dX10_renamed_8 : decode cX10_renamed 8 = .ok (.bipush 8, 2) := by decide +kernel
theorem dX10_renamed_10 : decode cX10_renamed 10 = .ok (.iload_n 1, 1) := by decide +kernel
theorem dX10_renamed_11 : decode cX10_renamed 11 = .ok (.imul, 1) := by decide +kernel
theorem dX10_renamed_12 : decode cX10_renamed 12 = .ok (.aload_n 0, 1) := by decide +kernel
theorem dX10_renamed_13 : decode cX10_renamed 13 = .ok (.getfield 76, 3) := by decide +kernel
theorem dX10_renamed_16 : decode cX10_renamed 16 = .ok (.iload_n 1, 1) := by decide +kernel
theorem dX10_renamed_17 : decode cX10_renamed 17 = .ok (.iaload, 1) := by decide +kernel
theorem dX10_renamed_18 : decode cX10_renamed 18 = .ok (.iadd, 1) := by decide +kernel
theorem dX10_renamed_19 : decode cX10_renamed 19 = .ok (.if_icmp .ge 39, 3) := by decide +kernel
theorem dX10_renamed_22 : decode cX10_renamed 22 = .ok (.aload_n 0, 1) := by decide +kernel
theorem dX10_renamed_23 : decode cX10_renamed 23 = .ok (.getfield 79, 3) := by decide +kernel
theorem dX10_renamed_26 : decode cX10_renamed 26 = .ok (.iload 4, 2) := by decide +kernel
theorem dX10_renamed_28 : decode cX10_renamed 28 = .ok (.iaload, 1) := by decide +kernel
theorem dX10_renamed_29 : decode cX10_renamed 29 = .ok (.iload_n 2, 1) := by decide +kernel
theorem dX10_renamed_30 : decode cX10_renamed 30 = .ok (.if_icmp .ne 22, 3) := by decide +kernel
theorem dX10_renamed_33 : decode cX10_renamed 33 = .ok (.aload_n 0, 1) := by decide +kernel
theorem dX10_renamed_34 : decode cX10_renamed 34 = .ok (.getfield 82, 3) := by decide +kernel
theorem dX10_renamed_37 : decode cX10_renamed 37 = .ok (.iload 4, 2) := by decide +kernel
theorem dX10_renamed_39 : decode cX10_renamed 39 = .ok (.iaload, 1) := by decide +kernel
theorem dX10_renamed_40 : decode cX10_renamed 40 = .ok (.iload_n 3, 1) := by decide +kernel
theorem dX10_renamed_41 : decode cX10_renamed 41 = .ok (.if_icmp .ne 11, 3) := by decide +kernel
theorem dX10_renamed_44 : decode cX10_renamed 44 = .ok (.aload_n 0, 1) := by decide +kernel
theorem dX10_renamed_45 : decode cX10_renamed 45 = .ok (.getfield 85, 3) := by decide +kernel
theorem dX10_renamed_48 : decode cX10_renamed 48 = .ok (.iload 4, 2) := by decide +kernel
theorem dX10_renamed_50 : decode cX10_renamed 50 = .ok (.iaload, 1) := by decide +kernel
theorem dX10_renamed_51 : decode cX10_renamed 51 = .ok (.ireturn, 1) := by decide +kernel
theorem dX10_renamed_52 : decode cX10_renamed 52 = .ok (.iinc 4 1, 3) := by decide +kernel
theorem dX10_renamed_55 : decode cX10_renamed 55 = .ok (.goto (-49), 3) := by decide +kernel
theorem dX10_renamed_58 : decode cX10_renamed 58 = .ok (.iconst (-1), 1) := by decide +kernel
theorem dX10_renamed_59 : decode cX10_renamed 59 = .ok (.ireturn, 1) := by decide +kernel
set_option maxRecDepth 100000 in
set_option maxHeartbeats 4000000 in
theorem rt_X10_renamed (l : Launch) (m0 : Nat) (ad : Nat → Nat) (K : RS) (u : Nat) (t : Nat) (n : Nat) : Ct l yX10_renamed cX10_renamed 5 (some .int) 0 0 0 0 (fun S av => av = [.ref m0, .int (nI u), .int (nI t), .int (nI n)] ∧ mdR S m0 ad K ∧ RV K ∧ (u < 12)) (fun S _ r S' => ∃ v : Option Nat, r = some (.int (oI v)) ∧ v = renamedF K u t n ∧ (∀ k, v = some k → k < 12) ∧ S' = S) := by
  refine ct_of (by decide) (fun S av h => by obtain ⟨rfl, hk, rv, hu⟩ := h; exact Nat.le_of_ble_eq_true rfl) ?_
  intro p e s m args below meth c D G bs S av C hr hin hpre
  obtain ⟨rfl, hk, rv, hu⟩ := hpre
  obtain ⟨z1, z2⟩ := rv.p10 u hu
  refine v_bipush (v := nI 8) C dX10_renamed_0 (by decide) ?_
  refine v_iload_n C dX10_renamed_2 rfl ?_
  refine n_imul C dX10_renamed_3 ?_
  refine v_istore C dX10_renamed_4 (by decide) rfl ?_
  refine V.lits (lv' := [_, _, _, _, _]) rfl ?_
  refine v_loop (fun (tt : (Nat)) lv0 => (lv0.set 4 (some (.int (nI (8 * u + tt)))))) (fun (S1 : Mem) (tt : (Nat)) => S1 = S ∧ (0 ≤ tt ∧ tt ≤ rN K 23 u + 1) ∧ (renamedF K u t n = Option.map (fun tt => rN K 26 (8 * u + tt)) (sc (rnP K u t n) (rN K 23 u - tt) tt))) (fun (S1 : Mem) (tt : (Nat)) => rN K 23 u - tt) (t := (0)) rfl ⟨rfl, (by omega), rfl⟩ ?_
  intro L6 tt h_6 ih_6
  revert h_6 ih_6
  revert tt
  intro i h_6 ih_6
  obtain ⟨e_S, hi, hs⟩ := h_6
  subst e_S
  try dsimp only at *
  refine v_iload C dX10_renamed_6 rfl ?_
  refine v_bipush (v := nI 8) C dX10_renamed_8 (by decide) ?_
  refine v_iload_n C dX10_renamed_10 rfl ?_
  refine n_imul C dX10_renamed_11 ?_
  refine v_aload_n C dX10_renamed_12 rfl ?_
  refine q10_76 C hk dX10_renamed_13 ?_
  refine v_iload_n C dX10_renamed_16 rfl ?_
  refine n_iald C hk (show (23, 11, 12) ∈ mTab by decide +kernel) (by omega) dX10_renamed_17 ?_
  refine v_val z1 ?_
  refine n_iadd C dX10_renamed_18 ?_
  refine n_icmp_ge (tgt := 58) C (by omega) (by omega) dX10_renamed_19 (by decide) (fun c_19 => ?_) (fun c_19 => ?_)
  · skip
    refine v_iconst (v := -1) C dX10_renamed_58 (by decide) ?_
    refine v_iret C hr (Nat.le_of_ble_eq_true rfl) (Nat.le_of_ble_eq_true rfl) dX10_renamed_59 ?_
    exact ⟨none, rfl, (by rw [hs, sc_end (by omega)]; rfl), (fun k z => (by cases z)), rfl⟩
  · skip
    refine v_aload_n C dX10_renamed_22 rfl ?_
    refine q10_79 C hk dX10_renamed_23 ?_
    refine v_iload C dX10_renamed_26 rfl ?_
    refine n_iald C hk (show (24, 11, 96) ∈ mTab by decide +kernel) (by omega) dX10_renamed_28 ?_
    refine v_iload_n C dX10_renamed_29 rfl ?_
    refine v_icmp_ne (tgt := 52) C dX10_renamed_30 (by decide) (fun c_30 => ?_) (fun c_30 => ?_)
    · skip
      refine v_iinc C dX10_renamed_52 rfl (nI_inc _) (by decide) rfl ?_
      refine v_goto (tgt := 6) C dX10_renamed_55 (by decide) ?_
      refine V.lits (lv' := [_, _, _, _, _]) rfl ?_
      exact ih_6 _ ((i + 1)) (by first | omega | (dsimp only; omega)) ⟨rfl, (by omega), (hs.trans (congrArg (fun o => Option.map (fun i => rN K 26 (8 * u + i)) o) (sc_step (by omega) (by simp [rnP, c_19, c_30]))))⟩
    · skip
      refine v_aload_n C dX10_renamed_33 rfl ?_
      refine q10_82 C hk dX10_renamed_34 ?_
      refine v_iload C dX10_renamed_37 rfl ?_
      refine n_iald C hk (show (25, 11, 96) ∈ mTab by decide +kernel) (by omega) dX10_renamed_39 ?_
      refine v_iload_n C dX10_renamed_40 rfl ?_
      refine v_icmp_ne (tgt := 52) C dX10_renamed_41 (by decide) (fun c_41 => ?_) (fun c_41 => ?_)
      · skip
        refine v_iinc C dX10_renamed_52 rfl (nI_inc _) (by decide) rfl ?_
        refine v_goto (tgt := 6) C dX10_renamed_55 (by decide) ?_
        refine V.lits (lv' := [_, _, _, _, _]) rfl ?_
        exact ih_6 _ ((i + 1)) (by first | omega | (dsimp only; omega)) ⟨rfl, (by omega), (hs.trans (congrArg (fun o => Option.map (fun i => rN K 26 (8 * u + i)) o) (sc_step (by omega) (by simp [rnP, c_19, c_30, c_41]))))⟩
      · skip
        obtain ⟨⟨y1, y2⟩, y3, y4⟩ := rv.p11 u hu i (by omega)
        refine v_aload_n C dX10_renamed_44 rfl ?_
        refine q10_85 C hk dX10_renamed_45 ?_
        refine v_iload C dX10_renamed_48 rfl ?_
        refine n_iald C hk (show (26, 11, 96) ∈ mTab by decide +kernel) (by omega) dX10_renamed_50 ?_
        refine v_val y3 ?_
        refine v_iret C hr (Nat.le_of_ble_eq_true rfl) (Nat.le_of_ble_eq_true rfl) dX10_renamed_51 ?_
        exact ⟨some _, rfl, (by rw [hs, sc_hit (by omega) (by simp [rnP, c_19, c_30, c_41])]; rfl), (fun k z => by cases z; exact y4), rfl⟩
theorem dX10_named_0 : decode cX10_named 0 = .ok (.bipush 8, 2) := by decide +kernel
theorem dX10_named_2 : decode cX10_named 2 = .ok (.iload_n 1, 1) := by decide +kernel
theorem dX10_named_3 : decode cX10_named 3 = .ok (.imul, 1) := by decide +kernel
theorem dX10_named_4 : decode cX10_named 4 = .ok (.istore 4, 2) := by decide +kernel
theorem dX10_named_6 : decode cX10_named 6 = .ok (.iload 4, 2) := by decide +kernel
theorem dX10_named_8 : decode cX10_named 8 = .ok (.bipush 8, 2) := by decide +kernel
theorem dX10_named_10 : decode cX10_named 10 = .ok (.iload_n 1, 1) := by decide +kernel
theorem dX10_named_11 : decode cX10_named 11 = .ok (.imul, 1) := by decide +kernel
theorem dX10_named_12 : decode cX10_named 12 = .ok (.aload_n 0, 1) := by decide +kernel
theorem dX10_named_13 : decode cX10_named 13 = .ok (.getfield 76, 3) := by decide +kernel
theorem dX10_named_16 : decode cX10_named 16 = .ok (.iload_n 1, 1) := by decide +kernel
theorem dX10_named_17 : decode cX10_named 17 = .ok (.iaload, 1) := by decide +kernel
theorem dX10_named_18 : decode cX10_named 18 = .ok (.iadd, 1) := by decide +kernel
theorem dX10_named_19 : decode cX10_named 19 = .ok (.if_icmp .ge 39, 3) := by decide +kernel
theorem dX10_named_22 : decode cX10_named 22 = .ok (.aload_n 0, 1) := by decide +kernel
theorem dX10_named_23 : decode cX10_named 23 = .ok (.getfield 79, 3) := by decide +kernel
theorem dX10_named_26 : decode cX10_named 26 = .ok (.iload 4, 2) := by decide +kernel
theorem dX10_named_28 : decode cX10_named 28 = .ok (.iaload, 1) := by decide +kernel
theorem dX10_named_29 : decode cX10_named 29 = .ok (.iload_n 2, 1) := by decide +kernel
theorem dX10_named_30 : decode cX10_named 30 = .ok (.if_icmp .ne 22, 3) := by decide +kernel
theorem dX10_named_33 : decode cX10_named 33 = .ok (.aload_n 0, 1) := by decide +kernel
theorem dX10_named_34 : decode cX10_named 34 = .ok (.getfield 85, 3) := by decide +kernel
theorem dX10_named_37 : decode cX10_named 37 = .ok (.iload 4, 2) := by decide +kernel
theorem dX10_named_39 : decode cX10_named 39 = .ok (.iaload, 1) := by decide +kernel
theorem dX10_named_40 : decode cX10_named 40 = .ok (.iload_n 3, 1) := by decide +kernel
theorem dX10_named_41 : decode cX10_named 41 = .ok (.if_icmp .ne 11, 3) := by decide +kernel
theorem dX10_named_44 : decode cX10_named 44 = .ok (.aload_n 0, 1) := by decide +kernel
theorem dX10_named_45 : decode cX10_named 45 = .ok (.getfield 82, 3) := by decide +kernel
theorem dX10_named_48 : decode cX10_named 48 = .ok (.iload 4, 2) := by decide +kernel
theorem dX10_named_50 : decode cX10_named 50 = .ok (.iaload, 1) := by decide +kernel
theorem dX10_named_51 : decode cX10_named 51 = .ok (.ireturn, 1) := by decide +kernel
theorem dX10_named_52 : decode cX10_named 52 = .ok (.iinc 4 1, 3) := by decide +kernel
theorem dX10_named_55 : decode cX10_named 55 = .ok (.goto (-49), 3) := by decide +kernel
theorem dX10_named_58 : decode cX10_named 58 = .ok (.iconst (-1), 1) := by decide +kernel
theorem dX10_named_59 : decode cX10_named 59 = .ok (.ireturn, 1) := by decide +kernel
set_option maxRecDepth 100000 in
set_option maxHeartbeats 4000000 in
theorem rt_X10_named (l : Launch) (m0 : Nat) (ad : Nat → Nat) (K : RS) (u : Nat) (t : Nat) (n : Nat) : Ct l yX10_named cX10_named 5 (some .int) 0 0 0 0 (fun S av => av = [.ref m0, .int (nI u), .int (nI t), .int (nI n)] ∧ mdR S m0 ad K ∧ RV K ∧ (u < 12)) (fun S _ r S' => ∃ v : Option Nat, r = some (.int (oI v)) ∧ v = namedF K u t n ∧ (∀ k, v = some k → k < 12) ∧ S' = S) := by
  refine ct_of (by decide) (fun S av h => by obtain ⟨rfl, hk, rv, hu⟩ := h; exact Nat.le_of_ble_eq_true rfl) ?_
  intro p e s m args below meth c D G bs S av C hr hin hpre
  obtain ⟨rfl, hk, rv, hu⟩ := hpre
  obtain ⟨z1, z2⟩ := rv.p10 u hu
  refine v_bipush (v := nI 8) C dX10_named_0 (by decide) ?_
  refine v_iload_n C dX10_named_2 rfl ?_
  refine n_imul C dX10_named_3 ?_
  refine v_istore C dX10_named_4 (by decide) rfl ?_
  refine V.lits (lv' := [_, _, _, _, _]) rfl ?_
  refine v_loop (fun (tt : (Nat)) lv0 => (lv0.set 4 (some (.int (nI (8 * u + tt)))))) (fun (S1 : Mem) (tt : (Nat)) => S1 = S ∧ (0 ≤ tt ∧ tt ≤ rN K 23 u + 1) ∧ (namedF K u t n = Option.map (fun tt => rN K 25 (8 * u + tt)) (sc (nmP K u t n) (rN K 23 u - tt) tt))) (fun (S1 : Mem) (tt : (Nat)) => rN K 23 u - tt) (t := (0)) rfl ⟨rfl, (by omega), rfl⟩ ?_
  intro L6 tt h_6 ih_6
  revert h_6 ih_6
  revert tt
  intro i h_6 ih_6
  obtain ⟨e_S, hi, hs⟩ := h_6
  subst e_S
  try dsimp only at *
  refine v_iload C dX10_named_6 rfl ?_
  refine v_bipush (v := nI 8) C dX10_named_8 (by decide) ?_
  refine v_iload_n C dX10_named_10 rfl ?_
  refine n_imul C dX10_named_11 ?_
  refine v_aload_n C dX10_named_12 rfl ?_
  refine q10_76 C hk dX10_named_13 ?_
  refine v_iload_n C dX10_named_16 rfl ?_
  refine n_iald C hk (show (23, 11, 12) ∈ mTab by decide +kernel) (by omega) dX10_named_17 ?_
  refine v_val z1 ?_
  refine n_iadd C dX10_named_18 ?_
  refine n_icmp_ge (tgt := 58) C (by omega) (by omega) dX10_named_19 (by decide) (fun c_19 => ?_) (fun c_19 => ?_)
  · skip
    refine v_iconst (v := -1) C dX10_named_58 (by decide) ?_
    refine v_iret C hr (Nat.le_of_ble_eq_true rfl) (Nat.le_of_ble_eq_true rfl) dX10_named_59 ?_
    exact ⟨none, rfl, (by rw [hs, sc_end (by omega)]; rfl), (fun k z => (by cases z)), rfl⟩
  · skip
    refine v_aload_n C dX10_named_22 rfl ?_
    refine q10_79 C hk dX10_named_23 ?_
    refine v_iload C dX10_named_26 rfl ?_
    refine n_iald C hk (show (24, 11, 96) ∈ mTab by decide +kernel) (by omega) dX10_named_28 ?_
    refine v_iload_n C dX10_named_29 rfl ?_
    refine v_icmp_ne (tgt := 52) C dX10_named_30 (by decide) (fun c_30 => ?_) (fun c_30 => ?_)
    · skip
      refine v_iinc C dX10_named_52 rfl (nI_inc _) (by decide) rfl ?_
      refine v_goto (tgt := 6) C dX10_named_55 (by decide) ?_
      refine V.lits (lv' := [_, _, _, _, _]) rfl ?_
      exact ih_6 _ ((i + 1)) (by first | omega | (dsimp only; omega)) ⟨rfl, (by omega), (hs.trans (congrArg (fun o => Option.map (fun i => rN K 25 (8 * u + i)) o) (sc_step (by omega) (by simp [nmP, c_19, c_30]))))⟩
    · skip
      refine v_aload_n C dX10_named_33 rfl ?_
      refine q10_85 C hk dX10_named_34 ?_
      refine v_iload C dX10_named_37 rfl ?_
      refine n_iald C hk (show (26, 11, 96) ∈ mTab by decide +kernel) (by omega) dX10_named_39 ?_
      refine v_iload_n C dX10_named_40 rfl ?_
      refine v_icmp_ne (tgt := 52) C dX10_named_41 (by decide) (fun c_41 => ?_) (fun c_41 => ?_)
      · skip
        refine v_iinc C dX10_named_52 rfl (nI_inc _) (by decide) rfl ?_
        refine v_goto (tgt := 6) C dX10_named_55 (by decide) ?_
        refine V.lits (lv' := [_, _, _, _, _]) rfl ?_
        exact ih_6 _ ((i + 1)) (by first | omega | (dsimp only; omega)) ⟨rfl, (by omega), (hs.trans (congrArg (fun o => Option.map (fun i => rN K 25 (8 * u + i)) o) (sc_step (by omega) (by simp [nmP, c_19, c_30, c_41]))))⟩
      · skip
        obtain ⟨⟨y1, y2⟩, y3, y4⟩ := rv.p11 u hu i (by omega)
        refine v_aload_n C dX10_named_44 rfl ?_
        refine q10_82 C hk dX10_named_45 ?_
        refine v_iload C dX10_named_48 rfl ?_
        refine n_iald C hk (show (25, 11, 96) ∈ mTab by decide +kernel) (by omega) dX10_named_50 ?_
        refine v_val y1 ?_
        refine v_iret C hr (Nat.le_of_ble_eq_true rfl) (Nat.le_of_ble_eq_true rfl) dX10_named_51 ?_
        exact ⟨some _, rfl, (by rw [hs, sc_hit (by omega) (by simp [nmP, c_19, c_30, c_41])]; rfl), (fun k z => by cases z; exact y2), rfl⟩
theorem dX10_placeIn_0 : decode cX10_placeIn 0 = .ok (.iconst 0, 1) := by decide +kernel
theorem dX10_placeIn_1 : decode cX10_placeIn 1 = .ok (.istore_n 3, 1) := by decide +kernel
theorem dX10_placeIn_2 : decode cX10_placeIn 2 = .ok (.iload_n 3, 1) := by decide +kernel
theorem dX10_placeIn_3 : decode cX10_placeIn 3 = .ok (.aload_n 0, 1) := by decide +kernel
theorem dX10_placeIn_4 : decode cX10_placeIn 4 = .ok (.getfield 28, 3) := by decide +kernel
theorem dX10_placeIn_7 : decode cX10_placeIn 7 = .ok (.iload_n 1, 1) := by decide +kernel
theorem dX10_placeIn_8 : decode cX10_placeIn 8 = .ok (.iaload, 1) := by decide +kernel
theorem dX10_placeIn_9 : decode cX10_placeIn 9 = .ok (.if_icmp .ge 28, 3) := by decide +kernel
theorem dX10_placeIn_12 : decode cX10_placeIn 12 = .ok (.aload_n 0, 1) := by decide +kernel
theorem dX10_placeIn_13 : decode cX10_placeIn 13 = .ok (.getfield 25, 3) := by decide +kernel
theorem dX10_placeIn_16 : decode cX10_placeIn 16 = .ok (.bipush 20, 2) := by decide +kernel
theorem dX10_placeIn_18 : decode cX10_placeIn 18 = .ok (.iload_n 1, 1) := by decide +kernel
theorem dX10_placeIn_19 : decode cX10_placeIn 19 = .ok (.imul, 1) := by decide +kernel
theorem dX10_placeIn_20 : decode cX10_placeIn 20 = .ok (.iload_n 3, 1) := by decide +kernel
theorem dX10_placeIn_21 : decode cX10_placeIn 21 = .ok (.iadd, 1) := by decide +kernel
theorem dX10_placeIn_22 : decode cX10_placeIn 22 = .ok (.iaload, 1) := by decide +kernel
theorem dX10_placeIn_23 : decode cX10_placeIn 23 = .ok (.iload_n 2, 1) := by decide +kernel
theorem dX10_placeIn_24 : decode cX10_placeIn 24 = .ok (.if_icmp .ne 7, 3) := by decide +kernel
theorem dX10_placeIn_27 : decode cX10_placeIn 27 = .ok (.iload_n 3, 1) := by decide +kernel
theorem dX10_placeIn_28 : decode cX10_placeIn 28 = .ok (.iconst 1, 1) := by decide +kernel
theorem dX10_placeIn_29 : decode cX10_placeIn 29 = .ok (.iadd, 1) := by decide +kernel
theorem dX10_placeIn_30 : decode cX10_placeIn 30 = .ok (.ireturn, 1) := by decide +kernel
theorem dX10_placeIn_31 : decode cX10_placeIn 31 = .ok (.iinc 3 1, 3) := by decide +kernel
theorem dX10_placeIn_34 : decode cX10_placeIn 34 = .ok (.goto (-32), 3) := by decide +kernel
theorem dX10_placeIn_37 : decode cX10_placeIn 37 = .ok (.iconst 0, 1) := by decide +kernel
theorem dX10_placeIn_38 : decode cX10_placeIn 38 = .ok (.ireturn, 1) := by decide +kernel
set_option maxRecDepth 100000 in
set_option maxHeartbeats 4000000 in
theorem rt_X10_placeIn (l : Launch) (m0 : Nat) (ad : Nat → Nat) (K : RS) (u : Nat) (t : Int32) : Ct l yX10_placeIn cX10_placeIn 4 (some .int) 0 0 0 0 (fun S av => av = [.ref m0, .int (nI u), .int t] ∧ mdR S m0 ad K ∧ RV K ∧ (u < 12)) (fun S _ r S' => ∃ v : Nat, r = some (.int (nI v)) ∧ v = placeInF K u t ∧ (v ≤ rN K 8 u) ∧ S' = S) := by
  refine ct_of (by decide) (fun S av h => by obtain ⟨rfl, hk, rv, hu⟩ := h; exact Nat.le_of_ble_eq_true rfl) ?_
  intro p e s m args below meth c D G bs S av C hr hin hpre
  obtain ⟨rfl, hk, rv, hu⟩ := hpre
  obtain ⟨z1, z2⟩ := rv.p5 u hu
  refine v_iconst (v := nI 0) C dX10_placeIn_0 (by decide) ?_
  refine v_istore_n C dX10_placeIn_1 (by decide) rfl ?_
  refine V.lits (lv' := [_, _, _, _]) rfl ?_
  refine v_loop (fun (tt : (Nat)) lv0 => (lv0.set 3 (some (.int (nI tt))))) (fun (S1 : Mem) (tt : (Nat)) => S1 = S ∧ (0 ≤ tt ∧ tt ≤ rN K 8 u + 1) ∧ (placeInF K u t = (match (sc (piP K u t) (rN K 8 u - tt) tt) with | some tt => tt + 1 | none => 0))) (fun (S1 : Mem) (tt : (Nat)) => rN K 8 u - tt) (t := (0)) rfl ⟨rfl, (by omega), rfl⟩ ?_
  intro L2 tt h_2 ih_2
  revert h_2 ih_2
  revert tt
  intro i h_2 ih_2
  obtain ⟨e_S, hi, hs⟩ := h_2
  subst e_S
  try dsimp only at *
  refine v_iload_n C dX10_placeIn_2 rfl ?_
  refine v_aload_n C dX10_placeIn_3 rfl ?_
  refine q10_28 C hk dX10_placeIn_4 ?_
  refine v_iload_n C dX10_placeIn_7 rfl ?_
  refine n_iald C hk (show (8, 11, 12) ∈ mTab by decide +kernel) (by omega) dX10_placeIn_8 ?_
  refine v_val z1 ?_
  refine n_icmp_ge (tgt := 37) C (by omega) (by omega) dX10_placeIn_9 (by decide) (fun c_9 => ?_) (fun c_9 => ?_)
  · skip
    refine v_iconst (v := nI 0) C dX10_placeIn_37 (by decide) ?_
    refine v_iret C hr (Nat.le_of_ble_eq_true rfl) (Nat.le_of_ble_eq_true rfl) dX10_placeIn_38 ?_
    exact ⟨_, rfl, (by rw [hs, sc_end (by omega)]), (Nat.zero_le _), rfl⟩
  · skip
    refine v_aload_n C dX10_placeIn_12 rfl ?_
    refine q10_25 C hk dX10_placeIn_13 ?_
    refine v_bipush (v := nI 20) C dX10_placeIn_16 (by decide) ?_
    refine v_iload_n C dX10_placeIn_18 rfl ?_
    refine n_imul C dX10_placeIn_19 ?_
    refine v_iload_n C dX10_placeIn_20 rfl ?_
    refine n_iadd C dX10_placeIn_21 ?_
    refine n_iald C hk (show (7, 11, 240) ∈ mTab by decide +kernel) (by omega) dX10_placeIn_22 ?_
    refine v_iload_n C dX10_placeIn_23 rfl ?_
    refine v_icmp_ne (tgt := 31) C dX10_placeIn_24 (by decide) (fun c_24 => ?_) (fun c_24 => ?_)
    · skip
      refine v_iinc C dX10_placeIn_31 rfl (nI_inc _) (by decide) rfl ?_
      refine v_goto (tgt := 2) C dX10_placeIn_34 (by decide) ?_
      refine V.lits (lv' := [_, _, _, _]) rfl ?_
      exact ih_2 _ ((i + 1)) (by first | omega | (dsimp only; omega)) ⟨rfl, (by omega), (hs.trans (congrArg (fun o => (match o with | some i => i + 1 | none => 0)) (sc_step (by omega) (by simp [piP, c_9, c_24]))))⟩
    · skip
      refine v_iload_n C dX10_placeIn_27 rfl ?_
      refine v_iconst (v := nI 1) C dX10_placeIn_28 (by decide) ?_
      refine n_iadd C dX10_placeIn_29 ?_
      refine v_iret C hr (Nat.le_of_ble_eq_true rfl) (Nat.le_of_ble_eq_true rfl) dX10_placeIn_30 ?_
      exact ⟨_, rfl, (by rw [hs, sc_hit (by omega) (by simp [piP, c_9, c_24])]), (by omega), rfl⟩
theorem dX10_standsUnder_0 : decode cX10_standsUnder 0 = .ok (.iconst 0, 1) := by decide +kernel
theorem dX10_standsUnder_1 : decode cX10_standsUnder 1 = .ok (.istore_n 3, 1) := by decide +kernel
theorem dX10_standsUnder_2 : decode cX10_standsUnder 2 = .ok (.iload_n 3, 1) := by decide +kernel
theorem dX10_standsUnder_3 : decode cX10_standsUnder 3 = .ok (.aload_n 0, 1) := by decide +kernel
theorem dX10_standsUnder_4 : decode cX10_standsUnder 4 = .ok (.getfield 13, 3) := by decide +kernel
theorem dX10_standsUnder_7 : decode cX10_standsUnder 7 = .ok (.iload_n 1, 1) := by decide +kernel
theorem dX10_standsUnder_8 : decode cX10_standsUnder 8 = .ok (.iaload, 1) := by decide +kernel
theorem dX10_standsUnder_9 : decode cX10_standsUnder 9 = .ok (.if_icmp .ge 26, 3) := by decide +kernel
theorem dX10_standsUnder_12 : decode cX10_standsUnder 12 = .ok (.aload_n 0, 1) := by decide +kernel
theorem dX10_standsUnder_13 : decode cX10_standsUnder 13 = .ok (.getfield 7, 3) := by decide +kernel
theorem dX10_standsUnder_16 : decode cX10_standsUnder 16 = .ok (.bipush 20, 2) := by decide +kernel
theorem dX10_standsUnder_18 : decode cX10_standsUnder 18 = .ok (.iload_n 1, 1) := by decide +kernel
theorem dX10_standsUnder_19 : decode cX10_standsUnder 19 = .ok (.imul, 1) := by decide +kernel
theorem dX10_standsUnder_20 : decode cX10_standsUnder 20 = .ok (.iload_n 3, 1) := by decide +kernel
theorem dX10_standsUnder_21 : decode cX10_standsUnder 21 = .ok (.iadd, 1) := by decide +kernel
theorem dX10_standsUnder_22 : decode cX10_standsUnder 22 = .ok (.iaload, 1) := by decide +kernel
theorem dX10_standsUnder_23 : decode cX10_standsUnder 23 = .ok (.iload_n 2, 1) := by decide +kernel
theorem dX10_standsUnder_24 : decode cX10_standsUnder 24 = .ok (.if_icmp .ne 5, 3) := by decide +kernel
theorem dX10_standsUnder_27 : decode cX10_standsUnder 27 = .ok (.iconst 1, 1) := by decide +kernel
theorem dX10_standsUnder_28 : decode cX10_standsUnder 28 = .ok (.ireturn, 1) := by decide +kernel
theorem dX10_standsUnder_29 : decode cX10_standsUnder 29 = .ok (.iinc 3 1, 3) := by decide +kernel
theorem dX10_standsUnder_32 : decode cX10_standsUnder 32 = .ok (.goto (-30), 3) := by decide +kernel
theorem dX10_standsUnder_35 : decode cX10_standsUnder 35 = .ok (.iconst 0, 1) := by decide +kernel
theorem dX10_standsUnder_36 : decode cX10_standsUnder 36 = .ok (.ireturn, 1) := by decide +kernel
set_option maxRecDepth 100000 in
set_option maxHeartbeats 4000000 in
theorem rt_X10_standsUnder (l : Launch) (m0 : Nat) (ad : Nat → Nat) (K : RS) (t : Nat) (u : Nat) : Ct l yX10_standsUnder cX10_standsUnder 4 (some .boolean) 0 0 0 0 (fun S av => av = [.ref m0, .int (nI t), .int (nI u)] ∧ mdR S m0 ad K ∧ RV K ∧ (t < 20)) (fun S _ r S' => ∃ v : Bool, r = some (.int (bI v)) ∧ v = standsF K t u ∧ S' = S) := by
  refine ct_of (by decide) (fun S av h => by obtain ⟨rfl, hk, rv, ht⟩ := h; exact Nat.le_of_ble_eq_true rfl) ?_
  intro p e s m args below meth c D G bs S av C hr hin hpre
  obtain ⟨rfl, hk, rv, ht⟩ := hpre
  obtain ⟨z1, z2⟩ := rv.p3 t ht
  refine v_iconst (v := nI 0) C dX10_standsUnder_0 (by decide) ?_
  refine v_istore_n C dX10_standsUnder_1 (by decide) rfl ?_
  refine V.lits (lv' := [_, _, _, _]) rfl ?_
  refine v_loop (fun (tt : (Nat)) lv0 => (lv0.set 3 (some (.int (nI tt))))) (fun (S1 : Mem) (tt : (Nat)) => S1 = S ∧ (0 ≤ tt ∧ tt ≤ rN K 2 t + 1) ∧ (standsF K t u = Option.isSome (sc (stP K t u) (rN K 2 t - tt) tt))) (fun (S1 : Mem) (tt : (Nat)) => rN K 2 t - tt) (t := (0)) rfl ⟨rfl, (by omega), rfl⟩ ?_
  intro L2 tt h_2 ih_2
  revert h_2 ih_2
  revert tt
  intro i h_2 ih_2
  obtain ⟨e_S, hi, hs⟩ := h_2
  subst e_S
  try dsimp only at *
  refine v_iload_n C dX10_standsUnder_2 rfl ?_
  refine v_aload_n C dX10_standsUnder_3 rfl ?_
  refine q10_13 C hk dX10_standsUnder_4 ?_
  refine v_iload_n C dX10_standsUnder_7 rfl ?_
  refine n_iald C hk (show (2, 11, 20) ∈ mTab by decide +kernel) (by omega) dX10_standsUnder_8 ?_
  refine v_val z1 ?_
  refine n_icmp_ge (tgt := 35) C (by omega) (by omega) dX10_standsUnder_9 (by decide) (fun c_9 => ?_) (fun c_9 => ?_)
  · skip
    refine v_iconst (v := nI 0) C dX10_standsUnder_35 (by decide) ?_
    refine v_zret C hr (by first | rfl | exact bI_nar _) (Nat.le_of_ble_eq_true rfl) (Nat.le_of_ble_eq_true rfl) dX10_standsUnder_36 ?_
    exact ⟨false, rfl, (by rw [hs, sc_end (by omega)]; rfl), rfl⟩
  · skip
    refine v_aload_n C dX10_standsUnder_12 rfl ?_
    refine q10_7 C hk dX10_standsUnder_13 ?_
    refine v_bipush (v := nI 20) C dX10_standsUnder_16 (by decide) ?_
    refine v_iload_n C dX10_standsUnder_18 rfl ?_
    refine n_imul C dX10_standsUnder_19 ?_
    refine v_iload_n C dX10_standsUnder_20 rfl ?_
    refine n_iadd C dX10_standsUnder_21 ?_
    refine n_iald C hk (show (1, 11, 400) ∈ mTab by decide +kernel) (by omega) dX10_standsUnder_22 ?_
    refine v_iload_n C dX10_standsUnder_23 rfl ?_
    refine v_icmp_ne (tgt := 29) C dX10_standsUnder_24 (by decide) (fun c_24 => ?_) (fun c_24 => ?_)
    · skip
      refine v_iinc C dX10_standsUnder_29 rfl (nI_inc _) (by decide) rfl ?_
      refine v_goto (tgt := 2) C dX10_standsUnder_32 (by decide) ?_
      refine V.lits (lv' := [_, _, _, _]) rfl ?_
      exact ih_2 _ ((i + 1)) (by first | omega | (dsimp only; omega)) ⟨rfl, (by omega), (hs.trans (congrArg (fun o => Option.isSome o) (sc_step (by omega) (by simp [stP, c_9, c_24]))))⟩
    · skip
      refine v_iconst (v := nI 1) C dX10_standsUnder_27 (by decide) ?_
      refine v_zret C hr (by first | rfl | exact bI_nar _) (Nat.le_of_ble_eq_true rfl) (Nat.le_of_ble_eq_true rfl) dX10_standsUnder_28 ?_
      exact ⟨true, rfl, (by rw [hs, sc_hit (by omega) (by simp [stP, c_9, c_24])]; rfl), rfl⟩
theorem dX10_offers_0 : decode cX10_offers 0 = .ok (.iload_n 2, 1) := by decide +kernel
theorem dX10_offers_1 : decode cX10_offers 1 = .ok (.ifCond .ne 32, 3) := by decide +kernel
theorem dX10_offers_4 : decode cX10_offers 4 = .ok (.sipush 480, 3) := by decide +kernel
theorem dX10_offers_7 : decode cX10_offers 7 = .ok (.bipush 12, 2) := by decide +kernel
theorem dX10_offers_9 : decode cX10_offers 9 = .ok (.iload_n 1, 1) := by decide +kernel
theorem dX10_offers_10 : decode cX10_offers 10 = .ok (.imul, 1) := by decide +kernel
theorem dX10_offers_11 : decode cX10_offers 11 = .ok (.iadd, 1) := by decide +kernel
theorem dX10_offers_12 : decode cX10_offers 12 = .ok (.iload_n 3, 1) := by decide +kernel
theorem dX10_offers_13 : decode cX10_offers 13 = .ok (.iadd, 1) := by decide +kernel
theorem dX10_offers_14 : decode cX10_offers 14 = .ok (.istore 4, 2) := by decide +kernel
theorem dX10_offers_16 : decode cX10_offers 16 = .ok (.aload_n 0, 1) := by decide +kernel
theorem dX10_offers_17 : decode cX10_offers 17 = .ok (.getfield 35, 3) := by decide +kernel
theorem dX10_offers_20 : decode cX10_offers 20 = .ok (.iload 4, 2) := by decide +kernel
theorem dX10_offers_22 : decode cX10_offers 22 = .ok (.baload, 1) := by decide +kernel
theorem dX10_offers_23 : decode cX10_offers 23 = .ok (.ifCond .eq 8, 3) := by decide +kernel
theorem dX10_offers_26 : decode cX10_offers 26 = .ok (.iload 4, 2) := by decide +kernel
theorem dX10_offers_28 : decode cX10_offers 28 = .ok (.goto 4, 3) := by decide +kernel
theorem dX10_offers_31 : decode cX10_offers 31 = .ok (.iconst (-1), 1) := by decide +kernel
theorem dX10_offers_32 : decode cX10_offers 32 = .ok (.ireturn, 1) := by decide +kernel
theorem dX10_offers_33 : decode cX10_offers 33 = .ok (.aload_n 0, 1) := by decide +kernel
theorem dX10_offers_34 : decode cX10_offers 34 = .ok (.getfield 25, 3) := by decide +kernel
theorem dX10_offers_37 : decode cX10_offers 37 = .ok (.bipush 20, 2) := by decide +kernel
theorem dX10_offers_39 : decode cX10_offers 39 = .ok (.iload_n 1, 1) := by decide +kernel
theorem dX10_offers_40 : decode cX10_offers 40 = .ok (.imul, 1) := by decide +kernel
theorem dX10_offers_41 : decode cX10_offers 41 = .ok (.iload_n 2, 1) := by decide +kernel
theorem dX10_offers_42 : decode cX10_offers 42 = .ok (.iadd, 1) := by decide +kernel
theorem dX10_offers_43 : decode cX10_offers 43 = .ok (.iconst 1, 1) := by decide +kernel
theorem dX10_offers_44 : decode cX10_offers 44 = .ok (.isub, 1) := by decide +kernel
theorem dX10_offers_45 : decode cX10_offers 45 = .ok (.iaload, 1) := by decide +kernel
theorem dX10_offers_46 : decode cX10_offers 46 = .ok (.istore 4, 2) := by decide +kernel
theorem dX10_offers_48 : decode cX10_offers 48 = .ok (.aload_n 0, 1) := by decide +kernel
theorem dX10_offers_49 : decode cX10_offers 49 = .ok (.iload_n 1, 1) := by decide +kernel
theorem dX10_offers_50 : decode cX10_offers 50 = .ok (.iload 4, 2) := by decide +kernel
theorem dX10_offers_52 : decode cX10_offers 52 = .ok (.iload_n 3, 1) := by decide +kernel
theorem dX10_offers_53 : decode cX10_offers 53 = .ok (.invokevirtual 196, 3) := by decide +kernel
theorem dX10_offers_56 : decode cX10_offers 56 = .ok (.istore 5, 2) := by decide +kernel
theorem dX10_offers_58 : decode cX10_offers 58 = .ok (.iload 5, 2) := by decide +kernel
theorem dX10_offers_60 : decode cX10_offers 60 = .ok (.iconst (-1), 1) := by decide +kernel
theorem dX10_offers_61 : decode cX10_offers 61 = .ok (.if_icmp .ne 33, 3) := by decide +kernel
theorem dX10_offers_64 : decode cX10_offers 64 = .ok (.aload_n 0, 1) := by decide +kernel
theorem dX10_offers_65 : decode cX10_offers 65 = .ok (.iload_n 1, 1) := by decide +kernel
theorem dX10_offers_66 : decode cX10_offers 66 = .ok (.iload 4, 2) := by decide +kernel
theorem dX10_offers_68 : decode cX10_offers 68 = .ok (.iload_n 3, 1) := by decide +kernel
theorem dX10_offers_69 : decode cX10_offers 69 = .ok (.invokevirtual 189, 3) := by decide +kernel
theorem dX10_offers_72 : decode cX10_offers 72 = .ok (.ifCond .ne 15, 3) := by decide +kernel
theorem dX10_offers_75 : decode cX10_offers 75 = .ok (.aload_n 0, 1) := by decide +kernel
theorem dX10_offers_76 : decode cX10_offers 76 = .ok (.iload_n 1, 1) := by decide +kernel
theorem dX10_offers_77 : decode cX10_offers 77 = .ok (.iload 4, 2) := by decide +kernel
theorem dX10_offers_79 : decode cX10_offers 79 = .ok (.iload_n 3, 1) := by decide +kernel
theorem dX10_offers_80 : decode cX10_offers 80 = .ok (.invokevirtual 192, 3) := by decide +kernel
theorem dX10_offers_83 : decode cX10_offers 83 = .ok (.iconst (-1), 1) := by decide +kernel
theorem dX10_offers_84 : decode cX10_offers 84 = .ok (.if_icmp .eq 7, 3) := by decide +kernel
theorem dX10_offers_87 : decode cX10_offers 87 = .ok (.iconst (-1), 1) := by decide +kernel
theorem dX10_offers_88 : decode cX10_offers 88 = .ok (.goto 4, 3) := by decide +kernel
theorem dX10_offers_91 : decode cX10_offers 91 = .ok (.iload_n 3, 1) := by decide +kernel
theorem dX10_offers_92 : decode cX10_offers 92 = .ok (.istore 5, 2) := by decide +kernel
theorem dX10_offers_94 : decode cX10_offers 94 = .ok (.iload 5, 2) := by decide +kernel
theorem dX10_offers_96 : decode cX10_offers 96 = .ok (.iconst (-1), 1) := by decide +kernel
theorem dX10_offers_97 : decode cX10_offers 97 = .ok (.if_icmp .eq 30, 3) := by decide +kernel
theorem dX10_offers_100 : decode cX10_offers 100 = .ok (.aload_n 0, 1) := by decide +kernel
theorem dX10_offers_101 : decode cX10_offers 101 = .ok (.getfield 35, 3) := by decide +kernel
theorem dX10_offers_104 : decode cX10_offers 104 = .ok (.bipush 12, 2) := by decide +kernel
theorem dX10_offers_106 : decode cX10_offers 106 = .ok (.iload 4, 2) := by decide +kernel
theorem dX10_offers_108 : decode cX10_offers 108 = .ok (.imul, 1) := by decide +kernel
theorem dX10_offers_109 : decode cX10_offers 109 = .ok (.iload 5, 2) := by decide +kernel
theorem dX10_offers_111 : decode cX10_offers 111 = .ok (.iadd, 1) := by decide +kernel
theorem dX10_offers_112 : decode cX10_offers 112 = .ok (.baload, 1) := by decide +kernel
theorem dX10_offers_113 : decode cX10_offers 113 = .ok (.ifCond .eq 14, 3) := by decide +kernel
theorem dX10_offers_116 : decode cX10_offers 116 = .ok (.bipush 12, 2) := by decide +kernel
theorem dX10_offers_118 : decode cX10_offers 118 = .ok (.iload 4, 2) := by decide +kernel
theorem dX10_offers_120 : decode cX10_offers 120 = .ok (.imul, 1) := by decide +kernel
theorem dX10_offers_121 : decode cX10_offers 121 = .ok (.iload 5, 2) := by decide +kernel
theorem dX10_offers_123 : decode cX10_offers 123 = .ok (.iadd, 1) := by decide +kernel
theorem dX10_offers_124 : decode cX10_offers 124 = .ok (.goto 4, 3) := by decide +kernel
theorem dX10_offers_127 : decode cX10_offers 127 = .ok (.iconst (-1), 1) := by decide +kernel
theorem dX10_offers_128 : decode cX10_offers 128 = .ok (.ireturn, 1) := by decide +kernel
set_option maxRecDepth 100000 in
set_option maxHeartbeats 4000000 in
theorem rt_X10_offers (l : Launch) (m0 : Nat) (ad : Nat → Nat) (K : RS) (u : Nat) (w : Nat) (n : Nat) : Ct l yX10_offers cX10_offers 6 (some .int) 1 0 0 24 (fun S av => av = [.ref m0, .int (nI u), .int (nI w), .int (nI n)] ∧ mdR S m0 ad K ∧ RV K ∧ (u < 12) ∧ (n < 12) ∧ (w ≤ rN K 8 u)) (fun S _ r S' => ∃ v : Option Nat, r = some (.int (oI v)) ∧ v = offersF K u w n ∧ (∀ k, v = some k → k < 624) ∧ S' = S) := by
  refine ct_of (by decide) (fun S av h => by obtain ⟨rfl, hk, rv, hu, hn, hp⟩ := h; exact Nat.le_of_ble_eq_true rfl) ?_
  intro p e s m args below meth c D G bs S av C hr hin hpre
  obtain ⟨rfl, hk, rv, hu, hn, hp⟩ := hpre
  obtain ⟨z1, z2⟩ := rv.p5 u hu
  have zt := rv.p1.2
  refine v_iload_n C dX10_offers_0 rfl ?_
  refine n_if_ne (tgt := 33) C (by omega) dX10_offers_1 (by decide) (fun c_1 => ?_) (fun c_1 => ?_)
  · skip
    obtain ⟨q, rfl⟩ : ∃ q, w = q + 1 := ⟨w - 1, by omega⟩
    obtain ⟨y1, y2⟩ := rv.p6 u hu q (by omega)
    refine v_aload_n C dX10_offers_33 rfl ?_
    refine q10_25 C hk dX10_offers_34 ?_
    refine v_bipush (v := nI 20) C dX10_offers_37 (by decide) ?_
    refine v_iload_n C dX10_offers_39 rfl ?_
    refine n_imul C dX10_offers_40 ?_
    refine v_iload_n C dX10_offers_41 rfl ?_
    refine n_iadd C dX10_offers_42 ?_
    refine v_iconst (v := nI 1) C dX10_offers_43 (by decide) ?_
    refine n_isub C (by omega) dX10_offers_44 ?_
    refine v_val (y := nI (20 * u + q)) rfl ?_
    refine n_iald C hk (show (7, 11, 240) ∈ mTab by decide +kernel) (by omega) dX10_offers_45 ?_
    refine v_val y1 ?_
    refine v_istore C dX10_offers_46 (by decide) rfl ?_
    refine v_aload_n C dX10_offers_48 rfl ?_
    refine v_iload_n C dX10_offers_49 rfl ?_
    refine v_iload C dX10_offers_50 rfl ?_
    refine v_iload_n C dX10_offers_52 rfl ?_
    refine v_callV (As := [_, _, _]) (n := 3) C (rt_X10_named l m0 ad _ _ _ _) rfl hk.1 (by decide) rfl ⟨wd478, wd479, wd480, wd5, wd481⟩ ⟨rfl, hy_X10_named⟩ rfl ⟨Nat.le_of_ble_eq_true rfl, Nat.le_of_ble_eq_true rfl⟩ (Nat.le_of_ble_eq_true rfl) ⟨Nat.le_of_ble_eq_true rfl, Nat.le_of_ble_eq_true rfl⟩ dX10_offers_53 ⟨rfl, hk, rv, (by omega)⟩ (fun r_53 S4_53 h_53 => ?_)
    obtain ⟨v53, rfl, p_v53, b_v53, q_v53⟩ := h_53
    obtain rfl := q_v53.symm
    refine v_istore C dX10_offers_56 (by decide) rfl ?_
    refine v_iload C dX10_offers_58 rfl ?_
    refine v_iconst (v := -1) C dX10_offers_60 (by decide) ?_
    refine o_icmp_ne (tgt := 94) C (fun k z => by have := b_v53 k z; omega) dX10_offers_61 (by decide) (fun k61 c_61 => ?_) (fun c_61 => ?_)
    · skip
      have b_k61 := b_v53 k61 c_61
      subst c_61
      refine v_iload C dX10_offers_94 rfl ?_
      refine v_iconst (v := -1) C dX10_offers_96 (by decide) ?_
      refine v_icmp_eq (tgt := 127) C dX10_offers_97 (by decide) (fun c_97 => ?_) (fun c_97 => ?_)
      · skip
        exact absurd c_97 (nI_nem1 (by omega))
      · skip
        refine v_aload_n C dX10_offers_100 rfl ?_
        refine q10_35 C hk dX10_offers_101 ?_
        refine v_bipush (v := nI 12) C dX10_offers_104 (by decide) ?_
        refine v_iload C dX10_offers_106 rfl ?_
        refine n_imul C dX10_offers_108 ?_
        refine v_iload C dX10_offers_109 rfl ?_
        refine n_iadd C dX10_offers_111 ?_
        refine n_zald C hk (show (10, 13, 624) ∈ mTab by decide +kernel) (by omega) dX10_offers_112 ?_
        refine v_if_eq (tgt := 127) C dX10_offers_113 (by decide) (fun c_113 => ?_) (fun c_113 => ?_)
        · skip
          refine v_iconst (v := -1) C dX10_offers_127 (by decide) ?_
          refine v_iret C hr (Nat.le_of_ble_eq_true rfl) (Nat.le_of_ble_eq_true rfl) dX10_offers_128 ?_
          exact ⟨none, rfl, (by simp [offersF, srcF, ← p_v53, c_113]), (fun k z => by cases z <;> omega), rfl⟩
        · skip
          refine v_bipush (v := nI 12) C dX10_offers_116 (by decide) ?_
          refine v_iload C dX10_offers_118 rfl ?_
          refine n_imul C dX10_offers_120 ?_
          refine v_iload C dX10_offers_121 rfl ?_
          refine n_iadd C dX10_offers_123 ?_
          refine v_goto (tgt := 128) C dX10_offers_124 (by decide) ?_
          refine v_iret C hr (Nat.le_of_ble_eq_true rfl) (Nat.le_of_ble_eq_true rfl) dX10_offers_128 ?_
          exact ⟨some _, rfl, (by simp [offersF, srcF, ← p_v53, c_113]), (fun k z => by cases z <;> omega), rfl⟩
    · skip
      subst c_61
      refine v_aload_n C dX10_offers_64 rfl ?_
      refine v_iload_n C dX10_offers_65 rfl ?_
      refine v_iload C dX10_offers_66 rfl ?_
      refine v_iload_n C dX10_offers_68 rfl ?_
      refine v_callV (As := [_, _, _]) (n := 3) C (rt_X10_leaves l m0 ad _ _ _ _) rfl hk.1 (by decide) rfl ⟨wd448, wd449, wd450, wd5, wd451⟩ ⟨rfl, hy_X10_leaves⟩ rfl ⟨Nat.le_of_ble_eq_true rfl, Nat.le_of_ble_eq_true rfl⟩ (Nat.le_of_ble_eq_true rfl) ⟨Nat.le_of_ble_eq_true rfl, Nat.le_of_ble_eq_true rfl⟩ dX10_offers_69 ⟨rfl, hk, rv, (by omega)⟩ (fun r_69 S6_69 h_69 => ?_)
      obtain ⟨v69, rfl, p_v69, q_v69⟩ := h_69
      obtain rfl := q_v69.symm
      refine b_if_ne (tgt := 87) C dX10_offers_72 (by decide) (fun c_72 => ?_) (fun c_72 => ?_)
      · skip
        refine v_iconst (v := -1) C dX10_offers_87 (by decide) ?_
        refine v_goto (tgt := 92) C dX10_offers_88 (by decide) ?_
        refine v_istore C dX10_offers_92 (by decide) rfl ?_
        refine v_iload C dX10_offers_94 rfl ?_
        refine v_iconst (v := -1) C dX10_offers_96 (by decide) ?_
        refine v_icmp_eq (tgt := 127) C dX10_offers_97 (by decide) (fun c_97 => ?_) (fun c_97 => ?_)
        · skip
          refine v_iconst (v := -1) C dX10_offers_127 (by decide) ?_
          refine v_iret C hr (Nat.le_of_ble_eq_true rfl) (Nat.le_of_ble_eq_true rfl) dX10_offers_128 ?_
          exact ⟨none, rfl, (by simp [offersF, srcF, ← p_v53, ← p_v69, c_72, c_97]), (fun k z => by cases z <;> omega), rfl⟩
        · skip
          exact absurd c_97 (by decide)
      · skip
        refine v_aload_n C dX10_offers_75 rfl ?_
        refine v_iload_n C dX10_offers_76 rfl ?_
        refine v_iload C dX10_offers_77 rfl ?_
        refine v_iload_n C dX10_offers_79 rfl ?_
        refine v_callV (As := [_, _, _]) (n := 3) C (rt_X10_renamed l m0 ad _ _ _ _) rfl hk.1 (by decide) rfl ⟨wd474, wd475, wd476, wd5, wd477⟩ ⟨rfl, hy_X10_renamed⟩ rfl ⟨Nat.le_of_ble_eq_true rfl, Nat.le_of_ble_eq_true rfl⟩ (Nat.le_of_ble_eq_true rfl) ⟨Nat.le_of_ble_eq_true rfl, Nat.le_of_ble_eq_true rfl⟩ dX10_offers_80 ⟨rfl, hk, rv, (by omega)⟩ (fun r_80 S8_80 h_80 => ?_)
        obtain ⟨v80, rfl, p_v80, b_v80, q_v80⟩ := h_80
        obtain rfl := q_v80.symm
        refine v_iconst (v := -1) C dX10_offers_83 (by decide) ?_
        refine o_icmp_eq (tgt := 91) C (fun k z => by have := b_v80 k z; omega) dX10_offers_84 (by decide) (fun c_84 => ?_) (fun k84 c_84 => ?_)
        · skip
          subst c_84
          refine v_iload_n C dX10_offers_91 rfl ?_
          refine v_istore C dX10_offers_92 (by decide) rfl ?_
          refine v_iload C dX10_offers_94 rfl ?_
          refine v_iconst (v := -1) C dX10_offers_96 (by decide) ?_
          refine v_icmp_eq (tgt := 127) C dX10_offers_97 (by decide) (fun c_97 => ?_) (fun c_97 => ?_)
          · skip
            exact absurd c_97 (nI_nem1 (by omega))
          · skip
            refine v_aload_n C dX10_offers_100 rfl ?_
            refine q10_35 C hk dX10_offers_101 ?_
            refine v_bipush (v := nI 12) C dX10_offers_104 (by decide) ?_
            refine v_iload C dX10_offers_106 rfl ?_
            refine n_imul C dX10_offers_108 ?_
            refine v_iload C dX10_offers_109 rfl ?_
            refine n_iadd C dX10_offers_111 ?_
            refine n_zald C hk (show (10, 13, 624) ∈ mTab by decide +kernel) (by omega) dX10_offers_112 ?_
            refine v_if_eq (tgt := 127) C dX10_offers_113 (by decide) (fun c_113 => ?_) (fun c_113 => ?_)
            · skip
              refine v_iconst (v := -1) C dX10_offers_127 (by decide) ?_
              refine v_iret C hr (Nat.le_of_ble_eq_true rfl) (Nat.le_of_ble_eq_true rfl) dX10_offers_128 ?_
              exact ⟨none, rfl, (by simp [offersF, srcF, ← p_v53, ← p_v69, c_72, ← p_v80, c_113]), (fun k z => by cases z <;> omega), rfl⟩
            · skip
              refine v_bipush (v := nI 12) C dX10_offers_116 (by decide) ?_
              refine v_iload C dX10_offers_118 rfl ?_
              refine n_imul C dX10_offers_120 ?_
              refine v_iload C dX10_offers_121 rfl ?_
              refine n_iadd C dX10_offers_123 ?_
              refine v_goto (tgt := 128) C dX10_offers_124 (by decide) ?_
              refine v_iret C hr (Nat.le_of_ble_eq_true rfl) (Nat.le_of_ble_eq_true rfl) dX10_offers_128 ?_
              exact ⟨some _, rfl, (by simp [offersF, srcF, ← p_v53, ← p_v69, c_72, ← p_v80, c_113]), (fun k z => by cases z <;> omega), rfl⟩
        · skip
          have b_k84 := b_v80 k84 c_84
          subst c_84
          refine v_iconst (v := -1) C dX10_offers_87 (by decide) ?_
          refine v_goto (tgt := 92) C dX10_offers_88 (by decide) ?_
          refine v_istore C dX10_offers_92 (by decide) rfl ?_
          refine v_iload C dX10_offers_94 rfl ?_
          refine v_iconst (v := -1) C dX10_offers_96 (by decide) ?_
          refine v_icmp_eq (tgt := 127) C dX10_offers_97 (by decide) (fun c_97 => ?_) (fun c_97 => ?_)
          · skip
            refine v_iconst (v := -1) C dX10_offers_127 (by decide) ?_
            refine v_iret C hr (Nat.le_of_ble_eq_true rfl) (Nat.le_of_ble_eq_true rfl) dX10_offers_128 ?_
            exact ⟨none, rfl, (by simp [offersF, srcF, ← p_v53, ← p_v69, c_72, ← p_v80, c_97]), (fun k z => by cases z <;> omega), rfl⟩
          · skip
            exact absurd c_97 (by decide)
  · skip
    subst c_1
    refine v_sipush (v := nI 480) C dX10_offers_4 (by decide) ?_
    refine v_bipush (v := nI 12) C dX10_offers_7 (by decide) ?_
    refine v_iload_n C dX10_offers_9 rfl ?_
    refine n_imul C dX10_offers_10 ?_
    refine n_iadd C dX10_offers_11 ?_
    refine v_iload_n C dX10_offers_12 rfl ?_
    refine n_iadd C dX10_offers_13 ?_
    refine v_istore C dX10_offers_14 (by decide) rfl ?_
    refine v_aload_n C dX10_offers_16 rfl ?_
    refine q10_35 C hk dX10_offers_17 ?_
    refine v_iload C dX10_offers_20 rfl ?_
    refine n_zald C hk (show (10, 13, 624) ∈ mTab by decide +kernel) (by omega) dX10_offers_22 ?_
    refine v_if_eq (tgt := 31) C dX10_offers_23 (by decide) (fun c_23 => ?_) (fun c_23 => ?_)
    · skip
      refine v_iconst (v := -1) C dX10_offers_31 (by decide) ?_
      refine v_iret C hr (Nat.le_of_ble_eq_true rfl) (Nat.le_of_ble_eq_true rfl) dX10_offers_32 ?_
      exact ⟨none, rfl, (by simp [offersF, srcF, c_23]), (fun k z => by cases z <;> omega), rfl⟩
    · skip
      refine v_iload C dX10_offers_26 rfl ?_
      refine v_goto (tgt := 32) C dX10_offers_28 (by decide) ?_
      refine v_iret C hr (Nat.le_of_ble_eq_true rfl) (Nat.le_of_ble_eq_true rfl) dX10_offers_32 ?_
      exact ⟨some _, rfl, (by simp [offersF, srcF, c_23]), (fun k z => by cases z <;> omega), rfl⟩
theorem dX10_firstFrom_0 : decode cX10_firstFrom 0 = .ok (.iload_n 2, 1) := by decide +kernel
theorem dX10_firstFrom_1 : decode cX10_firstFrom 1 = .ok (.istore 4, 2) := by decide +kernel
theorem dX10_firstFrom_3 : decode cX10_firstFrom 3 = .ok (.iload 4, 2) := by decide +kernel
theorem dX10_firstFrom_5 : decode cX10_firstFrom 5 = .ok (.aload_n 0, 1) := by decide +kernel
theorem dX10_firstFrom_6 : decode cX10_firstFrom 6 = .ok (.getfield 28, 3) := by decide +kernel
theorem dX10_firstFrom_9 : decode cX10_firstFrom 9 = .ok (.iload_n 1, 1) := by decide +kernel
theorem dX10_firstFrom_10 : decode cX10_firstFrom 10 = .ok (.iaload, 1) := by decide +kernel
theorem dX10_firstFrom_11 : decode cX10_firstFrom 11 = .ok (.if_icmp .gt 38, 3) := by decide +kernel
theorem dX10_firstFrom_14 : decode cX10_firstFrom 14 = .ok (.aload_n 0, 1) := by decide +kernel
theorem dX10_firstFrom_15 : decode cX10_firstFrom 15 = .ok (.iload_n 1, 1) := by decide +kernel
theorem dX10_firstFrom_16 : decode cX10_firstFrom 16 = .ok (.iload 4, 2) := by decide +kernel
theorem dX10_firstFrom_18 : decode cX10_firstFrom 18 = .ok (.iload_n 3, 1) := by decide +kernel
theorem dX10_firstFrom_19 : decode cX10_firstFrom 19 = .ok (.invokevirtual 199, 3) := by decide +kernel
theorem dX10_firstFrom_22 : decode cX10_firstFrom 22 = .ok (.istore 5, 2) := by decide +kernel
theorem dX10_firstFrom_24 : decode cX10_firstFrom 24 = .ok (.iload 5, 2) := by decide +kernel
theorem dX10_firstFrom_26 : decode cX10_firstFrom 26 = .ok (.iconst (-1), 1) := by decide +kernel
theorem dX10_firstFrom_27 : decode cX10_firstFrom 27 = .ok (.if_icmp .eq 16, 3) := by decide +kernel
theorem dX10_firstFrom_30 : decode cX10_firstFrom 30 = .ok (.aload_n 0, 1) := by decide +kernel
theorem dX10_firstFrom_31 : decode cX10_firstFrom 31 = .ok (.getfield 39, 3) := by decide +kernel
theorem dX10_firstFrom_34 : decode cX10_firstFrom 34 = .ok (.iload 5, 2) := by decide +kernel
theorem dX10_firstFrom_36 : decode cX10_firstFrom 36 = .ok (.baload, 1) := by decide +kernel
theorem dX10_firstFrom_37 : decode cX10_firstFrom 37 = .ok (.ifCond .ne 6, 3) := by decide +kernel
theorem dX10_firstFrom_40 : decode cX10_firstFrom 40 = .ok (.iload 4, 2) := by decide +kernel
theorem dX10_firstFrom_42 : decode cX10_firstFrom 42 = .ok (.ireturn, 1) := by decide +kernel
theorem dX10_firstFrom_43 : decode cX10_firstFrom 43 = .ok (.iinc 4 1, 3) := by decide +kernel
theorem dX10_firstFrom_46 : decode cX10_firstFrom 46 = .ok (.goto (-43), 3) := by decide +kernel
theorem dX10_firstFrom_49 : decode cX10_firstFrom 49 = .ok (.iconst (-1), 1) := by decide +kernel
theorem dX10_firstFrom_50 : decode cX10_firstFrom 50 = .ok (.ireturn, 1) := by decide +kernel
set_option maxRecDepth 100000 in
set_option maxHeartbeats 4000000 in
theorem rt_X10_firstFrom (l : Launch) (m0 : Nat) (ad : Nat → Nat) (K : RS) (u : Nat) (w : Nat) (n : Nat) : Ct l yX10_firstFrom cX10_firstFrom 6 (some .int) 2 0 0 49 (fun S av => av = [.ref m0, .int (nI u), .int (nI w), .int (nI n)] ∧ mdR S m0 ad K ∧ RV K ∧ (u < 12) ∧ (n < 12) ∧ (w ≤ 21)) (fun S _ r S' => ∃ v : Option Nat, r = some (.int (oI v)) ∧ v = firstF K u w n ∧ (∀ k, v = some k → k ≤ rN K 8 u) ∧ S' = S) := by
  refine ct_of (by decide) (fun S av h => by obtain ⟨rfl, hk, rv, hu, hn, hp⟩ := h; exact Nat.le_of_ble_eq_true rfl) ?_
  intro p e s m args below meth c D G bs S av C hr hin hpre
  obtain ⟨rfl, hk, rv, hu, hn, hp⟩ := hpre
  obtain ⟨z1, z2⟩ := rv.p5 u hu
  refine v_iload_n C dX10_firstFrom_0 rfl ?_
  refine v_istore C dX10_firstFrom_1 (by decide) rfl ?_
  refine V.lits (lv' := [_, _, _, _, _, _]) rfl ?_
  refine v_loop (fun (tt : (Nat)) lv0 => (lv0.set 4 (some (.int (nI tt))))) (fun (S1 : Mem) (tt : (Nat)) => S1 = S ∧ (tt ≤ 21) ∧ (firstF K u w n = sc (offQ K u n) (rN K 8 u + 1 - tt) tt)) (fun (S1 : Mem) (tt : (Nat)) => rN K 8 u + 1 - tt) (t := (w)) rfl ⟨rfl, hp, rfl⟩ ?_
  intro L3 tt h_3 ih_3
  revert h_3 ih_3
  revert tt
  intro i h_3 ih_3
  obtain ⟨e_S, hi, hs⟩ := h_3
  subst e_S
  try dsimp only at *
  refine v_iload C dX10_firstFrom_3 rfl ?_
  refine v_aload_n C dX10_firstFrom_5 rfl ?_
  refine q10_28 C hk dX10_firstFrom_6 ?_
  refine v_iload_n C dX10_firstFrom_9 rfl ?_
  refine n_iald C hk (show (8, 11, 12) ∈ mTab by decide +kernel) (by omega) dX10_firstFrom_10 ?_
  refine v_val z1 ?_
  refine n_icmp_gt (tgt := 49) C (by omega) (by omega) dX10_firstFrom_11 (by decide) (fun c_11 => ?_) (fun c_11 => ?_)
  · skip
    refine v_iconst (v := -1) C dX10_firstFrom_49 (by decide) ?_
    refine v_iret C hr (Nat.le_of_ble_eq_true rfl) (Nat.le_of_ble_eq_true rfl) dX10_firstFrom_50 ?_
    exact ⟨none, rfl, (by rw [hs, sc_end (by omega)]), (fun k z => (by cases z)), rfl⟩
  · skip
    refine v_aload_n C dX10_firstFrom_14 rfl ?_
    refine v_iload_n C dX10_firstFrom_15 rfl ?_
    refine v_iload C dX10_firstFrom_16 rfl ?_
    refine v_iload_n C dX10_firstFrom_18 rfl ?_
    refine v_callV (As := [_, _, _]) (n := 3) C (rt_X10_offers l m0 ad _ _ _ _) rfl hk.1 (by decide) rfl ⟨wd593, wd594, wd595, wd5, wd596⟩ ⟨rfl, hy_X10_offers⟩ rfl ⟨Nat.le_of_ble_eq_true rfl, Nat.le_of_ble_eq_true rfl⟩ (Nat.le_of_ble_eq_true rfl) ⟨Nat.le_of_ble_eq_true rfl, Nat.le_of_ble_eq_true rfl⟩ dX10_firstFrom_19 ⟨rfl, hk, rv, (by omega), (by omega), (by omega)⟩ (fun r_19 S2_19 h_19 => ?_)
    obtain ⟨v19, rfl, p_v19, b_v19, q_v19⟩ := h_19
    obtain rfl := q_v19.symm
    refine v_istore C dX10_firstFrom_22 (by decide) rfl ?_
    refine v_iload C dX10_firstFrom_24 rfl ?_
    refine v_iconst (v := -1) C dX10_firstFrom_26 (by decide) ?_
    refine o_icmp_eq (tgt := 43) C (fun k z => by have := b_v19 k z; omega) dX10_firstFrom_27 (by decide) (fun c_27 => ?_) (fun k27 c_27 => ?_)
    · skip
      subst c_27
      refine v_iinc C dX10_firstFrom_43 rfl (nI_inc _) (by decide) rfl ?_
      refine v_goto (tgt := 3) C dX10_firstFrom_46 (by decide) ?_
      refine V.drop 5 ?_
      refine V.lits (lv' := [_, _, _, _, _, _]) rfl ?_
      exact ih_3 _ ((i + 1)) (by first | omega | (dsimp only; omega)) ⟨rfl, (by omega), (hs.trans (sc_step (by omega) (by simp [offQ, offP, c_11, ← p_v19])))⟩
    · skip
      have b_k27 := b_v19 k27 c_27
      subst c_27
      refine v_aload_n C dX10_firstFrom_30 rfl ?_
      refine q10_39 C hk dX10_firstFrom_31 ?_
      refine v_iload C dX10_firstFrom_34 rfl ?_
      refine n_zald C hk (show (11, 13, 624) ∈ mTab by decide +kernel) (by omega) dX10_firstFrom_36 ?_
      refine v_if_ne (tgt := 43) C dX10_firstFrom_37 (by decide) (fun c_37 => ?_) (fun c_37 => ?_)
      · skip
        refine v_iinc C dX10_firstFrom_43 rfl (nI_inc _) (by decide) rfl ?_
        refine v_goto (tgt := 3) C dX10_firstFrom_46 (by decide) ?_
        refine V.drop 5 ?_
        refine V.lits (lv' := [_, _, _, _, _, _]) rfl ?_
        exact ih_3 _ ((i + 1)) (by first | omega | (dsimp only; omega)) ⟨rfl, (by omega), (hs.trans (sc_step (by omega) (by simp [offQ, offP, c_11, ← p_v19, c_37])))⟩
      · skip
        refine v_iload C dX10_firstFrom_40 rfl ?_
        refine v_iret C hr (Nat.le_of_ble_eq_true rfl) (Nat.le_of_ble_eq_true rfl) dX10_firstFrom_42 ?_
        exact ⟨some _, rfl, (by rw [hs, sc_hit (by omega) (by simp [offQ, offP, c_11, ← p_v19, c_37])]), (fun k z => by cases z; omega), rfl⟩
theorem dX10_choose_0 : decode cX10_choose 0 = .ok (.aload_n 0, 1) := by decide +kernel
theorem dX10_choose_1 : decode cX10_choose 1 = .ok (.iload_n 1, 1) := by decide +kernel
theorem dX10_choose_2 : decode cX10_choose 2 = .ok (.iconst 0, 1) := by decide +kernel
theorem dX10_choose_3 : decode cX10_choose 3 = .ok (.iload_n 2, 1) := by decide +kernel
theorem dX10_choose_4 : decode cX10_choose 4 = .ok (.invokevirtual 199, 3) := by decide +kernel
theorem dX10_choose_7 : decode cX10_choose 7 = .ok (.iconst (-1), 1) := by decide +kernel
theorem dX10_choose_8 : decode cX10_choose 8 = .ok (.if_icmp .eq 5, 3) := by decide +kernel
theorem dX10_choose_11 : decode cX10_choose 11 = .ok (.iconst 0, 1) := by decide +kernel
theorem dX10_choose_12 : decode cX10_choose 12 = .ok (.ireturn, 1) := by decide +kernel
theorem dX10_choose_13 : decode cX10_choose 13 = .ok (.aload_n 0, 1) := by decide +kernel
theorem dX10_choose_14 : decode cX10_choose 14 = .ok (.getfield 88, 3) := by decide +kernel
theorem dX10_choose_17 : decode cX10_choose 17 = .ok (.bipush 12, 2) := by decide +kernel
theorem dX10_choose_19 : decode cX10_choose 19 = .ok (.iload_n 1, 1) := by decide +kernel
theorem dX10_choose_20 : decode cX10_choose 20 = .ok (.imul, 1) := by decide +kernel
theorem dX10_choose_21 : decode cX10_choose 21 = .ok (.iload_n 2, 1) := by decide +kernel
theorem dX10_choose_22 : decode cX10_choose 22 = .ok (.iadd, 1) := by decide +kernel
theorem dX10_choose_23 : decode cX10_choose 23 = .ok (.iaload, 1) := by decide +kernel
theorem dX10_choose_24 : decode cX10_choose 24 = .ok (.istore_n 3, 1) := by decide +kernel
theorem dX10_choose_25 : decode cX10_choose 25 = .ok (.iload_n 3, 1) := by decide +kernel
theorem dX10_choose_26 : decode cX10_choose 26 = .ok (.iconst (-1), 1) := by decide +kernel
theorem dX10_choose_27 : decode cX10_choose 27 = .ok (.if_icmp .ne 7, 3) := by decide +kernel
theorem dX10_choose_30 : decode cX10_choose 30 = .ok (.iconst 0, 1) := by decide +kernel
theorem dX10_choose_31 : decode cX10_choose 31 = .ok (.goto 9, 3) := by decide +kernel
theorem dX10_choose_34 : decode cX10_choose 34 = .ok (.aload_n 0, 1) := by decide +kernel
theorem dX10_choose_35 : decode cX10_choose 35 = .ok (.iload_n 1, 1) := by decide +kernel
theorem dX10_choose_36 : decode cX10_choose 36 = .ok (.iload_n 3, 1) := by decide +kernel
theorem dX10_choose_37 : decode cX10_choose 37 = .ok (.invokevirtual 202, 3) := by decide +kernel
theorem dX10_choose_40 : decode cX10_choose 40 = .ok (.istore 4, 2) := by decide +kernel
theorem dX10_choose_42 : decode cX10_choose 42 = .ok (.iload 4, 2) := by decide +kernel
theorem dX10_choose_44 : decode cX10_choose 44 = .ok (.ifCond .le 32, 3) := by decide +kernel
theorem dX10_choose_47 : decode cX10_choose 47 = .ok (.aload_n 0, 1) := by decide +kernel
theorem dX10_choose_48 : decode cX10_choose 48 = .ok (.iload_n 1, 1) := by decide +kernel
theorem dX10_choose_49 : decode cX10_choose 49 = .ok (.iload 4, 2) := by decide +kernel
theorem dX10_choose_51 : decode cX10_choose 51 = .ok (.iload_n 2, 1) := by decide +kernel
theorem dX10_choose_52 : decode cX10_choose 52 = .ok (.invokevirtual 199, 3) := by decide +kernel
theorem dX10_choose_55 : decode cX10_choose 55 = .ok (.istore 5, 2) := by decide +kernel
theorem dX10_choose_57 : decode cX10_choose 57 = .ok (.iload 5, 2) := by decide +kernel
theorem dX10_choose_59 : decode cX10_choose 59 = .ok (.iconst (-1), 1) := by decide +kernel
theorem dX10_choose_60 : decode cX10_choose 60 = .ok (.if_icmp .eq 16, 3) := by decide +kernel
theorem dX10_choose_63 : decode cX10_choose 63 = .ok (.aload_n 0, 1) := by decide +kernel
theorem dX10_choose_64 : decode cX10_choose 64 = .ok (.getfield 39, 3) := by decide +kernel
theorem dX10_choose_67 : decode cX10_choose 67 = .ok (.iload 5, 2) := by decide +kernel
theorem dX10_choose_69 : decode cX10_choose 69 = .ok (.baload, 1) := by decide +kernel
theorem dX10_choose_70 : decode cX10_choose 70 = .ok (.ifCond .ne 6, 3) := by decide +kernel
theorem dX10_choose_73 : decode cX10_choose 73 = .ok (.iload 4, 2) := by decide +kernel
theorem dX10_choose_75 : decode cX10_choose 75 = .ok (.ireturn, 1) := by decide +kernel
theorem dX10_choose_76 : decode cX10_choose 76 = .ok (.aload_n 0, 1) := by decide +kernel
theorem dX10_choose_77 : decode cX10_choose 77 = .ok (.iload_n 1, 1) := by decide +kernel
theorem dX10_choose_78 : decode cX10_choose 78 = .ok (.iconst 1, 1) := by decide +kernel
theorem dX10_choose_79 : decode cX10_choose 79 = .ok (.iload_n 2, 1) := by decide +kernel
theorem dX10_choose_80 : decode cX10_choose 80 = .ok (.invokevirtual 205, 3) := by decide +kernel
theorem dX10_choose_83 : decode cX10_choose 83 = .ok (.ireturn, 1) := by decide +kernel
set_option maxRecDepth 100000 in
set_option maxHeartbeats 4000000 in
theorem rt_X10_choose (l : Launch) (m0 : Nat) (ad : Nat → Nat) (K : RS) (u : Nat) (n : Nat) : Ct l yX10_choose cX10_choose 6 (some .int) 3 0 0 74 (fun S av => av = [.ref m0, .int (nI u), .int (nI n)] ∧ mdR S m0 ad K ∧ RV K ∧ (u < 12) ∧ (n < 12)) (fun S _ r S' => ∃ v : Option Nat, r = some (.int (oI v)) ∧ v = chooseF K u n ∧ (∀ k, v = some k → k ≤ rN K 8 u) ∧ S' = S) := by
  refine ct_of (by decide) (fun S av h => by obtain ⟨rfl, hk, rv, hu, hn⟩ := h; exact Nat.le_of_ble_eq_true rfl) ?_
  intro p e s m args below meth c D G bs S av C hr hin hpre
  obtain ⟨rfl, hk, rv, hu, hn⟩ := hpre
  obtain ⟨z1, z2⟩ := rv.p5 u hu
  refine v_aload_n C dX10_choose_0 rfl ?_
  refine v_iload_n C dX10_choose_1 rfl ?_
  refine v_iconst (v := nI 0) C dX10_choose_2 (by decide) ?_
  refine v_iload_n C dX10_choose_3 rfl ?_
  refine v_callV (As := [_, _, _]) (n := 3) C (rt_X10_offers l m0 ad _ _ _ _) rfl hk.1 (by decide) rfl ⟨wd593, wd594, wd595, wd5, wd596⟩ ⟨rfl, hy_X10_offers⟩ rfl ⟨Nat.le_of_ble_eq_true rfl, Nat.le_of_ble_eq_true rfl⟩ (Nat.le_of_ble_eq_true rfl) ⟨Nat.le_of_ble_eq_true rfl, Nat.le_of_ble_eq_true rfl⟩ dX10_choose_4 ⟨rfl, hk, rv, (by omega), (by omega), (by omega)⟩ (fun r_4 S2_4 h_4 => ?_)
  obtain ⟨v4, rfl, p_v4, b_v4, q_v4⟩ := h_4
  obtain rfl := q_v4.symm
  refine v_iconst (v := -1) C dX10_choose_7 (by decide) ?_
  refine o_icmp_eq (tgt := 13) C (fun k z => by have := b_v4 k z; omega) dX10_choose_8 (by decide) (fun c_8 => ?_) (fun k8 c_8 => ?_)
  · skip
    subst c_8
    refine v_aload_n C dX10_choose_13 rfl ?_
    refine q10_88 C hk dX10_choose_14 ?_
    refine v_bipush (v := nI 12) C dX10_choose_17 (by decide) ?_
    refine v_iload_n C dX10_choose_19 rfl ?_
    refine n_imul C dX10_choose_20 ?_
    refine v_iload_n C dX10_choose_21 rfl ?_
    refine n_iadd C dX10_choose_22 ?_
    refine n_iald C hk (show (27, 11, 144) ∈ mTab by decide +kernel) (by omega) dX10_choose_23 ?_
    refine v_istore_n C dX10_choose_24 (by decide) rfl ?_
    refine v_iload_n C dX10_choose_25 rfl ?_
    refine v_iconst (v := -1) C dX10_choose_26 (by decide) ?_
    refine v_icmp_ne (tgt := 34) C dX10_choose_27 (by decide) (fun c_27 => ?_) (fun c_27 => ?_)
    · skip
      refine v_aload_n C dX10_choose_34 rfl ?_
      refine v_iload_n C dX10_choose_35 rfl ?_
      refine v_iload_n C dX10_choose_36 rfl ?_
      refine v_callV (As := [_, _]) (n := 2) C (rt_X10_placeIn l m0 ad _ _ _) rfl hk.1 (by decide) rfl ⟨wd597, wd598, wd599, wd5, wd600⟩ ⟨rfl, hy_X10_placeIn⟩ rfl ⟨Nat.le_of_ble_eq_true rfl, Nat.le_of_ble_eq_true rfl⟩ (Nat.le_of_ble_eq_true rfl) ⟨Nat.le_of_ble_eq_true rfl, Nat.le_of_ble_eq_true rfl⟩ dX10_choose_37 ⟨rfl, hk, rv, (by omega)⟩ (fun r_37 S6_37 h_37 => ?_)
      obtain ⟨v37, rfl, p_v37, b_v37, q_v37⟩ := h_37
      obtain rfl := q_v37.symm
      refine v_istore C dX10_choose_40 (by decide) rfl ?_
      refine v_iload C dX10_choose_42 rfl ?_
      refine n_if_le (tgt := 76) C (by omega) dX10_choose_44 (by decide) (fun c_44 => ?_) (fun c_44 => ?_)
      · skip
        refine v_aload_n C dX10_choose_76 rfl ?_
        refine v_iload_n C dX10_choose_77 rfl ?_
        refine v_iconst (v := nI 1) C dX10_choose_78 (by decide) ?_
        refine v_iload_n C dX10_choose_79 rfl ?_
        refine v_callV (As := [_, _, _]) (n := 3) C (rt_X10_firstFrom l m0 ad _ _ _ _) rfl hk.1 (by decide) rfl ⟨wd601, wd602, wd603, wd5, wd604⟩ ⟨rfl, hy_X10_firstFrom⟩ rfl ⟨Nat.le_of_ble_eq_true rfl, Nat.le_of_ble_eq_true rfl⟩ (Nat.le_of_ble_eq_true rfl) ⟨Nat.le_of_ble_eq_true rfl, Nat.le_of_ble_eq_true rfl⟩ dX10_choose_80 ⟨rfl, hk, rv, (by omega), (by omega), (by omega)⟩ (fun r_80 S8_80 h_80 => ?_)
        obtain ⟨v80, rfl, p_v80, b_v80, q_v80⟩ := h_80
        obtain rfl := q_v80.symm
        refine v_iret C hr (Nat.le_of_ble_eq_true rfl) (Nat.le_of_ble_eq_true rfl) dX10_choose_83 ?_
        exact ⟨_, rfl, (by simp [chooseF, prefF, offP, ← p_v4, c_27, ← p_v37, c_44, ← p_v80]), (b_v80), rfl⟩
      · skip
        refine v_aload_n C dX10_choose_47 rfl ?_
        refine v_iload_n C dX10_choose_48 rfl ?_
        refine v_iload C dX10_choose_49 rfl ?_
        refine v_iload_n C dX10_choose_51 rfl ?_
        refine v_callV (As := [_, _, _]) (n := 3) C (rt_X10_offers l m0 ad _ _ _ _) rfl hk.1 (by decide) rfl ⟨wd593, wd594, wd595, wd5, wd596⟩ ⟨rfl, hy_X10_offers⟩ rfl ⟨Nat.le_of_ble_eq_true rfl, Nat.le_of_ble_eq_true rfl⟩ (Nat.le_of_ble_eq_true rfl) ⟨Nat.le_of_ble_eq_true rfl, Nat.le_of_ble_eq_true rfl⟩ dX10_choose_52 ⟨rfl, hk, rv, (by omega), (by omega), (by omega)⟩ (fun r_52 S8_52 h_52 => ?_)
        obtain ⟨v52, rfl, p_v52, b_v52, q_v52⟩ := h_52
        obtain rfl := q_v52.symm
        refine v_istore C dX10_choose_55 (by decide) rfl ?_
        refine v_iload C dX10_choose_57 rfl ?_
        refine v_iconst (v := -1) C dX10_choose_59 (by decide) ?_
        refine o_icmp_eq (tgt := 76) C (fun k z => by have := b_v52 k z; omega) dX10_choose_60 (by decide) (fun c_60 => ?_) (fun k60 c_60 => ?_)
        · skip
          subst c_60
          refine v_aload_n C dX10_choose_76 rfl ?_
          refine v_iload_n C dX10_choose_77 rfl ?_
          refine v_iconst (v := nI 1) C dX10_choose_78 (by decide) ?_
          refine v_iload_n C dX10_choose_79 rfl ?_
          refine v_callV (As := [_, _, _]) (n := 3) C (rt_X10_firstFrom l m0 ad _ _ _ _) rfl hk.1 (by decide) rfl ⟨wd601, wd602, wd603, wd5, wd604⟩ ⟨rfl, hy_X10_firstFrom⟩ rfl ⟨Nat.le_of_ble_eq_true rfl, Nat.le_of_ble_eq_true rfl⟩ (Nat.le_of_ble_eq_true rfl) ⟨Nat.le_of_ble_eq_true rfl, Nat.le_of_ble_eq_true rfl⟩ dX10_choose_80 ⟨rfl, hk, rv, (by omega), (by omega), (by omega)⟩ (fun r_80 S10_80 h_80 => ?_)
          obtain ⟨v80, rfl, p_v80, b_v80, q_v80⟩ := h_80
          obtain rfl := q_v80.symm
          refine v_iret C hr (Nat.le_of_ble_eq_true rfl) (Nat.le_of_ble_eq_true rfl) dX10_choose_83 ?_
          exact ⟨_, rfl, (by simp [chooseF, prefF, offP, ← p_v4, c_27, ← p_v37, c_44, ← p_v52, ← p_v80]), (b_v80), rfl⟩
        · skip
          have b_k60 := b_v52 k60 c_60
          subst c_60
          refine v_aload_n C dX10_choose_63 rfl ?_
          refine q10_39 C hk dX10_choose_64 ?_
          refine v_iload C dX10_choose_67 rfl ?_
          refine n_zald C hk (show (11, 13, 624) ∈ mTab by decide +kernel) (by omega) dX10_choose_69 ?_
          refine v_if_ne (tgt := 76) C dX10_choose_70 (by decide) (fun c_70 => ?_) (fun c_70 => ?_)
          · skip
            refine v_aload_n C dX10_choose_76 rfl ?_
            refine v_iload_n C dX10_choose_77 rfl ?_
            refine v_iconst (v := nI 1) C dX10_choose_78 (by decide) ?_
            refine v_iload_n C dX10_choose_79 rfl ?_
            refine v_callV (As := [_, _, _]) (n := 3) C (rt_X10_firstFrom l m0 ad _ _ _ _) rfl hk.1 (by decide) rfl ⟨wd601, wd602, wd603, wd5, wd604⟩ ⟨rfl, hy_X10_firstFrom⟩ rfl ⟨Nat.le_of_ble_eq_true rfl, Nat.le_of_ble_eq_true rfl⟩ (Nat.le_of_ble_eq_true rfl) ⟨Nat.le_of_ble_eq_true rfl, Nat.le_of_ble_eq_true rfl⟩ dX10_choose_80 ⟨rfl, hk, rv, (by omega), (by omega), (by omega)⟩ (fun r_80 S12_80 h_80 => ?_)
            obtain ⟨v80, rfl, p_v80, b_v80, q_v80⟩ := h_80
            obtain rfl := q_v80.symm
            refine v_iret C hr (Nat.le_of_ble_eq_true rfl) (Nat.le_of_ble_eq_true rfl) dX10_choose_83 ?_
            exact ⟨_, rfl, (by simp [chooseF, prefF, offP, ← p_v4, c_27, ← p_v37, c_44, ← p_v52, c_70, ← p_v80]), (b_v80), rfl⟩
          · skip
            refine v_iload C dX10_choose_73 rfl ?_
            refine v_iret C hr (Nat.le_of_ble_eq_true rfl) (Nat.le_of_ble_eq_true rfl) dX10_choose_75 ?_
            exact ⟨some _, rfl, (by simp [chooseF, prefF, offP, ← p_v4, c_27, ← p_v37, c_44, ← p_v52, c_70]), (fun k z => by cases z; omega), rfl⟩
    · skip
      refine v_iconst (v := nI 0) C dX10_choose_30 (by decide) ?_
      refine v_goto (tgt := 40) C dX10_choose_31 (by decide) ?_
      refine v_istore C dX10_choose_40 (by decide) rfl ?_
      refine v_iload C dX10_choose_42 rfl ?_
      refine n_if_le (tgt := 76) C (by omega) dX10_choose_44 (by decide) (fun c_44 => ?_) (fun c_44 => ?_)
      · skip
        refine v_aload_n C dX10_choose_76 rfl ?_
        refine v_iload_n C dX10_choose_77 rfl ?_
        refine v_iconst (v := nI 1) C dX10_choose_78 (by decide) ?_
        refine v_iload_n C dX10_choose_79 rfl ?_
        refine v_callV (As := [_, _, _]) (n := 3) C (rt_X10_firstFrom l m0 ad _ _ _ _) rfl hk.1 (by decide) rfl ⟨wd601, wd602, wd603, wd5, wd604⟩ ⟨rfl, hy_X10_firstFrom⟩ rfl ⟨Nat.le_of_ble_eq_true rfl, Nat.le_of_ble_eq_true rfl⟩ (Nat.le_of_ble_eq_true rfl) ⟨Nat.le_of_ble_eq_true rfl, Nat.le_of_ble_eq_true rfl⟩ dX10_choose_80 ⟨rfl, hk, rv, (by omega), (by omega), (by omega)⟩ (fun r_80 S8_80 h_80 => ?_)
        obtain ⟨v80, rfl, p_v80, b_v80, q_v80⟩ := h_80
        obtain rfl := q_v80.symm
        refine v_iret C hr (Nat.le_of_ble_eq_true rfl) (Nat.le_of_ble_eq_true rfl) dX10_choose_83 ?_
        exact ⟨_, rfl, (by simp [chooseF, prefF, offP, ← p_v4, c_27, c_44, ← p_v80]), (b_v80), rfl⟩
      · skip
        exact absurd c_44 (by decide)
  · skip
    have b_k8 := b_v4 k8 c_8
    subst c_8
    refine v_iconst (v := nI 0) C dX10_choose_11 (by decide) ?_
    refine v_iret C hr (Nat.le_of_ble_eq_true rfl) (Nat.le_of_ble_eq_true rfl) dX10_choose_12 ?_
    exact ⟨some _, rfl, (by simp [chooseF, prefF, offP, ← p_v4]), (fun k z => by cases z; omega), rfl⟩
