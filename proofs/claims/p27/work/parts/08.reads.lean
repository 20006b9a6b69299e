theorem bI_0 (x : Bool) : (bI x = 0) ↔ x = false := by cases x <;> simp [bI]
theorem isB_in {i b : Int32} {n : Nat} (h : ¬ bI (isB i b) = 0) (hb : b.toInt = n) : vp_in i n := vp_in_b (isB_t (bI_t h)) hb
/-- the trait at a number -/
def trAt (S : Mem) (ts : Nat) (i : Int32) : Option Nat := if isB i 20 = true then mP S ts i.toNatClampNeg else none
def fgAt (S : Mem) (fs : Nat) (i : Int32) : Option Nat := if isB i 12 = true then mP S fs i.toNatClampNeg else none
theorem trAt_0 {S : Mem} {ts : Nat} (h : ∀ i, mP S ts i = none) (i : Int32) : trAt S ts i = none := by unfold trAt; split <;> simp [h]
theorem fgAt_0 {S : Mem} {fs : Nat} (h : ∀ i, mP S fs i = none) (i : Int32) : fgAt S fs i = none := by unfold fgAt; split <;> simp [h]
theorem dX1_traitAt_0 : decode cX1_traitAt 0 = .ok (.iload_n 1, 1) := by decide +kernel
theorem dX1_traitAt_1 : decode cX1_traitAt 1 = .ok (.bipush 20, 2) := by decide +kernel
theorem dX1_traitAt_3 : decode cX1_traitAt 3 = .ok (.invokestatic 37, 3) := by decide +kernel
theorem dX1_traitAt_6 : decode cX1_traitAt 6 = .ok (.ifCond .eq 12, 3) := by decide +kernel
theorem dX1_traitAt_9 : decode cX1_traitAt 9 = .ok (.aload_n 0, 1) := by decide +kernel
theorem dX1_traitAt_10 : decode cX1_traitAt 10 = .ok (.getfield 11, 3) := by decide +kernel
theorem dX1_traitAt_13 : decode cX1_traitAt 13 = .ok (.iload_n 1, 1) := by decide +kernel
theorem dX1_traitAt_14 : decode cX1_traitAt 14 = .ok (.aaload, 1) := by decide +kernel
theorem dX1_traitAt_15 : decode cX1_traitAt 15 = .ok (.goto 4, 3) := by decide +kernel
theorem dX1_traitAt_18 : decode cX1_traitAt 18 = .ok (.aconst_null, 1) := by decide +kernel
theorem dX1_traitAt_19 : decode cX1_traitAt 19 = .ok (.areturn, 1) := by decide +kernel
set_option maxRecDepth 100000 in
set_option maxHeartbeats 4000000 in
theorem ct_X1_traitAt (l : Launch) (co ts : Nat) (i : Int32) : Ct l yX1_traitAt cX1_traitAt 2 (some (.object "PuppetCast$Trait")) 1 0 0 21 (fun S av => av = [.ref co, .int i] ∧ is S co 1 ∧ mO S 64 co = some ts ∧ isA S ts 17 20) (fun S _ r S' => r = some (va_rf (trAt S ts i)) ∧ S' = S) := by
  refine ct_of (by decide) (fun S av h => by obtain ⟨rfl, i_co, e_a, i_a⟩ := h; exact Nat.le_of_ble_eq_true rfl) ?_
  intro p e s m args below meth c D G bs S av C hr hin hpre
  obtain ⟨rfl, i_co, e_a, i_a⟩ := hpre
  refine v_iload_n C dX1_traitAt_0 rfl ?_
  refine v_bipush (v := 20) C dX1_traitAt_1 (by decide) ?_
  refine v_callSN (As := [_, _]) (n := 2) C (ct_X9_isBelow l _ _) rfl ⟨(by decide +kernel), wd141, wd2, wd142⟩ hy_X9_isBelow rfl ⟨Nat.le_of_ble_eq_true rfl, Nat.le_of_ble_eq_true rfl⟩ (Nat.le_of_ble_eq_true rfl) ⟨Nat.le_of_ble_eq_true rfl, Nat.le_of_ble_eq_true rfl⟩ dX1_traitAt_3 rfl (fun r_3 S_3 h_3 => ?_)
  obtain ⟨rfl, q_3⟩ := h_3
  obtain rfl := q_3.symm
  refine v_if_eq (tgt := 18) C dX1_traitAt_6 (by decide) (fun c_6 => ?_) (fun c_6 => ?_)
  · skip
    refine v_null C dX1_traitAt_18 ?_
    refine v_aret C hr (Nat.le_of_ble_eq_true rfl) (Nat.le_of_ble_eq_true rfl) dX1_traitAt_19 ?_
    refine ⟨?_, rfl⟩
    first
      | (rw [show trAt S ts i = none from by unfold trAt; rw [if_neg (by rw [bI_f c_6]; decide)]])
      | (rw [show trAt S ts i = mP S ts i.toNatClampNeg from by unfold trAt; rw [if_pos (bI_t c_6)]])
  · skip
    refine v_aload_n C dX1_traitAt_9 rfl ?_
    refine r1_11 (b := ts) C i_co e_a dX1_traitAt_10 ?_
    refine v_iload_n C dX1_traitAt_13 rfl ?_
    refine v_aald (t0 := 6) C i_a (by decide) rfl (isB_in c_6 rfl) dX1_traitAt_14 ?_
    refine v_goto (tgt := 19) C dX1_traitAt_15 (by decide) ?_
    refine v_aret C hr (Nat.le_of_ble_eq_true rfl) (Nat.le_of_ble_eq_true rfl) dX1_traitAt_19 ?_
    refine ⟨?_, rfl⟩
    first
      | (rw [show trAt S ts i = none from by unfold trAt; rw [if_neg (by rw [bI_f c_6]; decide)]])
      | (rw [show trAt S ts i = mP S ts i.toNatClampNeg from by unfold trAt; rw [if_pos (bI_t c_6)]])

theorem dX1_figureAt_0 : decode cX1_figureAt 0 = .ok (.iload_n 1, 1) := by decide +kernel
theorem dX1_figureAt_1 : decode cX1_figureAt 1 = .ok (.bipush 12, 2) := by decide +kernel
theorem dX1_figureAt_3 : decode cX1_figureAt 3 = .ok (.invokestatic 37, 3) := by decide +kernel
theorem dX1_figureAt_6 : decode cX1_figureAt 6 = .ok (.ifCond .eq 12, 3) := by decide +kernel
theorem dX1_figureAt_9 : decode cX1_figureAt 9 = .ok (.aload_n 0, 1) := by decide +kernel
theorem dX1_figureAt_10 : decode cX1_figureAt 10 = .ok (.getfield 19, 3) := by decide +kernel
theorem dX1_figureAt_13 : decode cX1_figureAt 13 = .ok (.iload_n 1, 1) := by decide +kernel
theorem dX1_figureAt_14 : decode cX1_figureAt 14 = .ok (.aaload, 1) := by decide +kernel
theorem dX1_figureAt_15 : decode cX1_figureAt 15 = .ok (.goto 4, 3) := by decide +kernel
theorem dX1_figureAt_18 : decode cX1_figureAt 18 = .ok (.aconst_null, 1) := by decide +kernel
theorem dX1_figureAt_19 : decode cX1_figureAt 19 = .ok (.areturn, 1) := by decide +kernel
set_option maxRecDepth 100000 in
set_option maxHeartbeats 4000000 in
theorem ct_X1_figureAt (l : Launch) (co fs : Nat) (i : Int32) : Ct l yX1_figureAt cX1_figureAt 2 (some (.object "PuppetCast$Figure")) 1 0 0 21 (fun S av => av = [.ref co, .int i] ∧ is S co 1 ∧ mO S 66 co = some fs ∧ isA S fs 14 12) (fun S _ r S' => r = some (va_rf (fgAt S fs i)) ∧ S' = S) := by
  refine ct_of (by decide) (fun S av h => by obtain ⟨rfl, i_co, e_a, i_a⟩ := h; exact Nat.le_of_ble_eq_true rfl) ?_
  intro p e s m args below meth c D G bs S av C hr hin hpre
  obtain ⟨rfl, i_co, e_a, i_a⟩ := hpre
  refine v_iload_n C dX1_figureAt_0 rfl ?_
  refine v_bipush (v := 12) C dX1_figureAt_1 (by decide) ?_
  refine v_callSN (As := [_, _]) (n := 2) C (ct_X9_isBelow l _ _) rfl ⟨(by decide +kernel), wd141, wd2, wd142⟩ hy_X9_isBelow rfl ⟨Nat.le_of_ble_eq_true rfl, Nat.le_of_ble_eq_true rfl⟩ (Nat.le_of_ble_eq_true rfl) ⟨Nat.le_of_ble_eq_true rfl, Nat.le_of_ble_eq_true rfl⟩ dX1_figureAt_3 rfl (fun r_3 S_3 h_3 => ?_)
  obtain ⟨rfl, q_3⟩ := h_3
  obtain rfl := q_3.symm
  refine v_if_eq (tgt := 18) C dX1_figureAt_6 (by decide) (fun c_6 => ?_) (fun c_6 => ?_)
  · skip
    refine v_null C dX1_figureAt_18 ?_
    refine v_aret C hr (Nat.le_of_ble_eq_true rfl) (Nat.le_of_ble_eq_true rfl) dX1_figureAt_19 ?_
    refine ⟨?_, rfl⟩
    first
      | (rw [show fgAt S fs i = none from by unfold fgAt; rw [if_neg (by rw [bI_f c_6]; decide)]])
      | (rw [show fgAt S fs i = mP S fs i.toNatClampNeg from by unfold fgAt; rw [if_pos (bI_t c_6)]])
  · skip
    refine v_aload_n C dX1_figureAt_9 rfl ?_
    refine r1_19 (b := fs) C i_co e_a dX1_figureAt_10 ?_
    refine v_iload_n C dX1_figureAt_13 rfl ?_
    refine v_aald (t0 := 3) C i_a (by decide) rfl (isB_in c_6 rfl) dX1_figureAt_14 ?_
    refine v_goto (tgt := 19) C dX1_figureAt_15 (by decide) ?_
    refine v_aret C hr (Nat.le_of_ble_eq_true rfl) (Nat.le_of_ble_eq_true rfl) dX1_figureAt_19 ?_
    refine ⟨?_, rfl⟩
    first
      | (rw [show fgAt S fs i = none from by unfold fgAt; rw [if_neg (by rw [bI_f c_6]; decide)]])
      | (rw [show fgAt S fs i = mP S fs i.toNatClampNeg from by unfold fgAt; rw [if_pos (bI_t c_6)]])

theorem dX9_isAct_0 : decode cX9_isAct 0 = .ok (.iload_n 0, 1) := by decide +kernel
theorem dX9_isAct_1 : decode cX9_isAct 1 = .ok (.bipush 12, 2) := by decide +kernel
theorem dX9_isAct_3 : decode cX9_isAct 3 = .ok (.invokestatic 44, 3) := by decide +kernel
theorem dX9_isAct_6 : decode cX9_isAct 6 = .ok (.ireturn, 1) := by decide +kernel
set_option maxRecDepth 100000 in
set_option maxHeartbeats 4000000 in
theorem ct_X9_isAct (l : Launch) (a : Int32) : Ct l yX9_isAct cX9_isAct 1 (some .boolean) 1 0 0 21 (fun _ av => av = [.int a]) (fun S _ r S' => r = some (.int (bI (isB a 12))) ∧ S' = S) := by
  refine ct_of (by decide) (fun S av h => by obtain rfl := h; exact Nat.le_of_ble_eq_true rfl) ?_
  intro p e s m args below meth c D G bs S av C hr hin hpre
  obtain rfl := hpre
  refine v_iload_n C dX9_isAct_0 rfl ?_
  refine v_bipush (v := 12) C dX9_isAct_1 (by decide) ?_
  refine v_callS (As := [_, _]) (n := 2) C (ct_X9_isBelow l _ _) rfl ⟨wd264, wd141, wd2, wd142⟩ hy_X9_isBelow rfl ⟨Nat.le_of_ble_eq_true rfl, Nat.le_of_ble_eq_true rfl⟩ (Nat.le_of_ble_eq_true rfl) ⟨Nat.le_of_ble_eq_true rfl, Nat.le_of_ble_eq_true rfl⟩ dX9_isAct_3 rfl (fun r_3 S_3 h_3 => ?_)
  obtain ⟨rfl, q_3⟩ := h_3
  obtain rfl := q_3.symm
  refine v_zret C hr (by cases (isB a 12) <;> rfl) (Nat.le_of_ble_eq_true rfl) (Nat.le_of_ble_eq_true rfl) dX9_isAct_6 ?_
  exact ⟨rfl, rfl⟩

