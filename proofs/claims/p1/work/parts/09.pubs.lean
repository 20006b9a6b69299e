theorem dX9_body_0 : decode cX9_body 0 = .ok (.aload_n 0, 1) := by decide +kernel
theorem dX9_body_1 : decode cX9_body 1 = .ok (.getfield 10, 3) := by decide +kernel
theorem dX9_body_4 : decode cX9_body 4 = .ok (.iload_n 1, 1) := by decide +kernel
theorem dX9_body_5 : decode cX9_body 5 = .ok (.invokevirtual 59, 3) := by decide +kernel
theorem dX9_body_8 : decode cX9_body 8 = .ok (.astore 5, 2) := by decide +kernel
theorem dX9_body_10 : decode cX9_body 10 = .ok (.aload 5, 2) := by decide +kernel
theorem dX9_body_12 : decode cX9_body 12 = .ok (.ifnull 27, 3) := by decide +kernel
theorem dX9_body_39 : decode cX9_body 39 = .ok (.bipush (-2), 2) := by decide +kernel
theorem dX9_body_41 : decode cX9_body 41 = .ok (.ireturn, 1) := by decide +kernel
set_option maxRecDepth 100000 in
set_option maxHeartbeats 4000000 in
theorem ct_X9_body (l : Launch) (h co ts fs mg ch rw ft gl gr gq ml mr mq sg tp cs : Nat) (a0 : Int32) (a1 : Int32) (a2 : Int32) (a3 : Int32) : Ct l yX9_body cX9_body 6 (some .int) 2 0 0 42 (fun S av => av = [.ref h, .int a0, .int a1, .int a2, .int a3] ∧ pcAt S h co ts fs mg ch rw ft gl gr gq ml mr mq sg tp cs ∧ pcNew S h co ts fs sg tp) (fun S _ r S' => r = some (.int (-2)) ∧ S' = S) := by
  refine ct_of (by decide) (fun S av h => by obtain ⟨rfl, ⟨hh, e_co, ⟨i_co, e_ts, i_ts, e_fs, i_fs, e_mg, k_mg, e_ch, i_ch⟩, e_sg, ⟨i_sg, e_sgco, e_tp, i_tp, e_cs, i_cs⟩⟩, ⟨n_lat, n_tc, n_fc, n_ts, n_fs, n_sg, n_out, n_tps⟩⟩ := h; exact Nat.le_of_ble_eq_true rfl) ?_
  intro p e s m args below meth c D G bs S av C hr hin hpre
  obtain ⟨rfl, ⟨hh, e_co, ⟨i_co, e_ts, i_ts, e_fs, i_fs, e_mg, k_mg, e_ch, i_ch⟩, e_sg, ⟨i_sg, e_sgco, e_tp, i_tp, e_cs, i_cs⟩⟩, ⟨n_lat, n_tc, n_fc, n_ts, n_fs, n_sg, n_out, n_tps⟩⟩ := hpre
  refine v_aload_n C dX9_body_0 rfl ?_
  refine r9_10 (b := co) C hh e_co dX9_body_1 ?_
  refine v_iload_n C dX9_body_4 rfl ?_
  refine v_callV (As := [_]) (n := 1) C (ct_X1_traitAt l co ts _) rfl i_co (by decide) rfl ⟨wd304, wd138, wd139, wd15, wd140⟩ ⟨rfl, hy_X1_traitAt⟩ rfl ⟨Nat.le_of_ble_eq_true rfl, Nat.le_of_ble_eq_true rfl⟩ (Nat.le_of_ble_eq_true rfl) ⟨Nat.le_of_ble_eq_true rfl, Nat.le_of_ble_eq_true rfl⟩ dX9_body_5 ⟨rfl, i_co, e_ts, i_ts⟩ (fun r_5 S_5 h_5 => ?_)
  obtain ⟨rfl, q_5⟩ := h_5
  obtain rfl := q_5.symm
  rw [trAt_0 n_ts]
  refine v_qstore C dX9_body_8 (by decide) rfl ?_
  refine v_qload C dX9_body_10 rfl ?_
  refine v_ifnull (tgt := 39) C dX9_body_12 (by decide) (fun c_12 => ?_) (fun b_12 c_12 => ?_)
  · skip
    refine v_bipush (v := -2) C dX9_body_39 (by decide) ?_
    refine v_iret C hr (Nat.le_of_ble_eq_true rfl) (Nat.le_of_ble_eq_true rfl) dX9_body_41 ?_
    exact ⟨rfl, rfl⟩
  · skip
    cases c_12

theorem dX9_need_0 : decode cX9_need 0 = .ok (.aload_n 0, 1) := by decide +kernel
theorem dX9_need_1 : decode cX9_need 1 = .ok (.getfield 10, 3) := by decide +kernel
theorem dX9_need_4 : decode cX9_need 4 = .ok (.iload_n 1, 1) := by decide +kernel
theorem dX9_need_5 : decode cX9_need 5 = .ok (.invokevirtual 59, 3) := by decide +kernel
theorem dX9_need_8 : decode cX9_need 8 = .ok (.astore 4, 2) := by decide +kernel
theorem dX9_need_10 : decode cX9_need 10 = .ok (.aload 4, 2) := by decide +kernel
theorem dX9_need_12 : decode cX9_need 12 = .ok (.ifnull 18, 3) := by decide +kernel
theorem dX9_need_30 : decode cX9_need 30 = .ok (.bipush (-2), 2) := by decide +kernel
theorem dX9_need_32 : decode cX9_need 32 = .ok (.ireturn, 1) := by decide +kernel
set_option maxRecDepth 100000 in
set_option maxHeartbeats 4000000 in
theorem ct_X9_need (l : Launch) (h co ts fs mg ch rw ft gl gr gq ml mr mq sg tp cs : Nat) (a0 : Int32) (a1 : Int32) (a2 : Int32) : Ct l yX9_need cX9_need 5 (some .int) 2 0 0 42 (fun S av => av = [.ref h, .int a0, .int a1, .int a2] ∧ pcAt S h co ts fs mg ch rw ft gl gr gq ml mr mq sg tp cs ∧ pcNew S h co ts fs sg tp) (fun S _ r S' => r = some (.int (-2)) ∧ S' = S) := by
  refine ct_of (by decide) (fun S av h => by obtain ⟨rfl, ⟨hh, e_co, ⟨i_co, e_ts, i_ts, e_fs, i_fs, e_mg, k_mg, e_ch, i_ch⟩, e_sg, ⟨i_sg, e_sgco, e_tp, i_tp, e_cs, i_cs⟩⟩, ⟨n_lat, n_tc, n_fc, n_ts, n_fs, n_sg, n_out, n_tps⟩⟩ := h; exact Nat.le_of_ble_eq_true rfl) ?_
  intro p e s m args below meth c D G bs S av C hr hin hpre
  obtain ⟨rfl, ⟨hh, e_co, ⟨i_co, e_ts, i_ts, e_fs, i_fs, e_mg, k_mg, e_ch, i_ch⟩, e_sg, ⟨i_sg, e_sgco, e_tp, i_tp, e_cs, i_cs⟩⟩, ⟨n_lat, n_tc, n_fc, n_ts, n_fs, n_sg, n_out, n_tps⟩⟩ := hpre
  refine v_aload_n C dX9_need_0 rfl ?_
  refine r9_10 (b := co) C hh e_co dX9_need_1 ?_
  refine v_iload_n C dX9_need_4 rfl ?_
  refine v_callV (As := [_]) (n := 1) C (ct_X1_traitAt l co ts _) rfl i_co (by decide) rfl ⟨wd304, wd138, wd139, wd15, wd140⟩ ⟨rfl, hy_X1_traitAt⟩ rfl ⟨Nat.le_of_ble_eq_true rfl, Nat.le_of_ble_eq_true rfl⟩ (Nat.le_of_ble_eq_true rfl) ⟨Nat.le_of_ble_eq_true rfl, Nat.le_of_ble_eq_true rfl⟩ dX9_need_5 ⟨rfl, i_co, e_ts, i_ts⟩ (fun r_5 S_5 h_5 => ?_)
  obtain ⟨rfl, q_5⟩ := h_5
  obtain rfl := q_5.symm
  rw [trAt_0 n_ts]
  refine v_qstore C dX9_need_8 (by decide) rfl ?_
  refine v_qload C dX9_need_10 rfl ?_
  refine v_ifnull (tgt := 30) C dX9_need_12 (by decide) (fun c_12 => ?_) (fun b_12 c_12 => ?_)
  · skip
    refine v_bipush (v := -2) C dX9_need_30 (by decide) ?_
    refine v_iret C hr (Nat.le_of_ble_eq_true rfl) (Nat.le_of_ble_eq_true rfl) dX9_need_32 ?_
    exact ⟨rfl, rfl⟩
  · skip
    cases c_12

theorem dX9_guard_0 : decode cX9_guard 0 = .ok (.aload_n 0, 1) := by decide +kernel
theorem dX9_guard_1 : decode cX9_guard 1 = .ok (.getfield 10, 3) := by decide +kernel
theorem dX9_guard_4 : decode cX9_guard 4 = .ok (.iload_n 1, 1) := by decide +kernel
theorem dX9_guard_5 : decode cX9_guard 5 = .ok (.invokevirtual 59, 3) := by decide +kernel
theorem dX9_guard_8 : decode cX9_guard 8 = .ok (.astore 4, 2) := by decide +kernel
theorem dX9_guard_10 : decode cX9_guard 10 = .ok (.aload 4, 2) := by decide +kernel
theorem dX9_guard_12 : decode cX9_guard 12 = .ok (.ifnull 18, 3) := by decide +kernel
theorem dX9_guard_30 : decode cX9_guard 30 = .ok (.bipush (-2), 2) := by decide +kernel
theorem dX9_guard_32 : decode cX9_guard 32 = .ok (.ireturn, 1) := by decide +kernel
set_option maxRecDepth 100000 in
set_option maxHeartbeats 4000000 in
theorem ct_X9_guard (l : Launch) (h co ts fs mg ch rw ft gl gr gq ml mr mq sg tp cs : Nat) (a0 : Int32) (a1 : Int32) (a2 : Int32) : Ct l yX9_guard cX9_guard 5 (some .int) 2 0 0 42 (fun S av => av = [.ref h, .int a0, .int a1, .int a2] ∧ pcAt S h co ts fs mg ch rw ft gl gr gq ml mr mq sg tp cs ∧ pcNew S h co ts fs sg tp) (fun S _ r S' => r = some (.int (-2)) ∧ S' = S) := by
  refine ct_of (by decide) (fun S av h => by obtain ⟨rfl, ⟨hh, e_co, ⟨i_co, e_ts, i_ts, e_fs, i_fs, e_mg, k_mg, e_ch, i_ch⟩, e_sg, ⟨i_sg, e_sgco, e_tp, i_tp, e_cs, i_cs⟩⟩, ⟨n_lat, n_tc, n_fc, n_ts, n_fs, n_sg, n_out, n_tps⟩⟩ := h; exact Nat.le_of_ble_eq_true rfl) ?_
  intro p e s m args below meth c D G bs S av C hr hin hpre
  obtain ⟨rfl, ⟨hh, e_co, ⟨i_co, e_ts, i_ts, e_fs, i_fs, e_mg, k_mg, e_ch, i_ch⟩, e_sg, ⟨i_sg, e_sgco, e_tp, i_tp, e_cs, i_cs⟩⟩, ⟨n_lat, n_tc, n_fc, n_ts, n_fs, n_sg, n_out, n_tps⟩⟩ := hpre
  refine v_aload_n C dX9_guard_0 rfl ?_
  refine r9_10 (b := co) C hh e_co dX9_guard_1 ?_
  refine v_iload_n C dX9_guard_4 rfl ?_
  refine v_callV (As := [_]) (n := 1) C (ct_X1_traitAt l co ts _) rfl i_co (by decide) rfl ⟨wd304, wd138, wd139, wd15, wd140⟩ ⟨rfl, hy_X1_traitAt⟩ rfl ⟨Nat.le_of_ble_eq_true rfl, Nat.le_of_ble_eq_true rfl⟩ (Nat.le_of_ble_eq_true rfl) ⟨Nat.le_of_ble_eq_true rfl, Nat.le_of_ble_eq_true rfl⟩ dX9_guard_5 ⟨rfl, i_co, e_ts, i_ts⟩ (fun r_5 S_5 h_5 => ?_)
  obtain ⟨rfl, q_5⟩ := h_5
  obtain rfl := q_5.symm
  rw [trAt_0 n_ts]
  refine v_qstore C dX9_guard_8 (by decide) rfl ?_
  refine v_qload C dX9_guard_10 rfl ?_
  refine v_ifnull (tgt := 30) C dX9_guard_12 (by decide) (fun c_12 => ?_) (fun b_12 c_12 => ?_)
  · skip
    refine v_bipush (v := -2) C dX9_guard_30 (by decide) ?_
    refine v_iret C hr (Nat.le_of_ble_eq_true rfl) (Nat.le_of_ble_eq_true rfl) dX9_guard_32 ?_
    exact ⟨rfl, rfl⟩
  · skip
    cases c_12

theorem dX9_own_0 : decode cX9_own 0 = .ok (.aload_n 0, 1) := by decide +kernel
theorem dX9_own_1 : decode cX9_own 1 = .ok (.getfield 10, 3) := by decide +kernel
theorem dX9_own_4 : decode cX9_own 4 = .ok (.iload_n 1, 1) := by decide +kernel
theorem dX9_own_5 : decode cX9_own 5 = .ok (.invokevirtual 55, 3) := by decide +kernel
theorem dX9_own_8 : decode cX9_own 8 = .ok (.astore 5, 2) := by decide +kernel
theorem dX9_own_10 : decode cX9_own 10 = .ok (.aload 5, 2) := by decide +kernel
theorem dX9_own_12 : decode cX9_own 12 = .ok (.ifnull 27, 3) := by decide +kernel
theorem dX9_own_39 : decode cX9_own 39 = .ok (.bipush (-2), 2) := by decide +kernel
theorem dX9_own_41 : decode cX9_own 41 = .ok (.ireturn, 1) := by decide +kernel
set_option maxRecDepth 100000 in
set_option maxHeartbeats 4000000 in
theorem ct_X9_own (l : Launch) (h co ts fs mg ch rw ft gl gr gq ml mr mq sg tp cs : Nat) (a0 : Int32) (a1 : Int32) (a2 : Int32) (a3 : Int32) : Ct l yX9_own cX9_own 6 (some .int) 2 0 0 42 (fun S av => av = [.ref h, .int a0, .int a1, .int a2, .int a3] ∧ pcAt S h co ts fs mg ch rw ft gl gr gq ml mr mq sg tp cs ∧ pcNew S h co ts fs sg tp) (fun S _ r S' => r = some (.int (-2)) ∧ S' = S) := by
  refine ct_of (by decide) (fun S av h => by obtain ⟨rfl, ⟨hh, e_co, ⟨i_co, e_ts, i_ts, e_fs, i_fs, e_mg, k_mg, e_ch, i_ch⟩, e_sg, ⟨i_sg, e_sgco, e_tp, i_tp, e_cs, i_cs⟩⟩, ⟨n_lat, n_tc, n_fc, n_ts, n_fs, n_sg, n_out, n_tps⟩⟩ := h; exact Nat.le_of_ble_eq_true rfl) ?_
  intro p e s m args below meth c D G bs S av C hr hin hpre
  obtain ⟨rfl, ⟨hh, e_co, ⟨i_co, e_ts, i_ts, e_fs, i_fs, e_mg, k_mg, e_ch, i_ch⟩, e_sg, ⟨i_sg, e_sgco, e_tp, i_tp, e_cs, i_cs⟩⟩, ⟨n_lat, n_tc, n_fc, n_ts, n_fs, n_sg, n_out, n_tps⟩⟩ := hpre
  refine v_aload_n C dX9_own_0 rfl ?_
  refine r9_10 (b := co) C hh e_co dX9_own_1 ?_
  refine v_iload_n C dX9_own_4 rfl ?_
  refine v_callV (As := [_]) (n := 1) C (ct_X1_figureAt l co fs _) rfl i_co (by decide) rfl ⟨wd300, wd301, wd302, wd15, wd303⟩ ⟨rfl, hy_X1_figureAt⟩ rfl ⟨Nat.le_of_ble_eq_true rfl, Nat.le_of_ble_eq_true rfl⟩ (Nat.le_of_ble_eq_true rfl) ⟨Nat.le_of_ble_eq_true rfl, Nat.le_of_ble_eq_true rfl⟩ dX9_own_5 ⟨rfl, i_co, e_fs, i_fs⟩ (fun r_5 S_5 h_5 => ?_)
  obtain ⟨rfl, q_5⟩ := h_5
  obtain rfl := q_5.symm
  rw [fgAt_0 n_fs]
  refine v_qstore C dX9_own_8 (by decide) rfl ?_
  refine v_qload C dX9_own_10 rfl ?_
  refine v_ifnull (tgt := 39) C dX9_own_12 (by decide) (fun c_12 => ?_) (fun b_12 c_12 => ?_)
  · skip
    refine v_bipush (v := -2) C dX9_own_39 (by decide) ?_
    refine v_iret C hr (Nat.le_of_ble_eq_true rfl) (Nat.le_of_ble_eq_true rfl) dX9_own_41 ?_
    exact ⟨rfl, rfl⟩
  · skip
    cases c_12

theorem dX9_leave_0 : decode cX9_leave 0 = .ok (.aload_n 0, 1) := by decide +kernel
theorem dX9_leave_1 : decode cX9_leave 1 = .ok (.getfield 10, 3) := by decide +kernel
theorem dX9_leave_4 : decode cX9_leave 4 = .ok (.iload_n 1, 1) := by decide +kernel
theorem dX9_leave_5 : decode cX9_leave 5 = .ok (.invokevirtual 55, 3) := by decide +kernel
theorem dX9_leave_8 : decode cX9_leave 8 = .ok (.astore 4, 2) := by decide +kernel
theorem dX9_leave_10 : decode cX9_leave 10 = .ok (.aload 4, 2) := by decide +kernel
theorem dX9_leave_12 : decode cX9_leave 12 = .ok (.ifnull 21, 3) := by decide +kernel
theorem dX9_leave_33 : decode cX9_leave 33 = .ok (.bipush (-2), 2) := by decide +kernel
theorem dX9_leave_35 : decode cX9_leave 35 = .ok (.ireturn, 1) := by decide +kernel
set_option maxRecDepth 100000 in
set_option maxHeartbeats 4000000 in
theorem ct_X9_leave (l : Launch) (h co ts fs mg ch rw ft gl gr gq ml mr mq sg tp cs : Nat) (a0 : Int32) (a1 : Int32) (a2 : Int32) : Ct l yX9_leave cX9_leave 5 (some .int) 2 0 0 42 (fun S av => av = [.ref h, .int a0, .int a1, .int a2] ∧ pcAt S h co ts fs mg ch rw ft gl gr gq ml mr mq sg tp cs ∧ pcNew S h co ts fs sg tp) (fun S _ r S' => r = some (.int (-2)) ∧ S' = S) := by
  refine ct_of (by decide) (fun S av h => by obtain ⟨rfl, ⟨hh, e_co, ⟨i_co, e_ts, i_ts, e_fs, i_fs, e_mg, k_mg, e_ch, i_ch⟩, e_sg, ⟨i_sg, e_sgco, e_tp, i_tp, e_cs, i_cs⟩⟩, ⟨n_lat, n_tc, n_fc, n_ts, n_fs, n_sg, n_out, n_tps⟩⟩ := h; exact Nat.le_of_ble_eq_true rfl) ?_
  intro p e s m args below meth c D G bs S av C hr hin hpre
  obtain ⟨rfl, ⟨hh, e_co, ⟨i_co, e_ts, i_ts, e_fs, i_fs, e_mg, k_mg, e_ch, i_ch⟩, e_sg, ⟨i_sg, e_sgco, e_tp, i_tp, e_cs, i_cs⟩⟩, ⟨n_lat, n_tc, n_fc, n_ts, n_fs, n_sg, n_out, n_tps⟩⟩ := hpre
  refine v_aload_n C dX9_leave_0 rfl ?_
  refine r9_10 (b := co) C hh e_co dX9_leave_1 ?_
  refine v_iload_n C dX9_leave_4 rfl ?_
  refine v_callV (As := [_]) (n := 1) C (ct_X1_figureAt l co fs _) rfl i_co (by decide) rfl ⟨wd300, wd301, wd302, wd15, wd303⟩ ⟨rfl, hy_X1_figureAt⟩ rfl ⟨Nat.le_of_ble_eq_true rfl, Nat.le_of_ble_eq_true rfl⟩ (Nat.le_of_ble_eq_true rfl) ⟨Nat.le_of_ble_eq_true rfl, Nat.le_of_ble_eq_true rfl⟩ dX9_leave_5 ⟨rfl, i_co, e_fs, i_fs⟩ (fun r_5 S_5 h_5 => ?_)
  obtain ⟨rfl, q_5⟩ := h_5
  obtain rfl := q_5.symm
  rw [fgAt_0 n_fs]
  refine v_qstore C dX9_leave_8 (by decide) rfl ?_
  refine v_qload C dX9_leave_10 rfl ?_
  refine v_ifnull (tgt := 33) C dX9_leave_12 (by decide) (fun c_12 => ?_) (fun b_12 c_12 => ?_)
  · skip
    refine v_bipush (v := -2) C dX9_leave_33 (by decide) ?_
    refine v_iret C hr (Nat.le_of_ble_eq_true rfl) (Nat.le_of_ble_eq_true rfl) dX9_leave_35 ?_
    exact ⟨rfl, rfl⟩
  · skip
    cases c_12

theorem dX9_rename_0 : decode cX9_rename 0 = .ok (.aload_n 0, 1) := by decide +kernel
theorem dX9_rename_1 : decode cX9_rename 1 = .ok (.getfield 10, 3) := by decide +kernel
theorem dX9_rename_4 : decode cX9_rename 4 = .ok (.iload_n 1, 1) := by decide +kernel
theorem dX9_rename_5 : decode cX9_rename 5 = .ok (.invokevirtual 55, 3) := by decide +kernel
theorem dX9_rename_8 : decode cX9_rename 8 = .ok (.astore 5, 2) := by decide +kernel
theorem dX9_rename_10 : decode cX9_rename 10 = .ok (.aload 5, 2) := by decide +kernel
theorem dX9_rename_12 : decode cX9_rename 12 = .ok (.ifnull 35, 3) := by decide +kernel
theorem dX9_rename_47 : decode cX9_rename 47 = .ok (.bipush (-2), 2) := by decide +kernel
theorem dX9_rename_49 : decode cX9_rename 49 = .ok (.ireturn, 1) := by decide +kernel
set_option maxRecDepth 100000 in
set_option maxHeartbeats 4000000 in
theorem ct_X9_rename (l : Launch) (h co ts fs mg ch rw ft gl gr gq ml mr mq sg tp cs : Nat) (a0 : Int32) (a1 : Int32) (a2 : Int32) (a3 : Int32) : Ct l yX9_rename cX9_rename 6 (some .int) 2 0 0 42 (fun S av => av = [.ref h, .int a0, .int a1, .int a2, .int a3] ∧ pcAt S h co ts fs mg ch rw ft gl gr gq ml mr mq sg tp cs ∧ pcNew S h co ts fs sg tp) (fun S _ r S' => r = some (.int (-2)) ∧ S' = S) := by
  refine ct_of (by decide) (fun S av h => by obtain ⟨rfl, ⟨hh, e_co, ⟨i_co, e_ts, i_ts, e_fs, i_fs, e_mg, k_mg, e_ch, i_ch⟩, e_sg, ⟨i_sg, e_sgco, e_tp, i_tp, e_cs, i_cs⟩⟩, ⟨n_lat, n_tc, n_fc, n_ts, n_fs, n_sg, n_out, n_tps⟩⟩ := h; exact Nat.le_of_ble_eq_true rfl) ?_
  intro p e s m args below meth c D G bs S av C hr hin hpre
  obtain ⟨rfl, ⟨hh, e_co, ⟨i_co, e_ts, i_ts, e_fs, i_fs, e_mg, k_mg, e_ch, i_ch⟩, e_sg, ⟨i_sg, e_sgco, e_tp, i_tp, e_cs, i_cs⟩⟩, ⟨n_lat, n_tc, n_fc, n_ts, n_fs, n_sg, n_out, n_tps⟩⟩ := hpre
  refine v_aload_n C dX9_rename_0 rfl ?_
  refine r9_10 (b := co) C hh e_co dX9_rename_1 ?_
  refine v_iload_n C dX9_rename_4 rfl ?_
  refine v_callV (As := [_]) (n := 1) C (ct_X1_figureAt l co fs _) rfl i_co (by decide) rfl ⟨wd300, wd301, wd302, wd15, wd303⟩ ⟨rfl, hy_X1_figureAt⟩ rfl ⟨Nat.le_of_ble_eq_true rfl, Nat.le_of_ble_eq_true rfl⟩ (Nat.le_of_ble_eq_true rfl) ⟨Nat.le_of_ble_eq_true rfl, Nat.le_of_ble_eq_true rfl⟩ dX9_rename_5 ⟨rfl, i_co, e_fs, i_fs⟩ (fun r_5 S_5 h_5 => ?_)
  obtain ⟨rfl, q_5⟩ := h_5
  obtain rfl := q_5.symm
  rw [fgAt_0 n_fs]
  refine v_qstore C dX9_rename_8 (by decide) rfl ?_
  refine v_qload C dX9_rename_10 rfl ?_
  refine v_ifnull (tgt := 47) C dX9_rename_12 (by decide) (fun c_12 => ?_) (fun b_12 c_12 => ?_)
  · skip
    refine v_bipush (v := -2) C dX9_rename_47 (by decide) ?_
    refine v_iret C hr (Nat.le_of_ble_eq_true rfl) (Nat.le_of_ble_eq_true rfl) dX9_rename_49 ?_
    exact ⟨rfl, rfl⟩
  · skip
    cases c_12

theorem dX9_prefer_0 : decode cX9_prefer 0 = .ok (.aload_n 0, 1) := by decide +kernel
theorem dX9_prefer_1 : decode cX9_prefer 1 = .ok (.getfield 10, 3) := by decide +kernel
theorem dX9_prefer_4 : decode cX9_prefer 4 = .ok (.iload_n 1, 1) := by decide +kernel
theorem dX9_prefer_5 : decode cX9_prefer 5 = .ok (.invokevirtual 55, 3) := by decide +kernel
theorem dX9_prefer_8 : decode cX9_prefer 8 = .ok (.astore 4, 2) := by decide +kernel
theorem dX9_prefer_10 : decode cX9_prefer 10 = .ok (.aload 4, 2) := by decide +kernel
theorem dX9_prefer_12 : decode cX9_prefer 12 = .ok (.ifnull 26, 3) := by decide +kernel
theorem dX9_prefer_38 : decode cX9_prefer 38 = .ok (.bipush (-2), 2) := by decide +kernel
theorem dX9_prefer_40 : decode cX9_prefer 40 = .ok (.ireturn, 1) := by decide +kernel
set_option maxRecDepth 100000 in
set_option maxHeartbeats 4000000 in
theorem ct_X9_prefer (l : Launch) (h co ts fs mg ch rw ft gl gr gq ml mr mq sg tp cs : Nat) (a0 : Int32) (a1 : Int32) (a2 : Int32) : Ct l yX9_prefer cX9_prefer 5 (some .int) 2 0 0 42 (fun S av => av = [.ref h, .int a0, .int a1, .int a2] ∧ pcAt S h co ts fs mg ch rw ft gl gr gq ml mr mq sg tp cs ∧ pcNew S h co ts fs sg tp) (fun S _ r S' => r = some (.int (-2)) ∧ S' = S) := by
  refine ct_of (by decide) (fun S av h => by obtain ⟨rfl, ⟨hh, e_co, ⟨i_co, e_ts, i_ts, e_fs, i_fs, e_mg, k_mg, e_ch, i_ch⟩, e_sg, ⟨i_sg, e_sgco, e_tp, i_tp, e_cs, i_cs⟩⟩, ⟨n_lat, n_tc, n_fc, n_ts, n_fs, n_sg, n_out, n_tps⟩⟩ := h; exact Nat.le_of_ble_eq_true rfl) ?_
  intro p e s m args below meth c D G bs S av C hr hin hpre
  obtain ⟨rfl, ⟨hh, e_co, ⟨i_co, e_ts, i_ts, e_fs, i_fs, e_mg, k_mg, e_ch, i_ch⟩, e_sg, ⟨i_sg, e_sgco, e_tp, i_tp, e_cs, i_cs⟩⟩, ⟨n_lat, n_tc, n_fc, n_ts, n_fs, n_sg, n_out, n_tps⟩⟩ := hpre
  refine v_aload_n C dX9_prefer_0 rfl ?_
  refine r9_10 (b := co) C hh e_co dX9_prefer_1 ?_
  refine v_iload_n C dX9_prefer_4 rfl ?_
  refine v_callV (As := [_]) (n := 1) C (ct_X1_figureAt l co fs _) rfl i_co (by decide) rfl ⟨wd300, wd301, wd302, wd15, wd303⟩ ⟨rfl, hy_X1_figureAt⟩ rfl ⟨Nat.le_of_ble_eq_true rfl, Nat.le_of_ble_eq_true rfl⟩ (Nat.le_of_ble_eq_true rfl) ⟨Nat.le_of_ble_eq_true rfl, Nat.le_of_ble_eq_true rfl⟩ dX9_prefer_5 ⟨rfl, i_co, e_fs, i_fs⟩ (fun r_5 S_5 h_5 => ?_)
  obtain ⟨rfl, q_5⟩ := h_5
  obtain rfl := q_5.symm
  rw [fgAt_0 n_fs]
  refine v_qstore C dX9_prefer_8 (by decide) rfl ?_
  refine v_qload C dX9_prefer_10 rfl ?_
  refine v_ifnull (tgt := 38) C dX9_prefer_12 (by decide) (fun c_12 => ?_) (fun b_12 c_12 => ?_)
  · skip
    refine v_bipush (v := -2) C dX9_prefer_38 (by decide) ?_
    refine v_iret C hr (Nat.le_of_ble_eq_true rfl) (Nat.le_of_ble_eq_true rfl) dX9_prefer_40 ?_
    exact ⟨rfl, rfl⟩
  · skip
    cases c_12

theorem dX9_lineOf_0 : decode cX9_lineOf 0 = .ok (.aload_n 0, 1) := by decide +kernel
theorem dX9_lineOf_1 : decode cX9_lineOf 1 = .ok (.getfield 10, 3) := by decide +kernel
theorem dX9_lineOf_4 : decode cX9_lineOf 4 = .ok (.iload_n 1, 1) := by decide +kernel
theorem dX9_lineOf_5 : decode cX9_lineOf 5 = .ok (.invokevirtual 59, 3) := by decide +kernel
theorem dX9_lineOf_8 : decode cX9_lineOf 8 = .ok (.astore_n 3, 1) := by decide +kernel
theorem dX9_lineOf_9 : decode cX9_lineOf 9 = .ok (.aload_n 3, 1) := by decide +kernel
theorem dX9_lineOf_10 : decode cX9_lineOf 10 = .ok (.ifnull 7, 3) := by decide +kernel
theorem dX9_lineOf_17 : decode cX9_lineOf 17 = .ok (.bipush (-2), 2) := by decide +kernel
theorem dX9_lineOf_19 : decode cX9_lineOf 19 = .ok (.goto 11, 3) := by decide +kernel
theorem dX9_lineOf_30 : decode cX9_lineOf 30 = .ok (.ireturn, 1) := by decide +kernel
set_option maxRecDepth 100000 in
set_option maxHeartbeats 4000000 in
theorem ct_X9_lineOf (l : Launch) (h co ts fs mg ch rw ft gl gr gq ml mr mq sg tp cs : Nat) (a0 : Int32) (a1 : Int32) : Ct l yX9_lineOf cX9_lineOf 4 (some .int) 2 0 0 42 (fun S av => av = [.ref h, .int a0, .int a1] ∧ pcAt S h co ts fs mg ch rw ft gl gr gq ml mr mq sg tp cs ∧ pcNew S h co ts fs sg tp) (fun S _ r S' => r = some (.int (-2)) ∧ S' = S) := by
  refine ct_of (by decide) (fun S av h => by obtain ⟨rfl, ⟨hh, e_co, ⟨i_co, e_ts, i_ts, e_fs, i_fs, e_mg, k_mg, e_ch, i_ch⟩, e_sg, ⟨i_sg, e_sgco, e_tp, i_tp, e_cs, i_cs⟩⟩, ⟨n_lat, n_tc, n_fc, n_ts, n_fs, n_sg, n_out, n_tps⟩⟩ := h; exact Nat.le_of_ble_eq_true rfl) ?_
  intro p e s m args below meth c D G bs S av C hr hin hpre
  obtain ⟨rfl, ⟨hh, e_co, ⟨i_co, e_ts, i_ts, e_fs, i_fs, e_mg, k_mg, e_ch, i_ch⟩, e_sg, ⟨i_sg, e_sgco, e_tp, i_tp, e_cs, i_cs⟩⟩, ⟨n_lat, n_tc, n_fc, n_ts, n_fs, n_sg, n_out, n_tps⟩⟩ := hpre
  refine v_aload_n C dX9_lineOf_0 rfl ?_
  refine r9_10 (b := co) C hh e_co dX9_lineOf_1 ?_
  refine v_iload_n C dX9_lineOf_4 rfl ?_
  refine v_callV (As := [_]) (n := 1) C (ct_X1_traitAt l co ts _) rfl i_co (by decide) rfl ⟨wd304, wd138, wd139, wd15, wd140⟩ ⟨rfl, hy_X1_traitAt⟩ rfl ⟨Nat.le_of_ble_eq_true rfl, Nat.le_of_ble_eq_true rfl⟩ (Nat.le_of_ble_eq_true rfl) ⟨Nat.le_of_ble_eq_true rfl, Nat.le_of_ble_eq_true rfl⟩ dX9_lineOf_5 ⟨rfl, i_co, e_ts, i_ts⟩ (fun r_5 S_5 h_5 => ?_)
  obtain ⟨rfl, q_5⟩ := h_5
  obtain rfl := q_5.symm
  rw [trAt_0 n_ts]
  refine v_qstore_n C dX9_lineOf_8 (by decide) rfl ?_
  refine v_qload_n C dX9_lineOf_9 rfl ?_
  refine v_ifnull (tgt := 17) C dX9_lineOf_10 (by decide) (fun c_10 => ?_) (fun b_10 c_10 => ?_)
  · skip
    refine v_bipush (v := -2) C dX9_lineOf_17 (by decide) ?_
    refine v_goto (tgt := 30) C dX9_lineOf_19 (by decide) ?_
    refine v_iret C hr (Nat.le_of_ble_eq_true rfl) (Nat.le_of_ble_eq_true rfl) dX9_lineOf_30 ?_
    exact ⟨rfl, rfl⟩
  · skip
    cases c_10

theorem dX9_line_0 : decode cX9_line 0 = .ok (.aload_n 0, 1) := by decide +kernel
theorem dX9_line_1 : decode cX9_line 1 = .ok (.getfield 10, 3) := by decide +kernel
theorem dX9_line_4 : decode cX9_line 4 = .ok (.iload_n 1, 1) := by decide +kernel
theorem dX9_line_5 : decode cX9_line 5 = .ok (.invokevirtual 55, 3) := by decide +kernel
theorem dX9_line_8 : decode cX9_line 8 = .ok (.astore_n 3, 1) := by decide +kernel
theorem dX9_line_9 : decode cX9_line 9 = .ok (.aload_n 3, 1) := by decide +kernel
theorem dX9_line_10 : decode cX9_line 10 = .ok (.ifnull 7, 3) := by decide +kernel
theorem dX9_line_17 : decode cX9_line 17 = .ok (.bipush (-2), 2) := by decide +kernel
theorem dX9_line_19 : decode cX9_line 19 = .ok (.goto 11, 3) := by decide +kernel
theorem dX9_line_30 : decode cX9_line 30 = .ok (.ireturn, 1) := by decide +kernel
set_option maxRecDepth 100000 in
set_option maxHeartbeats 4000000 in
theorem ct_X9_line (l : Launch) (h co ts fs mg ch rw ft gl gr gq ml mr mq sg tp cs : Nat) (a0 : Int32) (a1 : Int32) : Ct l yX9_line cX9_line 4 (some .int) 2 0 0 42 (fun S av => av = [.ref h, .int a0, .int a1] ∧ pcAt S h co ts fs mg ch rw ft gl gr gq ml mr mq sg tp cs ∧ pcNew S h co ts fs sg tp) (fun S _ r S' => r = some (.int (-2)) ∧ S' = S) := by
  refine ct_of (by decide) (fun S av h => by obtain ⟨rfl, ⟨hh, e_co, ⟨i_co, e_ts, i_ts, e_fs, i_fs, e_mg, k_mg, e_ch, i_ch⟩, e_sg, ⟨i_sg, e_sgco, e_tp, i_tp, e_cs, i_cs⟩⟩, ⟨n_lat, n_tc, n_fc, n_ts, n_fs, n_sg, n_out, n_tps⟩⟩ := h; exact Nat.le_of_ble_eq_true rfl) ?_
  intro p e s m args below meth c D G bs S av C hr hin hpre
  obtain ⟨rfl, ⟨hh, e_co, ⟨i_co, e_ts, i_ts, e_fs, i_fs, e_mg, k_mg, e_ch, i_ch⟩, e_sg, ⟨i_sg, e_sgco, e_tp, i_tp, e_cs, i_cs⟩⟩, ⟨n_lat, n_tc, n_fc, n_ts, n_fs, n_sg, n_out, n_tps⟩⟩ := hpre
  refine v_aload_n C dX9_line_0 rfl ?_
  refine r9_10 (b := co) C hh e_co dX9_line_1 ?_
  refine v_iload_n C dX9_line_4 rfl ?_
  refine v_callV (As := [_]) (n := 1) C (ct_X1_figureAt l co fs _) rfl i_co (by decide) rfl ⟨wd300, wd301, wd302, wd15, wd303⟩ ⟨rfl, hy_X1_figureAt⟩ rfl ⟨Nat.le_of_ble_eq_true rfl, Nat.le_of_ble_eq_true rfl⟩ (Nat.le_of_ble_eq_true rfl) ⟨Nat.le_of_ble_eq_true rfl, Nat.le_of_ble_eq_true rfl⟩ dX9_line_5 ⟨rfl, i_co, e_fs, i_fs⟩ (fun r_5 S_5 h_5 => ?_)
  obtain ⟨rfl, q_5⟩ := h_5
  obtain rfl := q_5.symm
  rw [fgAt_0 n_fs]
  refine v_qstore_n C dX9_line_8 (by decide) rfl ?_
  refine v_qload_n C dX9_line_9 rfl ?_
  refine v_ifnull (tgt := 17) C dX9_line_10 (by decide) (fun c_10 => ?_) (fun b_10 c_10 => ?_)
  · skip
    refine v_bipush (v := -2) C dX9_line_17 (by decide) ?_
    refine v_goto (tgt := 30) C dX9_line_19 (by decide) ?_
    refine v_iret C hr (Nat.le_of_ble_eq_true rfl) (Nat.le_of_ble_eq_true rfl) dX9_line_30 ?_
    exact ⟨rfl, rfl⟩
  · skip
    cases c_10

theorem dX9_chosen_0 : decode cX9_chosen 0 = .ok (.aload_n 0, 1) := by decide +kernel
theorem dX9_chosen_1 : decode cX9_chosen 1 = .ok (.getfield 10, 3) := by decide +kernel
theorem dX9_chosen_4 : decode cX9_chosen 4 = .ok (.iload_n 1, 1) := by decide +kernel
theorem dX9_chosen_5 : decode cX9_chosen 5 = .ok (.invokevirtual 55, 3) := by decide +kernel
theorem dX9_chosen_8 : decode cX9_chosen 8 = .ok (.astore_n 3, 1) := by decide +kernel
theorem dX9_chosen_9 : decode cX9_chosen 9 = .ok (.aload_n 3, 1) := by decide +kernel
theorem dX9_chosen_10 : decode cX9_chosen 10 = .ok (.ifnull 10, 3) := by decide +kernel
theorem dX9_chosen_20 : decode cX9_chosen 20 = .ok (.bipush (-2), 2) := by decide +kernel
theorem dX9_chosen_22 : decode cX9_chosen 22 = .ok (.goto 15, 3) := by decide +kernel
theorem dX9_chosen_37 : decode cX9_chosen 37 = .ok (.ireturn, 1) := by decide +kernel
set_option maxRecDepth 100000 in
set_option maxHeartbeats 4000000 in
theorem ct_X9_chosen (l : Launch) (h co ts fs mg ch rw ft gl gr gq ml mr mq sg tp cs : Nat) (a0 : Int32) (a1 : Int32) : Ct l yX9_chosen cX9_chosen 4 (some .int) 2 0 0 42 (fun S av => av = [.ref h, .int a0, .int a1] ∧ pcAt S h co ts fs mg ch rw ft gl gr gq ml mr mq sg tp cs ∧ pcNew S h co ts fs sg tp) (fun S _ r S' => r = some (.int (-2)) ∧ S' = S) := by
  refine ct_of (by decide) (fun S av h => by obtain ⟨rfl, ⟨hh, e_co, ⟨i_co, e_ts, i_ts, e_fs, i_fs, e_mg, k_mg, e_ch, i_ch⟩, e_sg, ⟨i_sg, e_sgco, e_tp, i_tp, e_cs, i_cs⟩⟩, ⟨n_lat, n_tc, n_fc, n_ts, n_fs, n_sg, n_out, n_tps⟩⟩ := h; exact Nat.le_of_ble_eq_true rfl) ?_
  intro p e s m args below meth c D G bs S av C hr hin hpre
  obtain ⟨rfl, ⟨hh, e_co, ⟨i_co, e_ts, i_ts, e_fs, i_fs, e_mg, k_mg, e_ch, i_ch⟩, e_sg, ⟨i_sg, e_sgco, e_tp, i_tp, e_cs, i_cs⟩⟩, ⟨n_lat, n_tc, n_fc, n_ts, n_fs, n_sg, n_out, n_tps⟩⟩ := hpre
  refine v_aload_n C dX9_chosen_0 rfl ?_
  refine r9_10 (b := co) C hh e_co dX9_chosen_1 ?_
  refine v_iload_n C dX9_chosen_4 rfl ?_
  refine v_callV (As := [_]) (n := 1) C (ct_X1_figureAt l co fs _) rfl i_co (by decide) rfl ⟨wd300, wd301, wd302, wd15, wd303⟩ ⟨rfl, hy_X1_figureAt⟩ rfl ⟨Nat.le_of_ble_eq_true rfl, Nat.le_of_ble_eq_true rfl⟩ (Nat.le_of_ble_eq_true rfl) ⟨Nat.le_of_ble_eq_true rfl, Nat.le_of_ble_eq_true rfl⟩ dX9_chosen_5 ⟨rfl, i_co, e_fs, i_fs⟩ (fun r_5 S_5 h_5 => ?_)
  obtain ⟨rfl, q_5⟩ := h_5
  obtain rfl := q_5.symm
  rw [fgAt_0 n_fs]
  refine v_qstore_n C dX9_chosen_8 (by decide) rfl ?_
  refine v_qload_n C dX9_chosen_9 rfl ?_
  refine v_ifnull (tgt := 20) C dX9_chosen_10 (by decide) (fun c_10 => ?_) (fun b_10 c_10 => ?_)
  · skip
    refine v_bipush (v := -2) C dX9_chosen_20 (by decide) ?_
    refine v_goto (tgt := 37) C dX9_chosen_22 (by decide) ?_
    refine v_iret C hr (Nat.le_of_ble_eq_true rfl) (Nat.le_of_ble_eq_true rfl) dX9_chosen_37 ?_
    exact ⟨rfl, rfl⟩
  · skip
    cases c_10

theorem dX9_clash_0 : decode cX9_clash 0 = .ok (.aload_n 0, 1) := by decide +kernel
theorem dX9_clash_1 : decode cX9_clash 1 = .ok (.getfield 10, 3) := by decide +kernel
theorem dX9_clash_4 : decode cX9_clash 4 = .ok (.iload_n 1, 1) := by decide +kernel
theorem dX9_clash_5 : decode cX9_clash 5 = .ok (.invokevirtual 55, 3) := by decide +kernel
theorem dX9_clash_8 : decode cX9_clash 8 = .ok (.astore_n 3, 1) := by decide +kernel
theorem dX9_clash_9 : decode cX9_clash 9 = .ok (.aload_n 3, 1) := by decide +kernel
theorem dX9_clash_10 : decode cX9_clash 10 = .ok (.ifnull 10, 3) := by decide +kernel
theorem dX9_clash_20 : decode cX9_clash 20 = .ok (.bipush (-2), 2) := by decide +kernel
theorem dX9_clash_22 : decode cX9_clash 22 = .ok (.goto 15, 3) := by decide +kernel
theorem dX9_clash_37 : decode cX9_clash 37 = .ok (.ireturn, 1) := by decide +kernel
set_option maxRecDepth 100000 in
set_option maxHeartbeats 4000000 in
theorem ct_X9_clash (l : Launch) (h co ts fs mg ch rw ft gl gr gq ml mr mq sg tp cs : Nat) (a0 : Int32) (a1 : Int32) : Ct l yX9_clash cX9_clash 4 (some .int) 2 0 0 42 (fun S av => av = [.ref h, .int a0, .int a1] ∧ pcAt S h co ts fs mg ch rw ft gl gr gq ml mr mq sg tp cs ∧ pcNew S h co ts fs sg tp) (fun S _ r S' => r = some (.int (-2)) ∧ S' = S) := by
  refine ct_of (by decide) (fun S av h => by obtain ⟨rfl, ⟨hh, e_co, ⟨i_co, e_ts, i_ts, e_fs, i_fs, e_mg, k_mg, e_ch, i_ch⟩, e_sg, ⟨i_sg, e_sgco, e_tp, i_tp, e_cs, i_cs⟩⟩, ⟨n_lat, n_tc, n_fc, n_ts, n_fs, n_sg, n_out, n_tps⟩⟩ := h; exact Nat.le_of_ble_eq_true rfl) ?_
  intro p e s m args below meth c D G bs S av C hr hin hpre
  obtain ⟨rfl, ⟨hh, e_co, ⟨i_co, e_ts, i_ts, e_fs, i_fs, e_mg, k_mg, e_ch, i_ch⟩, e_sg, ⟨i_sg, e_sgco, e_tp, i_tp, e_cs, i_cs⟩⟩, ⟨n_lat, n_tc, n_fc, n_ts, n_fs, n_sg, n_out, n_tps⟩⟩ := hpre
  refine v_aload_n C dX9_clash_0 rfl ?_
  refine r9_10 (b := co) C hh e_co dX9_clash_1 ?_
  refine v_iload_n C dX9_clash_4 rfl ?_
  refine v_callV (As := [_]) (n := 1) C (ct_X1_figureAt l co fs _) rfl i_co (by decide) rfl ⟨wd300, wd301, wd302, wd15, wd303⟩ ⟨rfl, hy_X1_figureAt⟩ rfl ⟨Nat.le_of_ble_eq_true rfl, Nat.le_of_ble_eq_true rfl⟩ (Nat.le_of_ble_eq_true rfl) ⟨Nat.le_of_ble_eq_true rfl, Nat.le_of_ble_eq_true rfl⟩ dX9_clash_5 ⟨rfl, i_co, e_fs, i_fs⟩ (fun r_5 S_5 h_5 => ?_)
  obtain ⟨rfl, q_5⟩ := h_5
  obtain rfl := q_5.symm
  rw [fgAt_0 n_fs]
  refine v_qstore_n C dX9_clash_8 (by decide) rfl ?_
  refine v_qload_n C dX9_clash_9 rfl ?_
  refine v_ifnull (tgt := 20) C dX9_clash_10 (by decide) (fun c_10 => ?_) (fun b_10 c_10 => ?_)
  · skip
    refine v_bipush (v := -2) C dX9_clash_20 (by decide) ?_
    refine v_goto (tgt := 37) C dX9_clash_22 (by decide) ?_
    refine v_iret C hr (Nat.le_of_ble_eq_true rfl) (Nat.le_of_ble_eq_true rfl) dX9_clash_37 ?_
    exact ⟨rfl, rfl⟩
  · skip
    cases c_10

theorem dX9_about_0 : decode cX9_about 0 = .ok (.aload_n 0, 1) := by decide +kernel
theorem dX9_about_1 : decode cX9_about 1 = .ok (.getfield 10, 3) := by decide +kernel
theorem dX9_about_4 : decode cX9_about 4 = .ok (.iload_n 1, 1) := by decide +kernel
theorem dX9_about_5 : decode cX9_about 5 = .ok (.invokevirtual 55, 3) := by decide +kernel
theorem dX9_about_8 : decode cX9_about 8 = .ok (.astore 4, 2) := by decide +kernel
theorem dX9_about_10 : decode cX9_about 10 = .ok (.aload 4, 2) := by decide +kernel
theorem dX9_about_12 : decode cX9_about 12 = .ok (.ifnull 18, 3) := by decide +kernel
theorem dX9_about_30 : decode cX9_about 30 = .ok (.bipush (-2), 2) := by decide +kernel
theorem dX9_about_32 : decode cX9_about 32 = .ok (.ireturn, 1) := by decide +kernel
set_option maxRecDepth 100000 in
set_option maxHeartbeats 4000000 in
theorem ct_X9_about (l : Launch) (h co ts fs mg ch rw ft gl gr gq ml mr mq sg tp cs : Nat) (a0 : Int32) (a1 : Int32) (a2 : Int32) : Ct l yX9_about cX9_about 5 (some .int) 2 0 0 42 (fun S av => av = [.ref h, .int a0, .int a1, .int a2] ∧ pcAt S h co ts fs mg ch rw ft gl gr gq ml mr mq sg tp cs ∧ pcNew S h co ts fs sg tp) (fun S _ r S' => r = some (.int (-2)) ∧ S' = S) := by
  refine ct_of (by decide) (fun S av h => by obtain ⟨rfl, ⟨hh, e_co, ⟨i_co, e_ts, i_ts, e_fs, i_fs, e_mg, k_mg, e_ch, i_ch⟩, e_sg, ⟨i_sg, e_sgco, e_tp, i_tp, e_cs, i_cs⟩⟩, ⟨n_lat, n_tc, n_fc, n_ts, n_fs, n_sg, n_out, n_tps⟩⟩ := h; exact Nat.le_of_ble_eq_true rfl) ?_
  intro p e s m args below meth c D G bs S av C hr hin hpre
  obtain ⟨rfl, ⟨hh, e_co, ⟨i_co, e_ts, i_ts, e_fs, i_fs, e_mg, k_mg, e_ch, i_ch⟩, e_sg, ⟨i_sg, e_sgco, e_tp, i_tp, e_cs, i_cs⟩⟩, ⟨n_lat, n_tc, n_fc, n_ts, n_fs, n_sg, n_out, n_tps⟩⟩ := hpre
  refine v_aload_n C dX9_about_0 rfl ?_
  refine r9_10 (b := co) C hh e_co dX9_about_1 ?_
  refine v_iload_n C dX9_about_4 rfl ?_
  refine v_callV (As := [_]) (n := 1) C (ct_X1_figureAt l co fs _) rfl i_co (by decide) rfl ⟨wd300, wd301, wd302, wd15, wd303⟩ ⟨rfl, hy_X1_figureAt⟩ rfl ⟨Nat.le_of_ble_eq_true rfl, Nat.le_of_ble_eq_true rfl⟩ (Nat.le_of_ble_eq_true rfl) ⟨Nat.le_of_ble_eq_true rfl, Nat.le_of_ble_eq_true rfl⟩ dX9_about_5 ⟨rfl, i_co, e_fs, i_fs⟩ (fun r_5 S_5 h_5 => ?_)
  obtain ⟨rfl, q_5⟩ := h_5
  obtain rfl := q_5.symm
  rw [fgAt_0 n_fs]
  refine v_qstore C dX9_about_8 (by decide) rfl ?_
  refine v_qload C dX9_about_10 rfl ?_
  refine v_ifnull (tgt := 30) C dX9_about_12 (by decide) (fun c_12 => ?_) (fun b_12 c_12 => ?_)
  · skip
    refine v_bipush (v := -2) C dX9_about_30 (by decide) ?_
    refine v_iret C hr (Nat.le_of_ble_eq_true rfl) (Nat.le_of_ble_eq_true rfl) dX9_about_32 ?_
    exact ⟨rfl, rfl⟩
  · skip
    cases c_12

theorem dX9_above_0 : decode cX9_above 0 = .ok (.aload_n 0, 1) := by decide +kernel
theorem dX9_above_1 : decode cX9_above 1 = .ok (.getfield 10, 3) := by decide +kernel
theorem dX9_above_4 : decode cX9_above 4 = .ok (.iload_n 1, 1) := by decide +kernel
theorem dX9_above_5 : decode cX9_above 5 = .ok (.invokevirtual 55, 3) := by decide +kernel
theorem dX9_above_8 : decode cX9_above 8 = .ok (.astore 4, 2) := by decide +kernel
theorem dX9_above_10 : decode cX9_above 10 = .ok (.aload 4, 2) := by decide +kernel
theorem dX9_above_12 : decode cX9_above 12 = .ok (.ifnull 19, 3) := by decide +kernel
theorem dX9_above_31 : decode cX9_above 31 = .ok (.bipush (-2), 2) := by decide +kernel
theorem dX9_above_33 : decode cX9_above 33 = .ok (.ireturn, 1) := by decide +kernel
set_option maxRecDepth 100000 in
set_option maxHeartbeats 4000000 in
theorem ct_X9_above (l : Launch) (h co ts fs mg ch rw ft gl gr gq ml mr mq sg tp cs : Nat) (a0 : Int32) (a1 : Int32) (a2 : Int32) : Ct l yX9_above cX9_above 5 (some .int) 2 0 0 42 (fun S av => av = [.ref h, .int a0, .int a1, .int a2] ∧ pcAt S h co ts fs mg ch rw ft gl gr gq ml mr mq sg tp cs ∧ pcNew S h co ts fs sg tp) (fun S _ r S' => r = some (.int (-2)) ∧ S' = S) := by
  refine ct_of (by decide) (fun S av h => by obtain ⟨rfl, ⟨hh, e_co, ⟨i_co, e_ts, i_ts, e_fs, i_fs, e_mg, k_mg, e_ch, i_ch⟩, e_sg, ⟨i_sg, e_sgco, e_tp, i_tp, e_cs, i_cs⟩⟩, ⟨n_lat, n_tc, n_fc, n_ts, n_fs, n_sg, n_out, n_tps⟩⟩ := h; exact Nat.le_of_ble_eq_true rfl) ?_
  intro p e s m args below meth c D G bs S av C hr hin hpre
  obtain ⟨rfl, ⟨hh, e_co, ⟨i_co, e_ts, i_ts, e_fs, i_fs, e_mg, k_mg, e_ch, i_ch⟩, e_sg, ⟨i_sg, e_sgco, e_tp, i_tp, e_cs, i_cs⟩⟩, ⟨n_lat, n_tc, n_fc, n_ts, n_fs, n_sg, n_out, n_tps⟩⟩ := hpre
  refine v_aload_n C dX9_above_0 rfl ?_
  refine r9_10 (b := co) C hh e_co dX9_above_1 ?_
  refine v_iload_n C dX9_above_4 rfl ?_
  refine v_callV (As := [_]) (n := 1) C (ct_X1_figureAt l co fs _) rfl i_co (by decide) rfl ⟨wd300, wd301, wd302, wd15, wd303⟩ ⟨rfl, hy_X1_figureAt⟩ rfl ⟨Nat.le_of_ble_eq_true rfl, Nat.le_of_ble_eq_true rfl⟩ (Nat.le_of_ble_eq_true rfl) ⟨Nat.le_of_ble_eq_true rfl, Nat.le_of_ble_eq_true rfl⟩ dX9_above_5 ⟨rfl, i_co, e_fs, i_fs⟩ (fun r_5 S_5 h_5 => ?_)
  obtain ⟨rfl, q_5⟩ := h_5
  obtain rfl := q_5.symm
  rw [fgAt_0 n_fs]
  refine v_qstore C dX9_above_8 (by decide) rfl ?_
  refine v_qload C dX9_above_10 rfl ?_
  refine v_ifnull (tgt := 31) C dX9_above_12 (by decide) (fun c_12 => ?_) (fun b_12 c_12 => ?_)
  · skip
    refine v_bipush (v := -2) C dX9_above_31 (by decide) ?_
    refine v_iret C hr (Nat.le_of_ble_eq_true rfl) (Nat.le_of_ble_eq_true rfl) dX9_above_33 ?_
    exact ⟨rfl, rfl⟩
  · skip
    cases c_12

theorem dX9_guards_0 : decode cX9_guards 0 = .ok (.aload_n 0, 1) := by decide +kernel
theorem dX9_guards_1 : decode cX9_guards 1 = .ok (.getfield 10, 3) := by decide +kernel
theorem dX9_guards_4 : decode cX9_guards 4 = .ok (.iload_n 1, 1) := by decide +kernel
theorem dX9_guards_5 : decode cX9_guards 5 = .ok (.invokevirtual 55, 3) := by decide +kernel
theorem dX9_guards_8 : decode cX9_guards 8 = .ok (.astore 4, 2) := by decide +kernel
theorem dX9_guards_10 : decode cX9_guards 10 = .ok (.aload 4, 2) := by decide +kernel
theorem dX9_guards_12 : decode cX9_guards 12 = .ok (.ifnull 14, 3) := by decide +kernel
theorem dX9_guards_26 : decode cX9_guards 26 = .ok (.bipush (-2), 2) := by decide +kernel
theorem dX9_guards_28 : decode cX9_guards 28 = .ok (.goto 14, 3) := by decide +kernel
theorem dX9_guards_42 : decode cX9_guards 42 = .ok (.ireturn, 1) := by decide +kernel
set_option maxRecDepth 100000 in
set_option maxHeartbeats 4000000 in
theorem ct_X9_guards (l : Launch) (h co ts fs mg ch rw ft gl gr gq ml mr mq sg tp cs : Nat) (a0 : Int32) (a1 : Int32) (a2 : Int32) : Ct l yX9_guards cX9_guards 5 (some .int) 2 0 0 42 (fun S av => av = [.ref h, .int a0, .int a1, .int a2] ∧ pcAt S h co ts fs mg ch rw ft gl gr gq ml mr mq sg tp cs ∧ pcNew S h co ts fs sg tp) (fun S _ r S' => r = some (.int (-2)) ∧ S' = S) := by
  refine ct_of (by decide) (fun S av h => by obtain ⟨rfl, ⟨hh, e_co, ⟨i_co, e_ts, i_ts, e_fs, i_fs, e_mg, k_mg, e_ch, i_ch⟩, e_sg, ⟨i_sg, e_sgco, e_tp, i_tp, e_cs, i_cs⟩⟩, ⟨n_lat, n_tc, n_fc, n_ts, n_fs, n_sg, n_out, n_tps⟩⟩ := h; exact Nat.le_of_ble_eq_true rfl) ?_
  intro p e s m args below meth c D G bs S av C hr hin hpre
  obtain ⟨rfl, ⟨hh, e_co, ⟨i_co, e_ts, i_ts, e_fs, i_fs, e_mg, k_mg, e_ch, i_ch⟩, e_sg, ⟨i_sg, e_sgco, e_tp, i_tp, e_cs, i_cs⟩⟩, ⟨n_lat, n_tc, n_fc, n_ts, n_fs, n_sg, n_out, n_tps⟩⟩ := hpre
  refine v_aload_n C dX9_guards_0 rfl ?_
  refine r9_10 (b := co) C hh e_co dX9_guards_1 ?_
  refine v_iload_n C dX9_guards_4 rfl ?_
  refine v_callV (As := [_]) (n := 1) C (ct_X1_figureAt l co fs _) rfl i_co (by decide) rfl ⟨wd300, wd301, wd302, wd15, wd303⟩ ⟨rfl, hy_X1_figureAt⟩ rfl ⟨Nat.le_of_ble_eq_true rfl, Nat.le_of_ble_eq_true rfl⟩ (Nat.le_of_ble_eq_true rfl) ⟨Nat.le_of_ble_eq_true rfl, Nat.le_of_ble_eq_true rfl⟩ dX9_guards_5 ⟨rfl, i_co, e_fs, i_fs⟩ (fun r_5 S_5 h_5 => ?_)
  obtain ⟨rfl, q_5⟩ := h_5
  obtain rfl := q_5.symm
  rw [fgAt_0 n_fs]
  refine v_qstore C dX9_guards_8 (by decide) rfl ?_
  refine v_qload C dX9_guards_10 rfl ?_
  refine v_ifnull (tgt := 26) C dX9_guards_12 (by decide) (fun c_12 => ?_) (fun b_12 c_12 => ?_)
  · skip
    refine v_bipush (v := -2) C dX9_guards_26 (by decide) ?_
    refine v_goto (tgt := 42) C dX9_guards_28 (by decide) ?_
    refine v_iret C hr (Nat.le_of_ble_eq_true rfl) (Nat.le_of_ble_eq_true rfl) dX9_guards_42 ?_
    exact ⟨rfl, rfl⟩
  · skip
    cases c_12

theorem dX9_isA_0 : decode cX9_isA 0 = .ok (.aload_n 0, 1) := by decide +kernel
theorem dX9_isA_1 : decode cX9_isA 1 = .ok (.getfield 10, 3) := by decide +kernel
theorem dX9_isA_4 : decode cX9_isA 4 = .ok (.iload_n 1, 1) := by decide +kernel
theorem dX9_isA_5 : decode cX9_isA 5 = .ok (.invokevirtual 55, 3) := by decide +kernel
theorem dX9_isA_8 : decode cX9_isA 8 = .ok (.astore_n 3, 1) := by decide +kernel
theorem dX9_isA_9 : decode cX9_isA 9 = .ok (.aload_n 3, 1) := by decide +kernel
theorem dX9_isA_10 : decode cX9_isA 10 = .ok (.ifnull 14, 3) := by decide +kernel
theorem dX9_isA_24 : decode cX9_isA 24 = .ok (.bipush (-2), 2) := by decide +kernel
theorem dX9_isA_26 : decode cX9_isA 26 = .ok (.ireturn, 1) := by decide +kernel
set_option maxRecDepth 100000 in
set_option maxHeartbeats 4000000 in
theorem ct_X9_isA (l : Launch) (h co ts fs mg ch rw ft gl gr gq ml mr mq sg tp cs : Nat) (a0 : Int32) (a1 : Int32) : Ct l yX9_isA cX9_isA 4 (some .int) 2 0 0 42 (fun S av => av = [.ref h, .int a0, .int a1] ∧ pcAt S h co ts fs mg ch rw ft gl gr gq ml mr mq sg tp cs ∧ pcNew S h co ts fs sg tp) (fun S _ r S' => r = some (.int (-2)) ∧ S' = S) := by
  refine ct_of (by decide) (fun S av h => by obtain ⟨rfl, ⟨hh, e_co, ⟨i_co, e_ts, i_ts, e_fs, i_fs, e_mg, k_mg, e_ch, i_ch⟩, e_sg, ⟨i_sg, e_sgco, e_tp, i_tp, e_cs, i_cs⟩⟩, ⟨n_lat, n_tc, n_fc, n_ts, n_fs, n_sg, n_out, n_tps⟩⟩ := h; exact Nat.le_of_ble_eq_true rfl) ?_
  intro p e s m args below meth c D G bs S av C hr hin hpre
  obtain ⟨rfl, ⟨hh, e_co, ⟨i_co, e_ts, i_ts, e_fs, i_fs, e_mg, k_mg, e_ch, i_ch⟩, e_sg, ⟨i_sg, e_sgco, e_tp, i_tp, e_cs, i_cs⟩⟩, ⟨n_lat, n_tc, n_fc, n_ts, n_fs, n_sg, n_out, n_tps⟩⟩ := hpre
  refine v_aload_n C dX9_isA_0 rfl ?_
  refine r9_10 (b := co) C hh e_co dX9_isA_1 ?_
  refine v_iload_n C dX9_isA_4 rfl ?_
  refine v_callV (As := [_]) (n := 1) C (ct_X1_figureAt l co fs _) rfl i_co (by decide) rfl ⟨wd300, wd301, wd302, wd15, wd303⟩ ⟨rfl, hy_X1_figureAt⟩ rfl ⟨Nat.le_of_ble_eq_true rfl, Nat.le_of_ble_eq_true rfl⟩ (Nat.le_of_ble_eq_true rfl) ⟨Nat.le_of_ble_eq_true rfl, Nat.le_of_ble_eq_true rfl⟩ dX9_isA_5 ⟨rfl, i_co, e_fs, i_fs⟩ (fun r_5 S_5 h_5 => ?_)
  obtain ⟨rfl, q_5⟩ := h_5
  obtain rfl := q_5.symm
  rw [fgAt_0 n_fs]
  refine v_qstore_n C dX9_isA_8 (by decide) rfl ?_
  refine v_qload_n C dX9_isA_9 rfl ?_
  refine v_ifnull (tgt := 24) C dX9_isA_10 (by decide) (fun c_10 => ?_) (fun b_10 c_10 => ?_)
  · skip
    refine v_bipush (v := -2) C dX9_isA_24 (by decide) ?_
    refine v_iret C hr (Nat.le_of_ble_eq_true rfl) (Nat.le_of_ble_eq_true rfl) dX9_isA_26 ?_
    exact ⟨rfl, rfl⟩
  · skip
    cases c_10

theorem dX9_takes_0 : decode cX9_takes 0 = .ok (.aload_n 0, 1) := by decide +kernel
theorem dX9_takes_1 : decode cX9_takes 1 = .ok (.getfield 10, 3) := by decide +kernel
theorem dX9_takes_4 : decode cX9_takes 4 = .ok (.iload_n 1, 1) := by decide +kernel
theorem dX9_takes_5 : decode cX9_takes 5 = .ok (.invokevirtual 55, 3) := by decide +kernel
theorem dX9_takes_8 : decode cX9_takes 8 = .ok (.astore_n 3, 1) := by decide +kernel
theorem dX9_takes_9 : decode cX9_takes 9 = .ok (.aload_n 3, 1) := by decide +kernel
theorem dX9_takes_10 : decode cX9_takes 10 = .ok (.ifnull 22, 3) := by decide +kernel
theorem dX9_takes_32 : decode cX9_takes 32 = .ok (.bipush (-2), 2) := by decide +kernel
theorem dX9_takes_34 : decode cX9_takes 34 = .ok (.ireturn, 1) := by decide +kernel
set_option maxRecDepth 100000 in
set_option maxHeartbeats 4000000 in
theorem ct_X9_takes (l : Launch) (h co ts fs mg ch rw ft gl gr gq ml mr mq sg tp cs : Nat) (a0 : Int32) (a1 : Int32) : Ct l yX9_takes cX9_takes 4 (some .int) 2 0 0 42 (fun S av => av = [.ref h, .int a0, .int a1] ∧ pcAt S h co ts fs mg ch rw ft gl gr gq ml mr mq sg tp cs ∧ pcNew S h co ts fs sg tp) (fun S _ r S' => r = some (.int (-2)) ∧ S' = S) := by
  refine ct_of (by decide) (fun S av h => by obtain ⟨rfl, ⟨hh, e_co, ⟨i_co, e_ts, i_ts, e_fs, i_fs, e_mg, k_mg, e_ch, i_ch⟩, e_sg, ⟨i_sg, e_sgco, e_tp, i_tp, e_cs, i_cs⟩⟩, ⟨n_lat, n_tc, n_fc, n_ts, n_fs, n_sg, n_out, n_tps⟩⟩ := h; exact Nat.le_of_ble_eq_true rfl) ?_
  intro p e s m args below meth c D G bs S av C hr hin hpre
  obtain ⟨rfl, ⟨hh, e_co, ⟨i_co, e_ts, i_ts, e_fs, i_fs, e_mg, k_mg, e_ch, i_ch⟩, e_sg, ⟨i_sg, e_sgco, e_tp, i_tp, e_cs, i_cs⟩⟩, ⟨n_lat, n_tc, n_fc, n_ts, n_fs, n_sg, n_out, n_tps⟩⟩ := hpre
  refine v_aload_n C dX9_takes_0 rfl ?_
  refine r9_10 (b := co) C hh e_co dX9_takes_1 ?_
  refine v_iload_n C dX9_takes_4 rfl ?_
  refine v_callV (As := [_]) (n := 1) C (ct_X1_figureAt l co fs _) rfl i_co (by decide) rfl ⟨wd300, wd301, wd302, wd15, wd303⟩ ⟨rfl, hy_X1_figureAt⟩ rfl ⟨Nat.le_of_ble_eq_true rfl, Nat.le_of_ble_eq_true rfl⟩ (Nat.le_of_ble_eq_true rfl) ⟨Nat.le_of_ble_eq_true rfl, Nat.le_of_ble_eq_true rfl⟩ dX9_takes_5 ⟨rfl, i_co, e_fs, i_fs⟩ (fun r_5 S_5 h_5 => ?_)
  obtain ⟨rfl, q_5⟩ := h_5
  obtain rfl := q_5.symm
  rw [fgAt_0 n_fs]
  refine v_qstore_n C dX9_takes_8 (by decide) rfl ?_
  refine v_qload_n C dX9_takes_9 rfl ?_
  refine v_ifnull (tgt := 32) C dX9_takes_10 (by decide) (fun c_10 => ?_) (fun b_10 c_10 => ?_)
  · skip
    refine v_bipush (v := -2) C dX9_takes_32 (by decide) ?_
    refine v_iret C hr (Nat.le_of_ble_eq_true rfl) (Nat.le_of_ble_eq_true rfl) dX9_takes_34 ?_
    exact ⟨rfl, rfl⟩
  · skip
    cases c_10

theorem dX9_play_0 : decode cX9_play 0 = .ok (.aload_n 0, 1) := by decide +kernel
theorem dX9_play_1 : decode cX9_play 1 = .ok (.getfield 10, 3) := by decide +kernel
theorem dX9_play_4 : decode cX9_play 4 = .ok (.iload_n 1, 1) := by decide +kernel
theorem dX9_play_5 : decode cX9_play 5 = .ok (.invokevirtual 55, 3) := by decide +kernel
theorem dX9_play_8 : decode cX9_play 8 = .ok (.astore 5, 2) := by decide +kernel
theorem dX9_play_10 : decode cX9_play 10 = .ok (.aload 5, 2) := by decide +kernel
theorem dX9_play_12 : decode cX9_play 12 = .ok (.ifnull 10, 3) := by decide +kernel
theorem dX9_play_22 : decode cX9_play 22 = .ok (.bipush (-2), 2) := by decide +kernel
theorem dX9_play_24 : decode cX9_play 24 = .ok (.goto 14, 3) := by decide +kernel
theorem dX9_play_38 : decode cX9_play 38 = .ok (.ireturn, 1) := by decide +kernel
set_option maxRecDepth 100000 in
set_option maxHeartbeats 4000000 in
theorem ct_X9_play (l : Launch) (h co ts fs mg ch rw ft gl gr gq ml mr mq sg tp cs : Nat) (a0 : Int32) (a1 : Int32) (a2 : Int64) : Ct l yX9_play cX9_play 6 (some .int) 2 0 0 42 (fun S av => av = [.ref h, .int a0, .int a1, .long a2] ∧ pcAt S h co ts fs mg ch rw ft gl gr gq ml mr mq sg tp cs ∧ pcNew S h co ts fs sg tp) (fun S _ r S' => r = some (.int (-2)) ∧ S' = S) := by
  refine ct_of (by decide) (fun S av h => by obtain ⟨rfl, ⟨hh, e_co, ⟨i_co, e_ts, i_ts, e_fs, i_fs, e_mg, k_mg, e_ch, i_ch⟩, e_sg, ⟨i_sg, e_sgco, e_tp, i_tp, e_cs, i_cs⟩⟩, ⟨n_lat, n_tc, n_fc, n_ts, n_fs, n_sg, n_out, n_tps⟩⟩ := h; exact Nat.le_of_ble_eq_true rfl) ?_
  intro p e s m args below meth c D G bs S av C hr hin hpre
  obtain ⟨rfl, ⟨hh, e_co, ⟨i_co, e_ts, i_ts, e_fs, i_fs, e_mg, k_mg, e_ch, i_ch⟩, e_sg, ⟨i_sg, e_sgco, e_tp, i_tp, e_cs, i_cs⟩⟩, ⟨n_lat, n_tc, n_fc, n_ts, n_fs, n_sg, n_out, n_tps⟩⟩ := hpre
  refine v_aload_n C dX9_play_0 rfl ?_
  refine r9_10 (b := co) C hh e_co dX9_play_1 ?_
  refine v_iload_n C dX9_play_4 rfl ?_
  refine v_callV (As := [_]) (n := 1) C (ct_X1_figureAt l co fs _) rfl i_co (by decide) rfl ⟨wd300, wd301, wd302, wd15, wd303⟩ ⟨rfl, hy_X1_figureAt⟩ rfl ⟨Nat.le_of_ble_eq_true rfl, Nat.le_of_ble_eq_true rfl⟩ (Nat.le_of_ble_eq_true rfl) ⟨Nat.le_of_ble_eq_true rfl, Nat.le_of_ble_eq_true rfl⟩ dX9_play_5 ⟨rfl, i_co, e_fs, i_fs⟩ (fun r_5 S_5 h_5 => ?_)
  obtain ⟨rfl, q_5⟩ := h_5
  obtain rfl := q_5.symm
  rw [fgAt_0 n_fs]
  refine v_qstore C dX9_play_8 (by decide) rfl ?_
  refine v_qload C dX9_play_10 rfl ?_
  refine v_ifnull (tgt := 22) C dX9_play_12 (by decide) (fun c_12 => ?_) (fun b_12 c_12 => ?_)
  · skip
    refine v_bipush (v := -2) C dX9_play_22 (by decide) ?_
    refine v_goto (tgt := 38) C dX9_play_24 (by decide) ?_
    refine v_iret C hr (Nat.le_of_ble_eq_true rfl) (Nat.le_of_ble_eq_true rfl) dX9_play_38 ?_
    exact ⟨rfl, rfl⟩
  · skip
    cases c_12

theorem dX9_setMood_0 : decode cX9_setMood 0 = .ok (.aload_n 0, 1) := by decide +kernel
theorem dX9_setMood_1 : decode cX9_setMood 1 = .ok (.getfield 10, 3) := by decide +kernel
theorem dX9_setMood_4 : decode cX9_setMood 4 = .ok (.iload_n 1, 1) := by decide +kernel
theorem dX9_setMood_5 : decode cX9_setMood 5 = .ok (.invokevirtual 55, 3) := by decide +kernel
theorem dX9_setMood_8 : decode cX9_setMood 8 = .ok (.astore 5, 2) := by decide +kernel
theorem dX9_setMood_10 : decode cX9_setMood 10 = .ok (.aload 5, 2) := by decide +kernel
theorem dX9_setMood_12 : decode cX9_setMood 12 = .ok (.ifnull 11, 3) := by decide +kernel
theorem dX9_setMood_23 : decode cX9_setMood 23 = .ok (.bipush (-2), 2) := by decide +kernel
theorem dX9_setMood_25 : decode cX9_setMood 25 = .ok (.ireturn, 1) := by decide +kernel
set_option maxRecDepth 100000 in
set_option maxHeartbeats 4000000 in
theorem ct_X9_setMood (l : Launch) (h co ts fs mg ch rw ft gl gr gq ml mr mq sg tp cs : Nat) (a0 : Int32) (a1 : Int32) (a2 : Int64) : Ct l yX9_setMood cX9_setMood 6 (some .int) 2 0 0 42 (fun S av => av = [.ref h, .int a0, .int a1, .long a2] ∧ pcAt S h co ts fs mg ch rw ft gl gr gq ml mr mq sg tp cs ∧ pcNew S h co ts fs sg tp) (fun S _ r S' => r = some (.int (-2)) ∧ S' = S) := by
  refine ct_of (by decide) (fun S av h => by obtain ⟨rfl, ⟨hh, e_co, ⟨i_co, e_ts, i_ts, e_fs, i_fs, e_mg, k_mg, e_ch, i_ch⟩, e_sg, ⟨i_sg, e_sgco, e_tp, i_tp, e_cs, i_cs⟩⟩, ⟨n_lat, n_tc, n_fc, n_ts, n_fs, n_sg, n_out, n_tps⟩⟩ := h; exact Nat.le_of_ble_eq_true rfl) ?_
  intro p e s m args below meth c D G bs S av C hr hin hpre
  obtain ⟨rfl, ⟨hh, e_co, ⟨i_co, e_ts, i_ts, e_fs, i_fs, e_mg, k_mg, e_ch, i_ch⟩, e_sg, ⟨i_sg, e_sgco, e_tp, i_tp, e_cs, i_cs⟩⟩, ⟨n_lat, n_tc, n_fc, n_ts, n_fs, n_sg, n_out, n_tps⟩⟩ := hpre
  refine v_aload_n C dX9_setMood_0 rfl ?_
  refine r9_10 (b := co) C hh e_co dX9_setMood_1 ?_
  refine v_iload_n C dX9_setMood_4 rfl ?_
  refine v_callV (As := [_]) (n := 1) C (ct_X1_figureAt l co fs _) rfl i_co (by decide) rfl ⟨wd300, wd301, wd302, wd15, wd303⟩ ⟨rfl, hy_X1_figureAt⟩ rfl ⟨Nat.le_of_ble_eq_true rfl, Nat.le_of_ble_eq_true rfl⟩ (Nat.le_of_ble_eq_true rfl) ⟨Nat.le_of_ble_eq_true rfl, Nat.le_of_ble_eq_true rfl⟩ dX9_setMood_5 ⟨rfl, i_co, e_fs, i_fs⟩ (fun r_5 S_5 h_5 => ?_)
  obtain ⟨rfl, q_5⟩ := h_5
  obtain rfl := q_5.symm
  rw [fgAt_0 n_fs]
  refine v_qstore C dX9_setMood_8 (by decide) rfl ?_
  refine v_qload C dX9_setMood_10 rfl ?_
  refine v_ifnull (tgt := 23) C dX9_setMood_12 (by decide) (fun c_12 => ?_) (fun b_12 c_12 => ?_)
  · skip
    refine v_bipush (v := -2) C dX9_setMood_23 (by decide) ?_
    refine v_iret C hr (Nat.le_of_ble_eq_true rfl) (Nat.le_of_ble_eq_true rfl) dX9_setMood_25 ?_
    exact ⟨rfl, rfl⟩
  · skip
    cases c_12

theorem dX9_mood_0 : decode cX9_mood 0 = .ok (.aload_n 0, 1) := by decide +kernel
theorem dX9_mood_1 : decode cX9_mood 1 = .ok (.getfield 10, 3) := by decide +kernel
theorem dX9_mood_4 : decode cX9_mood 4 = .ok (.iload_n 1, 1) := by decide +kernel
theorem dX9_mood_5 : decode cX9_mood 5 = .ok (.invokevirtual 55, 3) := by decide +kernel
theorem dX9_mood_8 : decode cX9_mood 8 = .ok (.astore_n 3, 1) := by decide +kernel
theorem dX9_mood_9 : decode cX9_mood 9 = .ok (.aload_n 3, 1) := by decide +kernel
theorem dX9_mood_10 : decode cX9_mood 10 = .ok (.ifnonnull 7, 3) := by decide +kernel
theorem dX9_mood_13 : decode cX9_mood 13 = .ok (.lconst 0, 1) := by decide +kernel
theorem dX9_mood_14 : decode cX9_mood 14 = .ok (.goto 8, 3) := by decide +kernel
theorem dX9_mood_22 : decode cX9_mood 22 = .ok (.lreturn, 1) := by decide +kernel
set_option maxRecDepth 100000 in
set_option maxHeartbeats 4000000 in
theorem ct_X9_mood (l : Launch) (h co ts fs mg ch rw ft gl gr gq ml mr mq sg tp cs : Nat) (a0 : Int32) (a1 : Int32) : Ct l yX9_mood cX9_mood 4 (some .long) 2 0 0 42 (fun S av => av = [.ref h, .int a0, .int a1] ∧ pcAt S h co ts fs mg ch rw ft gl gr gq ml mr mq sg tp cs ∧ pcNew S h co ts fs sg tp) (fun S _ r S' => r = some (.long 0) ∧ S' = S) := by
  refine ct_of (by decide) (fun S av h => by obtain ⟨rfl, ⟨hh, e_co, ⟨i_co, e_ts, i_ts, e_fs, i_fs, e_mg, k_mg, e_ch, i_ch⟩, e_sg, ⟨i_sg, e_sgco, e_tp, i_tp, e_cs, i_cs⟩⟩, ⟨n_lat, n_tc, n_fc, n_ts, n_fs, n_sg, n_out, n_tps⟩⟩ := h; exact Nat.le_of_ble_eq_true rfl) ?_
  intro p e s m args below meth c D G bs S av C hr hin hpre
  obtain ⟨rfl, ⟨hh, e_co, ⟨i_co, e_ts, i_ts, e_fs, i_fs, e_mg, k_mg, e_ch, i_ch⟩, e_sg, ⟨i_sg, e_sgco, e_tp, i_tp, e_cs, i_cs⟩⟩, ⟨n_lat, n_tc, n_fc, n_ts, n_fs, n_sg, n_out, n_tps⟩⟩ := hpre
  refine v_aload_n C dX9_mood_0 rfl ?_
  refine r9_10 (b := co) C hh e_co dX9_mood_1 ?_
  refine v_iload_n C dX9_mood_4 rfl ?_
  refine v_callV (As := [_]) (n := 1) C (ct_X1_figureAt l co fs _) rfl i_co (by decide) rfl ⟨wd300, wd301, wd302, wd15, wd303⟩ ⟨rfl, hy_X1_figureAt⟩ rfl ⟨Nat.le_of_ble_eq_true rfl, Nat.le_of_ble_eq_true rfl⟩ (Nat.le_of_ble_eq_true rfl) ⟨Nat.le_of_ble_eq_true rfl, Nat.le_of_ble_eq_true rfl⟩ dX9_mood_5 ⟨rfl, i_co, e_fs, i_fs⟩ (fun r_5 S_5 h_5 => ?_)
  obtain ⟨rfl, q_5⟩ := h_5
  obtain rfl := q_5.symm
  rw [fgAt_0 n_fs]
  refine v_qstore_n C dX9_mood_8 (by decide) rfl ?_
  refine v_qload_n C dX9_mood_9 rfl ?_
  refine v_ifnonnull (tgt := 17) C dX9_mood_10 (by decide) (fun b_10 c_10 => ?_) (fun c_10 => ?_)
  · skip
    cases c_10
  · skip
    refine v_lconst (v := 0) C dX9_mood_13 (by decide) ?_
    refine v_goto (tgt := 22) C dX9_mood_14 (by decide) ?_
    refine v_lret C hr (Nat.le_of_ble_eq_true rfl) (Nat.le_of_ble_eq_true rfl) dX9_mood_22 ?_
    exact ⟨rfl, rfl⟩

