theorem companyAt_same {S S' : Mem} {h ts fs mg ch rw ft gl gr gq ml mr mq : Nat} (e : same S S') (k : companyAt S h ts fs mg ch rw ft gl gr gq ml mr mq) : companyAt S' h ts fs mg ch rw ft gl gr gq ml mr mq := by
  obtain ⟨k1, k2, k3, k4, k5, k6, k7, k8, k9⟩ := k
  exact ⟨is_same e k1, by rw [e.2.2.2]; exact k2, isA_same e k3, by rw [e.2.2.2]; exact k4, isA_same e k5, by rw [e.2.2.2]; exact k6, mergerAt_same e k7, by rw [e.2.2.2]; exact k8, is_same e k9⟩
theorem dX1_addToMerger_0 : decode cX1_addToMerger 0 = .ok (.aload_n 0, 1) := by decide +kernel
theorem dX1_addToMerger_1 : decode cX1_addToMerger 1 = .ok (.iload_n 1, 1) := by decide +kernel
theorem dX1_addToMerger_2 : decode cX1_addToMerger 2 = .ok (.invokevirtual 45, 3) := by decide +kernel
theorem dX1_addToMerger_5 : decode cX1_addToMerger 5 = .ok (.astore_n 2, 1) := by decide +kernel
theorem dX1_addToMerger_6 : decode cX1_addToMerger 6 = .ok (.aload_n 2, 1) := by decide +kernel
theorem dX1_addToMerger_7 : decode cX1_addToMerger 7 = .ok (.ifnull 15, 3) := by decide +kernel
theorem dX1_addToMerger_22 : decode cX1_addToMerger 22 = .ok (.return_, 1) := by decide +kernel
set_option maxRecDepth 100000 in
set_option maxHeartbeats 4000000 in
theorem ct_X1_addToMerger (l : Launch) (co ts : Nat) (t : Int32) : Ct l yX1_addToMerger cX1_addToMerger 3 none 4 0 0 120 (fun S av => av = [.ref co, .int t] ∧ (is S co 1 ∧ mO S 64 co = some ts ∧ isA S ts 17 20) ∧ trAt S ts t = none) (fun S _ r S' => r = none ∧ S' = S) := by
  refine ct_of (by decide) (fun S av h => by obtain ⟨rfl, ⟨i_co, e_ts, i_ts⟩, e_t⟩ := h; exact Nat.le_of_ble_eq_true rfl) ?_
  intro p e s m args below meth c D G bs S av C hr hin hpre
  obtain ⟨rfl, ⟨i_co, e_ts, i_ts⟩, e_t⟩ := hpre
  refine v_aload_n C dX1_addToMerger_0 rfl ?_
  refine v_iload_n C dX1_addToMerger_1 rfl ?_
  refine v_callV (As := [_]) (n := 1) C (ct_X1_traitAt l co ts _) rfl i_co (by decide) rfl ⟨wd137, wd138, wd139, wd15, wd140⟩ ⟨rfl, hy_X1_traitAt⟩ rfl ⟨Nat.le_of_ble_eq_true rfl, Nat.le_of_ble_eq_true rfl⟩ (Nat.le_of_ble_eq_true rfl) ⟨Nat.le_of_ble_eq_true rfl, Nat.le_of_ble_eq_true rfl⟩ dX1_addToMerger_2 ⟨rfl, i_co, e_ts, i_ts⟩ (fun r_2 S_2 h_2 => ?_)
  obtain ⟨rfl, q_2⟩ := h_2
  obtain rfl := q_2.symm
  rw [e_t]
  refine v_qstore_n C dX1_addToMerger_5 (by decide) rfl ?_
  refine v_qload_n C dX1_addToMerger_6 rfl ?_
  refine v_ifnull (tgt := 22) C dX1_addToMerger_7 (by decide) (fun c_7 => ?_) (fun b_7 c_7 => ?_)
  · skip
    refine v_vret C hr (Nat.le_of_ble_eq_true rfl) (Nat.le_of_ble_eq_true rfl) dX1_addToMerger_22 ?_
    exact ⟨rfl, rfl⟩
  · skip
    cases c_7

/-- the memory behind a merge of nothing -/
def alnS (S : Mem) (mg rw ft gl gq ml mq : Nat) : Mem := mrgS (begS S mg gl gq ml mq) mg rw ft gl
theorem same_alnS (S : Mem) (mg rw ft gl gq ml mq : Nat) : same S (alnS S mg rw ft gl gq ml mq) := same_tr (same_begS ..) (same_mrgS ..)
theorem trAt_mP {S S' : Mem} {ts : Nat} (h : ∀ i, mP S' ts i = mP S ts i) (t : Int32) : trAt S' ts t = trAt S ts t := by unfold trAt; rw [h]
theorem mP_begS (S : Mem) (mg gl gq ml mq a i : Nat) : mP (begS S mg gl gq ml mq) a i = mP S a i := by simp only [begS, mP_sI, mP_sFill]
theorem mI_begS_gl (S : Mem) (mg gl gq ml mq : Nat) : mI (begS S mg gl gq ml mq) 194 gl = 0 := by simp [begS, mI_sI, mI_sFill]
theorem mI_begS_mg (S : Mem) (mg gl gq ml mq : Nat) : mI (begS S mg gl gq ml mq) 260 mg = 0 := by simp [begS, mI_sI]
theorem mI_alnS_ml (S : Mem) (mg rw ft gl gq ml mq : Nat) : mI (alnS S mg rw ft gl gq ml mq) 194 ml = 0 := by simp [alnS, mrgS, begS, mI_sI, mI_sA, mI_sP, mI_sFill]
theorem mI_alnS (S : Mem) (mg rw ft gl gq ml mq g a : Nat) (h1 : g ≠ 194) (h2 : g ≠ 260) : mI (alnS S mg rw ft gl gq ml mq) g a = mI S g a := by simp [alnS, mrgS, begS, mI_sI, mI_sA, mI_sP, mI_sFill, h1, h2]
theorem ext_alnS (S : Mem) (mg rw ft gl gq ml mq : Nat) : ext S (alnS S mg rw ft gl gq ml mq) (fun a => a ∈ [mg, rw, ft, gl, gq, ml, mq]) := by
  unfold alnS mrgS begS
  refine ext_sI (ext_sA (ext_sP (ext_sI (ext_sI (ext_sFill (ext_sI (ext_sFill ext_rfl ?_) ?_) ?_) ?_) ?_) ?_) ?_) ?_ <;> exact Or.inl (by simp)
theorem dX1_alignsUnder_0 : decode cX1_alignsUnder 0 = .ok (.aload_n 0, 1) := by decide +kernel
theorem dX1_alignsUnder_1 : decode cX1_alignsUnder 1 = .ok (.getfield 26, 3) := by decide +kernel
theorem dX1_alignsUnder_4 : decode cX1_alignsUnder 4 = .ok (.invokevirtual 49, 3) := by decide +kernel
theorem dX1_alignsUnder_7 : decode cX1_alignsUnder 7 = .ok (.aload_n 0, 1) := by decide +kernel
theorem dX1_alignsUnder_8 : decode cX1_alignsUnder 8 = .ok (.iload_n 1, 1) := by decide +kernel
theorem dX1_alignsUnder_9 : decode cX1_alignsUnder 9 = .ok (.invokevirtual 52, 3) := by decide +kernel
theorem dX1_alignsUnder_12 : decode cX1_alignsUnder 12 = .ok (.aload_n 0, 1) := by decide +kernel
theorem dX1_alignsUnder_13 : decode cX1_alignsUnder 13 = .ok (.iload_n 2, 1) := by decide +kernel
theorem dX1_alignsUnder_14 : decode cX1_alignsUnder 14 = .ok (.invokevirtual 52, 3) := by decide +kernel
theorem dX1_alignsUnder_17 : decode cX1_alignsUnder 17 = .ok (.aload_n 0, 1) := by decide +kernel
theorem dX1_alignsUnder_18 : decode cX1_alignsUnder 18 = .ok (.iload_n 3, 1) := by decide +kernel
theorem dX1_alignsUnder_19 : decode cX1_alignsUnder 19 = .ok (.invokevirtual 52, 3) := by decide +kernel
theorem dX1_alignsUnder_22 : decode cX1_alignsUnder 22 = .ok (.aload_n 0, 1) := by decide +kernel
theorem dX1_alignsUnder_23 : decode cX1_alignsUnder 23 = .ok (.getfield 26, 3) := by decide +kernel
theorem dX1_alignsUnder_26 : decode cX1_alignsUnder 26 = .ok (.invokevirtual 56, 3) := by decide +kernel
theorem dX1_alignsUnder_29 : decode cX1_alignsUnder 29 = .ok (.ireturn, 1) := by decide +kernel
set_option maxRecDepth 100000 in
set_option maxHeartbeats 4000000 in
theorem ct_X1_alignsUnder (l : Launch) (co ts fs mg ch rw ft gl gr gq ml mr mq : Nat) (a b d : Int32) : Ct l yX1_alignsUnder cX1_alignsUnder 4 (some .boolean) 6 0 0 142 (fun S av => av = [.ref co, .int a, .int b, .int d] ∧ companyAt S co ts fs mg ch rw ft gl gr gq ml mr mq ∧ trAt S ts a = none ∧ trAt S ts b = none ∧ trAt S ts d = none) (fun S _ r S' => r = some (.int 1) ∧ S' = alnS S mg rw ft gl gq ml mq) := by
  refine ct_of (by decide) (fun S av h => by obtain ⟨rfl, ⟨i_co, e_ts, i_ts, e_fs, i_fs, e_mg, k_mg, e_ch, i_ch⟩, t_a, t_b, t_d⟩ := h; exact Nat.le_of_ble_eq_true rfl) ?_
  intro p e s m args below meth c D G bs S av C hr hin hpre
  obtain ⟨rfl, ⟨i_co, e_ts, i_ts, e_fs, i_fs, e_mg, k_mg, e_ch, i_ch⟩, t_a, t_b, t_d⟩ := hpre
  refine v_aload_n C dX1_alignsUnder_0 rfl ?_
  refine r1_26 (b := mg) C i_co e_mg dX1_alignsUnder_1 ?_
  refine v_callV (As := []) (n := 0) C (ct_X4_begin l mg rw ft gl gr gq ml mr mq) rfl k_mg.1 (by decide) rfl ⟨wd147, wd148, wd149, wd31, wd150⟩ ⟨rfl, hy_X4_begin⟩ rfl ⟨Nat.le_of_ble_eq_true rfl, Nat.le_of_ble_eq_true rfl⟩ (Nat.le_of_ble_eq_true rfl) ⟨Nat.le_of_ble_eq_true rfl, Nat.le_of_ble_eq_true rfl⟩ dX1_alignsUnder_4 ⟨rfl, k_mg⟩ (fun r_4 S_4 h_4 => ?_)
  obtain ⟨rfl, e_4⟩ := h_4
  have s4 : same S S_4 := by rw [e_4]; exact same_begS ..
  have i_co := is_same s4 i_co
  have i_ts := isA_same s4 i_ts
  have k_mg := mergerAt_same s4 k_mg
  have e_ts : mO S_4 64 co = some ts := by rw [s4.2.2.2]; exact e_ts
  have e_mg : mO S_4 68 co = some mg := by rw [s4.2.2.2]; exact e_mg
  have n_t : ∀ t, trAt S_4 ts t = trAt S ts t := trAt_mP (fun i => by rw [e_4, mP_begS])
  refine v_aload_n C dX1_alignsUnder_7 rfl ?_
  refine v_iload_n C dX1_alignsUnder_8 rfl ?_
  refine v_callV (As := [_]) (n := 1) C (ct_X1_addToMerger l co ts a) rfl i_co (by decide) rfl ⟨wd157, wd158, wd159, wd15, wd160⟩ ⟨rfl, hy_X1_addToMerger⟩ rfl ⟨Nat.le_of_ble_eq_true rfl, Nat.le_of_ble_eq_true rfl⟩ (Nat.le_of_ble_eq_true rfl) ⟨Nat.le_of_ble_eq_true rfl, Nat.le_of_ble_eq_true rfl⟩ dX1_alignsUnder_9 ⟨rfl, ⟨i_co, e_ts, i_ts⟩, (n_t _).trans t_a⟩ (fun r_9 S_9 h_9 => ?_)
  obtain ⟨rfl, q_9⟩ := h_9
  obtain rfl := q_9.symm
  refine v_aload_n C dX1_alignsUnder_12 rfl ?_
  refine v_iload_n C dX1_alignsUnder_13 rfl ?_
  refine v_callV (As := [_]) (n := 1) C (ct_X1_addToMerger l co ts b) rfl i_co (by decide) rfl ⟨wd157, wd158, wd159, wd15, wd160⟩ ⟨rfl, hy_X1_addToMerger⟩ rfl ⟨Nat.le_of_ble_eq_true rfl, Nat.le_of_ble_eq_true rfl⟩ (Nat.le_of_ble_eq_true rfl) ⟨Nat.le_of_ble_eq_true rfl, Nat.le_of_ble_eq_true rfl⟩ dX1_alignsUnder_14 ⟨rfl, ⟨i_co, e_ts, i_ts⟩, (n_t _).trans t_b⟩ (fun r_14 S_14 h_14 => ?_)
  obtain ⟨rfl, q_14⟩ := h_14
  obtain rfl := q_14.symm
  refine v_aload_n C dX1_alignsUnder_17 rfl ?_
  refine v_iload_n C dX1_alignsUnder_18 rfl ?_
  refine v_callV (As := [_]) (n := 1) C (ct_X1_addToMerger l co ts d) rfl i_co (by decide) rfl ⟨wd157, wd158, wd159, wd15, wd160⟩ ⟨rfl, hy_X1_addToMerger⟩ rfl ⟨Nat.le_of_ble_eq_true rfl, Nat.le_of_ble_eq_true rfl⟩ (Nat.le_of_ble_eq_true rfl) ⟨Nat.le_of_ble_eq_true rfl, Nat.le_of_ble_eq_true rfl⟩ dX1_alignsUnder_19 ⟨rfl, ⟨i_co, e_ts, i_ts⟩, (n_t _).trans t_d⟩ (fun r_19 S_19 h_19 => ?_)
  obtain ⟨rfl, q_19⟩ := h_19
  obtain rfl := q_19.symm
  refine v_aload_n C dX1_alignsUnder_22 rfl ?_
  refine r1_26 (b := mg) C i_co e_mg dX1_alignsUnder_23 ?_
  refine v_callV (As := []) (n := 0) C (ct_X4_merges l mg rw ft gl gr gq ml mr mq) rfl k_mg.1 (by decide) rfl ⟨wd174, wd175, wd176, wd31, wd177⟩ ⟨rfl, hy_X4_merges⟩ rfl ⟨Nat.le_of_ble_eq_true rfl, Nat.le_of_ble_eq_true rfl⟩ (Nat.le_of_ble_eq_true rfl) ⟨Nat.le_of_ble_eq_true rfl, Nat.le_of_ble_eq_true rfl⟩ dX1_alignsUnder_26 ⟨rfl, k_mg, by rw [e_4]; exact mI_begS_mg .., by rw [e_4]; exact mI_begS_gl ..⟩ (fun r_26 S_26 h_26 => ?_)
  obtain ⟨rfl, e_26⟩ := h_26
  refine v_zret C hr rfl (Nat.le_of_ble_eq_true rfl) (Nat.le_of_ble_eq_true rfl) dX1_alignsUnder_29 ?_
  exact ⟨rfl, by rw [e_26, e_4]; rfl⟩

theorem dX8_init_0 : decode cX8_init 0 = .ok (.aload_n 0, 1) := by decide +kernel
theorem dX8_init_1 : decode cX8_init 1 = .ok (.invokespecial 3, 3) := by decide +kernel
theorem dX8_init_4 : decode cX8_init 4 = .ok (.aload_n 0, 1) := by decide +kernel
theorem dX8_init_5 : decode cX8_init 5 = .ok (.new 9, 3) := by decide +kernel
theorem dX8_init_8 : decode cX8_init 8 = .ok (.dup, 1) := by decide +kernel
theorem dX8_init_9 : decode cX8_init 9 = .ok (.invokespecial 11, 3) := by decide +kernel
theorem dX8_init_12 : decode cX8_init 12 = .ok (.putfield 12, 3) := by decide +kernel
theorem dX8_init_15 : decode cX8_init 15 = .ok (.aload_n 0, 1) := by decide +kernel
theorem dX8_init_16 : decode cX8_init 16 = .ok (.bipush 12, 2) := by decide +kernel
theorem dX8_init_18 : decode cX8_init 18 = .ok (.anewarray 18, 3) := by decide +kernel
theorem dX8_init_21 : decode cX8_init 21 = .ok (.putfield 20, 3) := by decide +kernel
theorem dX8_init_24 : decode cX8_init 24 = .ok (.aload_n 0, 1) := by decide +kernel
theorem dX8_init_25 : decode cX8_init 25 = .ok (.bipush 12, 2) := by decide +kernel
theorem dX8_init_27 : decode cX8_init 27 = .ok (.anewarray 18, 3) := by decide +kernel
theorem dX8_init_30 : decode cX8_init 30 = .ok (.putfield 24, 3) := by decide +kernel
theorem dX8_init_33 : decode cX8_init 33 = .ok (.return_, 1) := by decide +kernel
set_option maxRecDepth 100000 in
set_option maxHeartbeats 4000000 in
theorem ct_X8_init (l : Launch) (h : Nat) : Ct l yX8_init cX8_init 1 none 2 5 67 43 (fun S av => av = [.ref h] ∧ is S h 8) (fun S _ r0 S' => r0 = none ∧ ext S S' (fun a => a = h) ∧ ∃ ln r q, ln ∉ mL S ∧ r ∉ mL S ∧ q ∉ mL S ∧ is S' h 8 ∧ mO S' 512 h = some ln ∧ lineAt S' ln r q ∧ mI S' 194 ln = 0) := by
  refine ct_of (by decide) (fun S av h => by obtain ⟨rfl, hh⟩ := h; exact Nat.le_of_ble_eq_true rfl) ?_
  intro p e s m args below meth c D G bs S av C hr hin hpre
  obtain ⟨rfl, hh⟩ := hpre
  have E0 : ext S S (fun a => a = h) := ext_rfl
  refine v_aload_n C dX8_init_0 rfl ?_
  refine v_objInit C wd216 wd11 wd12 dX8_init_1 (Nat.le_of_ble_eq_true rfl) (Nat.le_of_ble_eq_true rfl) ?_
  refine v_aload_n C dX8_init_4 rfl ?_
  refine v_new C (ci := 3) (by decide) rfl inlX3 tyX3_ok wd217 wd44 wd45 nfX3 (Nat.le_of_ble_eq_true rfl) (Nat.le_of_ble_eq_true rfl) dX8_init_5 (fun ln n_ln => ?_)
  have z_hh_ln := ne_of_is n_ln hh
  refine V.gen (fun S_5 e_5 => ?_)
  have w_ln := nm_ext E0 n_ln
  have x_5 := x_sNew e_5 n_ln
  have hh := is_ext x_5 hh
  have i_ln := is_sNewE (ci := 3) e_5 n_ln
  have E_5 := ext_tr E0 x_5 (fun _ _ z => z.elim)
  refine v_dup C dX8_init_8 rfl ?_
  refine v_callI (As := []) (n := 0) C (ct_X3_init l ln) rfl ⟨wd222, wd49, wd45, wd50⟩ rfl hy_X3_init rfl ⟨Nat.le_of_ble_eq_true rfl, Nat.le_of_ble_eq_true rfl⟩ (Nat.le_of_ble_eq_true rfl) ⟨Nat.le_of_ble_eq_true rfl, Nat.le_of_ble_eq_true rfl⟩ dX8_init_9 ⟨rfl, i_ln⟩ (fun r_9 S_9 h_9 => ?_)
  obtain ⟨rfl, r, q, n_r, n_q, y_ln, e_9⟩ := h_9
  have x_9 := x_nLine e_9 n_r n_q y_ln
  have l_ln := lineAt_nLineE e_9 i_ln n_r n_q y_ln
  have w_r := nm_ext E_5 n_r
  have w_q := nm_ext E_5 n_q
  have hh := is_ext x_9 hh
  have i_ln := is_ext x_9 i_ln
  have E_9 := ext_tr E_5 x_9 (fun a ha z => absurd (z ▸ ha) w_ln)
  refine p8_12 (v := some _) C hh (hin rfl) dX8_init_12 ?_
  refine V.gen (fun S_12 e_12 => ?_)
  have x_12 := x_sO e_12
  have hh := is_ext x_12 hh
  have i_ln := is_ext x_12 i_ln
  have l_ln := lineAt_ext x_12 z_hh_ln.symm l_ln
  have E_12 := ext_tr E_9 x_12 (fun _ _ z => z)
  refine v_aload_n C dX8_init_15 rfl ?_
  refine v_bipush (v := 12) C dX8_init_16 (by decide) ?_
  refine v_newrefs C (kd := 16) (N := 12) (t0 := 5) (by decide) (by decide +kernel) wd219 rfl (by decide) (by decide) (Nat.le_of_ble_eq_true rfl) (Nat.le_of_ble_eq_true rfl) (Nat.le_of_ble_eq_true rfl) dX8_init_18 (fun bo n_bo => ?_)
  have z_hh_bo := ne_of_is n_bo hh
  have z_i_ln_bo := ne_of_is n_bo i_ln
  refine V.gen (fun S_18 e_18 => ?_)
  have w_bo := nm_ext E_12 n_bo
  have x_18 := x_sArr e_18 n_bo
  have hh := is_ext x_18 hh
  have i_ln := is_ext x_18 i_ln
  have i_bo := isA_sArrE (kd := 16) (n := 12) e_18 n_bo
  have l_ln := lineAt_ext x_18 (fun z => z) l_ln
  have E_18 := ext_tr E_12 x_18 (fun _ _ z => z.elim)
  refine p8_20 (v := some _) C hh (hin rfl) dX8_init_21 ?_
  refine V.gen (fun S_21 e_21 => ?_)
  have x_21 := x_sO e_21
  have hh := is_ext x_21 hh
  have i_ln := is_ext x_21 i_ln
  have i_bo := isA_ext x_21 i_bo
  have l_ln := lineAt_ext x_21 z_hh_ln.symm l_ln
  have E_21 := ext_tr E_18 x_21 (fun _ _ z => z)
  refine v_aload_n C dX8_init_24 rfl ?_
  refine v_bipush (v := 12) C dX8_init_25 (by decide) ?_
  refine v_newrefs C (kd := 16) (N := 12) (t0 := 5) (by decide) (by decide +kernel) wd219 rfl (by decide) (by decide) (Nat.le_of_ble_eq_true rfl) (Nat.le_of_ble_eq_true rfl) (Nat.le_of_ble_eq_true rfl) dX8_init_27 (fun gu n_gu => ?_)
  have z_hh_gu := ne_of_is n_gu hh
  have z_i_ln_gu := ne_of_is n_gu i_ln
  have z_i_bo_gu := ne_of_isA n_gu i_bo
  refine V.gen (fun S_27 e_27 => ?_)
  have w_gu := nm_ext E_21 n_gu
  have x_27 := x_sArr e_27 n_gu
  have hh := is_ext x_27 hh
  have i_ln := is_ext x_27 i_ln
  have i_bo := isA_ext x_27 i_bo
  have i_gu := isA_sArrE (kd := 16) (n := 12) e_27 n_gu
  have l_ln := lineAt_ext x_27 (fun z => z) l_ln
  have E_27 := ext_tr E_21 x_27 (fun _ _ z => z.elim)
  refine p8_24 (v := some _) C hh (hin rfl) dX8_init_30 ?_
  refine V.gen (fun S_30 e_30 => ?_)
  have x_30 := x_sO e_30
  have hh := is_ext x_30 hh
  have i_ln := is_ext x_30 i_ln
  have i_bo := isA_ext x_30 i_bo
  have i_gu := isA_ext x_30 i_gu
  have l_ln := lineAt_ext x_30 z_hh_ln.symm l_ln
  have E_30 := ext_tr E_27 x_30 (fun _ _ z => z)
  refine v_vret C hr (Nat.le_of_ble_eq_true rfl) (Nat.le_of_ble_eq_true rfl) dX8_init_33 ?_
  refine ⟨rfl, E_30, ln, r, q, w_ln, w_r, w_q, hh, ?_, l_ln, ?_⟩ <;> simp [mO_sO, mO_sArr, mO_sNew, mO_sI, mO_sA, mO_sP, mO_sFill, mI_sO, mI_sArr, mI_sNew, mI_sA, mI_sP, mI_sFill, mP_sO, mP_sArr, mP_sNew, mJ_sO, mJ_sArr, mJ_sNew, mO_nLine, mI_nLine, z_hh_ln, e_30, e_27, e_21, e_18, e_12, e_9, e_5]

theorem dX1_addTrait_0 : decode cX1_addTrait 0 = .ok (.aload_n 0, 1) := by decide +kernel
theorem dX1_addTrait_1 : decode cX1_addTrait 1 = .ok (.getfield 76, 3) := by decide +kernel
theorem dX1_addTrait_4 : decode cX1_addTrait 4 = .ok (.istore_n 1, 1) := by decide +kernel
theorem dX1_addTrait_5 : decode cX1_addTrait 5 = .ok (.iload_n 1, 1) := by decide +kernel
theorem dX1_addTrait_6 : decode cX1_addTrait 6 = .ok (.bipush 20, 2) := by decide +kernel
theorem dX1_addTrait_8 : decode cX1_addTrait 8 = .ok (.invokestatic 37, 3) := by decide +kernel
theorem dX1_addTrait_11 : decode cX1_addTrait 11 = .ok (.ifCond .eq 50, 3) := by decide +kernel
theorem dX1_addTrait_14 : decode cX1_addTrait 14 = .ok (.new 9, 3) := by decide +kernel
theorem dX1_addTrait_17 : decode cX1_addTrait 17 = .ok (.dup, 1) := by decide +kernel
theorem dX1_addTrait_18 : decode cX1_addTrait 18 = .ok (.invokespecial 79, 3) := by decide +kernel
theorem dX1_addTrait_21 : decode cX1_addTrait 21 = .ok (.astore_n 2, 1) := by decide +kernel
theorem dX1_addTrait_22 : decode cX1_addTrait 22 = .ok (.aload_n 2, 1) := by decide +kernel
theorem dX1_addTrait_23 : decode cX1_addTrait 23 = .ok (.getfield 68, 3) := by decide +kernel
theorem dX1_addTrait_26 : decode cX1_addTrait 26 = .ok (.iload_n 1, 1) := by decide +kernel
theorem dX1_addTrait_27 : decode cX1_addTrait 27 = .ok (.invokevirtual 80, 3) := by decide +kernel
theorem dX1_addTrait_30 : decode cX1_addTrait 30 = .ok (.aload_n 2, 1) := by decide +kernel
theorem dX1_addTrait_31 : decode cX1_addTrait 31 = .ok (.getfield 68, 3) := by decide +kernel
theorem dX1_addTrait_34 : decode cX1_addTrait 34 = .ok (.aload_n 0, 1) := by decide +kernel
theorem dX1_addTrait_35 : decode cX1_addTrait 35 = .ok (.getfield 26, 3) := by decide +kernel
theorem dX1_addTrait_38 : decode cX1_addTrait 38 = .ok (.getfield 85, 3) := by decide +kernel
theorem dX1_addTrait_41 : decode cX1_addTrait 41 = .ok (.invokevirtual 88, 3) := by decide +kernel
theorem dX1_addTrait_44 : decode cX1_addTrait 44 = .ok (.aload_n 0, 1) := by decide +kernel
theorem dX1_addTrait_45 : decode cX1_addTrait 45 = .ok (.getfield 11, 3) := by decide +kernel
theorem dX1_addTrait_48 : decode cX1_addTrait 48 = .ok (.iload_n 1, 1) := by decide +kernel
theorem dX1_addTrait_49 : decode cX1_addTrait 49 = .ok (.aload_n 2, 1) := by decide +kernel
theorem dX1_addTrait_50 : decode cX1_addTrait 50 = .ok (.aastore, 1) := by decide +kernel
theorem dX1_addTrait_51 : decode cX1_addTrait 51 = .ok (.aload_n 0, 1) := by decide +kernel
theorem dX1_addTrait_52 : decode cX1_addTrait 52 = .ok (.dup, 1) := by decide +kernel
theorem dX1_addTrait_53 : decode cX1_addTrait 53 = .ok (.getfield 76, 3) := by decide +kernel
theorem dX1_addTrait_56 : decode cX1_addTrait 56 = .ok (.iconst 1, 1) := by decide +kernel
theorem dX1_addTrait_57 : decode cX1_addTrait 57 = .ok (.iadd, 1) := by decide +kernel
theorem dX1_addTrait_58 : decode cX1_addTrait 58 = .ok (.putfield 76, 3) := by decide +kernel
theorem dX1_addTrait_61 : decode cX1_addTrait 61 = .ok (.iload_n 1, 1) := by decide +kernel
theorem dX1_addTrait_62 : decode cX1_addTrait 62 = .ok (.ireturn, 1) := by decide +kernel
set_option maxRecDepth 100000 in
set_option maxHeartbeats 4000000 in
theorem ct_X1_addTrait (l : Launch) (co ts mg ml : Nat) : Ct l yX1_addTrait cX1_addTrait 3 (some .int) 3 6 70 82 (fun S av => av = [.ref co] ∧ is S co 1 ∧ mO S 64 co = some ts ∧ isA S ts 17 20 ∧ mO S 68 co = some mg ∧ is S mg 4 ∧ mO S 259 mg = some ml ∧ is S ml 3 ∧ mI S 65 co = 0 ∧ mI S 194 ml = 0) (fun S _ r0 S' => r0 = some (.int 0) ∧ ext S S' (fun a => a = co ∨ a = ts)) := by
  refine ct_of (by decide) (fun S av h => by obtain ⟨rfl, i_co, e_ts, i_ts, e_mg, i_mg, e_ml, i_ml, e_tc, e_l⟩ := h; exact Nat.le_of_ble_eq_true rfl) ?_
  intro p e s m args below meth c D G bs S av C hr hin hpre
  obtain ⟨rfl, i_co, e_ts, i_ts, e_mg, i_mg, e_ml, i_ml, e_tc, e_l⟩ := hpre
  have E0 : ext S S (fun a => a = co ∨ a = ts) := ext_rfl
  refine v_aload_n C dX1_addTrait_0 rfl ?_
  refine g1_76 C i_co dX1_addTrait_1 ?_
  rw [e_tc]
  refine v_istore_n C dX1_addTrait_4 (by decide) rfl ?_
  refine v_iload_n C dX1_addTrait_5 rfl ?_
  refine v_bipush (v := 20) C dX1_addTrait_6 (by decide) ?_
  refine v_callSN (As := [_, _]) (n := 2) C (ct_X9_isBelow l _ _) rfl ⟨(by decide +kernel), wd141, wd2, wd142⟩ hy_X9_isBelow rfl ⟨Nat.le_of_ble_eq_true rfl, Nat.le_of_ble_eq_true rfl⟩ (Nat.le_of_ble_eq_true rfl) ⟨Nat.le_of_ble_eq_true rfl, Nat.le_of_ble_eq_true rfl⟩ dX1_addTrait_8 rfl (fun r_8 S_8 h_8 => ?_)
  obtain ⟨rfl, q_8⟩ := h_8
  obtain rfl := q_8.symm
  refine v_if_eq (tgt := 61) C dX1_addTrait_11 (by decide) (fun c_11 => ?_) (fun c_11 => ?_)
  · skip
    exact absurd c_11 (by decide)
  · skip
    refine v_new C (ci := 8) (by decide) rfl inlX8 tyX8_ok wd25 wd211 wd212 nfX8 (Nat.le_of_ble_eq_true rfl) (Nat.le_of_ble_eq_true rfl) dX1_addTrait_14 (fun md n_md => ?_)
    have z_i_co_md := ne_of_is n_md i_co
    have z_i_ts_md := ne_of_isA n_md i_ts
    have z_i_mg_md := ne_of_is n_md i_mg
    have z_i_ml_md := ne_of_is n_md i_ml
    refine V.gen (fun S_14 e_14 => ?_)
    have w_md := nm_ext E0 n_md
    have x_14 := x_sNew e_14 n_md
    have i_co := is_ext x_14 i_co
    have i_ts := isA_ext x_14 i_ts
    have i_mg := is_ext x_14 i_mg
    have i_ml := is_ext x_14 i_ml
    have i_md := is_sNewE (ci := 8) e_14 n_md
    have e_co : ∀ g, mO S_14 g co = mO S g co := fun g => by rw [e_14, mO_sNew, if_neg z_i_co_md]
    have e_mgm : ∀ g, mO S_14 g mg = mO S g mg := fun g => by rw [e_14, mO_sNew, if_neg z_i_mg_md]
    have E_14 := ext_tr E0 x_14 (fun _ _ z => z.elim)
    refine v_dup C dX1_addTrait_17 rfl ?_
    refine v_callIN (As := []) (n := 0) C (ct_X8_init l md) rfl ⟨(by decide +kernel), wd214, wd212, wd215⟩ rfl hy_X8_init rfl ⟨Nat.le_of_ble_eq_true rfl, Nat.le_of_ble_eq_true rfl⟩ (Nat.le_of_ble_eq_true rfl) ⟨Nat.le_of_ble_eq_true rfl, Nat.le_of_ble_eq_true rfl⟩ dX1_addTrait_18 ⟨rfl, i_md⟩ (fun r_18 S_18 h_18 => ?_)
    obtain ⟨rfl, x_18, ln, r, q, n_ln, n_lr, n_lq, k_md, e_ln, l_ln, v_ln⟩ := h_18
    have ac_18 := x_18.2 co i_co.1 z_i_co_md
    have am_18 := x_18.2 mg i_mg.1 z_i_mg_md
    have al_18 := x_18.2 ml i_ml.1 z_i_ml_md
    have n_mlln : ml ≠ ln := fun z => n_ln (z ▸ i_ml.1)
    have i_co := is_ext x_18 i_co
    have i_ts := isA_ext x_18 i_ts
    have i_mg := is_ext x_18 i_mg
    have i_ml := is_ext x_18 i_ml
    have i_md := is_ext x_18 i_md
    have E_18 := ext_tr E_14 x_18 (fun a ha z => absurd (z ▸ ha) w_md)
    have w_ln : ln ∉ mL S := nm_ext E_14 n_ln
    have w_r : r ∉ mL S := nm_ext E_14 n_lr
    have w_q : q ∉ mL S := nm_ext E_14 n_lq
    refine v_astore_n C dX1_addTrait_21 (by decide) rfl ?_
    refine v_aload_n C dX1_addTrait_22 rfl ?_
    refine r1_68 (b := ln) C i_md e_ln dX1_addTrait_23 ?_
    refine v_iload_n C dX1_addTrait_26 rfl ?_
    refine v_callV (As := [_]) (n := 1) C (ct_X3_add l ln r q 0 0) rfl l_ln.1 (by decide) rfl ⟨wd223, wd167, wd168, wd45, wd169⟩ ⟨rfl, hy_X3_add⟩ rfl ⟨Nat.le_of_ble_eq_true rfl, Nat.le_of_ble_eq_true rfl⟩ (Nat.le_of_ble_eq_true rfl) ⟨Nat.le_of_ble_eq_true rfl, Nat.le_of_ble_eq_true rfl⟩ dX1_addTrait_27 ⟨rfl, l_ln, v_ln, by decide, by decide⟩ (fun r_27 S_27 h_27 => ?_)
    obtain ⟨rfl, e_27⟩ := h_27
    have s27 : same S_18 S_27 := by rw [e_27]; exact same_tr (same_tr (same_sA ..) (same_sA ..)) (same_sI ..)
    have x_27 : ext S_18 S_27 (fun a => a ∉ mL S) := by
      rw [e_27]
      exact ext_sI (ext_sA (ext_sA ext_rfl (Or.inl w_r)) (Or.inl w_q)) (Or.inl w_ln)
    have i_co := is_ext x_27 i_co
    have i_ts := isA_ext x_27 i_ts
    have i_mg := is_ext x_27 i_mg
    have i_ml := is_ext x_27 i_ml
    have i_md := is_ext x_27 i_md
    have E_27 := ext_tr E_18 x_27 (fun a ha z => absurd ha z)
    have i_ln := is_same s27 l_ln.1
    have i_md := is_same s27 k_md
    have e_ln2 : mO S_27 512 md = some ln := by rw [s27.2.2.2]; exact e_ln
    have e_mg : mO S_27 68 co = some mg := by rw [s27.2.2.2, ac_18.2.1, e_co]; exact e_mg
    have e_ml : mO S_27 259 mg = some ml := by rw [s27.2.2.2, am_18.2.1, e_mgm]; exact e_ml
    have e_ts : mO S_27 64 co = some ts := by rw [s27.2.2.2, ac_18.2.1, e_co]; exact e_ts
    have v_ml : mI S_27 194 ml = 0 := by rw [e_27, mI_sI, if_neg (fun z => n_mlln z.2), mI_sA, mI_sA, al_18.1, e_14, mI_sNew, if_neg z_i_ml_md]; exact e_l
    have v_co : mI S_27 65 co = 0 := by rw [e_27, mI_sI, if_neg (fun z => absurd z.1 (by decide)), mI_sA, mI_sA, ac_18.1, e_14, mI_sNew, if_neg z_i_co_md]; exact e_tc
    refine v_aload_n C dX1_addTrait_30 rfl ?_
    refine r1_68 (b := ln) C i_md e_ln2 dX1_addTrait_31 ?_
    refine v_aload_n C dX1_addTrait_34 rfl ?_
    refine r1_26 (b := mg) C i_co e_mg dX1_addTrait_35 ?_
    refine r1_85 (b := ml) C i_mg e_ml dX1_addTrait_38 ?_
    refine v_callV (As := [_]) (n := 1) C (ct_X3_addAll l ln ml) rfl i_ln (by decide) rfl ⟨wd224, wd225, wd226, wd45, wd227⟩ ⟨rfl, hy_X3_addAll⟩ rfl ⟨Nat.le_of_ble_eq_true rfl, Nat.le_of_ble_eq_true rfl⟩ (Nat.le_of_ble_eq_true rfl) ⟨Nat.le_of_ble_eq_true rfl, Nat.le_of_ble_eq_true rfl⟩ dX1_addTrait_41 ⟨rfl, i_ln, i_ml, v_ml⟩ (fun r_41 S_41 h_41 => ?_)
    obtain ⟨rfl, q_41⟩ := h_41
    obtain rfl := q_41.symm
    refine v_aload_n C dX1_addTrait_44 rfl ?_
    refine r1_11 (b := ts) C i_co e_ts dX1_addTrait_45 ?_
    refine v_iload_n C dX1_addTrait_48 rfl ?_
    refine v_aload_n C dX1_addTrait_49 rfl ?_
    refine v_aast (t0 := 6) C i_ts (by decide) i_md (by decide) rfl rfl (vp_in_nI (n := 0) (N := 20) (by decide) (by decide)) dX1_addTrait_50 ?_
    refine V.gen (fun S_50 e_50 => ?_)
    have x_50 := x_sP e_50
    have i_co := is_ext x_50 i_co
    have i_ts := isA_ext x_50 i_ts
    have i_mg := is_ext x_50 i_mg
    have i_ml := is_ext x_50 i_ml
    have i_md := is_ext x_50 i_md
    have E_50 := ext_tr E_27 x_50 (fun _ _ z => Or.inr z)
    refine v_aload_n C dX1_addTrait_51 rfl ?_
    refine v_dup C dX1_addTrait_52 rfl ?_
    refine g1_76 C i_co dX1_addTrait_53 ?_
    rw [show mI S_50 65 co = 0 from by rw [e_50, mI_sP]; exact v_co]
    refine v_iconst (v := 1) C dX1_addTrait_56 (by decide) ?_
    refine v_iadd C dX1_addTrait_57 ?_
    refine p1_76 C i_co dX1_addTrait_58 ?_
    refine V.gen (fun S_58 e_58 => ?_)
    have x_58 := x_sI e_58
    have i_co := is_ext x_58 i_co
    have i_ts := isA_ext x_58 i_ts
    have i_mg := is_ext x_58 i_mg
    have i_ml := is_ext x_58 i_ml
    have i_md := is_ext x_58 i_md
    have E_58 := ext_tr E_50 x_58 (fun _ _ z => Or.inl z)
    refine v_iload_n C dX1_addTrait_61 rfl ?_
    refine v_iret C hr (Nat.le_of_ble_eq_true rfl) (Nat.le_of_ble_eq_true rfl) dX1_addTrait_62 ?_
    exact ⟨rfl, E_58⟩

