theorem dX2_init_0 : decode cX2_init 0 = .ok (.aload_n 0, 1) := by decide +kernel
theorem dX2_init_1 : decode cX2_init 1 = .ok (.invokespecial 3, 3) := by decide +kernel
theorem dX2_init_4 : decode cX2_init 4 = .ok (.aload_n 0, 1) := by decide +kernel
theorem dX2_init_5 : decode cX2_init 5 = .ok (.new 9, 3) := by decide +kernel
theorem dX2_init_8 : decode cX2_init 8 = .ok (.dup, 1) := by decide +kernel
theorem dX2_init_9 : decode cX2_init 9 = .ok (.invokespecial 11, 3) := by decide +kernel
theorem dX2_init_12 : decode cX2_init 12 = .ok (.putfield 12, 3) := by decide +kernel
theorem dX2_init_15 : decode cX2_init 15 = .ok (.aload_n 0, 1) := by decide +kernel
theorem dX2_init_16 : decode cX2_init 16 = .ok (.iconst 5, 1) := by decide +kernel
theorem dX2_init_17 : decode cX2_init 17 = .ok (.newarray .int, 2) := by decide +kernel
theorem dX2_init_19 : decode cX2_init 19 = .ok (.putfield 18, 3) := by decide +kernel
theorem dX2_init_22 : decode cX2_init 22 = .ok (.aload_n 0, 1) := by decide +kernel
theorem dX2_init_23 : decode cX2_init 23 = .ok (.bipush 12, 2) := by decide +kernel
theorem dX2_init_25 : decode cX2_init 25 = .ok (.anewarray 22, 3) := by decide +kernel
theorem dX2_init_28 : decode cX2_init 28 = .ok (.putfield 24, 3) := by decide +kernel
theorem dX2_init_31 : decode cX2_init 31 = .ok (.aload_n 0, 1) := by decide +kernel
theorem dX2_init_32 : decode cX2_init 32 = .ok (.sipush 240, 3) := by decide +kernel
theorem dX2_init_35 : decode cX2_init 35 = .ok (.newarray .boolean, 2) := by decide +kernel
theorem dX2_init_37 : decode cX2_init 37 = .ok (.putfield 28, 3) := by decide +kernel
theorem dX2_init_40 : decode cX2_init 40 = .ok (.aload_n 0, 1) := by decide +kernel
theorem dX2_init_41 : decode cX2_init 41 = .ok (.sipush 240, 3) := by decide +kernel
theorem dX2_init_44 : decode cX2_init 44 = .ok (.newarray .int, 2) := by decide +kernel
theorem dX2_init_46 : decode cX2_init 46 = .ok (.putfield 32, 3) := by decide +kernel
theorem dX2_init_49 : decode cX2_init 49 = .ok (.aload_n 0, 1) := by decide +kernel
theorem dX2_init_50 : decode cX2_init 50 = .ok (.sipush 240, 3) := by decide +kernel
theorem dX2_init_53 : decode cX2_init 53 = .ok (.newarray .int, 2) := by decide +kernel
theorem dX2_init_55 : decode cX2_init 55 = .ok (.putfield 35, 3) := by decide +kernel
theorem dX2_init_58 : decode cX2_init 58 = .ok (.aload_n 0, 1) := by decide +kernel
theorem dX2_init_59 : decode cX2_init 59 = .ok (.bipush 12, 2) := by decide +kernel
theorem dX2_init_61 : decode cX2_init 61 = .ok (.newarray .int, 2) := by decide +kernel
theorem dX2_init_63 : decode cX2_init 63 = .ok (.putfield 38, 3) := by decide +kernel
theorem dX2_init_66 : decode cX2_init 66 = .ok (.aload_n 0, 1) := by decide +kernel
theorem dX2_init_67 : decode cX2_init 67 = .ok (.iconst 4, 1) := by decide +kernel
theorem dX2_init_68 : decode cX2_init 68 = .ok (.newarray .long, 2) := by decide +kernel
theorem dX2_init_70 : decode cX2_init 70 = .ok (.putfield 41, 3) := by decide +kernel
theorem dX2_init_73 : decode cX2_init 73 = .ok (.aload_n 0, 1) := by decide +kernel
theorem dX2_init_74 : decode cX2_init 74 = .ok (.iload_n 1, 1) := by decide +kernel
theorem dX2_init_75 : decode cX2_init 75 = .ok (.putfield 45, 3) := by decide +kernel
theorem dX2_init_78 : decode cX2_init 78 = .ok (.aload_n 0, 1) := by decide +kernel
theorem dX2_init_79 : decode cX2_init 79 = .ok (.iload_n 2, 1) := by decide +kernel
theorem dX2_init_80 : decode cX2_init 80 = .ok (.putfield 49, 3) := by decide +kernel
theorem dX2_init_83 : decode cX2_init 83 = .ok (.aload_n 0, 1) := by decide +kernel
theorem dX2_init_84 : decode cX2_init 84 = .ok (.getfield 32, 3) := by decide +kernel
theorem dX2_init_87 : decode cX2_init 87 = .ok (.iconst (-1), 1) := by decide +kernel
theorem dX2_init_88 : decode cX2_init 88 = .ok (.invokestatic 52, 3) := by decide +kernel
theorem dX2_init_91 : decode cX2_init 91 = .ok (.aload_n 0, 1) := by decide +kernel
theorem dX2_init_92 : decode cX2_init 92 = .ok (.getfield 35, 3) := by decide +kernel
theorem dX2_init_95 : decode cX2_init 95 = .ok (.iconst (-1), 1) := by decide +kernel
theorem dX2_init_96 : decode cX2_init 96 = .ok (.invokestatic 52, 3) := by decide +kernel
theorem dX2_init_99 : decode cX2_init 99 = .ok (.aload_n 0, 1) := by decide +kernel
theorem dX2_init_100 : decode cX2_init 100 = .ok (.getfield 38, 3) := by decide +kernel
theorem dX2_init_103 : decode cX2_init 103 = .ok (.iconst (-1), 1) := by decide +kernel
theorem dX2_init_104 : decode cX2_init 104 = .ok (.invokestatic 52, 3) := by decide +kernel
theorem dX2_init_107 : decode cX2_init 107 = .ok (.return_, 1) := by decide +kernel
set_option maxRecDepth 100000 in
set_option maxHeartbeats 4000000 in
theorem ct_X2_init (l : Launch) (h : Nat) (a b : Int32) : Ct l yX2_init cX2_init 3 none 2 10 796 43 (fun S av => av = [.ref h, .int a, .int b] ∧ is S h 2) (fun S _ r0 S' => r0 = none ∧ ext S S' (fun a => a = h) ∧ is S' h 2) := by
  refine ct_of (by decide) (fun S av h => by obtain ⟨rfl, hh⟩ := h; exact Nat.le_of_ble_eq_true rfl) ?_
  intro p e s m args below meth c D G bs S av C hr hin hpre
  obtain ⟨rfl, hh⟩ := hpre
  have E0 : ext S S (fun a => a = h) := ext_rfl
  refine v_aload_n C dX2_init_0 rfl ?_
  refine v_objInit C wd275 wd11 wd12 dX2_init_1 (Nat.le_of_ble_eq_true rfl) (Nat.le_of_ble_eq_true rfl) ?_
  refine v_aload_n C dX2_init_4 rfl ?_
  refine v_new C (ci := 3) (by decide) rfl inlX3 tyX3_ok wd276 wd44 wd45 nfX3 (Nat.le_of_ble_eq_true rfl) (Nat.le_of_ble_eq_true rfl) dX2_init_5 (fun ln n_ln => ?_)
  have z_hh_ln := ne_of_is n_ln hh
  refine V.gen (fun S_5 e_5 => ?_)
  have w_ln := nm_ext E0 n_ln
  have x_5 := x_sNew e_5 n_ln
  have hh := is_ext x_5 hh
  have i_ln := is_sNewE (ci := 3) e_5 n_ln
  have E_5 := ext_tr E0 x_5 (fun _ _ z => z.elim)
  refine v_dup C dX2_init_8 rfl ?_
  refine v_callI (As := []) (n := 0) C (ct_X3_init l ln) rfl ⟨wd288, wd49, wd45, wd50⟩ rfl hy_X3_init rfl ⟨Nat.le_of_ble_eq_true rfl, Nat.le_of_ble_eq_true rfl⟩ (Nat.le_of_ble_eq_true rfl) ⟨Nat.le_of_ble_eq_true rfl, Nat.le_of_ble_eq_true rfl⟩ dX2_init_9 ⟨rfl, i_ln⟩ (fun r_9 S_9 h_9 => ?_)
  obtain ⟨rfl, r, q, n_r, n_q, y_ln, e_9⟩ := h_9
  have x_9 := x_nLine e_9 n_r n_q y_ln
  have hh := is_ext x_9 hh
  have i_ln := is_ext x_9 i_ln
  have E_9 := ext_tr E_5 x_9 (fun a ha z => absurd (z ▸ ha) w_ln)
  refine p2_12 (v := some _) C hh (hin rfl) dX2_init_12 ?_
  refine V.gen (fun S_12 e_12 => ?_)
  have x_12 := x_sO e_12
  have hh := is_ext x_12 hh
  have i_ln := is_ext x_12 i_ln
  have E_12 := ext_tr E_9 x_12 (fun _ _ z => z)
  refine v_aload_n C dX2_init_15 rfl ?_
  refine v_iconst (v := 5) C dX2_init_16 (by decide) ?_
  refine v_newarr C (kd := 11) (N := 5) wd42 rfl (t0 := 0) rfl (by decide) (fun _ => cell_newI (Or.inl rfl)) (fun _ => vp_cell_i _ _ _) (by decide) (by decide) (Nat.le_of_ble_eq_true rfl) (Nat.le_of_ble_eq_true rfl) (Nat.le_of_ble_eq_true rfl) dX2_init_17 (fun tk n_tk => ?_)
  have z_hh_tk := ne_of_is n_tk hh
  have z_i_ln_tk := ne_of_is n_tk i_ln
  refine V.gen (fun S_17 e_17 => ?_)
  have w_tk := nm_ext E_12 n_tk
  have x_17 := x_sArr e_17 n_tk
  have hh := is_ext x_17 hh
  have i_ln := is_ext x_17 i_ln
  have i_tk := isA_sArrE (kd := 11) (n := 5) e_17 n_tk
  have E_17 := ext_tr E_12 x_17 (fun _ _ z => z.elim)
  refine p2_18 (v := some _) C hh (hin rfl) dX2_init_19 ?_
  refine V.gen (fun S_19 e_19 => ?_)
  have x_19 := x_sO e_19
  have hh := is_ext x_19 hh
  have i_ln := is_ext x_19 i_ln
  have i_tk := isA_ext x_19 i_tk
  have E_19 := ext_tr E_17 x_19 (fun _ _ z => z)
  refine v_aload_n C dX2_init_22 rfl ?_
  refine v_bipush (v := 12) C dX2_init_23 (by decide) ?_
  refine v_newrefs C (kd := 16) (N := 12) (t0 := 5) (by decide) (by decide +kernel) wd279 rfl (by decide) (by decide) (Nat.le_of_ble_eq_true rfl) (Nat.le_of_ble_eq_true rfl) (Nat.le_of_ble_eq_true rfl) dX2_init_25 (fun ob n_ob => ?_)
  have z_hh_ob := ne_of_is n_ob hh
  have z_i_ln_ob := ne_of_is n_ob i_ln
  have z_i_tk_ob := ne_of_isA n_ob i_tk
  refine V.gen (fun S_25 e_25 => ?_)
  have w_ob := nm_ext E_19 n_ob
  have x_25 := x_sArr e_25 n_ob
  have hh := is_ext x_25 hh
  have i_ln := is_ext x_25 i_ln
  have i_tk := isA_ext x_25 i_tk
  have i_ob := isA_sArrE (kd := 16) (n := 12) e_25 n_ob
  have E_25 := ext_tr E_19 x_25 (fun _ _ z => z.elim)
  refine p2_24 (v := some _) C hh (hin rfl) dX2_init_28 ?_
  refine V.gen (fun S_28 e_28 => ?_)
  have x_28 := x_sO e_28
  have hh := is_ext x_28 hh
  have i_ln := is_ext x_28 i_ln
  have i_tk := isA_ext x_28 i_tk
  have i_ob := isA_ext x_28 i_ob
  have E_28 := ext_tr E_25 x_28 (fun _ _ z => z)
  refine v_aload_n C dX2_init_31 rfl ?_
  refine v_sipush (v := 240) C dX2_init_32 (by decide) ?_
  refine v_newarr C (kd := 13) (N := 240) wd87 rfl (t0 := 2) rfl (by decide) (fun _ => cell_newI (Or.inr rfl)) (fun _ => vp_cell_i _ _ _) (by decide) (by decide) (Nat.le_of_ble_eq_true rfl) (Nat.le_of_ble_eq_true rfl) (Nat.le_of_ble_eq_true rfl) dX2_init_35 (fun lf n_lf => ?_)
  have z_hh_lf := ne_of_is n_lf hh
  have z_i_ln_lf := ne_of_is n_lf i_ln
  have z_i_tk_lf := ne_of_isA n_lf i_tk
  have z_i_ob_lf := ne_of_isA n_lf i_ob
  refine V.gen (fun S_35 e_35 => ?_)
  have w_lf := nm_ext E_28 n_lf
  have x_35 := x_sArr e_35 n_lf
  have hh := is_ext x_35 hh
  have i_ln := is_ext x_35 i_ln
  have i_tk := isA_ext x_35 i_tk
  have i_ob := isA_ext x_35 i_ob
  have i_lf := isA_sArrE (kd := 13) (n := 240) e_35 n_lf
  have E_35 := ext_tr E_28 x_35 (fun _ _ z => z.elim)
  refine p2_28 (v := some _) C hh (hin rfl) dX2_init_37 ?_
  refine V.gen (fun S_37 e_37 => ?_)
  have x_37 := x_sO e_37
  have hh := is_ext x_37 hh
  have i_ln := is_ext x_37 i_ln
  have i_tk := isA_ext x_37 i_tk
  have i_ob := isA_ext x_37 i_ob
  have i_lf := isA_ext x_37 i_lf
  have E_37 := ext_tr E_35 x_37 (fun _ _ z => z)
  refine v_aload_n C dX2_init_40 rfl ?_
  refine v_sipush (v := 240) C dX2_init_41 (by decide) ?_
  refine v_newarr C (kd := 11) (N := 240) wd42 rfl (t0 := 0) rfl (by decide) (fun _ => cell_newI (Or.inl rfl)) (fun _ => vp_cell_i _ _ _) (by decide) (by decide) (Nat.le_of_ble_eq_true rfl) (Nat.le_of_ble_eq_true rfl) (Nat.le_of_ble_eq_true rfl) dX2_init_44 (fun nm n_nm => ?_)
  have z_hh_nm := ne_of_is n_nm hh
  have z_i_ln_nm := ne_of_is n_nm i_ln
  have z_i_tk_nm := ne_of_isA n_nm i_tk
  have z_i_ob_nm := ne_of_isA n_nm i_ob
  have z_i_lf_nm := ne_of_isA n_nm i_lf
  refine V.gen (fun S_44 e_44 => ?_)
  have w_nm := nm_ext E_37 n_nm
  have x_44 := x_sArr e_44 n_nm
  have hh := is_ext x_44 hh
  have i_ln := is_ext x_44 i_ln
  have i_tk := isA_ext x_44 i_tk
  have i_ob := isA_ext x_44 i_ob
  have i_lf := isA_ext x_44 i_lf
  have i_nm := isA_sArrE (kd := 11) (n := 240) e_44 n_nm
  have E_44 := ext_tr E_37 x_44 (fun _ _ z => z.elim)
  refine p2_32 (v := some _) C hh (hin rfl) dX2_init_46 ?_
  refine V.gen (fun S_46 e_46 => ?_)
  have x_46 := x_sO e_46
  have hh := is_ext x_46 hh
  have i_ln := is_ext x_46 i_ln
  have i_tk := isA_ext x_46 i_tk
  have i_ob := isA_ext x_46 i_ob
  have i_lf := isA_ext x_46 i_lf
  have i_nm := isA_ext x_46 i_nm
  have E_46 := ext_tr E_44 x_46 (fun _ _ z => z)
  refine v_aload_n C dX2_init_49 rfl ?_
  refine v_sipush (v := 240) C dX2_init_50 (by decide) ?_
  refine v_newarr C (kd := 11) (N := 240) wd42 rfl (t0 := 0) rfl (by decide) (fun _ => cell_newI (Or.inl rfl)) (fun _ => vp_cell_i _ _ _) (by decide) (by decide) (Nat.le_of_ble_eq_true rfl) (Nat.le_of_ble_eq_true rfl) (Nat.le_of_ble_eq_true rfl) dX2_init_53 (fun og n_og => ?_)
  have z_hh_og := ne_of_is n_og hh
  have z_i_ln_og := ne_of_is n_og i_ln
  have z_i_tk_og := ne_of_isA n_og i_tk
  have z_i_ob_og := ne_of_isA n_og i_ob
  have z_i_lf_og := ne_of_isA n_og i_lf
  have z_i_nm_og := ne_of_isA n_og i_nm
  refine V.gen (fun S_53 e_53 => ?_)
  have w_og := nm_ext E_46 n_og
  have x_53 := x_sArr e_53 n_og
  have hh := is_ext x_53 hh
  have i_ln := is_ext x_53 i_ln
  have i_tk := isA_ext x_53 i_tk
  have i_ob := isA_ext x_53 i_ob
  have i_lf := isA_ext x_53 i_lf
  have i_nm := isA_ext x_53 i_nm
  have i_og := isA_sArrE (kd := 11) (n := 240) e_53 n_og
  have E_53 := ext_tr E_46 x_53 (fun _ _ z => z.elim)
  refine p2_35 (v := some _) C hh (hin rfl) dX2_init_55 ?_
  refine V.gen (fun S_55 e_55 => ?_)
  have x_55 := x_sO e_55
  have hh := is_ext x_55 hh
  have i_ln := is_ext x_55 i_ln
  have i_tk := isA_ext x_55 i_tk
  have i_ob := isA_ext x_55 i_ob
  have i_lf := isA_ext x_55 i_lf
  have i_nm := isA_ext x_55 i_nm
  have i_og := isA_ext x_55 i_og
  have E_55 := ext_tr E_53 x_55 (fun _ _ z => z)
  refine v_aload_n C dX2_init_58 rfl ?_
  refine v_bipush (v := 12) C dX2_init_59 (by decide) ?_
  refine v_newarr C (kd := 11) (N := 12) wd42 rfl (t0 := 0) rfl (by decide) (fun _ => cell_newI (Or.inl rfl)) (fun _ => vp_cell_i _ _ _) (by decide) (by decide) (Nat.le_of_ble_eq_true rfl) (Nat.le_of_ble_eq_true rfl) (Nat.le_of_ble_eq_true rfl) dX2_init_61 (fun pf n_pf => ?_)
  have z_hh_pf := ne_of_is n_pf hh
  have z_i_ln_pf := ne_of_is n_pf i_ln
  have z_i_tk_pf := ne_of_isA n_pf i_tk
  have z_i_ob_pf := ne_of_isA n_pf i_ob
  have z_i_lf_pf := ne_of_isA n_pf i_lf
  have z_i_nm_pf := ne_of_isA n_pf i_nm
  have z_i_og_pf := ne_of_isA n_pf i_og
  refine V.gen (fun S_61 e_61 => ?_)
  have w_pf := nm_ext E_55 n_pf
  have x_61 := x_sArr e_61 n_pf
  have hh := is_ext x_61 hh
  have i_ln := is_ext x_61 i_ln
  have i_tk := isA_ext x_61 i_tk
  have i_ob := isA_ext x_61 i_ob
  have i_lf := isA_ext x_61 i_lf
  have i_nm := isA_ext x_61 i_nm
  have i_og := isA_ext x_61 i_og
  have i_pf := isA_sArrE (kd := 11) (n := 12) e_61 n_pf
  have E_61 := ext_tr E_55 x_61 (fun _ _ z => z.elim)
  refine p2_38 (v := some _) C hh (hin rfl) dX2_init_63 ?_
  refine V.gen (fun S_63 e_63 => ?_)
  have x_63 := x_sO e_63
  have hh := is_ext x_63 hh
  have i_ln := is_ext x_63 i_ln
  have i_tk := isA_ext x_63 i_tk
  have i_ob := isA_ext x_63 i_ob
  have i_lf := isA_ext x_63 i_lf
  have i_nm := isA_ext x_63 i_nm
  have i_og := isA_ext x_63 i_og
  have i_pf := isA_ext x_63 i_pf
  have E_63 := ext_tr E_61 x_63 (fun _ _ z => z)
  refine v_aload_n C dX2_init_66 rfl ?_
  refine v_iconst (v := 4) C dX2_init_67 (by decide) ?_
  refine v_newarr C (kd := 12) (N := 4) wd73 rfl (t0 := 1) rfl (by decide) (fun _ => cell_newJ) (fun _ => vp_cell_l _ _ _) (by decide) (by decide) (Nat.le_of_ble_eq_true rfl) (Nat.le_of_ble_eq_true rfl) (Nat.le_of_ble_eq_true rfl) dX2_init_68 (fun md n_md => ?_)
  have z_hh_md := ne_of_is n_md hh
  have z_i_ln_md := ne_of_is n_md i_ln
  have z_i_tk_md := ne_of_isA n_md i_tk
  have z_i_ob_md := ne_of_isA n_md i_ob
  have z_i_lf_md := ne_of_isA n_md i_lf
  have z_i_nm_md := ne_of_isA n_md i_nm
  have z_i_og_md := ne_of_isA n_md i_og
  have z_i_pf_md := ne_of_isA n_md i_pf
  refine V.gen (fun S_68 e_68 => ?_)
  have w_md := nm_ext E_63 n_md
  have x_68 := x_sArr e_68 n_md
  have hh := is_ext x_68 hh
  have i_ln := is_ext x_68 i_ln
  have i_tk := isA_ext x_68 i_tk
  have i_ob := isA_ext x_68 i_ob
  have i_lf := isA_ext x_68 i_lf
  have i_nm := isA_ext x_68 i_nm
  have i_og := isA_ext x_68 i_og
  have i_pf := isA_ext x_68 i_pf
  have i_md := isA_sArrE (kd := 12) (n := 4) e_68 n_md
  have E_68 := ext_tr E_63 x_68 (fun _ _ z => z.elim)
  refine p2_41 (v := some _) C hh (hin rfl) dX2_init_70 ?_
  refine V.gen (fun S_70 e_70 => ?_)
  have x_70 := x_sO e_70
  have hh := is_ext x_70 hh
  have i_ln := is_ext x_70 i_ln
  have i_tk := isA_ext x_70 i_tk
  have i_ob := isA_ext x_70 i_ob
  have i_lf := isA_ext x_70 i_lf
  have i_nm := isA_ext x_70 i_nm
  have i_og := isA_ext x_70 i_og
  have i_pf := isA_ext x_70 i_pf
  have i_md := isA_ext x_70 i_md
  have E_70 := ext_tr E_68 x_70 (fun _ _ z => z)
  refine v_aload_n C dX2_init_73 rfl ?_
  refine v_iload_n C dX2_init_74 rfl ?_
  refine p2_45 C hh (hin rfl) dX2_init_75 ?_
  refine V.gen (fun S_75 e_75 => ?_)
  have x_75 := x_sI e_75
  have hh := is_ext x_75 hh
  have i_ln := is_ext x_75 i_ln
  have i_tk := isA_ext x_75 i_tk
  have i_ob := isA_ext x_75 i_ob
  have i_lf := isA_ext x_75 i_lf
  have i_nm := isA_ext x_75 i_nm
  have i_og := isA_ext x_75 i_og
  have i_pf := isA_ext x_75 i_pf
  have i_md := isA_ext x_75 i_md
  have E_75 := ext_tr E_70 x_75 (fun _ _ z => z)
  refine v_aload_n C dX2_init_78 rfl ?_
  refine v_iload_n C dX2_init_79 rfl ?_
  refine p2_49 C hh (hin rfl) dX2_init_80 ?_
  refine V.gen (fun S_80 e_80 => ?_)
  have x_80 := x_sI e_80
  have hh := is_ext x_80 hh
  have i_ln := is_ext x_80 i_ln
  have i_tk := isA_ext x_80 i_tk
  have i_ob := isA_ext x_80 i_ob
  have i_lf := isA_ext x_80 i_lf
  have i_nm := isA_ext x_80 i_nm
  have i_og := isA_ext x_80 i_og
  have i_pf := isA_ext x_80 i_pf
  have i_md := isA_ext x_80 i_md
  have E_80 := ext_tr E_75 x_80 (fun _ _ z => z)
  refine v_aload_n C dX2_init_83 rfl ?_
  refine r2_32 (b := nm) C hh (by simp [mO_sO, mO_sArr, mO_sI, mO_sFill, e_80, e_75, e_70, e_68, e_63, e_61, e_55, e_53, e_46]) dX2_init_84 ?_
  refine v_iconst (v := -1) C dX2_init_87 (by decide) ?_
  refine v_callS (As := [_, _]) (n := 2) C (ct_J7_fill_53178 l nm 240 (-1)) rfl ⟨wd289, wd55, wd56, wd57⟩ hy_J7_fill_53178 rfl ⟨Nat.le_of_ble_eq_true rfl, Nat.le_of_ble_eq_true rfl⟩ (Nat.le_of_ble_eq_true rfl) ⟨Nat.le_of_ble_eq_true rfl, Nat.le_of_ble_eq_true rfl⟩ dX2_init_88 ⟨rfl, i_nm, by decide⟩ (fun r_88 S_88 h_88 => ?_)
  obtain ⟨rfl, e_88⟩ := h_88
  have x_88 := x_sFill e_88
  have hh := is_ext x_88 hh
  have i_ln := is_ext x_88 i_ln
  have i_tk := isA_ext x_88 i_tk
  have i_ob := isA_ext x_88 i_ob
  have i_lf := isA_ext x_88 i_lf
  have i_nm := isA_ext x_88 i_nm
  have i_og := isA_ext x_88 i_og
  have i_pf := isA_ext x_88 i_pf
  have i_md := isA_ext x_88 i_md
  have E_88 := ext_tr E_80 x_88 (fun a ha z => absurd (z ▸ ha) w_nm)
  refine v_aload_n C dX2_init_91 rfl ?_
  refine r2_35 (b := og) C hh (by simp [mO_sO, mO_sArr, mO_sI, mO_sFill, e_88, e_80, e_75, e_70, e_68, e_63, e_61, e_55, e_53, e_46]) dX2_init_92 ?_
  refine v_iconst (v := -1) C dX2_init_95 (by decide) ?_
  refine v_callS (As := [_, _]) (n := 2) C (ct_J7_fill_53178 l og 240 (-1)) rfl ⟨wd289, wd55, wd56, wd57⟩ hy_J7_fill_53178 rfl ⟨Nat.le_of_ble_eq_true rfl, Nat.le_of_ble_eq_true rfl⟩ (Nat.le_of_ble_eq_true rfl) ⟨Nat.le_of_ble_eq_true rfl, Nat.le_of_ble_eq_true rfl⟩ dX2_init_96 ⟨rfl, i_og, by decide⟩ (fun r_96 S_96 h_96 => ?_)
  obtain ⟨rfl, e_96⟩ := h_96
  have x_96 := x_sFill e_96
  have hh := is_ext x_96 hh
  have i_ln := is_ext x_96 i_ln
  have i_tk := isA_ext x_96 i_tk
  have i_ob := isA_ext x_96 i_ob
  have i_lf := isA_ext x_96 i_lf
  have i_nm := isA_ext x_96 i_nm
  have i_og := isA_ext x_96 i_og
  have i_pf := isA_ext x_96 i_pf
  have i_md := isA_ext x_96 i_md
  have E_96 := ext_tr E_88 x_96 (fun a ha z => absurd (z ▸ ha) w_og)
  refine v_aload_n C dX2_init_99 rfl ?_
  refine r2_38 (b := pf) C hh (by simp [mO_sO, mO_sArr, mO_sI, mO_sFill, e_96, e_88, e_80, e_75, e_70, e_68, e_63, e_61, e_55, e_53, e_46]) dX2_init_100 ?_
  refine v_iconst (v := -1) C dX2_init_103 (by decide) ?_
  refine v_callS (As := [_, _]) (n := 2) C (ct_J7_fill_53178 l pf 12 (-1)) rfl ⟨wd289, wd55, wd56, wd57⟩ hy_J7_fill_53178 rfl ⟨Nat.le_of_ble_eq_true rfl, Nat.le_of_ble_eq_true rfl⟩ (Nat.le_of_ble_eq_true rfl) ⟨Nat.le_of_ble_eq_true rfl, Nat.le_of_ble_eq_true rfl⟩ dX2_init_104 ⟨rfl, i_pf, by decide⟩ (fun r_104 S_104 h_104 => ?_)
  obtain ⟨rfl, e_104⟩ := h_104
  have x_104 := x_sFill e_104
  have hh := is_ext x_104 hh
  have i_ln := is_ext x_104 i_ln
  have i_tk := isA_ext x_104 i_tk
  have i_ob := isA_ext x_104 i_ob
  have i_lf := isA_ext x_104 i_lf
  have i_nm := isA_ext x_104 i_nm
  have i_og := isA_ext x_104 i_og
  have i_pf := isA_ext x_104 i_pf
  have i_md := isA_ext x_104 i_md
  have E_104 := ext_tr E_96 x_104 (fun a ha z => absurd (z ▸ ha) w_pf)
  refine v_vret C hr (Nat.le_of_ble_eq_true rfl) (Nat.le_of_ble_eq_true rfl) dX2_init_107 ?_
  exact ⟨rfl, E_104, hh⟩

theorem dX1_addFigure_0 : decode cX1_addFigure 0 = .ok (.aload_n 0, 1) := by decide +kernel
theorem dX1_addFigure_1 : decode cX1_addFigure 1 = .ok (.getfield 92, 3) := by decide +kernel
theorem dX1_addFigure_4 : decode cX1_addFigure 4 = .ok (.istore_n 2, 1) := by decide +kernel
theorem dX1_addFigure_5 : decode cX1_addFigure 5 = .ok (.iload_n 2, 1) := by decide +kernel
theorem dX1_addFigure_6 : decode cX1_addFigure 6 = .ok (.bipush 12, 2) := by decide +kernel
theorem dX1_addFigure_8 : decode cX1_addFigure 8 = .ok (.invokestatic 37, 3) := by decide +kernel
theorem dX1_addFigure_11 : decode cX1_addFigure 11 = .ok (.ifCond .eq 28, 3) := by decide +kernel
theorem dX1_addFigure_14 : decode cX1_addFigure 14 = .ok (.aload_n 0, 1) := by decide +kernel
theorem dX1_addFigure_15 : decode cX1_addFigure 15 = .ok (.getfield 19, 3) := by decide +kernel
theorem dX1_addFigure_18 : decode cX1_addFigure 18 = .ok (.iload_n 2, 1) := by decide +kernel
theorem dX1_addFigure_19 : decode cX1_addFigure 19 = .ok (.new 17, 3) := by decide +kernel
theorem dX1_addFigure_22 : decode cX1_addFigure 22 = .ok (.dup, 1) := by decide +kernel
theorem dX1_addFigure_23 : decode cX1_addFigure 23 = .ok (.iload_n 2, 1) := by decide +kernel
theorem dX1_addFigure_24 : decode cX1_addFigure 24 = .ok (.iload_n 1, 1) := by decide +kernel
theorem dX1_addFigure_25 : decode cX1_addFigure 25 = .ok (.invokespecial 95, 3) := by decide +kernel
theorem dX1_addFigure_28 : decode cX1_addFigure 28 = .ok (.aastore, 1) := by decide +kernel
theorem dX1_addFigure_29 : decode cX1_addFigure 29 = .ok (.aload_n 0, 1) := by decide +kernel
theorem dX1_addFigure_30 : decode cX1_addFigure 30 = .ok (.dup, 1) := by decide +kernel
theorem dX1_addFigure_31 : decode cX1_addFigure 31 = .ok (.getfield 92, 3) := by decide +kernel
theorem dX1_addFigure_34 : decode cX1_addFigure 34 = .ok (.iconst 1, 1) := by decide +kernel
theorem dX1_addFigure_35 : decode cX1_addFigure 35 = .ok (.iadd, 1) := by decide +kernel
theorem dX1_addFigure_36 : decode cX1_addFigure 36 = .ok (.putfield 92, 3) := by decide +kernel
theorem dX1_addFigure_39 : decode cX1_addFigure 39 = .ok (.iload_n 2, 1) := by decide +kernel
theorem dX1_addFigure_40 : decode cX1_addFigure 40 = .ok (.ireturn, 1) := by decide +kernel
set_option maxRecDepth 100000 in
set_option maxHeartbeats 4000000 in
theorem ct_X1_addFigure (l : Launch) (co fs : Nat) (t : Int32) : Ct l yX1_addFigure cX1_addFigure 3 (some .int) 3 11 809 65 (fun S av => av = [.ref co, .int t] ∧ is S co 1 ∧ mO S 66 co = some fs ∧ isA S fs 14 12 ∧ mI S 67 co = 0) (fun S _ r0 S' => r0 = some (.int 0) ∧ ext S S' (fun a => a = co ∨ a = fs)) := by
  refine ct_of (by decide) (fun S av h => by obtain ⟨rfl, i_co, e_fs, i_fs, e_fc⟩ := h; exact Nat.le_of_ble_eq_true rfl) ?_
  intro p e s m args below meth c D G bs S av C hr hin hpre
  obtain ⟨rfl, i_co, e_fs, i_fs, e_fc⟩ := hpre
  have E0 : ext S S (fun a => a = co ∨ a = fs) := ext_rfl
  refine v_aload_n C dX1_addFigure_0 rfl ?_
  refine g1_92 C i_co dX1_addFigure_1 ?_
  rw [e_fc]
  refine v_istore_n C dX1_addFigure_4 (by decide) rfl ?_
  refine v_iload_n C dX1_addFigure_5 rfl ?_
  refine v_bipush (v := 12) C dX1_addFigure_6 (by decide) ?_
  refine v_callSN (As := [_, _]) (n := 2) C (ct_X9_isBelow l _ _) rfl ⟨(by decide +kernel), wd141, wd2, wd142⟩ hy_X9_isBelow rfl ⟨Nat.le_of_ble_eq_true rfl, Nat.le_of_ble_eq_true rfl⟩ (Nat.le_of_ble_eq_true rfl) ⟨Nat.le_of_ble_eq_true rfl, Nat.le_of_ble_eq_true rfl⟩ dX1_addFigure_8 rfl (fun r_8 S_8 h_8 => ?_)
  obtain ⟨rfl, q_8⟩ := h_8
  obtain rfl := q_8.symm
  refine v_if_eq (tgt := 39) C dX1_addFigure_11 (by decide) (fun c_11 => ?_) (fun c_11 => ?_)
  · skip
    exact absurd c_11 (by decide)
  · skip
    refine v_aload_n C dX1_addFigure_14 rfl ?_
    refine r1_19 (b := fs) C i_co e_fs dX1_addFigure_15 ?_
    refine v_iload_n C dX1_addFigure_18 rfl ?_
    refine v_new C (ci := 2) (by decide) rfl inlX2 tyX2_ok wd27 wd270 wd271 nfX2 (Nat.le_of_ble_eq_true rfl) (Nat.le_of_ble_eq_true rfl) dX1_addFigure_19 (fun fg n_fg => ?_)
    have z_i_co_fg := ne_of_is n_fg i_co
    have z_i_fs_fg := ne_of_isA n_fg i_fs
    refine V.gen (fun S_19 e_19 => ?_)
    have w_fg := nm_ext E0 n_fg
    have x_19 := x_sNew e_19 n_fg
    have i_co := is_ext x_19 i_co
    have i_fs := isA_ext x_19 i_fs
    have i_fg := is_sNewE (ci := 2) e_19 n_fg
    have E_19 := ext_tr E0 x_19 (fun _ _ z => z.elim)
    refine v_dup C dX1_addFigure_22 rfl ?_
    refine v_iload_n C dX1_addFigure_23 rfl ?_
    refine v_iload_n C dX1_addFigure_24 rfl ?_
    refine v_callI (As := [_, _]) (n := 2) C (ct_X2_init l fg _ _) rfl ⟨wd272, wd273, wd271, wd274⟩ rfl hy_X2_init rfl ⟨Nat.le_of_ble_eq_true rfl, Nat.le_of_ble_eq_true rfl⟩ (Nat.le_of_ble_eq_true rfl) ⟨Nat.le_of_ble_eq_true rfl, Nat.le_of_ble_eq_true rfl⟩ dX1_addFigure_25 ⟨rfl, i_fg⟩ (fun r_25 S_25 h_25 => ?_)
    obtain ⟨rfl, x_25, k_fg⟩ := h_25
    have ac_25 := x_25.2 co i_co.1 z_i_co_fg
    have i_co := is_ext x_25 i_co
    have i_fs := isA_ext x_25 i_fs
    have i_fg := is_ext x_25 i_fg
    have E_25 := ext_tr E_19 x_25 (fun a ha z => absurd (z ▸ ha) w_fg)
    refine v_aast (t0 := 3) C i_fs (by decide) i_fg (by decide) rfl rfl (vp_in_nI (n := 0) (N := 12) (by decide) (by decide)) dX1_addFigure_28 ?_
    refine V.gen (fun S_28 e_28 => ?_)
    have x_28 := x_sP e_28
    have i_co := is_ext x_28 i_co
    have i_fs := isA_ext x_28 i_fs
    have i_fg := is_ext x_28 i_fg
    have E_28 := ext_tr E_25 x_28 (fun _ _ z => Or.inr z)
    refine v_aload_n C dX1_addFigure_29 rfl ?_
    refine v_dup C dX1_addFigure_30 rfl ?_
    refine g1_92 C i_co dX1_addFigure_31 ?_
    rw [show mI S_28 67 co = 0 from by rw [e_28, mI_sP, ac_25.1, e_19, mI_sNew, if_neg z_i_co_fg]; exact e_fc]
    refine v_iconst (v := 1) C dX1_addFigure_34 (by decide) ?_
    refine v_iadd C dX1_addFigure_35 ?_
    refine p1_92 C i_co dX1_addFigure_36 ?_
    refine V.gen (fun S_36 e_36 => ?_)
    have x_36 := x_sI e_36
    have i_co := is_ext x_36 i_co
    have i_fs := isA_ext x_36 i_fs
    have i_fg := is_ext x_36 i_fg
    have E_36 := ext_tr E_28 x_36 (fun _ _ z => Or.inl z)
    refine v_iload_n C dX1_addFigure_39 rfl ?_
    refine v_iret C hr (Nat.le_of_ble_eq_true rfl) (Nat.le_of_ble_eq_true rfl) dX1_addFigure_40 ?_
    exact ⟨rfl, E_36⟩

theorem dX9_character_0 : decode cX9_character 0 = .ok (.iload_n 1, 1) := by decide +kernel
theorem dX9_character_1 : decode cX9_character 1 = .ok (.iconst 4, 1) := by decide +kernel
theorem dX9_character_2 : decode cX9_character 2 = .ok (.invokestatic 44, 3) := by decide +kernel
theorem dX9_character_5 : decode cX9_character 5 = .ok (.ifCond .ne 6, 3) := by decide +kernel
theorem dX9_character_8 : decode cX9_character 8 = .ok (.bipush (-2), 2) := by decide +kernel
theorem dX9_character_10 : decode cX9_character 10 = .ok (.ireturn, 1) := by decide +kernel
theorem dX9_character_11 : decode cX9_character 11 = .ok (.aload_n 0, 1) := by decide +kernel
theorem dX9_character_12 : decode cX9_character 12 = .ok (.getfield 10, 3) := by decide +kernel
theorem dX9_character_15 : decode cX9_character 15 = .ok (.getfield 48, 3) := by decide +kernel
theorem dX9_character_18 : decode cX9_character 18 = .ok (.bipush 12, 2) := by decide +kernel
theorem dX9_character_20 : decode cX9_character 20 = .ok (.if_icmp .lt 8, 3) := by decide +kernel
theorem dX9_character_28 : decode cX9_character 28 = .ok (.aload_n 0, 1) := by decide +kernel
theorem dX9_character_29 : decode cX9_character 29 = .ok (.getfield 10, 3) := by decide +kernel
theorem dX9_character_32 : decode cX9_character 32 = .ok (.iload_n 1, 1) := by decide +kernel
theorem dX9_character_33 : decode cX9_character 33 = .ok (.invokevirtual 51, 3) := by decide +kernel
theorem dX9_character_36 : decode cX9_character 36 = .ok (.ireturn, 1) := by decide +kernel
set_option maxRecDepth 100000 in
set_option maxHeartbeats 4000000 in
theorem ct_X9_character (l : Launch) (h co ts fs mg ch rw ft gl gr gq ml mr mq sg tp cs : Nat) (t : Int32) : Ct l yX9_character cX9_character 2 (some .int) 4 11 809 87 (fun S av => av = [.ref h, .int t] ∧ pcAt S h co ts fs mg ch rw ft gl gr gq ml mr mq sg tp cs ∧ pcNew S h co ts fs sg tp) (fun S _ r S' => r = some (.int (if isB t 4 = true then 0 else -2)) ∧ ext S S' (fun a => a ∈ [co, ts, fs, mg, rw, ft, gl, gq, ml, mq])) := by
  refine ct_of (by decide) (fun S av h => by obtain ⟨rfl, ⟨hh, e_co, ⟨i_co, e_ts, i_ts, e_fs, i_fs, e_mg, k_mg, e_ch, i_ch⟩, e_sg, ⟨i_sg, e_sgco, e_tp, i_tp, e_cs, i_cs⟩⟩, ⟨n_lat, n_tc, n_fc, n_ts, n_fs, n_sg, n_out, n_tps⟩⟩ := h; exact Nat.le_of_ble_eq_true rfl) ?_
  intro p e s m args below meth c D G bs S av C hr hin hpre
  obtain ⟨rfl, ⟨hh, e_co, ⟨i_co, e_ts, i_ts, e_fs, i_fs, e_mg, k_mg, e_ch, i_ch⟩, e_sg, ⟨i_sg, e_sgco, e_tp, i_tp, e_cs, i_cs⟩⟩, ⟨n_lat, n_tc, n_fc, n_ts, n_fs, n_sg, n_out, n_tps⟩⟩ := hpre
  refine v_iload_n C dX9_character_0 rfl ?_
  refine v_iconst (v := 4) C dX9_character_1 (by decide) ?_
  refine v_callS (As := [_, _]) (n := 2) C (ct_X9_isBelow l _ _) rfl ⟨wd264, wd141, wd2, wd142⟩ hy_X9_isBelow rfl ⟨Nat.le_of_ble_eq_true rfl, Nat.le_of_ble_eq_true rfl⟩ (Nat.le_of_ble_eq_true rfl) ⟨Nat.le_of_ble_eq_true rfl, Nat.le_of_ble_eq_true rfl⟩ dX9_character_2 rfl (fun r_2 S_2 h_2 => ?_)
  obtain ⟨rfl, q_2⟩ := h_2
  obtain rfl := q_2.symm
  refine v_if_ne (tgt := 11) C dX9_character_5 (by decide) (fun c_5 => ?_) (fun c_5 => ?_)
  · skip
    refine v_aload_n C dX9_character_11 rfl ?_
    refine r9_10 (b := co) C hh e_co dX9_character_12 ?_
    refine g9_48 C i_co dX9_character_15 ?_
    rw [n_fc]
    refine v_bipush (v := 12) C dX9_character_18 (by decide) ?_
    refine v_icmp_lt (tgt := 28) C dX9_character_20 (by decide) (fun c_20 => ?_) (fun c_20 => ?_)
    · skip
      refine v_aload_n C dX9_character_28 rfl ?_
      refine r9_10 (b := co) C hh e_co dX9_character_29 ?_
      refine v_iload_n C dX9_character_32 rfl ?_
      refine v_callV (As := [_]) (n := 1) C (ct_X1_addFigure l co fs _) rfl i_co (by decide) rfl ⟨wd265, wd266, wd267, wd15, wd268⟩ ⟨rfl, hy_X1_addFigure⟩ rfl ⟨Nat.le_of_ble_eq_true rfl, Nat.le_of_ble_eq_true rfl⟩ (Nat.le_of_ble_eq_true rfl) ⟨Nat.le_of_ble_eq_true rfl, Nat.le_of_ble_eq_true rfl⟩ dX9_character_33 ⟨rfl, i_co, e_fs, i_fs, n_fc⟩ (fun r_33 S_33 h_33 => ?_)
      obtain ⟨rfl, x_33⟩ := h_33
      refine v_iret C hr (Nat.le_of_ble_eq_true rfl) (Nat.le_of_ble_eq_true rfl) dX9_character_36 ?_
      first
        | exact ⟨by rw [bI_f c_5]; rfl, ext_rfl⟩
        | exact ⟨by rw [bI_t c_5]; rfl, ext_tr ext_rfl x_33 (fun a _ z => by rcases z with rfl | rfl <;> simp)⟩
    · skip
      exact absurd c_20 (by decide)
  · skip
    refine v_bipush (v := -2) C dX9_character_8 (by decide) ?_
    refine v_iret C hr (Nat.le_of_ble_eq_true rfl) (Nat.le_of_ble_eq_true rfl) dX9_character_10 ?_
    first
      | exact ⟨by rw [bI_f c_5]; rfl, ext_rfl⟩
      | exact ⟨by rw [bI_t c_5]; rfl, ext_tr ext_rfl x_33 (fun a _ z => by rcases z with rfl | rfl <;> simp)⟩

def tr3 (a b d : Int32) : Bool := (a == -1) && (b == -1) && (d == -1)
theorem cSU_0 {S : Mem} {ts : Nat} (h : ∀ i, mP S ts i = none) (a b d : Int32) : cSU S ts a b d = tr3 a b d := by
  have t : ∀ i, tN S ts i = (i == -1) := fun i => by simp [tN, trAt_0 h]
  unfold cSU tr3
  rw [t, t, t]
  cases (a == -1) <;> cases (b == -1) <;> cases (d == -1) <;> simp
theorem dX9_trait_0 : decode cX9_trait 0 = .ok (.aload_n 0, 1) := by decide +kernel
theorem dX9_trait_1 : decode cX9_trait 1 = .ok (.getfield 10, 3) := by decide +kernel
theorem dX9_trait_4 : decode cX9_trait 4 = .ok (.iload_n 1, 1) := by decide +kernel
theorem dX9_trait_5 : decode cX9_trait 5 = .ok (.iload_n 2, 1) := by decide +kernel
theorem dX9_trait_6 : decode cX9_trait 6 = .ok (.iload_n 3, 1) := by decide +kernel
theorem dX9_trait_7 : decode cX9_trait 7 = .ok (.invokevirtual 29, 3) := by decide +kernel
theorem dX9_trait_10 : decode cX9_trait 10 = .ok (.ifCond .ne 6, 3) := by decide +kernel
theorem dX9_trait_13 : decode cX9_trait 13 = .ok (.bipush (-2), 2) := by decide +kernel
theorem dX9_trait_15 : decode cX9_trait 15 = .ok (.ireturn, 1) := by decide +kernel
theorem dX9_trait_16 : decode cX9_trait 16 = .ok (.aload_n 0, 1) := by decide +kernel
theorem dX9_trait_17 : decode cX9_trait 17 = .ok (.getfield 10, 3) := by decide +kernel
theorem dX9_trait_20 : decode cX9_trait 20 = .ok (.iload_n 1, 1) := by decide +kernel
theorem dX9_trait_21 : decode cX9_trait 21 = .ok (.iload_n 2, 1) := by decide +kernel
theorem dX9_trait_22 : decode cX9_trait 22 = .ok (.iload_n 3, 1) := by decide +kernel
theorem dX9_trait_23 : decode cX9_trait 23 = .ok (.invokevirtual 33, 3) := by decide +kernel
theorem dX9_trait_26 : decode cX9_trait 26 = .ok (.ifCond .ne 6, 3) := by decide +kernel
theorem dX9_trait_32 : decode cX9_trait 32 = .ok (.aload_n 0, 1) := by decide +kernel
theorem dX9_trait_33 : decode cX9_trait 33 = .ok (.getfield 10, 3) := by decide +kernel
theorem dX9_trait_36 : decode cX9_trait 36 = .ok (.getfield 36, 3) := by decide +kernel
theorem dX9_trait_39 : decode cX9_trait 39 = .ok (.bipush 20, 2) := by decide +kernel
theorem dX9_trait_41 : decode cX9_trait 41 = .ok (.if_icmp .lt 8, 3) := by decide +kernel
theorem dX9_trait_49 : decode cX9_trait 49 = .ok (.aload_n 0, 1) := by decide +kernel
theorem dX9_trait_50 : decode cX9_trait 50 = .ok (.getfield 10, 3) := by decide +kernel
theorem dX9_trait_53 : decode cX9_trait 53 = .ok (.invokevirtual 40, 3) := by decide +kernel
theorem dX9_trait_56 : decode cX9_trait 56 = .ok (.ireturn, 1) := by decide +kernel
set_option maxRecDepth 100000 in
set_option maxHeartbeats 4000000 in
theorem ct_X9_trait (l : Launch) (h co ts fs mg ch rw ft gl gr gq ml mr mq sg tp cs : Nat) (a b d : Int32) : Ct l yX9_trait cX9_trait 4 (some .int) 7 6 70 165 (fun S av => av = [.ref h, .int a, .int b, .int d] ∧ pcAt S h co ts fs mg ch rw ft gl gr gq ml mr mq sg tp cs ∧ pcNew S h co ts fs sg tp) (fun S _ r S' => r = some (.int (if tr3 a b d = true then 0 else -2)) ∧ ext S S' (fun a => a ∈ [co, ts, fs, mg, rw, ft, gl, gq, ml, mq])) := by
  refine ct_of (by decide) (fun S av h => by obtain ⟨rfl, ⟨hh, e_co, ⟨i_co, e_ts, i_ts, e_fs, i_fs, e_mg, k_mg, e_ch, i_ch⟩, e_sg, ⟨i_sg, e_sgco, e_tp, i_tp, e_cs, i_cs⟩⟩, ⟨n_lat, n_tc, n_fc, n_ts, n_fs, n_sg, n_out, n_tps⟩⟩ := h; exact Nat.le_of_ble_eq_true rfl) ?_
  intro p e s m args below meth c D G bs S av C hr hin hpre
  obtain ⟨rfl, ⟨hh, e_co, ⟨i_co, e_ts, i_ts, e_fs, i_fs, e_mg, k_mg, e_ch, i_ch⟩, e_sg, ⟨i_sg, e_sgco, e_tp, i_tp, e_cs, i_cs⟩⟩, ⟨n_lat, n_tc, n_fc, n_ts, n_fs, n_sg, n_out, n_tps⟩⟩ := hpre
  refine v_aload_n C dX9_trait_0 rfl ?_
  refine r9_10 (b := co) C hh e_co dX9_trait_1 ?_
  refine v_iload_n C dX9_trait_4 rfl ?_
  refine v_iload_n C dX9_trait_5 rfl ?_
  refine v_iload_n C dX9_trait_6 rfl ?_
  refine v_callV (As := [_, _, _]) (n := 3) C (ct_X1_canStandUnder l co ts _ _ _) rfl i_co (by decide) rfl ⟨wd129, wd130, wd131, wd15, wd132⟩ ⟨rfl, hy_X1_canStandUnder⟩ rfl ⟨Nat.le_of_ble_eq_true rfl, Nat.le_of_ble_eq_true rfl⟩ (Nat.le_of_ble_eq_true rfl) ⟨Nat.le_of_ble_eq_true rfl, Nat.le_of_ble_eq_true rfl⟩ dX9_trait_7 ⟨rfl, i_co, e_ts, i_ts⟩ (fun r_7 S_7 h_7 => ?_)
  obtain ⟨rfl, q_7⟩ := h_7
  obtain rfl := q_7.symm
  rw [cSU_0 n_ts]
  refine v_if_ne (tgt := 16) C dX9_trait_10 (by decide) (fun c_10 => ?_) (fun c_10 => ?_)
  · skip
    refine v_aload_n C dX9_trait_16 rfl ?_
    refine r9_10 (b := co) C hh e_co dX9_trait_17 ?_
    refine v_iload_n C dX9_trait_20 rfl ?_
    refine v_iload_n C dX9_trait_21 rfl ?_
    refine v_iload_n C dX9_trait_22 rfl ?_
    refine v_callV (As := [_, _, _]) (n := 3) C (ct_X1_alignsUnder l co ts fs mg ch rw ft gl gr gq ml mr mq _ _ _) rfl i_co (by decide) rfl ⟨wd143, wd144, wd145, wd15, wd146⟩ ⟨rfl, hy_X1_alignsUnder⟩ rfl ⟨Nat.le_of_ble_eq_true rfl, Nat.le_of_ble_eq_true rfl⟩ (Nat.le_of_ble_eq_true rfl) ⟨Nat.le_of_ble_eq_true rfl, Nat.le_of_ble_eq_true rfl⟩ dX9_trait_23 ⟨rfl, ⟨i_co, e_ts, i_ts, e_fs, i_fs, e_mg, k_mg, e_ch, i_ch⟩, trAt_0 n_ts _, trAt_0 n_ts _, trAt_0 n_ts _⟩ (fun r_23 S_23 h_23 => ?_)
    obtain ⟨rfl, e_23⟩ := h_23
    have sm : same S S_23 := by rw [e_23]; exact same_alnS ..
    have x_23 : ext S S_23 (fun a => a ∈ [mg, rw, ft, gl, gq, ml, mq]) := by rw [e_23]; exact ext_alnS ..
    have hh := is_same sm hh
    have i_co := is_same sm i_co
    have i_ts := isA_same sm i_ts
    have k_mg := mergerAt_same sm k_mg
    have e_co : mO S_23 576 h = some co := by rw [sm.2.2.2]; exact e_co
    have e_ts : mO S_23 64 co = some ts := by rw [sm.2.2.2]; exact e_ts
    have e_mg : mO S_23 68 co = some mg := by rw [sm.2.2.2]; exact e_mg
    have n_tc : mI S_23 65 co = 0 := by rw [e_23, mI_alnS _ _ _ _ _ _ _ _ _ _ (by decide) (by decide)]; exact n_tc
    have n_ml : mI S_23 194 ml = 0 := by rw [e_23]; exact mI_alnS_ml ..
    refine v_if_ne (tgt := 32) C dX9_trait_26 (by decide) (fun c_26 => ?_) (fun c_26 => ?_)
    · skip
      refine v_aload_n C dX9_trait_32 rfl ?_
      refine r9_10 (b := co) C hh e_co dX9_trait_33 ?_
      refine g9_36 C i_co dX9_trait_36 ?_
      rw [n_tc]
      refine v_bipush (v := 20) C dX9_trait_39 (by decide) ?_
      refine v_icmp_lt (tgt := 49) C dX9_trait_41 (by decide) (fun c_41 => ?_) (fun c_41 => ?_)
      · skip
        refine v_aload_n C dX9_trait_49 rfl ?_
        refine r9_10 (b := co) C hh e_co dX9_trait_50 ?_
        refine v_callV (As := []) (n := 0) C (ct_X1_addTrait l co ts mg ml) rfl i_co (by decide) rfl ⟨wd206, wd207, wd208, wd15, wd209⟩ ⟨rfl, hy_X1_addTrait⟩ rfl ⟨Nat.le_of_ble_eq_true rfl, Nat.le_of_ble_eq_true rfl⟩ (Nat.le_of_ble_eq_true rfl) ⟨Nat.le_of_ble_eq_true rfl, Nat.le_of_ble_eq_true rfl⟩ dX9_trait_53 ⟨rfl, i_co, e_ts, i_ts, e_mg, k_mg.1, k_mg.2.2.2.2.2.2.2.1, k_mg.2.2.2.2.2.2.2.2.1, n_tc, n_ml⟩ (fun r_53 S_53 h_53 => ?_)
        obtain ⟨rfl, x_53⟩ := h_53
        refine v_iret C hr (Nat.le_of_ble_eq_true rfl) (Nat.le_of_ble_eq_true rfl) dX9_trait_56 ?_
        first
          | exact ⟨by rw [bI_f c_10]; rfl, ext_rfl⟩
          | exact ⟨by rw [bI_t c_10]; rfl, ext_tr (ext_tr ext_rfl x_23 (fun a _ z => by simp only [List.mem_cons, List.not_mem_nil, or_false] at z ⊢; rcases z with rfl | rfl | rfl | rfl | rfl | rfl | rfl <;> simp)) x_53 (fun a _ z => by rcases z with rfl | rfl <;> simp)⟩
      · skip
        exact absurd (by decide) c_41
    · skip
      exact absurd c_26 (by decide)
  · skip
    refine v_bipush (v := -2) C dX9_trait_13 (by decide) ?_
    refine v_iret C hr (Nat.le_of_ble_eq_true rfl) (Nat.le_of_ble_eq_true rfl) dX9_trait_15 ?_
    first
      | exact ⟨by rw [bI_f c_10]; rfl, ext_rfl⟩
      | exact ⟨by rw [bI_t c_10]; rfl, ext_tr (ext_tr ext_rfl x_23 (fun a _ z => by simp only [List.mem_cons, List.not_mem_nil, or_false] at z ⊢; rcases z with rfl | rfl | rfl | rfl | rfl | rfl | rfl <;> simp)) x_53 (fun a _ z => by rcases z with rfl | rfl <;> simp)⟩

