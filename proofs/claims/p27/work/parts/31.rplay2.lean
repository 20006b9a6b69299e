theorem v_cutX {p : Program} {l : Launch} {e : Env} {R : Room} {s : State} {m : MethodId} {args : Array Value} {below : List Frame} {meth : Method} {c : Code} {D : va_G} {G : Nat → ClassId} {bs nL cells slots pc : Nat} {Q : State → Prop} {S : Mem} {lv : List (Option Value)} {st : List Value} (pc' : Nat) (lv' : List (Option Value)) (st' : List Value) (k1 : ∀ X : Int32, V p l e R s m args below meth c D G bs nL Q cells slots S pc' lv' (.int X :: st')) (k2 : (∀ X : Int32, V p l e R s m args below meth c D G bs nL Q cells slots S pc' lv' (.int X :: st')) → V p l e R s m args below meth c D G bs nL Q cells slots S pc lv st) : V p l e R s m args below meth c D G bs nL Q cells slots S pc lv st := k2 k1
theorem v_cutN {p : Program} {l : Launch} {e : Env} {R : Room} {s : State} {m : MethodId} {args : Array Value} {below : List Frame} {meth : Method} {c : Code} {D : va_G} {G : Nat → ClassId} {bs nL cells slots pc : Nat} {Q : State → Prop} {S : Mem} {lv : List (Option Value)} {st : List Value} (N pc' : Nat) (lv' : List (Option Value)) (st' : List Value) (k1 : ∀ X : Nat, X < N → V p l e R s m args below meth c D G bs nL Q cells slots S pc' lv' (.int (nI X) :: st')) (k2 : (∀ X : Nat, X < N → V p l e R s m args below meth c D G bs nL Q cells slots S pc' lv' (.int (nI X) :: st')) → V p l e R s m args below meth c D G bs nL Q cells slots S pc lv st) : V p l e R s m args below meth c D G bs nL Q cells slots S pc lv st := k2 k1
theorem dX10_pushes_0 : decode cX10_pushes 0 = .ok (.aload_n 0, 1) := by decide +kernel
theorem dX10_pushes_1 : decode cX10_pushes 1 = .ok (.getfield 100, 3) := by decide +kernel
theorem dX10_pushes_4 : decode cX10_pushes 4 = .ok (.aload_n 0, 1) := by decide +kernel
theorem dX10_pushes_5 : decode cX10_pushes 5 = .ok (.getfield 236, 3) := by decide +kernel
theorem dX10_pushes_8 : decode cX10_pushes 8 = .ok (.iload_n 1, 1) := by decide +kernel
theorem dX10_pushes_9 : decode cX10_pushes 9 = .ok (.bastore, 1) := by decide +kernel
theorem dX10_pushes_10 : decode cX10_pushes 10 = .ok (.aload_n 0, 1) := by decide +kernel
theorem dX10_pushes_11 : decode cX10_pushes 11 = .ok (.getfield 103, 3) := by decide +kernel
theorem dX10_pushes_14 : decode cX10_pushes 14 = .ok (.aload_n 0, 1) := by decide +kernel
theorem dX10_pushes_15 : decode cX10_pushes 15 = .ok (.getfield 236, 3) := by decide +kernel
theorem dX10_pushes_18 : decode cX10_pushes 18 = .ok (.iload_n 2, 1) := by decide +kernel
theorem dX10_pushes_19 : decode cX10_pushes 19 = .ok (.iastore, 1) := by decide +kernel
theorem dX10_pushes_20 : decode cX10_pushes 20 = .ok (.aload_n 0, 1) := by decide +kernel
theorem dX10_pushes_21 : decode cX10_pushes 21 = .ok (.getfield 106, 3) := by decide +kernel
theorem dX10_pushes_24 : decode cX10_pushes 24 = .ok (.aload_n 0, 1) := by decide +kernel
theorem dX10_pushes_25 : decode cX10_pushes 25 = .ok (.getfield 236, 3) := by decide +kernel
theorem dX10_pushes_28 : decode cX10_pushes 28 = .ok (.iload_n 3, 1) := by decide +kernel
theorem dX10_pushes_29 : decode cX10_pushes 29 = .ok (.iastore, 1) := by decide +kernel
theorem dX10_pushes_30 : decode cX10_pushes 30 = .ok (.aload_n 0, 1) := by decide +kernel
theorem dX10_pushes_31 : decode cX10_pushes 31 = .ok (.getfield 115, 3) := by decide +kernel
theorem dX10_pushes_34 : decode cX10_pushes 34 = .ok (.aload_n 0, 1) := by decide +kernel
theorem dX10_pushes_35 : decode cX10_pushes 35 = .ok (.getfield 236, 3) := by decide +kernel
theorem dX10_pushes_38 : decode cX10_pushes 38 = .ok (.iconst 0, 1) := by decide +kernel
theorem dX10_pushes_39 : decode cX10_pushes 39 = .ok (.iastore, 1) := by decide +kernel
theorem dX10_pushes_40 : decode cX10_pushes 40 = .ok (.aload_n 0, 1) := by decide +kernel
theorem dX10_pushes_41 : decode cX10_pushes 41 = .ok (.getfield 121, 3) := by decide +kernel
theorem dX10_pushes_44 : decode cX10_pushes 44 = .ok (.aload_n 0, 1) := by decide +kernel
theorem dX10_pushes_45 : decode cX10_pushes 45 = .ok (.getfield 236, 3) := by decide +kernel
theorem dX10_pushes_48 : decode cX10_pushes 48 = .ok (.iconst 0, 1) := by decide +kernel
theorem dX10_pushes_49 : decode cX10_pushes 49 = .ok (.iastore, 1) := by decide +kernel
theorem dX10_pushes_50 : decode cX10_pushes 50 = .ok (.aload_n 0, 1) := by decide +kernel
theorem dX10_pushes_51 : decode cX10_pushes 51 = .ok (.getfield 118, 3) := by decide +kernel
theorem dX10_pushes_54 : decode cX10_pushes 54 = .ok (.aload_n 0, 1) := by decide +kernel
theorem dX10_pushes_55 : decode cX10_pushes 55 = .ok (.getfield 236, 3) := by decide +kernel
theorem dX10_pushes_58 : decode cX10_pushes 58 = .ok (.iconst (-1), 1) := by decide +kernel
theorem dX10_pushes_59 : decode cX10_pushes 59 = .ok (.iastore, 1) := by decide +kernel
theorem dX10_pushes_60 : decode cX10_pushes 60 = .ok (.aload_n 0, 1) := by decide +kernel
theorem dX10_pushes_61 : decode cX10_pushes 61 = .ok (.getfield 124, 3) := by decide +kernel
theorem dX10_pushes_64 : decode cX10_pushes 64 = .ok (.aload_n 0, 1) := by decide +kernel
theorem dX10_pushes_65 : decode cX10_pushes 65 = .ok (.getfield 236, 3) := by decide +kernel
theorem dX10_pushes_68 : decode cX10_pushes 68 = .ok (.iload 4, 2) := by decide +kernel
theorem dX10_pushes_70 : decode cX10_pushes 70 = .ok (.bastore, 1) := by decide +kernel
theorem dX10_pushes_71 : decode cX10_pushes 71 = .ok (.aload_n 0, 1) := by decide +kernel
theorem dX10_pushes_72 : decode cX10_pushes 72 = .ok (.getfield 127, 3) := by decide +kernel
theorem dX10_pushes_75 : decode cX10_pushes 75 = .ok (.aload_n 0, 1) := by decide +kernel
theorem dX10_pushes_76 : decode cX10_pushes 76 = .ok (.getfield 236, 3) := by decide +kernel
theorem dX10_pushes_79 : decode cX10_pushes 79 = .ok (.iconst 0, 1) := by decide +kernel
theorem dX10_pushes_80 : decode cX10_pushes 80 = .ok (.bastore, 1) := by decide +kernel
theorem dX10_pushes_81 : decode cX10_pushes 81 = .ok (.aload_n 0, 1) := by decide +kernel
theorem dX10_pushes_82 : decode cX10_pushes 82 = .ok (.dup, 1) := by decide +kernel
theorem dX10_pushes_83 : decode cX10_pushes 83 = .ok (.getfield 236, 3) := by decide +kernel
theorem dX10_pushes_86 : decode cX10_pushes 86 = .ok (.iconst 1, 1) := by decide +kernel
theorem dX10_pushes_87 : decode cX10_pushes 87 = .ok (.iadd, 1) := by decide +kernel
theorem dX10_pushes_88 : decode cX10_pushes 88 = .ok (.putfield 236, 3) := by decide +kernel
theorem dX10_pushes_91 : decode cX10_pushes 91 = .ok (.return_, 1) := by decide +kernel
set_option maxRecDepth 100000 in
set_option maxHeartbeats 4000000 in
theorem rt_X10_pushes (l : Launch) (m0 : Nat) (ad : Nat → Nat) (K : RS) (b0 : Bool) (u : Nat) (n : Nat) (op : Bool) (d : Nat) : Ct l yX10_pushes cX10_pushes 5 none 0 0 0 0 (fun S av => av = [.ref m0, .int (bI b0), .int (nI u), .int (nI n), .int (bI op)] ∧ mdR S m0 ad K ∧ (rF K 42 = nI d ∧ d < 2000)) (fun S _ r S' => ∃ (K' : RS), r = none ∧ mdR S' m0 ad K' ∧ exm S S' m0 ad ∧ K' = pushK K d b0 u n op) := by
  refine ct_of (by decide) (fun S av h => by obtain ⟨rfl, hk, hd⟩ := h; exact Nat.le_of_ble_eq_true rfl) ?_
  intro p e s m args below meth c D G bs S av C hr hin hpre
  obtain ⟨rfl, hk, hd⟩ := hpre
  have E0 : exm S S m0 ad := exm_rfl
  obtain ⟨hd1, hd2⟩ := hd
  refine v_aload_n C dX10_pushes_0 rfl ?_
  refine q10_100 C hk dX10_pushes_1 ?_
  refine v_aload_n C dX10_pushes_4 rfl ?_
  refine q10_236 C hk dX10_pushes_5 ?_
  refine v_val hd1 ?_
  refine v_iload_n C dX10_pushes_8 rfl ?_
  refine n_zast C hk (show (32, 13, 2000) ∈ mTab by decide +kernel) (by omega) (by first | rfl | exact vp_bI _) dX10_pushes_9 (fun S2_9 hk' x_9 => ?_)
  have E0 := exm_tr E0 x_9
  have hk := hk'
  clear hk'
  refine v_aload_n C dX10_pushes_10 rfl ?_
  refine q10_103 C hk dX10_pushes_11 ?_
  refine v_aload_n C dX10_pushes_14 rfl ?_
  refine q10_236 C hk dX10_pushes_15 ?_
  refine v_val hd1 ?_
  refine v_iload_n C dX10_pushes_18 rfl ?_
  refine n_iast C hk (show (33, 11, 2000) ∈ mTab by decide +kernel) (by omega) dX10_pushes_19 (fun S2_19 hk' x_19 => ?_)
  have E0 := exm_tr E0 x_19
  have hk := hk'
  clear hk'
  refine v_aload_n C dX10_pushes_20 rfl ?_
  refine q10_106 C hk dX10_pushes_21 ?_
  refine v_aload_n C dX10_pushes_24 rfl ?_
  refine q10_236 C hk dX10_pushes_25 ?_
  refine v_val hd1 ?_
  refine v_iload_n C dX10_pushes_28 rfl ?_
  refine n_iast C hk (show (34, 11, 2000) ∈ mTab by decide +kernel) (by omega) dX10_pushes_29 (fun S2_29 hk' x_29 => ?_)
  have E0 := exm_tr E0 x_29
  have hk := hk'
  clear hk'
  refine v_aload_n C dX10_pushes_30 rfl ?_
  refine q10_115 C hk dX10_pushes_31 ?_
  refine v_aload_n C dX10_pushes_34 rfl ?_
  refine q10_236 C hk dX10_pushes_35 ?_
  refine v_val hd1 ?_
  refine v_iconst (v := nI 0) C dX10_pushes_38 (by decide) ?_
  refine n_iast C hk (show (37, 11, 2000) ∈ mTab by decide +kernel) (by omega) dX10_pushes_39 (fun S2_39 hk' x_39 => ?_)
  have E0 := exm_tr E0 x_39
  have hk := hk'
  clear hk'
  refine v_aload_n C dX10_pushes_40 rfl ?_
  refine q10_121 C hk dX10_pushes_41 ?_
  refine v_aload_n C dX10_pushes_44 rfl ?_
  refine q10_236 C hk dX10_pushes_45 ?_
  refine v_val hd1 ?_
  refine v_iconst (v := nI 0) C dX10_pushes_48 (by decide) ?_
  refine n_iast C hk (show (39, 11, 2000) ∈ mTab by decide +kernel) (by omega) dX10_pushes_49 (fun S2_49 hk' x_49 => ?_)
  have E0 := exm_tr E0 x_49
  have hk := hk'
  clear hk'
  refine v_aload_n C dX10_pushes_50 rfl ?_
  refine q10_118 C hk dX10_pushes_51 ?_
  refine v_aload_n C dX10_pushes_54 rfl ?_
  refine q10_236 C hk dX10_pushes_55 ?_
  refine v_val hd1 ?_
  refine v_iconst (v := -1) C dX10_pushes_58 (by decide) ?_
  refine n_iast C hk (show (38, 11, 2000) ∈ mTab by decide +kernel) (by omega) dX10_pushes_59 (fun S2_59 hk' x_59 => ?_)
  have E0 := exm_tr E0 x_59
  have hk := hk'
  clear hk'
  refine v_aload_n C dX10_pushes_60 rfl ?_
  refine q10_124 C hk dX10_pushes_61 ?_
  refine v_aload_n C dX10_pushes_64 rfl ?_
  refine q10_236 C hk dX10_pushes_65 ?_
  refine v_val hd1 ?_
  refine v_iload C dX10_pushes_68 rfl ?_
  refine n_zast C hk (show (40, 13, 2000) ∈ mTab by decide +kernel) (by omega) (by first | rfl | exact vp_bI _) dX10_pushes_70 (fun S2_70 hk' x_70 => ?_)
  have E0 := exm_tr E0 x_70
  have hk := hk'
  clear hk'
  refine v_aload_n C dX10_pushes_71 rfl ?_
  refine q10_127 C hk dX10_pushes_72 ?_
  refine v_aload_n C dX10_pushes_75 rfl ?_
  refine q10_236 C hk dX10_pushes_76 ?_
  refine v_val hd1 ?_
  refine v_iconst (v := nI 0) C dX10_pushes_79 (by decide) ?_
  refine n_zast C hk (show (41, 13, 2000) ∈ mTab by decide +kernel) (by omega) (by first | rfl | exact vp_bI _) dX10_pushes_80 (fun S2_80 hk' x_80 => ?_)
  have E0 := exm_tr E0 x_80
  have hk := hk'
  clear hk'
  refine v_aload_n C dX10_pushes_81 rfl ?_
  refine v_dup C dX10_pushes_82 rfl ?_
  refine q10_236 C hk dX10_pushes_83 ?_
  refine v_val hd1 ?_
  refine v_iconst (v := nI 1) C dX10_pushes_86 (by decide) ?_
  refine n_iadd C dX10_pushes_87 ?_
  refine w10_236 C hk dX10_pushes_88 (fun S2_88 hk' x_88 => ?_)
  have E0 := exm_tr E0 x_88
  have hk := hk'
  clear hk'
  refine v_vret C hr (Nat.le_of_ble_eq_true rfl) (Nat.le_of_ble_eq_true rfl) dX10_pushes_91 ?_
  exact ⟨_, rfl, hk, E0, (rfl)⟩
theorem dX10_pushOps_0 : decode cX10_pushOps 0 = .ok (.aload_n 0, 1) := by decide +kernel
theorem dX10_pushOps_1 : decode cX10_pushOps 1 = .ok (.iconst 1, 1) := by decide +kernel
theorem dX10_pushOps_2 : decode cX10_pushOps 2 = .ok (.iload_n 1, 1) := by decide +kernel
theorem dX10_pushOps_3 : decode cX10_pushOps 3 = .ok (.iload_n 2, 1) := by decide +kernel
theorem dX10_pushOps_4 : decode cX10_pushOps 4 = .ok (.iload 6, 2) := by decide +kernel
theorem dX10_pushOps_6 : decode cX10_pushOps 6 = .ok (.invokevirtual 239, 3) := by decide +kernel
theorem dX10_pushOps_9 : decode cX10_pushOps 9 = .ok (.aload_n 0, 1) := by decide +kernel
theorem dX10_pushOps_10 : decode cX10_pushOps 10 = .ok (.getfield 109, 3) := by decide +kernel
theorem dX10_pushOps_13 : decode cX10_pushOps 13 = .ok (.aload_n 0, 1) := by decide +kernel
theorem dX10_pushOps_14 : decode cX10_pushOps 14 = .ok (.getfield 236, 3) := by decide +kernel
theorem dX10_pushOps_17 : decode cX10_pushOps 17 = .ok (.iconst 1, 1) := by decide +kernel
theorem dX10_pushOps_18 : decode cX10_pushOps 18 = .ok (.isub, 1) := by decide +kernel
theorem dX10_pushOps_19 : decode cX10_pushOps 19 = .ok (.iload_n 3, 1) := by decide +kernel
theorem dX10_pushOps_20 : decode cX10_pushOps 20 = .ok (.iastore, 1) := by decide +kernel
theorem dX10_pushOps_21 : decode cX10_pushOps 21 = .ok (.aload_n 0, 1) := by decide +kernel
theorem dX10_pushOps_22 : decode cX10_pushOps 22 = .ok (.getfield 112, 3) := by decide +kernel
theorem dX10_pushOps_25 : decode cX10_pushOps 25 = .ok (.aload_n 0, 1) := by decide +kernel
theorem dX10_pushOps_26 : decode cX10_pushOps 26 = .ok (.getfield 236, 3) := by decide +kernel
theorem dX10_pushOps_29 : decode cX10_pushOps 29 = .ok (.iconst 1, 1) := by decide +kernel
theorem dX10_pushOps_30 : decode cX10_pushOps 30 = .ok (.isub, 1) := by decide +kernel
theorem dX10_pushOps_31 : decode cX10_pushOps 31 = .ok (.iload 4, 2) := by decide +kernel
theorem dX10_pushOps_33 : decode cX10_pushOps 33 = .ok (.iastore, 1) := by decide +kernel
theorem dX10_pushOps_34 : decode cX10_pushOps 34 = .ok (.aload_n 0, 1) := by decide +kernel
theorem dX10_pushOps_35 : decode cX10_pushOps 35 = .ok (.getfield 118, 3) := by decide +kernel
theorem dX10_pushOps_38 : decode cX10_pushOps 38 = .ok (.aload_n 0, 1) := by decide +kernel
theorem dX10_pushOps_39 : decode cX10_pushOps 39 = .ok (.getfield 236, 3) := by decide +kernel
theorem dX10_pushOps_42 : decode cX10_pushOps 42 = .ok (.iconst 1, 1) := by decide +kernel
theorem dX10_pushOps_43 : decode cX10_pushOps 43 = .ok (.isub, 1) := by decide +kernel
theorem dX10_pushOps_44 : decode cX10_pushOps 44 = .ok (.iload 5, 2) := by decide +kernel
theorem dX10_pushOps_46 : decode cX10_pushOps 46 = .ok (.iastore, 1) := by decide +kernel
theorem dX10_pushOps_47 : decode cX10_pushOps 47 = .ok (.return_, 1) := by decide +kernel
set_option maxRecDepth 100000 in
set_option maxHeartbeats 4000000 in
theorem rt_X10_pushOps (l : Launch) (m0 : Nat) (ad : Nat → Nat) (K : RS) (u : Nat) (n : Nat) (cd : Nat) (w : Nat) (lo : Option Nat) (op : Bool) (d : Nat) : Ct l yX10_pushOps cX10_pushOps 7 none 1 0 0 24 (fun S av => av = [.ref m0, .int (nI u), .int (nI n), .int (nI cd), .int (nI w), .int (oI lo), .int (bI op)] ∧ mdR S m0 ad K ∧ (rF K 42 = nI d ∧ d < 2000)) (fun S _ r S' => ∃ (K' : RS), r = none ∧ mdR S' m0 ad K' ∧ exm S S' m0 ad ∧ K' = pushO K d u n cd w lo op) := by
  refine ct_of (by decide) (fun S av h => by obtain ⟨rfl, hk, hd⟩ := h; exact Nat.le_of_ble_eq_true rfl) ?_
  intro p e s m args below meth c D G bs S av C hr hin hpre
  obtain ⟨rfl, hk, hd⟩ := hpre
  have E0 : exm S S m0 ad := exm_rfl
  refine v_aload_n C dX10_pushOps_0 rfl ?_
  refine v_iconst (v := nI 1) C dX10_pushOps_1 (by decide) ?_
  refine v_iload_n C dX10_pushOps_2 rfl ?_
  refine v_iload_n C dX10_pushOps_3 rfl ?_
  refine v_iload C dX10_pushOps_4 rfl ?_
  refine v_callV (As := [_, _, _, _]) (n := 4) C (rt_X10_pushes l m0 ad _ true _ _ _ d) rfl hk.1 (by decide) rfl ⟨wd842, wd843, wd844, wd5, wd845⟩ ⟨rfl, hy_X10_pushes⟩ rfl ⟨Nat.le_of_ble_eq_true rfl, Nat.le_of_ble_eq_true rfl⟩ (Nat.le_of_ble_eq_true rfl) ⟨Nat.le_of_ble_eq_true rfl, Nat.le_of_ble_eq_true rfl⟩ dX10_pushOps_6 ⟨rfl, hk, hd⟩ (fun r_6 S2_6 h_6 => ?_)
  obtain ⟨K6, rfl, hk', x_6, p_v6⟩ := h_6
  have E0 := exm_tr E0 x_6
  have hk := hk'
  clear hk'
  subst p_v6
  have hd2 := hd.2
  refine v_aload_n C dX10_pushOps_9 rfl ?_
  refine q10_109 C hk dX10_pushOps_10 ?_
  refine v_aload_n C dX10_pushOps_13 rfl ?_
  refine q10_236 C hk dX10_pushOps_14 ?_
  refine v_val (y := nI (d + 1)) rfl ?_
  refine v_iconst (v := nI 1) C dX10_pushOps_17 (by decide) ?_
  refine n_isub C (by omega) dX10_pushOps_18 ?_
  refine v_val (y := nI d) rfl ?_
  refine v_iload_n C dX10_pushOps_19 rfl ?_
  refine n_iast C hk (show (35, 11, 2000) ∈ mTab by decide +kernel) (by omega) dX10_pushOps_20 (fun S2_20 hk' x_20 => ?_)
  have E0 := exm_tr E0 x_20
  have hk := hk'
  clear hk'
  refine v_aload_n C dX10_pushOps_21 rfl ?_
  refine q10_112 C hk dX10_pushOps_22 ?_
  refine v_aload_n C dX10_pushOps_25 rfl ?_
  refine q10_236 C hk dX10_pushOps_26 ?_
  refine v_val (y := nI (d + 1)) rfl ?_
  refine v_iconst (v := nI 1) C dX10_pushOps_29 (by decide) ?_
  refine n_isub C (by omega) dX10_pushOps_30 ?_
  refine v_val (y := nI d) rfl ?_
  refine v_iload C dX10_pushOps_31 rfl ?_
  refine n_iast C hk (show (36, 11, 2000) ∈ mTab by decide +kernel) (by omega) dX10_pushOps_33 (fun S2_33 hk' x_33 => ?_)
  have E0 := exm_tr E0 x_33
  have hk := hk'
  clear hk'
  refine v_aload_n C dX10_pushOps_34 rfl ?_
  refine q10_118 C hk dX10_pushOps_35 ?_
  refine v_aload_n C dX10_pushOps_38 rfl ?_
  refine q10_236 C hk dX10_pushOps_39 ?_
  refine v_val (y := nI (d + 1)) rfl ?_
  refine v_iconst (v := nI 1) C dX10_pushOps_42 (by decide) ?_
  refine n_isub C (by omega) dX10_pushOps_43 ?_
  refine v_val (y := nI d) rfl ?_
  refine v_iload C dX10_pushOps_44 rfl ?_
  refine n_iast C hk (show (38, 11, 2000) ∈ mTab by decide +kernel) (by omega) dX10_pushOps_46 (fun S2_46 hk' x_46 => ?_)
  have E0 := exm_tr E0 x_46
  have hk := hk'
  clear hk'
  refine v_vret C hr (Nat.le_of_ble_eq_true rfl) (Nat.le_of_ble_eq_true rfl) dX10_pushOps_47 ?_
  exact ⟨_, rfl, hk, E0, (rfl)⟩
theorem dX10_pushLayer_0 : decode cX10_pushLayer 0 = .ok (.aload_n 0, 1) := by decide +kernel
theorem dX10_pushLayer_1 : decode cX10_pushLayer 1 = .ok (.iconst 0, 1) := by decide +kernel
theorem dX10_pushLayer_2 : decode cX10_pushLayer 2 = .ok (.iload_n 1, 1) := by decide +kernel
theorem dX10_pushLayer_3 : decode cX10_pushLayer 3 = .ok (.iload_n 2, 1) := by decide +kernel
theorem dX10_pushLayer_4 : decode cX10_pushLayer 4 = .ok (.iload 4, 2) := by decide +kernel
theorem dX10_pushLayer_6 : decode cX10_pushLayer 6 = .ok (.invokevirtual 239, 3) := by decide +kernel
theorem dX10_pushLayer_9 : decode cX10_pushLayer 9 = .ok (.aload_n 0, 1) := by decide +kernel
theorem dX10_pushLayer_10 : decode cX10_pushLayer 10 = .ok (.getfield 118, 3) := by decide +kernel
theorem dX10_pushLayer_13 : decode cX10_pushLayer 13 = .ok (.aload_n 0, 1) := by decide +kernel
theorem dX10_pushLayer_14 : decode cX10_pushLayer 14 = .ok (.getfield 236, 3) := by decide +kernel
theorem dX10_pushLayer_17 : decode cX10_pushLayer 17 = .ok (.iconst 1, 1) := by decide +kernel
theorem dX10_pushLayer_18 : decode cX10_pushLayer 18 = .ok (.isub, 1) := by decide +kernel
theorem dX10_pushLayer_19 : decode cX10_pushLayer 19 = .ok (.iload_n 3, 1) := by decide +kernel
theorem dX10_pushLayer_20 : decode cX10_pushLayer 20 = .ok (.iastore, 1) := by decide +kernel
theorem dX10_pushLayer_21 : decode cX10_pushLayer 21 = .ok (.return_, 1) := by decide +kernel
set_option maxRecDepth 100000 in
set_option maxHeartbeats 4000000 in
theorem rt_X10_pushLayer (l : Launch) (m0 : Nat) (ad : Nat → Nat) (K : RS) (u : Nat) (n : Nat) (L : Nat) (op : Bool) (d : Nat) : Ct l yX10_pushLayer cX10_pushLayer 5 none 1 0 0 24 (fun S av => av = [.ref m0, .int (nI u), .int (nI n), .int (nI L), .int (bI op)] ∧ mdR S m0 ad K ∧ (rF K 42 = nI d ∧ d < 2000)) (fun S _ r S' => ∃ (K' : RS), r = none ∧ mdR S' m0 ad K' ∧ exm S S' m0 ad ∧ K' = pushL K d u n L op) := by
  refine ct_of (by decide) (fun S av h => by obtain ⟨rfl, hk, hd⟩ := h; exact Nat.le_of_ble_eq_true rfl) ?_
  intro p e s m args below meth c D G bs S av C hr hin hpre
  obtain ⟨rfl, hk, hd⟩ := hpre
  have E0 : exm S S m0 ad := exm_rfl
  refine v_aload_n C dX10_pushLayer_0 rfl ?_
  refine v_iconst (v := nI 0) C dX10_pushLayer_1 (by decide) ?_
  refine v_iload_n C dX10_pushLayer_2 rfl ?_
  refine v_iload_n C dX10_pushLayer_3 rfl ?_
  refine v_iload C dX10_pushLayer_4 rfl ?_
  refine v_callV (As := [_, _, _, _]) (n := 4) C (rt_X10_pushes l m0 ad _ false _ _ _ d) rfl hk.1 (by decide) rfl ⟨wd842, wd843, wd844, wd5, wd845⟩ ⟨rfl, hy_X10_pushes⟩ rfl ⟨Nat.le_of_ble_eq_true rfl, Nat.le_of_ble_eq_true rfl⟩ (Nat.le_of_ble_eq_true rfl) ⟨Nat.le_of_ble_eq_true rfl, Nat.le_of_ble_eq_true rfl⟩ dX10_pushLayer_6 ⟨rfl, hk, hd⟩ (fun r_6 S2_6 h_6 => ?_)
  obtain ⟨K6, rfl, hk', x_6, p_v6⟩ := h_6
  have E0 := exm_tr E0 x_6
  have hk := hk'
  clear hk'
  subst p_v6
  have hd2 := hd.2
  refine v_aload_n C dX10_pushLayer_9 rfl ?_
  refine q10_118 C hk dX10_pushLayer_10 ?_
  refine v_aload_n C dX10_pushLayer_13 rfl ?_
  refine q10_236 C hk dX10_pushLayer_14 ?_
  refine v_val (y := nI (d + 1)) rfl ?_
  refine v_iconst (v := nI 1) C dX10_pushLayer_17 (by decide) ?_
  refine n_isub C (by omega) dX10_pushLayer_18 ?_
  refine v_val (y := nI d) rfl ?_
  refine v_iload_n C dX10_pushLayer_19 rfl ?_
  refine n_iast C hk (show (38, 11, 2000) ∈ mTab by decide +kernel) (by omega) dX10_pushLayer_20 (fun S2_20 hk' x_20 => ?_)
  have E0 := exm_tr E0 x_20
  have hk := hk'
  clear hk'
  refine v_vret C hr (Nat.le_of_ble_eq_true rfl) (Nat.le_of_ble_eq_true rfl) dX10_pushLayer_21 ?_
  exact ⟨_, rfl, hk, E0, (rfl)⟩
theorem dX10_pops_0 : decode cX10_pops 0 = .ok (.aload_n 0, 1) := by decide +kernel
theorem dX10_pops_1 : decode cX10_pops 1 = .ok (.dup, 1) := by decide +kernel
theorem dX10_pops_2 : decode cX10_pops 2 = .ok (.getfield 236, 3) := by decide +kernel
theorem dX10_pops_5 : decode cX10_pops 5 = .ok (.iconst 1, 1) := by decide +kernel
theorem dX10_pops_6 : decode cX10_pops 6 = .ok (.isub, 1) := by decide +kernel
theorem dX10_pops_7 : decode cX10_pops 7 = .ok (.putfield 236, 3) := by decide +kernel
theorem dX10_pops_10 : decode cX10_pops 10 = .ok (.aload_n 0, 1) := by decide +kernel
theorem dX10_pops_11 : decode cX10_pops 11 = .ok (.dup, 1) := by decide +kernel
theorem dX10_pops_12 : decode cX10_pops 12 = .ok (.getfield 243, 3) := by decide +kernel
theorem dX10_pops_15 : decode cX10_pops 15 = .ok (.aload_n 0, 1) := by decide +kernel
theorem dX10_pops_16 : decode cX10_pops 16 = .ok (.getfield 124, 3) := by decide +kernel
theorem dX10_pops_19 : decode cX10_pops 19 = .ok (.aload_n 0, 1) := by decide +kernel
theorem dX10_pops_20 : decode cX10_pops 20 = .ok (.getfield 236, 3) := by decide +kernel
theorem dX10_pops_23 : decode cX10_pops 23 = .ok (.baload, 1) := by decide +kernel
theorem dX10_pops_24 : decode cX10_pops 24 = .ok (.ifCond .eq 7, 3) := by decide +kernel
theorem dX10_pops_27 : decode cX10_pops 27 = .ok (.iconst 1, 1) := by decide +kernel
theorem dX10_pops_28 : decode cX10_pops 28 = .ok (.goto 4, 3) := by decide +kernel
theorem dX10_pops_31 : decode cX10_pops 31 = .ok (.iconst 0, 1) := by decide +kernel
theorem dX10_pops_32 : decode cX10_pops 32 = .ok (.isub, 1) := by decide +kernel
theorem dX10_pops_33 : decode cX10_pops 33 = .ok (.putfield 243, 3) := by decide +kernel
theorem dX10_pops_36 : decode cX10_pops 36 = .ok (.return_, 1) := by decide +kernel
set_option maxRecDepth 100000 in
set_option maxHeartbeats 4000000 in
theorem rt_X10_pops (l : Launch) (m0 : Nat) (ad : Nat → Nat) (K : RS)  (d o : Nat) : Ct l yX10_pops cX10_pops 1 none 0 0 0 0 (fun S av => av = [.ref m0] ∧ mdR S m0 ad K ∧ (rF K 42 = nI (d + 1) ∧ d < 2000) ∧ (rF K 47 = nI o ∧ (if rA K 40 d = 0 then 0 else 1) ≤ o ∧ o < 2000)) (fun S _ r S' => ∃ (K' : RS), r = none ∧ mdR S' m0 ad K' ∧ exm S S' m0 ad ∧ K' = popK K d o) := by
  refine ct_of (by decide) (fun S av h => by obtain ⟨rfl, hk, hd, ho⟩ := h; exact Nat.le_of_ble_eq_true rfl) ?_
  intro p e s m args below meth c D G bs S av C hr hin hpre
  obtain ⟨rfl, hk, hd, ho⟩ := hpre
  have E0 : exm S S m0 ad := exm_rfl
  obtain ⟨hd1, hd2⟩ := hd
  obtain ⟨ho1, ho2, ho3⟩ := ho
  refine v_aload_n C dX10_pops_0 rfl ?_
  refine v_dup C dX10_pops_1 rfl ?_
  refine q10_236 C hk dX10_pops_2 ?_
  refine v_val hd1 ?_
  refine v_iconst (v := nI 1) C dX10_pops_5 (by decide) ?_
  refine n_isub C (by omega) dX10_pops_6 ?_
  refine v_val (y := nI d) rfl ?_
  refine w10_236 C hk dX10_pops_7 (fun S2_7 hk' x_7 => ?_)
  have E0 := exm_tr E0 x_7
  have hk := hk'
  clear hk'
  refine v_aload_n C dX10_pops_10 rfl ?_
  refine v_dup C dX10_pops_11 rfl ?_
  refine q10_243 C hk dX10_pops_12 ?_
  refine v_val ho1 ?_
  refine v_aload_n C dX10_pops_15 rfl ?_
  refine q10_124 C hk dX10_pops_16 ?_
  refine v_aload_n C dX10_pops_19 rfl ?_
  refine q10_236 C hk dX10_pops_20 ?_
  refine v_val (y := nI d) rfl ?_
  refine n_zald C hk (show (40, 13, 2000) ∈ mTab by decide +kernel) (by omega) dX10_pops_23 ?_
  refine v_if_eq (tgt := 31) C dX10_pops_24 (by decide) (fun c_24 => ?_) (fun c_24 => ?_)
  · skip
    have hz : rA K 40 d = 0 := c_24
    rw [if_pos hz] at ho2
    refine v_iconst (v := nI 0) C dX10_pops_31 (by decide) ?_
    refine n_isub C (by omega) dX10_pops_32 ?_
    refine w10_243 C hk dX10_pops_33 (fun S4_33 hk' x_33 => ?_)
    have E0 := exm_tr E0 x_33
    have hk := hk'
    clear hk'
    refine v_vret C hr (Nat.le_of_ble_eq_true rfl) (Nat.le_of_ble_eq_true rfl) dX10_pops_36 ?_
    exact ⟨_, rfl, hk, E0, (by unfold popK; first | rw [if_pos hz] | rw [if_neg hz])⟩
  · skip
    have hz : ¬ rA K 40 d = 0 := c_24
    rw [if_neg hz] at ho2
    refine v_iconst (v := nI 1) C dX10_pops_27 (by decide) ?_
    refine v_goto (tgt := 32) C dX10_pops_28 (by decide) ?_
    refine n_isub C (by omega) dX10_pops_32 ?_
    refine w10_243 C hk dX10_pops_33 (fun S4_33 hk' x_33 => ?_)
    have E0 := exm_tr E0 x_33
    have hk := hk'
    clear hk'
    refine v_vret C hr (Nat.le_of_ble_eq_true rfl) (Nat.le_of_ble_eq_true rfl) dX10_pops_36 ?_
    exact ⟨_, rfl, hk, E0, (by unfold popK; first | rw [if_pos hz] | rw [if_neg hz])⟩
theorem dX10_isGuard_0 : decode cX10_isGuard 0 = .ok (.aload_n 0, 1) := by decide +kernel
theorem dX10_isGuard_1 : decode cX10_isGuard 1 = .ok (.getfield 109, 3) := by decide +kernel
theorem dX10_isGuard_4 : decode cX10_isGuard 4 = .ok (.iload_n 1, 1) := by decide +kernel
theorem dX10_isGuard_5 : decode cX10_isGuard 5 = .ok (.iaload, 1) := by decide +kernel
theorem dX10_isGuard_6 : decode cX10_isGuard 6 = .ok (.sipush 240, 3) := by decide +kernel
theorem dX10_isGuard_9 : decode cX10_isGuard 9 = .ok (.sipush 479, 3) := by decide +kernel
theorem dX10_isGuard_12 : decode cX10_isGuard 12 = .ok (.invokestatic 148, 3) := by decide +kernel
theorem dX10_isGuard_15 : decode cX10_isGuard 15 = .ok (.ireturn, 1) := by decide +kernel
set_option maxRecDepth 100000 in
set_option maxHeartbeats 4000000 in
theorem rt_X10_isGuard (l : Launch) (m0 : Nat) (ad : Nat → Nat) (K : RS) (f : Nat) : Ct l yX10_isGuard cX10_isGuard 2 (some .boolean) 1 0 0 22 (fun S av => av = [.ref m0, .int (nI f)] ∧ mdR S m0 ad K ∧ (f < 2000)) (fun S _ r S' => ∃ v : Bool, r = some (.int (bI v)) ∧ v = v ∧ S' = S) := by
  refine ct_of (by decide) (fun S av h => by obtain ⟨rfl, hk, hf⟩ := h; exact Nat.le_of_ble_eq_true rfl) ?_
  intro p e s m args below meth c D G bs S av C hr hin hpre
  obtain ⟨rfl, hk, hf⟩ := hpre
  refine v_aload_n C dX10_isGuard_0 rfl ?_
  refine q10_109 C hk dX10_isGuard_1 ?_
  refine v_iload_n C dX10_isGuard_4 rfl ?_
  refine n_iald C hk (show (35, 11, 2000) ∈ mTab by decide +kernel) (by omega) dX10_isGuard_5 ?_
  refine v_sipush (v := nI 240) C dX10_isGuard_6 (by decide) ?_
  refine v_sipush (v := nI 479) C dX10_isGuard_9 (by decide) ?_
  refine v_callS (As := [_, _, _]) (n := 3) C (rt_X10_in l _ _ _) rfl ⟨wd244, wd245, wd5, wd246⟩ hy_X10_in rfl ⟨Nat.le_of_ble_eq_true rfl, Nat.le_of_ble_eq_true rfl⟩ (Nat.le_of_ble_eq_true rfl) ⟨Nat.le_of_ble_eq_true rfl, Nat.le_of_ble_eq_true rfl⟩ dX10_isGuard_12 rfl (fun r_12 S2_12 h_12 => ?_)
  obtain ⟨v12, rfl, p_v12, q_v12⟩ := h_12
  obtain rfl := q_v12.symm
  refine v_zret C hr (by first | rfl | exact bI_nar _) (Nat.le_of_ble_eq_true rfl) (Nat.le_of_ble_eq_true rfl) dX10_isGuard_15 ?_
  exact ⟨_, rfl, (rfl), rfl⟩
theorem dX10_lays_0 : decode cX10_lays 0 = .ok (.aload_n 0, 1) := by decide +kernel
theorem dX10_lays_1 : decode cX10_lays 1 = .ok (.getfield 266, 3) := by decide +kernel
theorem dX10_lays_4 : decode cX10_lays 4 = .ok (.sipush 200, 3) := by decide +kernel
theorem dX10_lays_7 : decode cX10_lays 7 = .ok (.if_icmp .ge 111, 3) := by decide +kernel
theorem dX10_lays_10 : decode cX10_lays 10 = .ok (.aload_n 0, 1) := by decide +kernel
theorem dX10_lays_11 : decode cX10_lays 11 = .ok (.getfield 130, 3) := by decide +kernel
theorem dX10_lays_14 : decode cX10_lays 14 = .ok (.aload_n 0, 1) := by decide +kernel
theorem dX10_lays_15 : decode cX10_lays 15 = .ok (.getfield 266, 3) := by decide +kernel
theorem dX10_lays_18 : decode cX10_lays 18 = .ok (.aload_n 0, 1) := by decide +kernel
theorem dX10_lays_19 : decode cX10_lays 19 = .ok (.getfield 103, 3) := by decide +kernel
theorem dX10_lays_22 : decode cX10_lays 22 = .ok (.iload_n 1, 1) := by decide +kernel
theorem dX10_lays_23 : decode cX10_lays 23 = .ok (.iaload, 1) := by decide +kernel
theorem dX10_lays_24 : decode cX10_lays 24 = .ok (.iastore, 1) := by decide +kernel
theorem dX10_lays_25 : decode cX10_lays 25 = .ok (.aload_n 0, 1) := by decide +kernel
theorem dX10_lays_26 : decode cX10_lays 26 = .ok (.getfield 133, 3) := by decide +kernel
theorem dX10_lays_29 : decode cX10_lays 29 = .ok (.aload_n 0, 1) := by decide +kernel
theorem dX10_lays_30 : decode cX10_lays 30 = .ok (.getfield 266, 3) := by decide +kernel
theorem dX10_lays_33 : decode cX10_lays 33 = .ok (.aload_n 0, 1) := by decide +kernel
theorem dX10_lays_34 : decode cX10_lays 34 = .ok (.getfield 112, 3) := by decide +kernel
theorem dX10_lays_37 : decode cX10_lays 37 = .ok (.iload_n 1, 1) := by decide +kernel
theorem dX10_lays_38 : decode cX10_lays 38 = .ok (.iaload, 1) := by decide +kernel
theorem dX10_lays_39 : decode cX10_lays 39 = .ok (.ifCond .ne 7, 3) := by decide +kernel
theorem dX10_lays_42 : decode cX10_lays 42 = .ok (.iconst (-1), 1) := by decide +kernel
theorem dX10_lays_43 : decode cX10_lays 43 = .ok (.goto 26, 3) := by decide +kernel
theorem dX10_lays_46 : decode cX10_lays 46 = .ok (.aload_n 0, 1) := by decide +kernel
theorem dX10_lays_47 : decode cX10_lays 47 = .ok (.getfield 25, 3) := by decide +kernel
theorem dX10_lays_50 : decode cX10_lays 50 = .ok (.bipush 20, 2) := by decide +kernel
theorem dX10_lays_52 : decode cX10_lays 52 = .ok (.aload_n 0, 1) := by decide +kernel
theorem dX10_lays_53 : decode cX10_lays 53 = .ok (.getfield 103, 3) := by decide +kernel
theorem dX10_lays_56 : decode cX10_lays 56 = .ok (.iload_n 1, 1) := by decide +kernel
theorem dX10_lays_57 : decode cX10_lays 57 = .ok (.iaload, 1) := by decide +kernel
theorem dX10_lays_58 : decode cX10_lays 58 = .ok (.imul, 1) := by decide +kernel
theorem dX10_lays_59 : decode cX10_lays 59 = .ok (.aload_n 0, 1) := by decide +kernel
theorem dX10_lays_60 : decode cX10_lays 60 = .ok (.getfield 112, 3) := by decide +kernel
theorem dX10_lays_63 : decode cX10_lays 63 = .ok (.iload_n 1, 1) := by decide +kernel
theorem dX10_lays_64 : decode cX10_lays 64 = .ok (.iaload, 1) := by decide +kernel
theorem dX10_lays_65 : decode cX10_lays 65 = .ok (.iadd, 1) := by decide +kernel
theorem dX10_lays_66 : decode cX10_lays 66 = .ok (.iconst 1, 1) := by decide +kernel
theorem dX10_lays_67 : decode cX10_lays 67 = .ok (.isub, 1) := by decide +kernel
theorem dX10_lays_68 : decode cX10_lays 68 = .ok (.iaload, 1) := by decide +kernel
theorem dX10_lays_69 : decode cX10_lays 69 = .ok (.iastore, 1) := by decide +kernel
theorem dX10_lays_70 : decode cX10_lays 70 = .ok (.aload_n 0, 1) := by decide +kernel
theorem dX10_lays_71 : decode cX10_lays 71 = .ok (.getfield 136, 3) := by decide +kernel
theorem dX10_lays_74 : decode cX10_lays 74 = .ok (.aload_n 0, 1) := by decide +kernel
theorem dX10_lays_75 : decode cX10_lays 75 = .ok (.getfield 266, 3) := by decide +kernel
theorem dX10_lays_78 : decode cX10_lays 78 = .ok (.aload_n 0, 1) := by decide +kernel
theorem dX10_lays_79 : decode cX10_lays 79 = .ok (.getfield 106, 3) := by decide +kernel
theorem dX10_lays_82 : decode cX10_lays 82 = .ok (.iload_n 1, 1) := by decide +kernel
theorem dX10_lays_83 : decode cX10_lays 83 = .ok (.iaload, 1) := by decide +kernel
theorem dX10_lays_84 : decode cX10_lays 84 = .ok (.iastore, 1) := by decide +kernel
theorem dX10_lays_85 : decode cX10_lays 85 = .ok (.aload_n 0, 1) := by decide +kernel
theorem dX10_lays_86 : decode cX10_lays 86 = .ok (.getfield 139, 3) := by decide +kernel
theorem dX10_lays_89 : decode cX10_lays 89 = .ok (.aload_n 0, 1) := by decide +kernel
theorem dX10_lays_90 : decode cX10_lays 90 = .ok (.getfield 266, 3) := by decide +kernel
theorem dX10_lays_93 : decode cX10_lays 93 = .ok (.iload_n 2, 1) := by decide +kernel
theorem dX10_lays_94 : decode cX10_lays 94 = .ok (.iastore, 1) := by decide +kernel
theorem dX10_lays_95 : decode cX10_lays 95 = .ok (.aload_n 0, 1) := by decide +kernel
theorem dX10_lays_96 : decode cX10_lays 96 = .ok (.getfield 142, 3) := by decide +kernel
theorem dX10_lays_99 : decode cX10_lays 99 = .ok (.aload_n 0, 1) := by decide +kernel
theorem dX10_lays_100 : decode cX10_lays 100 = .ok (.getfield 266, 3) := by decide +kernel
theorem dX10_lays_103 : decode cX10_lays 103 = .ok (.aload_n 0, 1) := by decide +kernel
theorem dX10_lays_104 : decode cX10_lays 104 = .ok (.getfield 262, 3) := by decide +kernel
theorem dX10_lays_107 : decode cX10_lays 107 = .ok (.lastore, 1) := by decide +kernel
theorem dX10_lays_108 : decode cX10_lays 108 = .ok (.aload_n 0, 1) := by decide +kernel
theorem dX10_lays_109 : decode cX10_lays 109 = .ok (.dup, 1) := by decide +kernel
theorem dX10_lays_110 : decode cX10_lays 110 = .ok (.getfield 266, 3) := by decide +kernel
theorem dX10_lays_113 : decode cX10_lays 113 = .ok (.iconst 1, 1) := by decide +kernel
theorem dX10_lays_114 : decode cX10_lays 114 = .ok (.iadd, 1) := by decide +kernel
theorem dX10_lays_115 : decode cX10_lays 115 = .ok (.putfield 266, 3) := by decide +kernel
theorem dX10_lays_118 : decode cX10_lays 118 = .ok (.return_, 1) := by decide +kernel
set_option maxRecDepth 100000 in
set_option maxHeartbeats 4000000 in
theorem rt_X10_lays (l : Launch) (m0 : Nat) (ad : Nat → Nat) (K : RS) (f : Nat) (a : Int32) (u w : Nat) : Ct l yX10_lays cX10_lays 3 none 0 0 0 0 (fun S av => av = [.ref m0, .int (nI f), .int a] ∧ mdR S m0 ad K ∧ RV K ∧ (f < 2000) ∧ (rA K 33 f = nI u ∧ u < 12) ∧ (rA K 36 f = nI w ∧ w ≤ rN K 8 u)) (fun S _ r S' => ∃ (K' : RS), r = none ∧ mdR S' m0 ad K' ∧ exm S S' m0 ad ∧ quiet K K') := by
  refine ct_of (by decide) (fun S av h => by obtain ⟨rfl, hk, rv, hf, h33, h36⟩ := h; exact Nat.le_of_ble_eq_true rfl) ?_
  intro p e s m args below meth c D G bs S av C hr hin hpre
  obtain ⟨rfl, hk, rv, hf, h33, h36⟩ := hpre
  have E0 : exm S S m0 ad := exm_rfl
  obtain ⟨h33a, hu⟩ := h33
  obtain ⟨h36a, hw⟩ := h36
  obtain ⟨z1, z2⟩ := rv.p5 u hu
  obtain ⟨q1, q2⟩ := rv.p16
  refine v_aload_n C dX10_lays_0 rfl ?_
  refine q10_266 C hk dX10_lays_1 ?_
  refine v_val q1 ?_
  refine v_sipush (v := nI 200) C dX10_lays_4 (by decide) ?_
  refine n_icmp_ge (tgt := 118) C (by omega) (by omega) dX10_lays_7 (by decide) (fun c_7 => ?_) (fun c_7 => ?_)
  · skip
    refine v_vret C hr (Nat.le_of_ble_eq_true rfl) (Nat.le_of_ble_eq_true rfl) dX10_lays_118 ?_
    exact ⟨_, rfl, hk, E0, (quiet_rfl)⟩
  · skip
    refine v_aload_n C dX10_lays_10 rfl ?_
    refine q10_130 C hk dX10_lays_11 ?_
    refine v_aload_n C dX10_lays_14 rfl ?_
    refine q10_266 C hk dX10_lays_15 ?_
    refine v_val q1 ?_
    refine v_aload_n C dX10_lays_18 rfl ?_
    refine q10_103 C hk dX10_lays_19 ?_
    refine v_iload_n C dX10_lays_22 rfl ?_
    refine n_iald C hk (show (33, 11, 2000) ∈ mTab by decide +kernel) (by omega) dX10_lays_23 ?_
    refine n_iast C hk (show (50, 11, 200) ∈ mTab by decide +kernel) (by omega) dX10_lays_24 (fun S4_24 hk' x_24 => ?_)
    have E0 := exm_tr E0 x_24
    have hk := hk'
    clear hk'
    refine v_aload_n C dX10_lays_25 rfl ?_
    refine q10_133 C hk dX10_lays_26 ?_
    refine v_aload_n C dX10_lays_29 rfl ?_
    refine q10_266 C hk dX10_lays_30 ?_
    refine v_val q1 ?_
    refine v_aload_n C dX10_lays_33 rfl ?_
    refine q10_112 C hk dX10_lays_34 ?_
    refine v_iload_n C dX10_lays_37 rfl ?_
    refine n_iald C hk (show (36, 11, 2000) ∈ mTab by decide +kernel) (by omega) dX10_lays_38 ?_
    refine v_val h36a ?_
    refine n_if_ne (tgt := 46) C (by omega) dX10_lays_39 (by decide) (fun c_39 => ?_) (fun c_39 => ?_)
    · skip
      refine v_aload_n C dX10_lays_46 rfl ?_
      refine q10_25 C hk dX10_lays_47 ?_
      refine v_bipush (v := nI 20) C dX10_lays_50 (by decide) ?_
      refine v_aload_n C dX10_lays_52 rfl ?_
      refine q10_103 C hk dX10_lays_53 ?_
      refine v_iload_n C dX10_lays_56 rfl ?_
      refine n_iald C hk (show (33, 11, 2000) ∈ mTab by decide +kernel) (by omega) dX10_lays_57 ?_
      refine v_val h33a ?_
      refine n_imul C dX10_lays_58 ?_
      refine v_aload_n C dX10_lays_59 rfl ?_
      refine q10_112 C hk dX10_lays_60 ?_
      refine v_iload_n C dX10_lays_63 rfl ?_
      refine n_iald C hk (show (36, 11, 2000) ∈ mTab by decide +kernel) (by omega) dX10_lays_64 ?_
      refine v_val h36a ?_
      refine n_iadd C dX10_lays_65 ?_
      refine v_iconst (v := nI 1) C dX10_lays_66 (by decide) ?_
      refine n_isub C (by omega) dX10_lays_67 ?_
      refine n_iald C hk (show (7, 11, 240) ∈ mTab by decide +kernel) (by omega) dX10_lays_68 ?_
      refine n_iast C hk (show (51, 11, 200) ∈ mTab by decide +kernel) (by omega) dX10_lays_69 (fun S6_69 hk' x_69 => ?_)
      have E0 := exm_tr E0 x_69
      have hk := hk'
      clear hk'
      refine v_aload_n C dX10_lays_70 rfl ?_
      refine q10_136 C hk dX10_lays_71 ?_
      refine v_aload_n C dX10_lays_74 rfl ?_
      refine q10_266 C hk dX10_lays_75 ?_
      refine v_val q1 ?_
      refine v_aload_n C dX10_lays_78 rfl ?_
      refine q10_106 C hk dX10_lays_79 ?_
      refine v_iload_n C dX10_lays_82 rfl ?_
      refine n_iald C hk (show (34, 11, 2000) ∈ mTab by decide +kernel) (by omega) dX10_lays_83 ?_
      refine n_iast C hk (show (52, 11, 200) ∈ mTab by decide +kernel) (by omega) dX10_lays_84 (fun S6_84 hk' x_84 => ?_)
      have E0 := exm_tr E0 x_84
      have hk := hk'
      clear hk'
      refine v_aload_n C dX10_lays_85 rfl ?_
      refine q10_139 C hk dX10_lays_86 ?_
      refine v_aload_n C dX10_lays_89 rfl ?_
      refine q10_266 C hk dX10_lays_90 ?_
      refine v_val q1 ?_
      refine v_iload_n C dX10_lays_93 rfl ?_
      refine n_iast C hk (show (53, 11, 200) ∈ mTab by decide +kernel) (by omega) dX10_lays_94 (fun S6_94 hk' x_94 => ?_)
      have E0 := exm_tr E0 x_94
      have hk := hk'
      clear hk'
      refine v_aload_n C dX10_lays_95 rfl ?_
      refine q10_142 C hk dX10_lays_96 ?_
      refine v_aload_n C dX10_lays_99 rfl ?_
      refine q10_266 C hk dX10_lays_100 ?_
      refine v_val q1 ?_
      refine v_aload_n C dX10_lays_103 rfl ?_
      refine q10_262 C hk dX10_lays_104 ?_
      refine n_last C hk (show (54, 12, 200) ∈ mTab by decide +kernel) (by omega) dX10_lays_107 (fun S6_107 hk' x_107 => ?_)
      have E0 := exm_tr E0 x_107
      have hk := hk'
      clear hk'
      refine v_aload_n C dX10_lays_108 rfl ?_
      refine v_dup C dX10_lays_109 rfl ?_
      refine q10_266 C hk dX10_lays_110 ?_
      refine v_val q1 ?_
      refine v_iconst (v := nI 1) C dX10_lays_113 (by decide) ?_
      refine n_iadd C dX10_lays_114 ?_
      refine w10_266 C hk dX10_lays_115 (fun S6_115 hk' x_115 => ?_)
      have E0 := exm_tr E0 x_115
      have hk := hk'
      clear hk'
      refine v_vret C hr (Nat.le_of_ble_eq_true rfl) (Nat.le_of_ble_eq_true rfl) dX10_lays_118 ?_
      exact ⟨_, rfl, hk, E0, (quiet_49 (quiet_wQ (quiet_wA (quiet_wA (quiet_wA (quiet_wA quiet_rfl (by decide) (by decide)) (by decide) (by decide)) (by decide) (by decide)) (by decide) (by decide)) (by decide)) (by omega))⟩
    · skip
      refine v_iconst (v := -1) C dX10_lays_42 (by decide) ?_
      refine v_goto (tgt := 69) C dX10_lays_43 (by decide) ?_
      refine n_iast C hk (show (51, 11, 200) ∈ mTab by decide +kernel) (by omega) dX10_lays_69 (fun S6_69 hk' x_69 => ?_)
      have E0 := exm_tr E0 x_69
      have hk := hk'
      clear hk'
      refine v_aload_n C dX10_lays_70 rfl ?_
      refine q10_136 C hk dX10_lays_71 ?_
      refine v_aload_n C dX10_lays_74 rfl ?_
      refine q10_266 C hk dX10_lays_75 ?_
      refine v_val q1 ?_
      refine v_aload_n C dX10_lays_78 rfl ?_
      refine q10_106 C hk dX10_lays_79 ?_
      refine v_iload_n C dX10_lays_82 rfl ?_
      refine n_iald C hk (show (34, 11, 2000) ∈ mTab by decide +kernel) (by omega) dX10_lays_83 ?_
      refine n_iast C hk (show (52, 11, 200) ∈ mTab by decide +kernel) (by omega) dX10_lays_84 (fun S6_84 hk' x_84 => ?_)
      have E0 := exm_tr E0 x_84
      have hk := hk'
      clear hk'
      refine v_aload_n C dX10_lays_85 rfl ?_
      refine q10_139 C hk dX10_lays_86 ?_
      refine v_aload_n C dX10_lays_89 rfl ?_
      refine q10_266 C hk dX10_lays_90 ?_
      refine v_val q1 ?_
      refine v_iload_n C dX10_lays_93 rfl ?_
      refine n_iast C hk (show (53, 11, 200) ∈ mTab by decide +kernel) (by omega) dX10_lays_94 (fun S6_94 hk' x_94 => ?_)
      have E0 := exm_tr E0 x_94
      have hk := hk'
      clear hk'
      refine v_aload_n C dX10_lays_95 rfl ?_
      refine q10_142 C hk dX10_lays_96 ?_
      refine v_aload_n C dX10_lays_99 rfl ?_
      refine q10_266 C hk dX10_lays_100 ?_
      refine v_val q1 ?_
      refine v_aload_n C dX10_lays_103 rfl ?_
      refine q10_262 C hk dX10_lays_104 ?_
      refine n_last C hk (show (54, 12, 200) ∈ mTab by decide +kernel) (by omega) dX10_lays_107 (fun S6_107 hk' x_107 => ?_)
      have E0 := exm_tr E0 x_107
      have hk := hk'
      clear hk'
      refine v_aload_n C dX10_lays_108 rfl ?_
      refine v_dup C dX10_lays_109 rfl ?_
      refine q10_266 C hk dX10_lays_110 ?_
      refine v_val q1 ?_
      refine v_iconst (v := nI 1) C dX10_lays_113 (by decide) ?_
      refine n_iadd C dX10_lays_114 ?_
      refine w10_266 C hk dX10_lays_115 (fun S6_115 hk' x_115 => ?_)
      have E0 := exm_tr E0 x_115
      have hk := hk'
      clear hk'
      refine v_vret C hr (Nat.le_of_ble_eq_true rfl) (Nat.le_of_ble_eq_true rfl) dX10_lays_118 ?_
      exact ⟨_, rfl, hk, E0, (quiet_49 (quiet_wQ (quiet_wA (quiet_wA (quiet_wA (quiet_wA quiet_rfl (by decide) (by decide)) (by decide) (by decide)) (by decide) (by decide)) (by decide) (by decide)) (by decide)) (by omega))⟩
theorem dX10_against_0 : decode cX10_against 0 = .ok (.aload_n 0, 1) := by decide +kernel
theorem dX10_against_1 : decode cX10_against 1 = .ok (.iload_n 1, 1) := by decide +kernel
theorem dX10_against_2 : decode cX10_against 2 = .ok (.iload_n 2, 1) := by decide +kernel
theorem dX10_against_3 : decode cX10_against 3 = .ok (.invokevirtual 224, 3) := by decide +kernel
theorem dX10_against_6 : decode cX10_against 6 = .ok (.ifCond .eq 5, 3) := by decide +kernel
theorem dX10_against_9 : decode cX10_against 9 = .ok (.iconst 5, 1) := by decide +kernel
theorem dX10_against_10 : decode cX10_against 10 = .ok (.ireturn, 1) := by decide +kernel
theorem dX10_against_11 : decode cX10_against 11 = .ok (.aload_n 0, 1) := by decide +kernel
theorem dX10_against_12 : decode cX10_against 12 = .ok (.iload_n 1, 1) := by decide +kernel
theorem dX10_against_13 : decode cX10_against 13 = .ok (.iload_n 2, 1) := by decide +kernel
theorem dX10_against_14 : decode cX10_against 14 = .ok (.invokevirtual 208, 3) := by decide +kernel
theorem dX10_against_17 : decode cX10_against 17 = .ok (.istore 4, 2) := by decide +kernel
theorem dX10_against_19 : decode cX10_against 19 = .ok (.iload 4, 2) := by decide +kernel
theorem dX10_against_21 : decode cX10_against 21 = .ok (.iconst (-1), 1) := by decide +kernel
theorem dX10_against_22 : decode cX10_against 22 = .ok (.if_icmp .ne 5, 3) := by decide +kernel
theorem dX10_against_25 : decode cX10_against 25 = .ok (.iconst 4, 1) := by decide +kernel
theorem dX10_against_26 : decode cX10_against 26 = .ok (.ireturn, 1) := by decide +kernel
theorem dX10_against_27 : decode cX10_against 27 = .ok (.aload_n 0, 1) := by decide +kernel
theorem dX10_against_28 : decode cX10_against 28 = .ok (.getfield 42, 3) := by decide +kernel
theorem dX10_against_31 : decode cX10_against 31 = .ok (.aload_n 0, 1) := by decide +kernel
theorem dX10_against_32 : decode cX10_against 32 = .ok (.iload_n 1, 1) := by decide +kernel
theorem dX10_against_33 : decode cX10_against 33 = .ok (.iload 4, 2) := by decide +kernel
theorem dX10_against_35 : decode cX10_against 35 = .ok (.iload_n 2, 1) := by decide +kernel
theorem dX10_against_36 : decode cX10_against 36 = .ok (.invokevirtual 199, 3) := by decide +kernel
theorem dX10_against_39 : decode cX10_against 39 = .ok (.iaload, 1) := by decide +kernel
theorem dX10_against_40 : decode cX10_against 40 = .ok (.istore 5, 2) := by decide +kernel
theorem dX10_against_42 : decode cX10_against 42 = .ok (.iload_n 3, 1) := by decide +kernel
theorem dX10_against_43 : decode cX10_against 43 = .ok (.iconst (-1), 1) := by decide +kernel
theorem dX10_against_44 : decode cX10_against 44 = .ok (.if_icmp .eq 39, 3) := by decide +kernel
theorem dX10_against_47 : decode cX10_against 47 = .ok (.iload_n 3, 1) := by decide +kernel
theorem dX10_against_48 : decode cX10_against 48 = .ok (.iload_n 1, 1) := by decide +kernel
theorem dX10_against_49 : decode cX10_against 49 = .ok (.if_icmp .eq 34, 3) := by decide +kernel
theorem dX10_against_52 : decode cX10_against 52 = .ok (.iload 5, 2) := by decide +kernel
theorem dX10_against_54 : decode cX10_against 54 = .ok (.iconst 2, 1) := by decide +kernel
theorem dX10_against_55 : decode cX10_against 55 = .ok (.if_icmp .eq 24, 3) := by decide +kernel
theorem dX10_against_58 : decode cX10_against 58 = .ok (.iload 5, 2) := by decide +kernel
theorem dX10_against_60 : decode cX10_against 60 = .ok (.iconst 1, 1) := by decide +kernel
theorem dX10_against_61 : decode cX10_against 61 = .ok (.if_icmp .ne 22, 3) := by decide +kernel
theorem dX10_against_64 : decode cX10_against 64 = .ok (.aload_n 0, 1) := by decide +kernel
theorem dX10_against_65 : decode cX10_against 65 = .ok (.getfield 16, 3) := by decide +kernel
theorem dX10_against_68 : decode cX10_against 68 = .ok (.iload_n 1, 1) := by decide +kernel
theorem dX10_against_69 : decode cX10_against 69 = .ok (.iaload, 1) := by decide +kernel
theorem dX10_against_70 : decode cX10_against 70 = .ok (.aload_n 0, 1) := by decide +kernel
theorem dX10_against_71 : decode cX10_against 71 = .ok (.getfield 16, 3) := by decide +kernel
theorem dX10_against_74 : decode cX10_against 74 = .ok (.iload_n 3, 1) := by decide +kernel
theorem dX10_against_75 : decode cX10_against 75 = .ok (.iaload, 1) := by decide +kernel
theorem dX10_against_76 : decode cX10_against 76 = .ok (.if_icmp .eq 7, 3) := by decide +kernel
theorem dX10_against_79 : decode cX10_against 79 = .ok (.iconst 3, 1) := by decide +kernel
theorem dX10_against_80 : decode cX10_against 80 = .ok (.goto 4, 3) := by decide +kernel
theorem dX10_against_83 : decode cX10_against 83 = .ok (.iconst 0, 1) := by decide +kernel
theorem dX10_against_84 : decode cX10_against 84 = .ok (.ireturn, 1) := by decide +kernel
set_option maxRecDepth 100000 in
set_option maxHeartbeats 4000000 in
theorem rt_X10_against (l : Launch) (m0 : Nat) (ad : Nat → Nat) (K : RS) (u : Nat) (n : Nat) (x : Int32) : Ct l yX10_against cX10_against 6 (some .int) 5 0 0 125 (fun S av => av = [.ref m0, .int (nI u), .int (nI n), .int x] ∧ mdR S m0 ad K ∧ RV K ∧ (u < 12) ∧ (n < 12) ∧ (x = -1 ∨ ∃ w, w < 12 ∧ x = nI w)) (fun S _ r S' => ∃ v : Nat, r = some (.int (nI v)) ∧ v = v ∧ (v ≤ 5 ∧ (v = 0 → (chooseF K u n).isSome = true)) ∧ S' = S) := by
  refine ct_of (by decide) (fun S av h => by obtain ⟨rfl, hk, rv, hu, hn, hx⟩ := h; exact Nat.le_of_ble_eq_true rfl) ?_
  intro p e s m args below meth c D G bs S av C hr hin hpre
  obtain ⟨rfl, hk, rv, hu, hn, hx⟩ := hpre
  obtain ⟨z1, z2⟩ := rv.p5 u hu
  refine v_aload_n C dX10_against_0 rfl ?_
  refine v_iload_n C dX10_against_1 rfl ?_
  refine v_iload_n C dX10_against_2 rfl ?_
  refine v_callV (As := [_, _]) (n := 2) C (rt_X10_clashOf l m0 ad _ _ _) rfl hk.1 (by decide) rfl ⟨wd618, wd619, wd620, wd5, wd621⟩ ⟨rfl, hy_X10_clashOf⟩ rfl ⟨Nat.le_of_ble_eq_true rfl, Nat.le_of_ble_eq_true rfl⟩ (Nat.le_of_ble_eq_true rfl) ⟨Nat.le_of_ble_eq_true rfl, Nat.le_of_ble_eq_true rfl⟩ dX10_against_3 ⟨rfl, hk, rv, (by omega), (by omega)⟩ (fun r_3 S2_3 h_3 => ?_)
  obtain ⟨v3, rfl, p_v3, b_v3, q_v3⟩ := h_3
  obtain rfl := q_v3.symm
  refine n_if_eq (tgt := 11) C (by omega) dX10_against_6 (by decide) (fun c_6 => ?_) (fun c_6 => ?_)
  · skip
    refine v_aload_n C dX10_against_11 rfl ?_
    refine v_iload_n C dX10_against_12 rfl ?_
    refine v_iload_n C dX10_against_13 rfl ?_
    refine v_callV (As := [_, _]) (n := 2) C (rt_X10_choose l m0 ad _ _ _) rfl hk.1 (by decide) rfl ⟨wd589, wd590, wd591, wd5, wd592⟩ ⟨rfl, hy_X10_choose⟩ rfl ⟨Nat.le_of_ble_eq_true rfl, Nat.le_of_ble_eq_true rfl⟩ (Nat.le_of_ble_eq_true rfl) ⟨Nat.le_of_ble_eq_true rfl, Nat.le_of_ble_eq_true rfl⟩ dX10_against_14 ⟨rfl, hk, rv, (by omega), (by omega)⟩ (fun r_14 S4_14 h_14 => ?_)
    obtain ⟨v14, rfl, p_v14, b_v14, q_v14⟩ := h_14
    obtain rfl := q_v14.symm
    refine v_istore C dX10_against_17 (by decide) rfl ?_
    refine v_iload C dX10_against_19 rfl ?_
    refine v_iconst (v := -1) C dX10_against_21 (by decide) ?_
    refine o_icmp_ne (tgt := 27) C (fun k z => by have := b_v14 k z; omega) dX10_against_22 (by decide) (fun k22 c_22 => ?_) (fun c_22 => ?_)
    · skip
      have b_k22 := b_v14 k22 c_22
      subst c_22
      have hsome : (chooseF K u n).isSome = true := by rw [← p_v14]; rfl
      refine v_aload_n C dX10_against_27 rfl ?_
      refine q10_42 C hk dX10_against_28 ?_
      refine v_aload_n C dX10_against_31 rfl ?_
      refine v_iload_n C dX10_against_32 rfl ?_
      refine v_iload C dX10_against_33 rfl ?_
      refine v_iload_n C dX10_against_35 rfl ?_
      refine v_callV (As := [_, _, _]) (n := 3) C (rt_X10_offers l m0 ad _ _ _ _) rfl hk.1 (by decide) rfl ⟨wd593, wd594, wd595, wd5, wd596⟩ ⟨rfl, hy_X10_offers⟩ rfl ⟨Nat.le_of_ble_eq_true rfl, Nat.le_of_ble_eq_true rfl⟩ (Nat.le_of_ble_eq_true rfl) ⟨Nat.le_of_ble_eq_true rfl, Nat.le_of_ble_eq_true rfl⟩ dX10_against_36 ⟨rfl, hk, rv, (by omega), (by omega), (by omega)⟩ (fun r_36 S6_36 h_36 => ?_)
      obtain ⟨v36, rfl, p_v36, b_v36, q_v36⟩ := h_36
      obtain rfl := q_v36.symm
      obtain ⟨x36, hx36⟩ := (choose_some p_v14.symm).2
      obtain rfl : v36 = some x36 := p_v36.trans hx36
      have bx := b_v36 x36 rfl
      refine n_iald C hk (show (12, 11, 624) ∈ mTab by decide +kernel) (by omega) dX10_against_39 ?_
      refine v_istore C dX10_against_40 (by decide) rfl ?_
      refine v_iload_n C dX10_against_42 rfl ?_
      refine v_iconst (v := -1) C dX10_against_43 (by decide) ?_
      refine v_icmp_eq (tgt := 83) C dX10_against_44 (by decide) (fun c_44 => ?_) (fun c_44 => ?_)
      · skip
        refine v_iconst (v := nI 0) C dX10_against_83 (by decide) ?_
        refine v_iret C hr (Nat.le_of_ble_eq_true rfl) (Nat.le_of_ble_eq_true rfl) dX10_against_84 ?_
        exact ⟨_, rfl, (rfl), (⟨by decide, fun _ => hsome⟩), rfl⟩
      · skip
        obtain ⟨w, hw, rfl⟩ := hx.resolve_left c_44
        refine v_iload_n C dX10_against_47 rfl ?_
        refine v_iload_n C dX10_against_48 rfl ?_
        refine n_icmp_eq (tgt := 83) C (by omega) (by omega) dX10_against_49 (by decide) (fun c_49 => ?_) (fun c_49 => ?_)
        · skip
          refine v_iconst (v := nI 0) C dX10_against_83 (by decide) ?_
          refine v_iret C hr (Nat.le_of_ble_eq_true rfl) (Nat.le_of_ble_eq_true rfl) dX10_against_84 ?_
          exact ⟨_, rfl, (rfl), (⟨by decide, fun _ => hsome⟩), rfl⟩
        · skip
          refine v_iload C dX10_against_52 rfl ?_
          refine v_iconst (v := nI 2) C dX10_against_54 (by decide) ?_
          refine v_icmp_eq (tgt := 79) C dX10_against_55 (by decide) (fun c_55 => ?_) (fun c_55 => ?_)
          · skip
            refine v_iconst (v := nI 3) C dX10_against_79 (by decide) ?_
            refine v_goto (tgt := 84) C dX10_against_80 (by decide) ?_
            refine v_iret C hr (Nat.le_of_ble_eq_true rfl) (Nat.le_of_ble_eq_true rfl) dX10_against_84 ?_
            exact ⟨_, rfl, (rfl), (⟨by decide, fun _ => hsome⟩), rfl⟩
          · skip
            refine v_iload C dX10_against_58 rfl ?_
            refine v_iconst (v := nI 1) C dX10_against_60 (by decide) ?_
            refine v_icmp_ne (tgt := 83) C dX10_against_61 (by decide) (fun c_61 => ?_) (fun c_61 => ?_)
            · skip
              refine v_iconst (v := nI 0) C dX10_against_83 (by decide) ?_
              refine v_iret C hr (Nat.le_of_ble_eq_true rfl) (Nat.le_of_ble_eq_true rfl) dX10_against_84 ?_
              exact ⟨_, rfl, (rfl), (⟨by decide, fun _ => hsome⟩), rfl⟩
            · skip
              refine v_aload_n C dX10_against_64 rfl ?_
              refine q10_16 C hk dX10_against_65 ?_
              refine v_iload_n C dX10_against_68 rfl ?_
              refine n_iald C hk (show (4, 11, 12) ∈ mTab by decide +kernel) (by omega) dX10_against_69 ?_
              refine v_aload_n C dX10_against_70 rfl ?_
              refine q10_16 C hk dX10_against_71 ?_
              refine v_iload_n C dX10_against_74 rfl ?_
              refine n_iald C hk (show (4, 11, 12) ∈ mTab by decide +kernel) (by omega) dX10_against_75 ?_
              refine v_icmp_eq (tgt := 83) C dX10_against_76 (by decide) (fun c_76 => ?_) (fun c_76 => ?_)
              · skip
                refine v_iconst (v := nI 0) C dX10_against_83 (by decide) ?_
                refine v_iret C hr (Nat.le_of_ble_eq_true rfl) (Nat.le_of_ble_eq_true rfl) dX10_against_84 ?_
                exact ⟨_, rfl, (rfl), (⟨by decide, fun _ => hsome⟩), rfl⟩
              · skip
                refine v_iconst (v := nI 3) C dX10_against_79 (by decide) ?_
                refine v_goto (tgt := 84) C dX10_against_80 (by decide) ?_
                refine v_iret C hr (Nat.le_of_ble_eq_true rfl) (Nat.le_of_ble_eq_true rfl) dX10_against_84 ?_
                exact ⟨_, rfl, (rfl), (⟨by decide, fun _ => hsome⟩), rfl⟩
    · skip
      subst c_22
      refine v_iconst (v := nI 4) C dX10_against_25 (by decide) ?_
      refine v_iret C hr (Nat.le_of_ble_eq_true rfl) (Nat.le_of_ble_eq_true rfl) dX10_against_26 ?_
      exact ⟨_, rfl, (rfl), (⟨by decide, fun z => absurd z (by decide)⟩), rfl⟩
  · skip
    refine v_iconst (v := nI 5) C dX10_against_9 (by decide) ?_
    refine v_iret C hr (Nat.le_of_ble_eq_true rfl) (Nat.le_of_ble_eq_true rfl) dX10_against_10 ?_
    exact ⟨_, rfl, (rfl), (⟨by decide, fun z => absurd z (by decide)⟩), rfl⟩
theorem dX10_fails_0 : decode cX10_fails 0 = .ok (.aload_n 0, 1) := by decide +kernel
theorem dX10_fails_1 : decode cX10_fails 1 = .ok (.getfield 236, 3) := by decide +kernel
theorem dX10_fails_4 : decode cX10_fails 4 = .ok (.ifCond .le 70, 3) := by decide +kernel
theorem dX10_fails_7 : decode cX10_fails 7 = .ok (.aload_n 0, 1) := by decide +kernel
theorem dX10_fails_8 : decode cX10_fails 8 = .ok (.getfield 127, 3) := by decide +kernel
theorem dX10_fails_11 : decode cX10_fails 11 = .ok (.aload_n 0, 1) := by decide +kernel
theorem dX10_fails_12 : decode cX10_fails 12 = .ok (.getfield 236, 3) := by decide +kernel
theorem dX10_fails_15 : decode cX10_fails 15 = .ok (.iconst 1, 1) := by decide +kernel
theorem dX10_fails_16 : decode cX10_fails 16 = .ok (.isub, 1) := by decide +kernel
theorem dX10_fails_17 : decode cX10_fails 17 = .ok (.baload, 1) := by decide +kernel
theorem dX10_fails_18 : decode cX10_fails 18 = .ok (.ifCond .eq 18, 3) := by decide +kernel
theorem dX10_fails_21 : decode cX10_fails 21 = .ok (.iload_n 1, 1) := by decide +kernel
theorem dX10_fails_22 : decode cX10_fails 22 = .ok (.iconst 2, 1) := by decide +kernel
theorem dX10_fails_23 : decode cX10_fails 23 = .ok (.if_icmp .eq 13, 3) := by decide +kernel
theorem dX10_fails_26 : decode cX10_fails 26 = .ok (.iload_n 1, 1) := by decide +kernel
theorem dX10_fails_27 : decode cX10_fails 27 = .ok (.bipush 6, 2) := by decide +kernel
theorem dX10_fails_29 : decode cX10_fails 29 = .ok (.if_icmp .eq 7, 3) := by decide +kernel
theorem dX10_fails_32 : decode cX10_fails 32 = .ok (.iconst 1, 1) := by decide +kernel
theorem dX10_fails_33 : decode cX10_fails 33 = .ok (.goto 4, 3) := by decide +kernel
theorem dX10_fails_36 : decode cX10_fails 36 = .ok (.iconst 0, 1) := by decide +kernel
theorem dX10_fails_37 : decode cX10_fails 37 = .ok (.istore_n 2, 1) := by decide +kernel
theorem dX10_fails_38 : decode cX10_fails 38 = .ok (.aload_n 0, 1) := by decide +kernel
theorem dX10_fails_39 : decode cX10_fails 39 = .ok (.invokevirtual 246, 3) := by decide +kernel
theorem dX10_fails_42 : decode cX10_fails 42 = .ok (.iload_n 2, 1) := by decide +kernel
theorem dX10_fails_43 : decode cX10_fails 43 = .ok (.ifCond .eq 28, 3) := by decide +kernel
theorem dX10_fails_46 : decode cX10_fails 46 = .ok (.aload_n 0, 1) := by decide +kernel
theorem dX10_fails_47 : decode cX10_fails 47 = .ok (.iload_n 1, 1) := by decide +kernel
theorem dX10_fails_48 : decode cX10_fails 48 = .ok (.iconst 1, 1) := by decide +kernel
theorem dX10_fails_49 : decode cX10_fails 49 = .ok (.if_icmp .ne 11, 3) := by decide +kernel
theorem dX10_fails_52 : decode cX10_fails 52 = .ok (.aload_n 0, 1) := by decide +kernel
theorem dX10_fails_53 : decode cX10_fails 53 = .ok (.getfield 257, 3) := by decide +kernel
theorem dX10_fails_56 : decode cX10_fails 56 = .ok (.i2l, 1) := by decide +kernel
theorem dX10_fails_57 : decode cX10_fails 57 = .ok (.goto 9, 3) := by decide +kernel
theorem dX10_fails_60 : decode cX10_fails 60 = .ok (.ldc2_w 260, 3) := by decide +kernel
theorem dX10_fails_63 : decode cX10_fails 63 = .ok (.iload_n 1, 1) := by decide +kernel
theorem dX10_fails_64 : decode cX10_fails 64 = .ok (.i2l, 1) := by decide +kernel
theorem dX10_fails_65 : decode cX10_fails 65 = .ok (.lsub, 1) := by decide +kernel
theorem dX10_fails_66 : decode cX10_fails 66 = .ok (.putfield 262, 3) := by decide +kernel
theorem dX10_fails_69 : decode cX10_fails 69 = .ok (.iconst 0, 1) := by decide +kernel
theorem dX10_fails_70 : decode cX10_fails 70 = .ok (.ireturn, 1) := by decide +kernel
theorem dX10_fails_71 : decode cX10_fails 71 = .ok (.goto (-71), 3) := by decide +kernel
theorem dX10_fails_74 : decode cX10_fails 74 = .ok (.iload_n 1, 1) := by decide +kernel
theorem dX10_fails_75 : decode cX10_fails 75 = .ok (.ireturn, 1) := by decide +kernel
set_option maxRecDepth 100000 in
set_option maxHeartbeats 4000000 in
theorem rt_X10_fails (l : Launch) (m0 : Nat) (ad : Nat → Nat) (K : RS) (y : Nat) (K0 : RS) (d o nn : Nat) : Ct l yX10_fails cX10_fails 3 (some .int) 1 0 0 20 (fun S av => av = [.ref m0, .int (nI y)] ∧ mdR S m0 ad K ∧ (PI K0 K d o nn) ∧ (opO K d = o) ∧ (y ≤ 6)) (fun S _ r S' => ∃ (v : Int32) (K' : RS), r = some (.int v) ∧ mdR S' m0 ad K' ∧ exm S S' m0 ad ∧ ∃ d' o', PI K0 K' d' o' nn ∧ opO K' d' = o' ∧ potS K' d' ≤ potS K d ∧ (0 < d → potS K' d' < potS K d)) := by
  refine ct_of (by decide) (fun S av h => by obtain ⟨rfl, hk, hp, hO, hy⟩ := h; exact Nat.le_of_ble_eq_true rfl) ?_
  intro p e s m args below meth c D G bs S av C hr hin hpre
  obtain ⟨rfl, hk, hp, hO, hy⟩ := hpre
  have E0 : exm S S m0 ad := exm_rfl
  refine V.lits (lv' := [_, _, _]) rfl ?_
  refine v_loop (fun (tt : (Nat) × (Nat) × (RS)) lv0 => lv0) (fun (S1 : Mem) (tt : (Nat) × (Nat) × (RS)) => mdR S1 m0 ad tt.2.2 ∧ exm S S1 m0 ad ∧ (PI K0 tt.2.2 tt.1 tt.2.1 nn) ∧ (opO tt.2.2 tt.1 = tt.2.1) ∧ (potS tt.2.2 tt.1 ≤ potS K d ∧ (tt.1 < d → potS tt.2.2 tt.1 < potS K d) ∧ tt.1 ≤ d)) (fun (S1 : Mem) (tt : (Nat) × (Nat) × (RS)) => tt.1) (t := (d, o, K)) rfl ⟨hk, E0, hp, hO, ⟨Nat.le_refl _, fun z => absurd z (Nat.lt_irrefl _), Nat.le_refl _⟩⟩ ?_
  intro L0 tt h_0 ih_0
  obtain ⟨d1, o1, K1⟩ := tt
  obtain ⟨hk, E0, hP, hO1, hS⟩ := h_0
  try dsimp only at *
  refine v_aload_n C dX10_fails_0 rfl ?_
  have hdd := PI_deep hP
  have ho4 := hP.2.2.2.2.2.2.2
  refine q10_236 C hk dX10_fails_1 ?_
  refine v_val hP.2.1 ?_
  refine n_if_le (tgt := 74) C (by omega) dX10_fails_4 (by decide) (fun c_4 => ?_) (fun c_4 => ?_)
  · skip
    refine v_iload_n C dX10_fails_74 rfl ?_
    refine v_iret C hr (Nat.le_of_ble_eq_true rfl) (Nat.le_of_ble_eq_true rfl) dX10_fails_75 ?_
    exact ⟨_, _, rfl, hk, E0, (⟨_, _, hP, hO1, hS.1, fun z => hS.2.1 (by omega)⟩)⟩
  · skip
    obtain ⟨f1, rfl⟩ : ∃ f1, d1 = f1 + 1 := ⟨d1 - 1, by omega⟩
    obtain ⟨g1, g2, g3⟩ := popK_PI hP hO1
    have hb1 : (if rA K1 40 f1 = 0 then 0 else 1) ≤ o1 := by rw [← hO1, opO]; omega
    have hf2 : f1 < 2000 := by omega
    refine v_aload_n C dX10_fails_7 rfl ?_
    refine q10_127 C hk dX10_fails_8 ?_
    refine v_aload_n C dX10_fails_11 rfl ?_
    refine q10_236 C hk dX10_fails_12 ?_
    refine v_val hP.2.1 ?_
    refine v_iconst (v := nI 1) C dX10_fails_15 (by decide) ?_
    refine n_isub C (by omega) dX10_fails_16 ?_
    refine v_val (y := nI f1) rfl ?_
    refine n_zald C hk (show (41, 13, 2000) ∈ mTab by decide +kernel) (by omega) dX10_fails_17 ?_
    refine v_if_eq (tgt := 36) C dX10_fails_18 (by decide) (fun c_18 => ?_) (fun c_18 => ?_)
    · skip
      refine v_iconst (v := nI 0) C dX10_fails_36 (by decide) ?_
      refine v_istore_n C dX10_fails_37 (by decide) rfl ?_
      refine v_aload_n C dX10_fails_38 rfl ?_
      refine v_callV (As := []) (n := 0) C (rt_X10_pops l m0 ad _ f1 o1) rfl hk.1 (by decide) rfl ⟨wd850, wd851, wd852, wd5, wd853⟩ ⟨rfl, hy_X10_pops⟩ rfl ⟨Nat.le_of_ble_eq_true rfl, Nat.le_of_ble_eq_true rfl⟩ (Nat.le_of_ble_eq_true rfl) ⟨Nat.le_of_ble_eq_true rfl, Nat.le_of_ble_eq_true rfl⟩ dX10_fails_39 ⟨rfl, hk, ⟨hP.2.1, hf2⟩, ⟨hP.2.2.2.2.2.2.1, hb1, by omega⟩⟩ (fun r_39 S4_39 h_39 => ?_)
      obtain ⟨K39, rfl, hk', x_39, p_v39⟩ := h_39
      have E0 := exm_tr E0 x_39
      have hk := hk'
      clear hk'
      subst p_v39
      refine v_iload_n C dX10_fails_42 rfl ?_
      refine v_if_eq (tgt := 71) C dX10_fails_43 (by decide) (fun c_43 => ?_) (fun c_43 => ?_)
      · skip
        refine v_goto (tgt := 0) C dX10_fails_71 (by decide) ?_
        refine V.drop 2 ?_
        refine V.lits (lv' := [_, _, _]) rfl ?_
        have hS' : potS (popK K1 f1 o1) f1 ≤ potS K d ∧ (f1 < d → potS (popK K1 f1 o1) f1 < potS K d) ∧ f1 ≤ d := ⟨by omega, fun _ => by omega, by omega⟩
        exact ih_0 _ (f1, (o1 - (if rA K1 40 f1 = 0 then 0 else 1)), (popK K1 f1 o1)) (by first | omega | (dsimp only; omega)) ⟨hk, E0, g1, g2, hS'⟩
      · skip
        exact absurd c_43 (by decide)
    · skip
      refine v_iload_n C dX10_fails_21 rfl ?_
      refine v_iconst (v := nI 2) C dX10_fails_22 (by decide) ?_
      refine n_icmp_eq (tgt := 36) C (by omega) (by omega) dX10_fails_23 (by decide) (fun c_23 => ?_) (fun c_23 => ?_)
      · skip
        refine v_iconst (v := nI 0) C dX10_fails_36 (by decide) ?_
        refine v_istore_n C dX10_fails_37 (by decide) rfl ?_
        refine v_aload_n C dX10_fails_38 rfl ?_
        refine v_callV (As := []) (n := 0) C (rt_X10_pops l m0 ad _ f1 o1) rfl hk.1 (by decide) rfl ⟨wd850, wd851, wd852, wd5, wd853⟩ ⟨rfl, hy_X10_pops⟩ rfl ⟨Nat.le_of_ble_eq_true rfl, Nat.le_of_ble_eq_true rfl⟩ (Nat.le_of_ble_eq_true rfl) ⟨Nat.le_of_ble_eq_true rfl, Nat.le_of_ble_eq_true rfl⟩ dX10_fails_39 ⟨rfl, hk, ⟨hP.2.1, hf2⟩, ⟨hP.2.2.2.2.2.2.1, hb1, by omega⟩⟩ (fun r_39 S6_39 h_39 => ?_)
        obtain ⟨K39, rfl, hk', x_39, p_v39⟩ := h_39
        have E0 := exm_tr E0 x_39
        have hk := hk'
        clear hk'
        subst p_v39
        refine v_iload_n C dX10_fails_42 rfl ?_
        refine v_if_eq (tgt := 71) C dX10_fails_43 (by decide) (fun c_43 => ?_) (fun c_43 => ?_)
        · skip
          refine v_goto (tgt := 0) C dX10_fails_71 (by decide) ?_
          refine V.drop 2 ?_
          refine V.lits (lv' := [_, _, _]) rfl ?_
          have hS' : potS (popK K1 f1 o1) f1 ≤ potS K d ∧ (f1 < d → potS (popK K1 f1 o1) f1 < potS K d) ∧ f1 ≤ d := ⟨by omega, fun _ => by omega, by omega⟩
          exact ih_0 _ (f1, (o1 - (if rA K1 40 f1 = 0 then 0 else 1)), (popK K1 f1 o1)) (by first | omega | (dsimp only; omega)) ⟨hk, E0, g1, g2, hS'⟩
        · skip
          exact absurd c_43 (by decide)
      · skip
        refine v_iload_n C dX10_fails_26 rfl ?_
        refine v_bipush (v := nI 6) C dX10_fails_27 (by decide) ?_
        refine n_icmp_eq (tgt := 36) C (by omega) (by omega) dX10_fails_29 (by decide) (fun c_29 => ?_) (fun c_29 => ?_)
        · skip
          refine v_iconst (v := nI 0) C dX10_fails_36 (by decide) ?_
          refine v_istore_n C dX10_fails_37 (by decide) rfl ?_
          refine v_aload_n C dX10_fails_38 rfl ?_
          refine v_callV (As := []) (n := 0) C (rt_X10_pops l m0 ad _ f1 o1) rfl hk.1 (by decide) rfl ⟨wd850, wd851, wd852, wd5, wd853⟩ ⟨rfl, hy_X10_pops⟩ rfl ⟨Nat.le_of_ble_eq_true rfl, Nat.le_of_ble_eq_true rfl⟩ (Nat.le_of_ble_eq_true rfl) ⟨Nat.le_of_ble_eq_true rfl, Nat.le_of_ble_eq_true rfl⟩ dX10_fails_39 ⟨rfl, hk, ⟨hP.2.1, hf2⟩, ⟨hP.2.2.2.2.2.2.1, hb1, by omega⟩⟩ (fun r_39 S8_39 h_39 => ?_)
          obtain ⟨K39, rfl, hk', x_39, p_v39⟩ := h_39
          have E0 := exm_tr E0 x_39
          have hk := hk'
          clear hk'
          subst p_v39
          refine v_iload_n C dX10_fails_42 rfl ?_
          refine v_if_eq (tgt := 71) C dX10_fails_43 (by decide) (fun c_43 => ?_) (fun c_43 => ?_)
          · skip
            refine v_goto (tgt := 0) C dX10_fails_71 (by decide) ?_
            refine V.drop 2 ?_
            refine V.lits (lv' := [_, _, _]) rfl ?_
            have hS' : potS (popK K1 f1 o1) f1 ≤ potS K d ∧ (f1 < d → potS (popK K1 f1 o1) f1 < potS K d) ∧ f1 ≤ d := ⟨by omega, fun _ => by omega, by omega⟩
            exact ih_0 _ (f1, (o1 - (if rA K1 40 f1 = 0 then 0 else 1)), (popK K1 f1 o1)) (by first | omega | (dsimp only; omega)) ⟨hk, E0, g1, g2, hS'⟩
          · skip
            exact absurd c_43 (by decide)
        · skip
          refine v_iconst (v := nI 1) C dX10_fails_32 (by decide) ?_
          refine v_goto (tgt := 37) C dX10_fails_33 (by decide) ?_
          refine v_istore_n C dX10_fails_37 (by decide) rfl ?_
          refine v_aload_n C dX10_fails_38 rfl ?_
          refine v_callV (As := []) (n := 0) C (rt_X10_pops l m0 ad _ f1 o1) rfl hk.1 (by decide) rfl ⟨wd850, wd851, wd852, wd5, wd853⟩ ⟨rfl, hy_X10_pops⟩ rfl ⟨Nat.le_of_ble_eq_true rfl, Nat.le_of_ble_eq_true rfl⟩ (Nat.le_of_ble_eq_true rfl) ⟨Nat.le_of_ble_eq_true rfl, Nat.le_of_ble_eq_true rfl⟩ dX10_fails_39 ⟨rfl, hk, ⟨hP.2.1, hf2⟩, ⟨hP.2.2.2.2.2.2.1, hb1, by omega⟩⟩ (fun r_39 S8_39 h_39 => ?_)
          obtain ⟨K39, rfl, hk', x_39, p_v39⟩ := h_39
          have E0 := exm_tr E0 x_39
          have hk := hk'
          clear hk'
          subst p_v39
          refine v_iload_n C dX10_fails_42 rfl ?_
          refine v_if_eq (tgt := 71) C dX10_fails_43 (by decide) (fun c_43 => ?_) (fun c_43 => ?_)
          · skip
            exact absurd c_43 (by decide)
          · skip
            refine v_aload_n C dX10_fails_46 rfl ?_
            refine v_iload_n C dX10_fails_47 rfl ?_
            refine v_iconst (v := nI 1) C dX10_fails_48 (by decide) ?_
            refine n_icmp_ne (tgt := 60) C (by omega) (by omega) dX10_fails_49 (by decide) (fun c_49 => ?_) (fun c_49 => ?_)
            · skip
              refine v_ldc2 (v := (-10)) C wd858 dX10_fails_60 ?_
              refine v_iload_n C dX10_fails_63 rfl ?_
              refine v_i2l C dX10_fails_64 ?_
              refine v_lsub C dX10_fails_65 ?_
              refine w10_262 C hk dX10_fails_66 (fun S12_66 hk' x_66 => ?_)
              have E0 := exm_tr E0 x_66
              have hk := hk'
              clear hk'
              refine v_iconst (v := nI 0) C dX10_fails_69 (by decide) ?_
              refine v_iret C hr (Nat.le_of_ble_eq_true rfl) (Nat.le_of_ble_eq_true rfl) dX10_fails_70 ?_
              exact ⟨_, _, rfl, hk, E0, (fails_end g1 g2 (by omega) (quiet_wJ quiet_rfl (by decide)))⟩
            · skip
              refine v_aload_n C dX10_fails_52 rfl ?_
              refine q10_257 C hk dX10_fails_53 ?_
              refine v_i2l C dX10_fails_56 ?_
              refine v_goto (tgt := 66) C dX10_fails_57 (by decide) ?_
              refine w10_262 C hk dX10_fails_66 (fun S12_66 hk' x_66 => ?_)
              have E0 := exm_tr E0 x_66
              have hk := hk'
              clear hk'
              refine v_iconst (v := nI 0) C dX10_fails_69 (by decide) ?_
              refine v_iret C hr (Nat.le_of_ble_eq_true rfl) (Nat.le_of_ble_eq_true rfl) dX10_fails_70 ?_
              exact ⟨_, _, rfl, hk, E0, (fails_end g1 g2 (by omega) (quiet_wJ quiet_rfl (by decide)))⟩
theorem dX10_around_0 : decode cX10_around 0 = .ok (.aload_n 0, 1) := by decide +kernel
theorem dX10_around_1 : decode cX10_around 1 = .ok (.getfield 103, 3) := by decide +kernel
theorem dX10_around_4 : decode cX10_around 4 = .ok (.iload_n 1, 1) := by decide +kernel
theorem dX10_around_5 : decode cX10_around 5 = .ok (.iaload, 1) := by decide +kernel
theorem dX10_around_6 : decode cX10_around 6 = .ok (.istore_n 2, 1) := by decide +kernel
theorem dX10_around_7 : decode cX10_around 7 = .ok (.aload_n 0, 1) := by decide +kernel
theorem dX10_around_8 : decode cX10_around 8 = .ok (.getfield 106, 3) := by decide +kernel
theorem dX10_around_11 : decode cX10_around 11 = .ok (.iload_n 1, 1) := by decide +kernel
theorem dX10_around_12 : decode cX10_around 12 = .ok (.iaload, 1) := by decide +kernel
theorem dX10_around_13 : decode cX10_around 13 = .ok (.istore_n 3, 1) := by decide +kernel
theorem dX10_around_14 : decode cX10_around 14 = .ok (.aload_n 0, 1) := by decide +kernel
theorem dX10_around_15 : decode cX10_around 15 = .ok (.iload_n 2, 1) := by decide +kernel
theorem dX10_around_16 : decode cX10_around 16 = .ok (.iload_n 3, 1) := by decide +kernel
theorem dX10_around_17 : decode cX10_around 17 = .ok (.aload_n 0, 1) := by decide +kernel
theorem dX10_around_18 : decode cX10_around 18 = .ok (.getfield 118, 3) := by decide +kernel
theorem dX10_around_21 : decode cX10_around 21 = .ok (.iload_n 1, 1) := by decide +kernel
theorem dX10_around_22 : decode cX10_around 22 = .ok (.iaload, 1) := by decide +kernel
theorem dX10_around_23 : decode cX10_around 23 = .ok (.invokevirtual 227, 3) := by decide +kernel
theorem dX10_around_26 : decode cX10_around 26 = .ok (.istore 4, 2) := by decide +kernel
theorem dX10_around_28 : decode cX10_around 28 = .ok (.iload 4, 2) := by decide +kernel
theorem dX10_around_30 : decode cX10_around 30 = .ok (.iconst (-1), 1) := by decide +kernel
theorem dX10_around_31 : decode cX10_around 31 = .ok (.if_icmp .ne 7, 3) := by decide +kernel
theorem dX10_around_34 : decode cX10_around 34 = .ok (.iconst (-1), 1) := by decide +kernel
theorem dX10_around_35 : decode cX10_around 35 = .ok (.goto 26, 3) := by decide +kernel
theorem dX10_around_38 : decode cX10_around 38 = .ok (.sipush 240, 3) := by decide +kernel
theorem dX10_around_41 : decode cX10_around 41 = .ok (.bipush 12, 2) := by decide +kernel
theorem dX10_around_43 : decode cX10_around 43 = .ok (.aload_n 0, 1) := by decide +kernel
theorem dX10_around_44 : decode cX10_around 44 = .ok (.getfield 25, 3) := by decide +kernel
theorem dX10_around_47 : decode cX10_around 47 = .ok (.bipush 20, 2) := by decide +kernel
theorem dX10_around_49 : decode cX10_around 49 = .ok (.iload_n 2, 1) := by decide +kernel
theorem dX10_around_50 : decode cX10_around 50 = .ok (.imul, 1) := by decide +kernel
theorem dX10_around_51 : decode cX10_around 51 = .ok (.iload 4, 2) := by decide +kernel
theorem dX10_around_53 : decode cX10_around 53 = .ok (.iadd, 1) := by decide +kernel
theorem dX10_around_54 : decode cX10_around 54 = .ok (.iconst 1, 1) := by decide +kernel
theorem dX10_around_55 : decode cX10_around 55 = .ok (.isub, 1) := by decide +kernel
theorem dX10_around_56 : decode cX10_around 56 = .ok (.iaload, 1) := by decide +kernel
theorem dX10_around_57 : decode cX10_around 57 = .ok (.imul, 1) := by decide +kernel
theorem dX10_around_58 : decode cX10_around 58 = .ok (.iadd, 1) := by decide +kernel
theorem dX10_around_59 : decode cX10_around 59 = .ok (.iload_n 3, 1) := by decide +kernel
theorem dX10_around_60 : decode cX10_around 60 = .ok (.iadd, 1) := by decide +kernel
theorem dX10_around_61 : decode cX10_around 61 = .ok (.istore 5, 2) := by decide +kernel
theorem dX10_around_63 : decode cX10_around 63 = .ok (.aload_n 0, 1) := by decide +kernel
theorem dX10_around_64 : decode cX10_around 64 = .ok (.getfield 121, 3) := by decide +kernel
theorem dX10_around_67 : decode cX10_around 67 = .ok (.iload_n 1, 1) := by decide +kernel
theorem dX10_around_68 : decode cX10_around 68 = .ok (.iaload, 1) := by decide +kernel
theorem dX10_around_69 : decode cX10_around 69 = .ok (.bipush 9, 2) := by decide +kernel
theorem dX10_around_71 : decode cX10_around 71 = .ok (.if_icmp .ne 10, 3) := by decide +kernel
theorem dX10_around_74 : decode cX10_around 74 = .ok (.aload_n 0, 1) := by decide +kernel
theorem dX10_around_75 : decode cX10_around 75 = .ok (.invokevirtual 246, 3) := by decide +kernel
theorem dX10_around_78 : decode cX10_around 78 = .ok (.goto 189, 3) := by decide +kernel
theorem dX10_around_81 : decode cX10_around 81 = .ok (.aload_n 0, 1) := by decide +kernel
theorem dX10_around_82 : decode cX10_around 82 = .ok (.getfield 121, 3) := by decide +kernel
theorem dX10_around_85 : decode cX10_around 85 = .ok (.iload_n 1, 1) := by decide +kernel
theorem dX10_around_86 : decode cX10_around 86 = .ok (.iaload, 1) := by decide +kernel
theorem dX10_around_87 : decode cX10_around 87 = .ok (.iconst 1, 1) := by decide +kernel
theorem dX10_around_88 : decode cX10_around 88 = .ok (.if_icmp .ne 23, 3) := by decide +kernel
theorem dX10_around_91 : decode cX10_around 91 = .ok (.aload_n 0, 1) := by decide +kernel
theorem dX10_around_92 : decode cX10_around 92 = .ok (.getfield 118, 3) := by decide +kernel
theorem dX10_around_95 : decode cX10_around 95 = .ok (.iload_n 1, 1) := by decide +kernel
theorem dX10_around_96 : decode cX10_around 96 = .ok (.dup2, 1) := by decide +kernel
theorem dX10_around_97 : decode cX10_around 97 = .ok (.iaload, 1) := by decide +kernel
theorem dX10_around_98 : decode cX10_around 98 = .ok (.iconst 1, 1) := by decide +kernel
theorem dX10_around_99 : decode cX10_around 99 = .ok (.iadd, 1) := by decide +kernel
theorem dX10_around_100 : decode cX10_around 100 = .ok (.iastore, 1) := by decide +kernel
theorem dX10_around_101 : decode cX10_around 101 = .ok (.aload_n 0, 1) := by decide +kernel
theorem dX10_around_102 : decode cX10_around 102 = .ok (.getfield 121, 3) := by decide +kernel
theorem dX10_around_105 : decode cX10_around 105 = .ok (.iload_n 1, 1) := by decide +kernel
theorem dX10_around_106 : decode cX10_around 106 = .ok (.iconst 0, 1) := by decide +kernel
theorem dX10_around_107 : decode cX10_around 107 = .ok (.iastore, 1) := by decide +kernel
theorem dX10_around_108 : decode cX10_around 108 = .ok (.goto 159, 3) := by decide +kernel
theorem dX10_around_111 : decode cX10_around 111 = .ok (.aload_n 0, 1) := by decide +kernel
theorem dX10_around_112 : decode cX10_around 112 = .ok (.getfield 121, 3) := by decide +kernel
theorem dX10_around_115 : decode cX10_around 115 = .ok (.iload_n 1, 1) := by decide +kernel
theorem dX10_around_116 : decode cX10_around 116 = .ok (.iaload, 1) := by decide +kernel
theorem dX10_around_117 : decode cX10_around 117 = .ok (.iconst 2, 1) := by decide +kernel
theorem dX10_around_118 : decode cX10_around 118 = .ok (.if_icmp .ne 31, 3) := by decide +kernel
theorem dX10_around_121 : decode cX10_around 121 = .ok (.aload_n 0, 1) := by decide +kernel
theorem dX10_around_122 : decode cX10_around 122 = .ok (.getfield 121, 3) := by decide +kernel
theorem dX10_around_125 : decode cX10_around 125 = .ok (.iload_n 1, 1) := by decide +kernel
theorem dX10_around_126 : decode cX10_around 126 = .ok (.bipush 9, 2) := by decide +kernel
theorem dX10_around_128 : decode cX10_around 128 = .ok (.iastore, 1) := by decide +kernel
theorem dX10_around_129 : decode cX10_around 129 = .ok (.aload_n 0, 1) := by decide +kernel
theorem dX10_around_130 : decode cX10_around 130 = .ok (.iload_n 2, 1) := by decide +kernel
theorem dX10_around_131 : decode cX10_around 131 = .ok (.iload_n 3, 1) := by decide +kernel
theorem dX10_around_132 : decode cX10_around 132 = .ok (.iload 5, 2) := by decide +kernel
theorem dX10_around_134 : decode cX10_around 134 = .ok (.iload 4, 2) := by decide +kernel
theorem dX10_around_136 : decode cX10_around 136 = .ok (.aload_n 0, 1) := by decide +kernel
theorem dX10_around_137 : decode cX10_around 137 = .ok (.getfield 118, 3) := by decide +kernel
theorem dX10_around_140 : decode cX10_around 140 = .ok (.iload_n 1, 1) := by decide +kernel
theorem dX10_around_141 : decode cX10_around 141 = .ok (.iaload, 1) := by decide +kernel
theorem dX10_around_142 : decode cX10_around 142 = .ok (.iconst 0, 1) := by decide +kernel
theorem dX10_around_143 : decode cX10_around 143 = .ok (.invokevirtual 249, 3) := by decide +kernel
theorem dX10_around_146 : decode cX10_around 146 = .ok (.goto 121, 3) := by decide +kernel
theorem dX10_around_149 : decode cX10_around 149 = .ok (.iload 4, 2) := by decide +kernel
theorem dX10_around_151 : decode cX10_around 151 = .ok (.iconst (-1), 1) := by decide +kernel
theorem dX10_around_152 : decode cX10_around 152 = .ok (.if_icmp .ne 40, 3) := by decide +kernel
theorem dX10_around_155 : decode cX10_around 155 = .ok (.aload_n 0, 1) := by decide +kernel
theorem dX10_around_156 : decode cX10_around 156 = .ok (.getfield 121, 3) := by decide +kernel
theorem dX10_around_159 : decode cX10_around 159 = .ok (.iload_n 1, 1) := by decide +kernel
theorem dX10_around_160 : decode cX10_around 160 = .ok (.bipush 9, 2) := by decide +kernel
theorem dX10_around_162 : decode cX10_around 162 = .ok (.iastore, 1) := by decide +kernel
theorem dX10_around_163 : decode cX10_around 163 = .ok (.aload_n 0, 1) := by decide +kernel
theorem dX10_around_164 : decode cX10_around 164 = .ok (.iload_n 2, 1) := by decide +kernel
theorem dX10_around_165 : decode cX10_around 165 = .ok (.iload_n 3, 1) := by decide +kernel
theorem dX10_around_166 : decode cX10_around 166 = .ok (.invokevirtual 208, 3) := by decide +kernel
theorem dX10_around_169 : decode cX10_around 169 = .ok (.istore 6, 2) := by decide +kernel
theorem dX10_around_171 : decode cX10_around 171 = .ok (.aload_n 0, 1) := by decide +kernel
theorem dX10_around_172 : decode cX10_around 172 = .ok (.iload_n 2, 1) := by decide +kernel
theorem dX10_around_173 : decode cX10_around 173 = .ok (.iload_n 3, 1) := by decide +kernel
theorem dX10_around_174 : decode cX10_around 174 = .ok (.aload_n 0, 1) := by decide +kernel
theorem dX10_around_175 : decode cX10_around 175 = .ok (.iload_n 2, 1) := by decide +kernel
theorem dX10_around_176 : decode cX10_around 176 = .ok (.iload 6, 2) := by decide +kernel
theorem dX10_around_178 : decode cX10_around 178 = .ok (.iload_n 3, 1) := by decide +kernel
theorem dX10_around_179 : decode cX10_around 179 = .ok (.invokevirtual 199, 3) := by decide +kernel
theorem dX10_around_182 : decode cX10_around 182 = .ok (.iload 6, 2) := by decide +kernel
theorem dX10_around_184 : decode cX10_around 184 = .ok (.iconst (-1), 1) := by decide +kernel
theorem dX10_around_185 : decode cX10_around 185 = .ok (.iconst 0, 1) := by decide +kernel
theorem dX10_around_186 : decode cX10_around 186 = .ok (.invokevirtual 249, 3) := by decide +kernel
theorem dX10_around_189 : decode cX10_around 189 = .ok (.goto 78, 3) := by decide +kernel
theorem dX10_around_192 : decode cX10_around 192 = .ok (.aload_n 0, 1) := by decide +kernel
theorem dX10_around_193 : decode cX10_around 193 = .ok (.getfield 48, 3) := by decide +kernel
theorem dX10_around_196 : decode cX10_around 196 = .ok (.iload 5, 2) := by decide +kernel
theorem dX10_around_198 : decode cX10_around 198 = .ok (.iaload, 1) := by decide +kernel
theorem dX10_around_199 : decode cX10_around 199 = .ok (.iconst 2, 1) := by decide +kernel
theorem dX10_around_200 : decode cX10_around 200 = .ok (.if_icmp .ne 28, 3) := by decide +kernel
theorem dX10_around_203 : decode cX10_around 203 = .ok (.aload_n 0, 1) := by decide +kernel
theorem dX10_around_204 : decode cX10_around 204 = .ok (.getfield 121, 3) := by decide +kernel
theorem dX10_around_207 : decode cX10_around 207 = .ok (.iload_n 1, 1) := by decide +kernel
theorem dX10_around_208 : decode cX10_around 208 = .ok (.iconst 2, 1) := by decide +kernel
theorem dX10_around_209 : decode cX10_around 209 = .ok (.iastore, 1) := by decide +kernel
theorem dX10_around_210 : decode cX10_around 210 = .ok (.aload_n 0, 1) := by decide +kernel
theorem dX10_around_211 : decode cX10_around 211 = .ok (.iload_n 2, 1) := by decide +kernel
theorem dX10_around_212 : decode cX10_around 212 = .ok (.iload_n 3, 1) := by decide +kernel
theorem dX10_around_213 : decode cX10_around 213 = .ok (.aload_n 0, 1) := by decide +kernel
theorem dX10_around_214 : decode cX10_around 214 = .ok (.getfield 118, 3) := by decide +kernel
theorem dX10_around_217 : decode cX10_around 217 = .ok (.iload_n 1, 1) := by decide +kernel
theorem dX10_around_218 : decode cX10_around 218 = .ok (.iaload, 1) := by decide +kernel
theorem dX10_around_219 : decode cX10_around 219 = .ok (.iconst 1, 1) := by decide +kernel
theorem dX10_around_220 : decode cX10_around 220 = .ok (.iadd, 1) := by decide +kernel
theorem dX10_around_221 : decode cX10_around 221 = .ok (.iconst 0, 1) := by decide +kernel
theorem dX10_around_222 : decode cX10_around 222 = .ok (.invokevirtual 253, 3) := by decide +kernel
theorem dX10_around_225 : decode cX10_around 225 = .ok (.goto 42, 3) := by decide +kernel
theorem dX10_around_228 : decode cX10_around 228 = .ok (.aload_n 0, 1) := by decide +kernel
theorem dX10_around_229 : decode cX10_around 229 = .ok (.getfield 121, 3) := by decide +kernel
theorem dX10_around_232 : decode cX10_around 232 = .ok (.iload_n 1, 1) := by decide +kernel
theorem dX10_around_233 : decode cX10_around 233 = .ok (.aload_n 0, 1) := by decide +kernel
theorem dX10_around_234 : decode cX10_around 234 = .ok (.getfield 48, 3) := by decide +kernel
theorem dX10_around_237 : decode cX10_around 237 = .ok (.iload 5, 2) := by decide +kernel
theorem dX10_around_239 : decode cX10_around 239 = .ok (.iaload, 1) := by decide +kernel
theorem dX10_around_240 : decode cX10_around 240 = .ok (.ifCond .ne 7, 3) := by decide +kernel
theorem dX10_around_243 : decode cX10_around 243 = .ok (.iconst 1, 1) := by decide +kernel
theorem dX10_around_244 : decode cX10_around 244 = .ok (.goto 5, 3) := by decide +kernel
theorem dX10_around_247 : decode cX10_around 247 = .ok (.bipush 9, 2) := by decide +kernel
theorem dX10_around_249 : decode cX10_around 249 = .ok (.iastore, 1) := by decide +kernel
theorem dX10_around_250 : decode cX10_around 250 = .ok (.aload_n 0, 1) := by decide +kernel
theorem dX10_around_251 : decode cX10_around 251 = .ok (.iload_n 2, 1) := by decide +kernel
theorem dX10_around_252 : decode cX10_around 252 = .ok (.iload_n 3, 1) := by decide +kernel
theorem dX10_around_253 : decode cX10_around 253 = .ok (.iload 5, 2) := by decide +kernel
theorem dX10_around_255 : decode cX10_around 255 = .ok (.iload 4, 2) := by decide +kernel
theorem dX10_around_257 : decode cX10_around 257 = .ok (.aload_n 0, 1) := by decide +kernel
theorem dX10_around_258 : decode cX10_around 258 = .ok (.getfield 118, 3) := by decide +kernel
theorem dX10_around_261 : decode cX10_around 261 = .ok (.iload_n 1, 1) := by decide +kernel
theorem dX10_around_262 : decode cX10_around 262 = .ok (.iaload, 1) := by decide +kernel
theorem dX10_around_263 : decode cX10_around 263 = .ok (.iconst 0, 1) := by decide +kernel
theorem dX10_around_264 : decode cX10_around 264 = .ok (.invokevirtual 249, 3) := by decide +kernel
theorem dX10_around_267 : decode cX10_around 267 = .ok (.return_, 1) := by decide +kernel
set_option maxRecDepth 100000 in
set_option maxHeartbeats 4000000 in
theorem rt_X10_around (l : Launch) (m0 : Nat) (ad : Nat → Nat) (K : RS) (f : Nat) (K0 : RS) (o nn : Nat) : Ct l yX10_around cX10_around 7 none 4 0 0 99 (fun S av => av = [.ref m0, .int (nI f)] ∧ mdR S m0 ad K ∧ RV K ∧ (PI K0 K (f + 1) o nn) ∧ (opO K (f + 1) = o) ∧ (rA K 32 f = 0)) (fun S _ r S' => ∃ (K' : RS), r = none ∧ mdR S' m0 ad K' ∧ exm S S' m0 ad ∧ ∃ d' o', PI K0 K' d' o' nn ∧ opO K' d' = o' ∧ potS K' d' < potS K (f + 1)) := by
  refine ct_of (by decide) (fun S av h => by obtain ⟨rfl, hk, rv, hp, hO, h32⟩ := h; exact Nat.le_of_ble_eq_true rfl) ?_
  intro p e s m args below meth c D G bs S av C hr hin hpre
  obtain ⟨rfl, hk, rv, hp, hO, h32⟩ := hpre
  have E0 : exm S S m0 ad := exm_rfl
  obtain ⟨u, n, L, s0, hu0, hn, a33, a34, hc, hL, a38, a39, hs, h1, hdp, hpot⟩ := PI_topL hp h32
  have hdd := PI_deep hp
  have ho4 := hp.2.2.2.2.2.2.2
  have hf2 : f + 1 < 2000 := by omega
  have c3 : fN K 3 = fN K0 3 := keep_fN hp.1 (by decide)
  have hu : u < 12 := by have := rv.p2.2; omega
  obtain ⟨z1, z2⟩ := rv.p5 u hu
  have b8 : rN K 8 u = rN K0 8 u := keep_rN hp.1 (by decide) u
  have b7 : ∀ i, rN K 7 i = rN K0 7 i := fun i => keep_rN hp.1 (by decide) i
  have zt := rv.p1.2
  have v0 := hp.2.1
  refine v_aload_n C dX10_around_0 rfl ?_
  refine q10_103 C hk dX10_around_1 ?_
  refine v_iload_n C dX10_around_4 rfl ?_
  refine n_iald C hk (show (33, 11, 2000) ∈ mTab by decide +kernel) (by omega) dX10_around_5 ?_
  refine v_val a33 ?_
  refine v_istore_n C dX10_around_6 (by decide) rfl ?_
  refine v_aload_n C dX10_around_7 rfl ?_
  refine q10_106 C hk dX10_around_8 ?_
  refine v_iload_n C dX10_around_11 rfl ?_
  refine n_iald C hk (show (34, 11, 2000) ∈ mTab by decide +kernel) (by omega) dX10_around_12 ?_
  refine v_val a34 ?_
  refine v_istore_n C dX10_around_13 (by decide) rfl ?_
  refine v_aload_n C dX10_around_14 rfl ?_
  refine v_iload_n C dX10_around_15 rfl ?_
  refine v_iload_n C dX10_around_16 rfl ?_
  refine v_aload_n C dX10_around_17 rfl ?_
  refine q10_118 C hk dX10_around_18 ?_
  refine v_iload_n C dX10_around_21 rfl ?_
  refine n_iald C hk (show (38, 11, 2000) ∈ mTab by decide +kernel) (by omega) dX10_around_22 ?_
  refine v_val a38 ?_
  refine v_callV (As := [_, _, _]) (n := 3) C (rt_X10_guardAt l m0 ad _ _ _ _) rfl hk.1 (by decide) rfl ⟨wd664, wd665, wd666, wd5, wd667⟩ ⟨rfl, hy_X10_guardAt⟩ rfl ⟨Nat.le_of_ble_eq_true rfl, Nat.le_of_ble_eq_true rfl⟩ (Nat.le_of_ble_eq_true rfl) ⟨Nat.le_of_ble_eq_true rfl, Nat.le_of_ble_eq_true rfl⟩ dX10_around_23 ⟨rfl, hk, rv, (by omega), (by omega), (by omega)⟩ (fun r_23 S2_23 h_23 => ?_)
  obtain ⟨v23, rfl, p_v23, b_v23, q_v23⟩ := h_23
  obtain rfl := q_v23.symm
  rw [guardF_pk hp.1] at p_v23
  refine v_istore C dX10_around_26 (by decide) rfl ?_
  refine v_iload C dX10_around_28 rfl ?_
  refine v_iconst (v := -1) C dX10_around_30 (by decide) ?_
  refine o_icmp_ne (tgt := 38) C (fun k z => by have := b_v23 k z; omega) dX10_around_31 (by decide) (fun k31 c_31 => ?_) (fun c_31 => ?_)
  · skip
    have b_k31 := b_v23 k31 c_31
    subst c_31
    obtain ⟨r1, r2, r3⟩ := guardF_le p_v23.symm
    obtain ⟨y1, y2⟩ := line_p rv hu (p := k31) (by omega) (by omega)
    have hg : (guardF K0 u n L).isSome = true := by rw [← p_v23]; rfl
    have hL2 : L + 1 ≤ 20 := by omega
    refine v_sipush (v := nI 240) C dX10_around_38 (by decide) ?_
    refine v_bipush (v := nI 12) C dX10_around_41 (by decide) ?_
    refine v_aload_n C dX10_around_43 rfl ?_
    refine q10_25 C hk dX10_around_44 ?_
    refine v_bipush (v := nI 20) C dX10_around_47 (by decide) ?_
    refine v_iload_n C dX10_around_49 rfl ?_
    refine n_imul C dX10_around_50 ?_
    refine v_iload C dX10_around_51 rfl ?_
    refine n_iadd C dX10_around_53 ?_
    refine v_iconst (v := nI 1) C dX10_around_54 (by decide) ?_
    refine n_isub C (by omega) dX10_around_55 ?_
    refine n_iald C hk (show (7, 11, 240) ∈ mTab by decide +kernel) (by omega) dX10_around_56 ?_
    refine v_val y1 ?_
    refine n_imul C dX10_around_57 ?_
    refine n_iadd C dX10_around_58 ?_
    refine v_iload_n C dX10_around_59 rfl ?_
    refine n_iadd C dX10_around_60 ?_
    refine v_istore C dX10_around_61 (by decide) rfl ?_
    refine v_aload_n C dX10_around_63 rfl ?_
    refine q10_121 C hk dX10_around_64 ?_
    refine v_iload_n C dX10_around_67 rfl ?_
    refine n_iald C hk (show (39, 11, 2000) ∈ mTab by decide +kernel) (by omega) dX10_around_68 ?_
    refine v_val a39 ?_
    refine v_bipush (v := nI 9) C dX10_around_69 (by decide) ?_
    refine n_icmp_ne (tgt := 81) C (by omega) (by omega) dX10_around_71 (by decide) (fun c_71 => ?_) (fun c_71 => ?_)
    · skip
      refine v_aload_n C dX10_around_81 rfl ?_
      refine q10_121 C hk dX10_around_82 ?_
      refine v_iload_n C dX10_around_85 rfl ?_
      refine n_iald C hk (show (39, 11, 2000) ∈ mTab by decide +kernel) (by omega) dX10_around_86 ?_
      refine v_val a39 ?_
      refine v_iconst (v := nI 1) C dX10_around_87 (by decide) ?_
      refine n_icmp_ne (tgt := 111) C (by omega) (by omega) dX10_around_88 (by decide) (fun c_88 => ?_) (fun c_88 => ?_)
      · skip
        refine v_aload_n C dX10_around_111 rfl ?_
        refine q10_121 C hk dX10_around_112 ?_
        refine v_iload_n C dX10_around_115 rfl ?_
        refine n_iald C hk (show (39, 11, 2000) ∈ mTab by decide +kernel) (by omega) dX10_around_116 ?_
        refine v_val a39 ?_
        refine v_iconst (v := nI 2) C dX10_around_117 (by decide) ?_
        refine n_icmp_ne (tgt := 149) C (by omega) (by omega) dX10_around_118 (by decide) (fun c_118 => ?_) (fun c_118 => ?_)
        · skip
          refine v_iload C dX10_around_149 rfl ?_
          refine v_iconst (v := -1) C dX10_around_151 (by decide) ?_
          refine v_icmp_ne (tgt := 192) C dX10_around_152 (by decide) (fun c_152 => ?_) (fun c_152 => ?_)
          · skip
            have hs0 : s0 = 0 := by rcases hs with z | z | z; exact z; exact absurd z c_71; exact absurd z.1 (fun z => z.elim c_88 c_118)
            subst hs0
            have e0 : potL L 0 = 10 * (25 - L) := rfl
            refine v_aload_n C dX10_around_192 rfl ?_
            refine q10_48 C hk dX10_around_193 ?_
            refine v_iload C dX10_around_196 rfl ?_
            refine n_iald C hk (show (14, 11, 624) ∈ mTab by decide +kernel) (by omega) dX10_around_198 ?_
            refine v_iconst (v := nI 2) C dX10_around_199 (by decide) ?_
            refine v_icmp_ne (tgt := 228) C dX10_around_200 (by decide) (fun c_200 => ?_) (fun c_200 => ?_)
            · skip
              refine v_aload_n C dX10_around_228 rfl ?_
              refine q10_121 C hk dX10_around_229 ?_
              refine v_iload_n C dX10_around_232 rfl ?_
              refine v_aload_n C dX10_around_233 rfl ?_
              refine q10_48 C hk dX10_around_234 ?_
              refine v_iload C dX10_around_237 rfl ?_
              refine n_iald C hk (show (14, 11, 624) ∈ mTab by decide +kernel) (by omega) dX10_around_239 ?_
              refine v_if_ne (tgt := 247) C dX10_around_240 (by decide) (fun c_240 => ?_) (fun c_240 => ?_)
              · skip
                obtain ⟨g1, g2, g3⟩ := PI_set (s' := 9) hp h32 a33 a34 hu0 hn hc hL a38 (Or.inr (Or.inl rfl))
                have e2 : potL L 9 = 1 := rfl
                obtain ⟨t1, t2, t3⟩ := pushO_PI (cd := 240 + 12 * rN K 7 (20 * u + k31 - 1) + n) (pl := k31) (lo := some L) (op := false) g1 (g2.trans hO) hu0 hn hc (by omega) (by omega) (fun L' z => by cases z; exact hg) (by omega) (by omega)
                have hfin := (⟨_, _, t1, t2, by omega⟩ : ∃ d' o', PI K0 (pushO (wA K 39 f (nI 9)) (f + 1) u n (240 + 12 * rN K 7 (20 * u + k31 - 1) + n) k31 (some L) false) d' o' nn ∧ opO (pushO (wA K 39 f (nI 9)) (f + 1) u n (240 + 12 * rN K 7 (20 * u + k31 - 1) + n) k31 (some L) false) d' = o' ∧ potS (pushO (wA K 39 f (nI 9)) (f + 1) u n (240 + 12 * rN K 7 (20 * u + k31 - 1) + n) k31 (some L) false) d' < potS K (f + 1))
                refine v_bipush (v := nI 9) C dX10_around_247 (by decide) ?_
                refine n_iast C hk (show (39, 11, 2000) ∈ mTab by decide +kernel) (by omega) dX10_around_249 (fun S16_249 hk' x_249 => ?_)
                have E0 := exm_tr E0 x_249
                have hk := hk'
                clear hk'
                refine v_aload_n C dX10_around_250 rfl ?_
                refine v_iload_n C dX10_around_251 rfl ?_
                refine v_iload_n C dX10_around_252 rfl ?_
                refine v_iload C dX10_around_253 rfl ?_
                refine v_iload C dX10_around_255 rfl ?_
                refine v_aload_n C dX10_around_257 rfl ?_
                refine q10_118 C hk dX10_around_258 ?_
                refine v_iload_n C dX10_around_261 rfl ?_
                refine n_iald C hk (show (38, 11, 2000) ∈ mTab by decide +kernel) (by omega) dX10_around_262 ?_
                refine v_val (y := nI L) a38 ?_
                refine v_iconst (v := nI 0) C dX10_around_263 (by decide) ?_
                refine v_callV (As := [_, _, _, _, _, _]) (n := 6) C (rt_X10_pushOps l m0 ad _ _ _ _ _ (some L) false (f + 1)) rfl hk.1 (by decide) rfl ⟨wd871, wd872, wd873, wd5, wd874⟩ ⟨rfl, hy_X10_pushOps⟩ rfl ⟨Nat.le_of_ble_eq_true rfl, Nat.le_of_ble_eq_true rfl⟩ (Nat.le_of_ble_eq_true rfl) ⟨Nat.le_of_ble_eq_true rfl, Nat.le_of_ble_eq_true rfl⟩ dX10_around_264 ⟨rfl, hk, ⟨v0, hf2⟩⟩ (fun r_264 S16_264 h_264 => ?_)
                obtain ⟨K264, rfl, hk', x_264, p_v264⟩ := h_264
                have E0 := exm_tr E0 x_264
                have hk := hk'
                clear hk'
                subst p_v264
                refine v_vret C hr (Nat.le_of_ble_eq_true rfl) (Nat.le_of_ble_eq_true rfl) dX10_around_267 ?_
                exact ⟨_, rfl, hk, E0, (hfin)⟩
              · skip
                obtain ⟨g1, g2, g3⟩ := PI_set (s' := 1) hp h32 a33 a34 hu0 hn hc hL a38 (Or.inr (Or.inr ⟨Or.inl rfl, hg⟩))
                have e2 : potL L 1 = 10 * (24 - L) + 2 := rfl
                obtain ⟨t1, t2, t3⟩ := pushO_PI (cd := 240 + 12 * rN K 7 (20 * u + k31 - 1) + n) (pl := k31) (lo := some L) (op := false) g1 (g2.trans hO) hu0 hn hc (by omega) (by omega) (fun L' z => by cases z; exact hg) (by omega) (by omega)
                have hfin := (⟨_, _, t1, t2, by omega⟩ : ∃ d' o', PI K0 (pushO (wA K 39 f (nI 1)) (f + 1) u n (240 + 12 * rN K 7 (20 * u + k31 - 1) + n) k31 (some L) false) d' o' nn ∧ opO (pushO (wA K 39 f (nI 1)) (f + 1) u n (240 + 12 * rN K 7 (20 * u + k31 - 1) + n) k31 (some L) false) d' = o' ∧ potS (pushO (wA K 39 f (nI 1)) (f + 1) u n (240 + 12 * rN K 7 (20 * u + k31 - 1) + n) k31 (some L) false) d' < potS K (f + 1))
                refine v_iconst (v := nI 1) C dX10_around_243 (by decide) ?_
                refine v_goto (tgt := 249) C dX10_around_244 (by decide) ?_
                refine n_iast C hk (show (39, 11, 2000) ∈ mTab by decide +kernel) (by omega) dX10_around_249 (fun S16_249 hk' x_249 => ?_)
                have E0 := exm_tr E0 x_249
                have hk := hk'
                clear hk'
                refine v_aload_n C dX10_around_250 rfl ?_
                refine v_iload_n C dX10_around_251 rfl ?_
                refine v_iload_n C dX10_around_252 rfl ?_
                refine v_iload C dX10_around_253 rfl ?_
                refine v_iload C dX10_around_255 rfl ?_
                refine v_aload_n C dX10_around_257 rfl ?_
                refine q10_118 C hk dX10_around_258 ?_
                refine v_iload_n C dX10_around_261 rfl ?_
                refine n_iald C hk (show (38, 11, 2000) ∈ mTab by decide +kernel) (by omega) dX10_around_262 ?_
                refine v_val (y := nI L) a38 ?_
                refine v_iconst (v := nI 0) C dX10_around_263 (by decide) ?_
                refine v_callV (As := [_, _, _, _, _, _]) (n := 6) C (rt_X10_pushOps l m0 ad _ _ _ _ _ (some L) false (f + 1)) rfl hk.1 (by decide) rfl ⟨wd871, wd872, wd873, wd5, wd874⟩ ⟨rfl, hy_X10_pushOps⟩ rfl ⟨Nat.le_of_ble_eq_true rfl, Nat.le_of_ble_eq_true rfl⟩ (Nat.le_of_ble_eq_true rfl) ⟨Nat.le_of_ble_eq_true rfl, Nat.le_of_ble_eq_true rfl⟩ dX10_around_264 ⟨rfl, hk, ⟨v0, hf2⟩⟩ (fun r_264 S16_264 h_264 => ?_)
                obtain ⟨K264, rfl, hk', x_264, p_v264⟩ := h_264
                have E0 := exm_tr E0 x_264
                have hk := hk'
                clear hk'
                subst p_v264
                refine v_vret C hr (Nat.le_of_ble_eq_true rfl) (Nat.le_of_ble_eq_true rfl) dX10_around_267 ?_
                exact ⟨_, rfl, hk, E0, (hfin)⟩
            · skip
              obtain ⟨g1, g2, g3⟩ := PI_set (s' := 2) hp h32 a33 a34 hu0 hn hc hL a38 (Or.inr (Or.inr ⟨Or.inr rfl, hg⟩))
              have e2 : potL L 2 = 5 := rfl
              obtain ⟨t1, t2, t3⟩ := pushL_PI (L := L + 1) (op := false) g1 (g2.trans hO) hu0 hn hc hL2 (by omega) (by omega)
              have hfin := (⟨_, _, t1, t2, by omega⟩ : ∃ d' o', PI K0 (pushL (wA K 39 f (nI 2)) (f + 1) u n (L + 1) false) d' o' nn ∧ opO (pushL (wA K 39 f (nI 2)) (f + 1) u n (L + 1) false) d' = o' ∧ potS (pushL (wA K 39 f (nI 2)) (f + 1) u n (L + 1) false) d' < potS K (f + 1))
              refine v_aload_n C dX10_around_203 rfl ?_
              refine q10_121 C hk dX10_around_204 ?_
              refine v_iload_n C dX10_around_207 rfl ?_
              refine v_iconst (v := nI 2) C dX10_around_208 (by decide) ?_
              refine n_iast C hk (show (39, 11, 2000) ∈ mTab by decide +kernel) (by omega) dX10_around_209 (fun S14_209 hk' x_209 => ?_)
              have E0 := exm_tr E0 x_209
              have hk := hk'
              clear hk'
              refine v_aload_n C dX10_around_210 rfl ?_
              refine v_iload_n C dX10_around_211 rfl ?_
              refine v_iload_n C dX10_around_212 rfl ?_
              refine v_aload_n C dX10_around_213 rfl ?_
              refine q10_118 C hk dX10_around_214 ?_
              refine v_iload_n C dX10_around_217 rfl ?_
              refine n_iald C hk (show (38, 11, 2000) ∈ mTab by decide +kernel) (by omega) dX10_around_218 ?_
              refine v_val (y := nI L) a38 ?_
              refine v_iconst (v := nI 1) C dX10_around_219 (by decide) ?_
              refine n_iadd C dX10_around_220 ?_
              refine v_iconst (v := nI 0) C dX10_around_221 (by decide) ?_
              refine v_callV (As := [_, _, _, _]) (n := 4) C (rt_X10_pushLayer l m0 ad _ _ _ _ false (f + 1)) rfl hk.1 (by decide) rfl ⟨wd838, wd839, wd840, wd5, wd841⟩ ⟨rfl, hy_X10_pushLayer⟩ rfl ⟨Nat.le_of_ble_eq_true rfl, Nat.le_of_ble_eq_true rfl⟩ (Nat.le_of_ble_eq_true rfl) ⟨Nat.le_of_ble_eq_true rfl, Nat.le_of_ble_eq_true rfl⟩ dX10_around_222 ⟨rfl, hk, ⟨v0, hf2⟩⟩ (fun r_222 S14_222 h_222 => ?_)
              obtain ⟨K222, rfl, hk', x_222, p_v222⟩ := h_222
              have E0 := exm_tr E0 x_222
              have hk := hk'
              clear hk'
              subst p_v222
              refine v_goto (tgt := 267) C dX10_around_225 (by decide) ?_
              refine v_vret C hr (Nat.le_of_ble_eq_true rfl) (Nat.le_of_ble_eq_true rfl) dX10_around_267 ?_
              exact ⟨_, rfl, hk, E0, (hfin)⟩
          · skip
            exact absurd c_152 (nI_nem1 (by omega))
        · skip
          subst c_118
          obtain ⟨g1, g2, g3⟩ := PI_set (s' := 9) hp h32 a33 a34 hu0 hn hc hL a38 (Or.inr (Or.inl rfl))
          have e1 : potL L 2 = 5 := rfl
          have e2 : potL L 9 = 1 := rfl
          obtain ⟨t1, t2, t3⟩ := pushO_PI (cd := 240 + 12 * rN K 7 (20 * u + k31 - 1) + n) (pl := k31) (lo := some L) (op := false) g1 (g2.trans hO) hu0 hn hc (by omega) (by omega) (fun L' z => by cases z; exact hg) (by omega) (by omega)
          have hfin := (⟨_, _, t1, t2, by omega⟩ : ∃ d' o', PI K0 (pushO (wA K 39 f (nI 9)) (f + 1) u n (240 + 12 * rN K 7 (20 * u + k31 - 1) + n) k31 (some L) false) d' o' nn ∧ opO (pushO (wA K 39 f (nI 9)) (f + 1) u n (240 + 12 * rN K 7 (20 * u + k31 - 1) + n) k31 (some L) false) d' = o' ∧ potS (pushO (wA K 39 f (nI 9)) (f + 1) u n (240 + 12 * rN K 7 (20 * u + k31 - 1) + n) k31 (some L) false) d' < potS K (f + 1))
          refine v_aload_n C dX10_around_121 rfl ?_
          refine q10_121 C hk dX10_around_122 ?_
          refine v_iload_n C dX10_around_125 rfl ?_
          refine v_bipush (v := nI 9) C dX10_around_126 (by decide) ?_
          refine n_iast C hk (show (39, 11, 2000) ∈ mTab by decide +kernel) (by omega) dX10_around_128 (fun S10_128 hk' x_128 => ?_)
          have E0 := exm_tr E0 x_128
          have hk := hk'
          clear hk'
          refine v_aload_n C dX10_around_129 rfl ?_
          refine v_iload_n C dX10_around_130 rfl ?_
          refine v_iload_n C dX10_around_131 rfl ?_
          refine v_iload C dX10_around_132 rfl ?_
          refine v_iload C dX10_around_134 rfl ?_
          refine v_aload_n C dX10_around_136 rfl ?_
          refine q10_118 C hk dX10_around_137 ?_
          refine v_iload_n C dX10_around_140 rfl ?_
          refine n_iald C hk (show (38, 11, 2000) ∈ mTab by decide +kernel) (by omega) dX10_around_141 ?_
          refine v_val (y := nI L) a38 ?_
          refine v_iconst (v := nI 0) C dX10_around_142 (by decide) ?_
          refine v_callV (As := [_, _, _, _, _, _]) (n := 6) C (rt_X10_pushOps l m0 ad _ _ _ _ _ (some L) false (f + 1)) rfl hk.1 (by decide) rfl ⟨wd871, wd872, wd873, wd5, wd874⟩ ⟨rfl, hy_X10_pushOps⟩ rfl ⟨Nat.le_of_ble_eq_true rfl, Nat.le_of_ble_eq_true rfl⟩ (Nat.le_of_ble_eq_true rfl) ⟨Nat.le_of_ble_eq_true rfl, Nat.le_of_ble_eq_true rfl⟩ dX10_around_143 ⟨rfl, hk, ⟨v0, hf2⟩⟩ (fun r_143 S10_143 h_143 => ?_)
          obtain ⟨K143, rfl, hk', x_143, p_v143⟩ := h_143
          have E0 := exm_tr E0 x_143
          have hk := hk'
          clear hk'
          subst p_v143
          refine v_goto (tgt := 267) C dX10_around_146 (by decide) ?_
          refine v_vret C hr (Nat.le_of_ble_eq_true rfl) (Nat.le_of_ble_eq_true rfl) dX10_around_267 ?_
          exact ⟨_, rfl, hk, E0, (hfin)⟩
      · skip
        subst c_88
        have hgs : (guardF K0 u n L).isSome = true := by rcases hs with z | z | z; exact absurd z (by decide); exact absurd z (by decide); exact z.2
        obtain ⟨j9, hj9⟩ := Option.isSome_iff_exists.mp hgs
        obtain ⟨r4, r5, r6⟩ := guardF_le hj9
        obtain ⟨g1, g2, g3⟩ := PI_lay hp h32 a33 a34 hu0 hn hc (show L + 1 ≤ 20 by omega) a38
        have e1 : potL (L + 1) 0 = 10 * (25 - (L + 1)) := rfl
        have e2 : potL L 1 = 10 * (24 - L) + 2 := rfl
        have hfin := (⟨_, _, g1, g2.trans hO, by omega⟩ : ∃ d' o', PI K0 (wA (wA K 38 f (nI (L + 1))) 39 f (nI 0)) d' o' nn ∧ opO (wA (wA K 38 f (nI (L + 1))) 39 f (nI 0)) d' = o' ∧ potS (wA (wA K 38 f (nI (L + 1))) 39 f (nI 0)) d' < potS K (f + 1))
        refine v_aload_n C dX10_around_91 rfl ?_
        refine q10_118 C hk dX10_around_92 ?_
        refine v_iload_n C dX10_around_95 rfl ?_
        refine v_dup2 C dX10_around_96 rfl rfl ?_
        refine n_iald C hk (show (38, 11, 2000) ∈ mTab by decide +kernel) (by omega) dX10_around_97 ?_
        refine v_val a38 ?_
        refine v_iconst (v := nI 1) C dX10_around_98 (by decide) ?_
        refine n_iadd C dX10_around_99 ?_
        refine n_iast C hk (show (38, 11, 2000) ∈ mTab by decide +kernel) (by omega) dX10_around_100 (fun S8_100 hk' x_100 => ?_)
        have E0 := exm_tr E0 x_100
        have hk := hk'
        clear hk'
        refine v_aload_n C dX10_around_101 rfl ?_
        refine q10_121 C hk dX10_around_102 ?_
        refine v_iload_n C dX10_around_105 rfl ?_
        refine v_iconst (v := nI 0) C dX10_around_106 (by decide) ?_
        refine n_iast C hk (show (39, 11, 2000) ∈ mTab by decide +kernel) (by omega) dX10_around_107 (fun S8_107 hk' x_107 => ?_)
        have E0 := exm_tr E0 x_107
        have hk := hk'
        clear hk'
        refine v_goto (tgt := 267) C dX10_around_108 (by decide) ?_
        refine v_vret C hr (Nat.le_of_ble_eq_true rfl) (Nat.le_of_ble_eq_true rfl) dX10_around_267 ?_
        exact ⟨_, rfl, hk, E0, (hfin)⟩
    · skip
      subst c_71
      have hpot9 : potL L 9 = 1 := rfl
      refine v_aload_n C dX10_around_74 rfl ?_
      refine v_callV (As := []) (n := 0) C (rt_X10_pops l m0 ad _ f o) rfl hk.1 (by decide) rfl ⟨wd850, wd851, wd852, wd5, wd853⟩ ⟨rfl, hy_X10_pops⟩ rfl ⟨Nat.le_of_ble_eq_true rfl, Nat.le_of_ble_eq_true rfl⟩ (Nat.le_of_ble_eq_true rfl) ⟨Nat.le_of_ble_eq_true rfl, Nat.le_of_ble_eq_true rfl⟩ dX10_around_75 ⟨rfl, hk, ⟨v0, by omega⟩, ⟨hp.2.2.2.2.2.2.1, by rw [← hO, opO]; omega, by omega⟩⟩ (fun r_75 S6_75 h_75 => ?_)
      obtain ⟨K75, rfl, hk', x_75, p_v75⟩ := h_75
      have E0 := exm_tr E0 x_75
      have hk := hk'
      clear hk'
      subst p_v75
      obtain ⟨g1, g2, g3⟩ := popK_PI hp hO
      have hfin := (⟨_, _, g1, g2, g3⟩ : ∃ d' o', PI K0 (popK K f o) d' o' nn ∧ opO (popK K f o) d' = o' ∧ potS (popK K f o) d' < potS K (f + 1))
      refine v_goto (tgt := 267) C dX10_around_78 (by decide) ?_
      refine v_vret C hr (Nat.le_of_ble_eq_true rfl) (Nat.le_of_ble_eq_true rfl) dX10_around_267 ?_
      exact ⟨_, rfl, hk, E0, (hfin)⟩
  · skip
    subst c_31
    have hg : (guardF K0 u n L).isSome = false := by rw [← p_v23]; rfl
    refine v_iconst (v := -1) C dX10_around_34 (by decide) ?_
    refine v_goto (tgt := 61) C dX10_around_35 (by decide) ?_
    refine v_istore C dX10_around_61 (by decide) rfl ?_
    refine v_aload_n C dX10_around_63 rfl ?_
    refine q10_121 C hk dX10_around_64 ?_
    refine v_iload_n C dX10_around_67 rfl ?_
    refine n_iald C hk (show (39, 11, 2000) ∈ mTab by decide +kernel) (by omega) dX10_around_68 ?_
    refine v_val a39 ?_
    refine v_bipush (v := nI 9) C dX10_around_69 (by decide) ?_
    refine n_icmp_ne (tgt := 81) C (by omega) (by omega) dX10_around_71 (by decide) (fun c_71 => ?_) (fun c_71 => ?_)
    · skip
      refine v_aload_n C dX10_around_81 rfl ?_
      refine q10_121 C hk dX10_around_82 ?_
      refine v_iload_n C dX10_around_85 rfl ?_
      refine n_iald C hk (show (39, 11, 2000) ∈ mTab by decide +kernel) (by omega) dX10_around_86 ?_
      refine v_val a39 ?_
      refine v_iconst (v := nI 1) C dX10_around_87 (by decide) ?_
      refine n_icmp_ne (tgt := 111) C (by omega) (by omega) dX10_around_88 (by decide) (fun c_88 => ?_) (fun c_88 => ?_)
      · skip
        refine v_aload_n C dX10_around_111 rfl ?_
        refine q10_121 C hk dX10_around_112 ?_
        refine v_iload_n C dX10_around_115 rfl ?_
        refine n_iald C hk (show (39, 11, 2000) ∈ mTab by decide +kernel) (by omega) dX10_around_116 ?_
        refine v_val a39 ?_
        refine v_iconst (v := nI 2) C dX10_around_117 (by decide) ?_
        refine n_icmp_ne (tgt := 149) C (by omega) (by omega) dX10_around_118 (by decide) (fun c_118 => ?_) (fun c_118 => ?_)
        · skip
          refine v_iload C dX10_around_149 rfl ?_
          refine v_iconst (v := -1) C dX10_around_151 (by decide) ?_
          refine v_icmp_ne (tgt := 192) C dX10_around_152 (by decide) (fun c_152 => ?_) (fun c_152 => ?_)
          · skip
            exact absurd c_152 (by decide)
          · skip
            have hs0 : s0 = 0 := by rcases hs with z | z | z; exact z; exact absurd z c_71; exact absurd z.1 (fun z => z.elim c_88 c_118)
            subst hs0
            have e0 : potL L 0 = 10 * (25 - L) := rfl
            obtain ⟨g1, g2, g3⟩ := PI_set (s' := 9) hp h32 a33 a34 hu0 hn hc hL a38 (Or.inr (Or.inl rfl))
            have e2 : potL L 9 = 1 := rfl
            have rv9 : RV (wA K 39 f (nI 9)) := RV_play rv (keep_wA keep_rfl (by decide)) rv.p16
            have z3 : rN (wA K 39 f (nI 9)) 8 u = rN K 8 u := rfl
            refine v_aload_n C dX10_around_155 rfl ?_
            refine q10_121 C hk dX10_around_156 ?_
            refine v_iload_n C dX10_around_159 rfl ?_
            refine v_bipush (v := nI 9) C dX10_around_160 (by decide) ?_
            refine n_iast C hk (show (39, 11, 2000) ∈ mTab by decide +kernel) (by omega) dX10_around_162 (fun S12_162 hk' x_162 => ?_)
            have E0 := exm_tr E0 x_162
            have hk := hk'
            clear hk'
            refine v_aload_n C dX10_around_163 rfl ?_
            refine v_iload_n C dX10_around_164 rfl ?_
            refine v_iload_n C dX10_around_165 rfl ?_
            refine v_callV (As := [_, _]) (n := 2) C (rt_X10_choose l m0 ad _ _ _) rfl hk.1 (by decide) rfl ⟨wd589, wd590, wd591, wd5, wd592⟩ ⟨rfl, hy_X10_choose⟩ rfl ⟨Nat.le_of_ble_eq_true rfl, Nat.le_of_ble_eq_true rfl⟩ (Nat.le_of_ble_eq_true rfl) ⟨Nat.le_of_ble_eq_true rfl, Nat.le_of_ble_eq_true rfl⟩ dX10_around_166 ⟨rfl, hk, rv9, (by omega), (by omega)⟩ (fun r_166 S12_166 h_166 => ?_)
            obtain ⟨v166, rfl, p_v166, b_v166, q_v166⟩ := h_166
            obtain rfl := q_v166.symm
            rw [chooseF_pk g1.1] at p_v166
            obtain ⟨q, hq⟩ := Option.isSome_iff_exists.mp hc
            obtain rfl : v166 = some q := p_v166.trans hq
            have bq := b_v166 q rfl
            rw [z3] at bq
            refine v_istore C dX10_around_169 (by decide) rfl ?_
            refine v_aload_n C dX10_around_171 rfl ?_
            refine v_iload_n C dX10_around_172 rfl ?_
            refine v_iload_n C dX10_around_173 rfl ?_
            refine v_aload_n C dX10_around_174 rfl ?_
            refine v_iload_n C dX10_around_175 rfl ?_
            refine v_iload C dX10_around_176 rfl ?_
            refine v_iload_n C dX10_around_178 rfl ?_
            refine v_callV (As := [_, _, _]) (n := 3) C (rt_X10_offers l m0 ad _ _ _ _) rfl hk.1 (by decide) rfl ⟨wd593, wd594, wd595, wd5, wd596⟩ ⟨rfl, hy_X10_offers⟩ rfl ⟨Nat.le_of_ble_eq_true rfl, Nat.le_of_ble_eq_true rfl⟩ (Nat.le_of_ble_eq_true rfl) ⟨Nat.le_of_ble_eq_true rfl, Nat.le_of_ble_eq_true rfl⟩ dX10_around_179 ⟨rfl, hk, rv9, (by omega), (by omega), (by rw [z3]; exact bq)⟩ (fun r_179 S12_179 h_179 => ?_)
            obtain ⟨v179, rfl, p_v179, b_v179, q_v179⟩ := h_179
            obtain rfl := q_v179.symm
            rw [offersF_pk g1.1] at p_v179
            obtain ⟨k9, hk9⟩ := (choose_some hq).2
            obtain rfl : v179 = some k9 := p_v179.trans hk9
            have bk9 := b_v179 k9 rfl
            obtain ⟨t1, t2, t3⟩ := pushO_PI (cd := k9) (pl := q) (lo := none) (op := false) g1 (g2.trans hO) hu0 hn hc bk9 (by omega) (fun L' z => by cases z) (by omega) (by omega)
            have hfin := (⟨_, _, t1, t2, by omega⟩ : ∃ d' o', PI K0 (pushO (wA K 39 f (nI 9)) (f + 1) u n k9 q none false) d' o' nn ∧ opO (pushO (wA K 39 f (nI 9)) (f + 1) u n k9 q none false) d' = o' ∧ potS (pushO (wA K 39 f (nI 9)) (f + 1) u n k9 q none false) d' < potS K (f + 1))
            refine v_iload C dX10_around_182 rfl ?_
            refine v_iconst (v := -1) C dX10_around_184 (by decide) ?_
            refine v_iconst (v := nI 0) C dX10_around_185 (by decide) ?_
            refine v_callV (As := [_, _, _, _, _, _]) (n := 6) C (rt_X10_pushOps l m0 ad _ _ _ _ _ none false (f + 1)) rfl hk.1 (by decide) rfl ⟨wd871, wd872, wd873, wd5, wd874⟩ ⟨rfl, hy_X10_pushOps⟩ rfl ⟨Nat.le_of_ble_eq_true rfl, Nat.le_of_ble_eq_true rfl⟩ (Nat.le_of_ble_eq_true rfl) ⟨Nat.le_of_ble_eq_true rfl, Nat.le_of_ble_eq_true rfl⟩ dX10_around_186 ⟨rfl, hk, ⟨v0, hf2⟩⟩ (fun r_186 S12_186 h_186 => ?_)
            obtain ⟨K186, rfl, hk', x_186, p_v186⟩ := h_186
            have E0 := exm_tr E0 x_186
            have hk := hk'
            clear hk'
            subst p_v186
            refine v_goto (tgt := 267) C dX10_around_189 (by decide) ?_
            refine v_vret C hr (Nat.le_of_ble_eq_true rfl) (Nat.le_of_ble_eq_true rfl) dX10_around_267 ?_
            exact ⟨_, rfl, hk, E0, (hfin)⟩
        · skip
          subst c_118
          rcases hs with z | z | z
          · exact absurd z (by decide)
          · exact absurd z (by decide)
          · rw [hg] at z; exact absurd z.2 (by decide)
      · skip
        subst c_88
        have hgs : (guardF K0 u n L).isSome = true := by rcases hs with z | z | z; exact absurd z (by decide); exact absurd z (by decide); exact z.2
        obtain ⟨j9, hj9⟩ := Option.isSome_iff_exists.mp hgs
        obtain ⟨r4, r5, r6⟩ := guardF_le hj9
        obtain ⟨g1, g2, g3⟩ := PI_lay hp h32 a33 a34 hu0 hn hc (show L + 1 ≤ 20 by omega) a38
        have e1 : potL (L + 1) 0 = 10 * (25 - (L + 1)) := rfl
        have e2 : potL L 1 = 10 * (24 - L) + 2 := rfl
        have hfin := (⟨_, _, g1, g2.trans hO, by omega⟩ : ∃ d' o', PI K0 (wA (wA K 38 f (nI (L + 1))) 39 f (nI 0)) d' o' nn ∧ opO (wA (wA K 38 f (nI (L + 1))) 39 f (nI 0)) d' = o' ∧ potS (wA (wA K 38 f (nI (L + 1))) 39 f (nI 0)) d' < potS K (f + 1))
        refine v_aload_n C dX10_around_91 rfl ?_
        refine q10_118 C hk dX10_around_92 ?_
        refine v_iload_n C dX10_around_95 rfl ?_
        refine v_dup2 C dX10_around_96 rfl rfl ?_
        refine n_iald C hk (show (38, 11, 2000) ∈ mTab by decide +kernel) (by omega) dX10_around_97 ?_
        refine v_val a38 ?_
        refine v_iconst (v := nI 1) C dX10_around_98 (by decide) ?_
        refine n_iadd C dX10_around_99 ?_
        refine n_iast C hk (show (38, 11, 2000) ∈ mTab by decide +kernel) (by omega) dX10_around_100 (fun S8_100 hk' x_100 => ?_)
        have E0 := exm_tr E0 x_100
        have hk := hk'
        clear hk'
        refine v_aload_n C dX10_around_101 rfl ?_
        refine q10_121 C hk dX10_around_102 ?_
        refine v_iload_n C dX10_around_105 rfl ?_
        refine v_iconst (v := nI 0) C dX10_around_106 (by decide) ?_
        refine n_iast C hk (show (39, 11, 2000) ∈ mTab by decide +kernel) (by omega) dX10_around_107 (fun S8_107 hk' x_107 => ?_)
        have E0 := exm_tr E0 x_107
        have hk := hk'
        clear hk'
        refine v_goto (tgt := 267) C dX10_around_108 (by decide) ?_
        refine v_vret C hr (Nat.le_of_ble_eq_true rfl) (Nat.le_of_ble_eq_true rfl) dX10_around_267 ?_
        exact ⟨_, rfl, hk, E0, (hfin)⟩
    · skip
      subst c_71
      have hpot9 : potL L 9 = 1 := rfl
      refine v_aload_n C dX10_around_74 rfl ?_
      refine v_callV (As := []) (n := 0) C (rt_X10_pops l m0 ad _ f o) rfl hk.1 (by decide) rfl ⟨wd850, wd851, wd852, wd5, wd853⟩ ⟨rfl, hy_X10_pops⟩ rfl ⟨Nat.le_of_ble_eq_true rfl, Nat.le_of_ble_eq_true rfl⟩ (Nat.le_of_ble_eq_true rfl) ⟨Nat.le_of_ble_eq_true rfl, Nat.le_of_ble_eq_true rfl⟩ dX10_around_75 ⟨rfl, hk, ⟨v0, by omega⟩, ⟨hp.2.2.2.2.2.2.1, by rw [← hO, opO]; omega, by omega⟩⟩ (fun r_75 S6_75 h_75 => ?_)
      obtain ⟨K75, rfl, hk', x_75, p_v75⟩ := h_75
      have E0 := exm_tr E0 x_75
      have hk := hk'
      clear hk'
      subst p_v75
      obtain ⟨g1, g2, g3⟩ := popK_PI hp hO
      have hfin := (⟨_, _, g1, g2, g3⟩ : ∃ d' o', PI K0 (popK K f o) d' o' nn ∧ opO (popK K f o) d' = o' ∧ potS (popK K f o) d' < potS K (f + 1))
      refine v_goto (tgt := 267) C dX10_around_78 (by decide) ?_
      refine v_vret C hr (Nat.le_of_ble_eq_true rfl) (Nat.le_of_ble_eq_true rfl) dX10_around_267 ?_
      exact ⟨_, rfl, hk, E0, (hfin)⟩
