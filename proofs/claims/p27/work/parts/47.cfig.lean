/-! A FIGURE AS IT IS MADE -/
theorem isA_ne {S : Mem} {a b k k' n n' : Nat} (h : isA S a k n) (h' : isA S b k' n') (d : ¬ (k = k' ∧ n = n')) : a ≠ b := fun z => d ⟨h.2.1.symm.trans (z ▸ h'.2.1), h.2.2.symm.trans (z ▸ h'.2.2)⟩
theorem ch_sFilln {S S1 S2 : Mem} {AR PR : List Nat} {FI FO : List (Nat × Nat)} {a n : Nat} {v : Int32} (e : S2 = sFill S1 a n v) (h : chg S S1 AR PR FI FO) (f : a ∉ mL S) : chg S S2 AR PR FI FO := ch_trn h (ch_sFill (AR := [a]) (PR := []) (FI := []) (FO := []) e ch_rfl (by simp)) ⟨fun b hb => Or.inr (List.mem_singleton.mp hb ▸ f), by simp, by simp, by simp⟩
theorem ch_sAn {S S1 S2 : Mem} {AR PR : List Nat} {FI FO : List (Nat × Nat)} {a i : Nat} {v : Int32} (e : S2 = sA S1 a i v) (h : chg S S1 AR PR FI FO) (f : a ∉ mL S) : chg S S2 AR PR FI FO := ch_trn h (ch_sA (AR := [a]) (PR := []) (FI := []) (FO := []) e ch_rfl (by simp)) ⟨fun b hb => Or.inr (List.mem_singleton.mp hb ▸ f), by simp, by simp, by simp⟩
theorem ch_sPn {S S1 S2 : Mem} {AR PR : List Nat} {FI FO : List (Nat × Nat)} {a i : Nat} {v : Option Nat} (e : S2 = sP S1 a i v) (h : chg S S1 AR PR FI FO) (f : a ∉ mL S) : chg S S2 AR PR FI FO := ch_trn h (ch_sP (AR := []) (PR := [a]) (FI := []) (FO := []) e ch_rfl (by simp)) ⟨by simp, fun b hb => Or.inr (List.mem_singleton.mp hb ▸ f), by simp, by simp⟩
theorem ch_sIn {S S1 S2 : Mem} {AR PR : List Nat} {FI FO : List (Nat × Nat)} {g a : Nat} {v : Int32} (e : S2 = sI S1 g a v) (h : chg S S1 AR PR FI FO) (f : a ∉ mL S) : chg S S2 AR PR FI FO := ch_trn h (ch_sI (AR := []) (PR := []) (FI := [(g, a)]) (FO := []) e ch_rfl (by simp)) ⟨by simp, by simp, fun b hb => Or.inr (by rw [List.mem_singleton.mp hb]; exact f), by simp⟩
theorem ch_sOn {S S1 S2 : Mem} {AR PR : List Nat} {FI FO : List (Nat × Nat)} {g a : Nat} {v : Option Nat} (e : S2 = sO S1 g a v) (h : chg S S1 AR PR FI FO) (f : a ∉ mL S) : chg S S2 AR PR FI FO := ch_trn h (ch_sO (AR := []) (PR := []) (FI := []) (FO := [(g, a)]) e ch_rfl (by simp)) ⟨by simp, by simp, by simp, fun b hb => Or.inr (by rw [List.mem_singleton.mp hb]; exact f)⟩
def newF (S S' : Mem) (a : Nat) (N : Nat → Nat) : Prop := N 300 = a ∧ fA1 S' N 0 ∧ lnV S' (N 301) (N 302) (N 303) [] ∧ (∀ j, 301 ≤ j → j < 310 → N j ∉ mL S) ∧ N 307 ≠ N 308 ∧ (mI S' 132 a = 0 ∧ mI S' 135 a = 0 ∧ mI S' 138 a = 0) ∧ (∀ i, mP S' (N 305) i = none) ∧ (∀ i, mA S' (N 306) i = 0) ∧ (∀ i, i < 240 → mA S' (N 307) i = -1 ∧ mA S' (N 308) i = -1) ∧ ∀ i, i < 12 → mA S' (N 309) i = -1
set_option maxRecDepth 100000 in
set_option maxHeartbeats 4000000 in
theorem ft_X2_init (l : Launch) (M : Nat → Prop) (E : List Nat) (h : Nat) (nu : Int32) (tp : Int32) : Ct l yX2_init cX2_init 3 none 2 10 796 43 (fun S av => av = [.ref h, .int nu, .int tp] ∧ INV M (h :: E) S ∧ is S h 2 ∧ (∀ g, mI S g h = 0)) (fun S _ r S' => r = none ∧ INV M E S' ∧ chg S S' [] [] [(128, h), (129, h)] [(130, h), (131, h), (133, h), (134, h), (136, h), (137, h), (139, h), (140, h)] ∧ (∃ N, newF S S' h N)) := by
  refine ct_of (by decide) (fun S av h => by obtain ⟨rfl, iv, i_h, hz⟩ := h; exact Nat.le_of_ble_eq_true rfl) ?_
  intro p e s m args below meth c D G bs S av C hr hin hpre
  obtain ⟨rfl, iv, i_h, hz⟩ := hpre
  have ch : chg S S [] [] [(128, h), (129, h)] [(130, h), (131, h), (133, h), (134, h), (136, h), (137, h), (139, h), (140, h)] := ch_rfl
  have hz0 := hz
  have i_h0 := i_h
  refine v_aload_n C dX2_init_0 rfl ?_
  refine v_objInit C wd275 wd11 wd12 dX2_init_1 (Nat.le_of_ble_eq_true rfl) (Nat.le_of_ble_eq_true rfl) ?_
  refine v_aload_n C dX2_init_4 rfl ?_
  refine v_new C (ci := 3) (by decide) rfl inlX3 tyX3_ok wd276 wd44 wd45 nfX3 (Nat.le_of_ble_eq_true rfl) (Nat.le_of_ble_eq_true rfl) dX2_init_5 (fun a5 n_a5 => ?_)
  have nn_a5 : a5 ∉ mL S := fun z => n_a5 (ch.1 a5 z).1
  refine V.gen (fun S2_5 e_5 => ?_)
  have x_5 := x_sNew e_5 n_a5
  have iv := inv_sNew e_5 iv n_a5 (by decide)
  have ch := ch_sNew e_5 ch n_a5
  have i_h := is_ext x_5 i_h
  have i_a5 := is_sNewE e_5 n_a5
  have z_a5 := mI_newE e_5
  have zo_a5 := mO_newE e_5
  refine v_dup C dX2_init_8 rfl ?_
  refine v_callI (As := []) (n := 0) C (ft_X3_init l M _ _) rfl ⟨wd288, wd49, wd45, wd50⟩ rfl hy_X3_init rfl ⟨Nat.le_of_ble_eq_true rfl, Nat.le_of_ble_eq_true rfl⟩ (Nat.le_of_ble_eq_true rfl) ⟨Nat.le_of_ble_eq_true rfl, Nat.le_of_ble_eq_true rfl⟩ dX2_init_9 ⟨rfl, iv, i_a5, z_a5 194⟩ (fun r_9 S2_9 h_9 => ?_)
  obtain ⟨rfl, iv', ch_9, r_v9⟩ := h_9
  obtain ⟨r9, q9, nr9, nq9, l9⟩ := r_v9
  have nr : r9 ∉ mL S := fun z => nr9 (ch.1 _ z).1
  have nq : q9 ∉ mL S := fun z => nq9 (ch.1 _ z).1
  have iv := iv'
  clear iv'
  have ch := ch_trn ch ch_9 ⟨by simp, by simp, by simp, fun q hq => Or.inr (by simp at hq; rcases hq with rfl | rfl <;> exact nn_a5)⟩
  have i_h := is_ch ch_9 i_h
  have i_a5 := is_ch ch_9 i_a5
  refine p2_12 (v := some _) C i_h (hin rfl) dX2_init_12 ?_
  refine V.gen (fun S2_12 e_12 => ?_)
  have x_12 := x_sO e_12
  have iv := inv_sO e_12 iv (Or.inl List.mem_cons_self)
  have ch := ch_sO e_12 ch (by simp)
  have i_h := is_ext x_12 i_h
  have i_a5 := is_ext x_12 i_a5
  have o_130 := mo_put e_12
  refine v_aload_n C dX2_init_15 rfl ?_
  refine v_iconst (v := nI 5) C dX2_init_16 (by decide) ?_
  refine v_newarr C (kd := 11) (N := 5) wd42 rfl (t0 := 0) rfl (by decide) (fun _ => cell_newI (Or.inl rfl)) (fun _ => vp_cell_i _ _ _) (by decide) (by decide) (Nat.le_of_ble_eq_true rfl) (Nat.le_of_ble_eq_true rfl) (Nat.le_of_ble_eq_true rfl) dX2_init_17 (fun a17 n_a17 => ?_)
  have nn_a17 : a17 ∉ mL S := fun z => n_a17 (ch.1 a17 z).1
  have m_a17 := inv_new iv n_a17
  refine V.gen (fun S2_17 e_17 => ?_)
  have x_17 := x_sArr e_17 n_a17
  have iv := inv_sArr e_17 iv n_a17 (by decide)
  have ch := ch_sArr e_17 ch n_a17
  have o_130 := mo_sArry e_17 o_130
  have i_h := is_ext x_17 i_h
  have i_a5 := is_ext x_17 i_a5
  have i_a17 := isA_sArrE e_17 n_a17
  refine p2_18 (v := some _) C i_h (hin rfl) dX2_init_19 ?_
  refine V.gen (fun S2_19 e_19 => ?_)
  have x_19 := x_sO e_19
  have iv := inv_sO e_19 iv (Or.inl List.mem_cons_self)
  have ch := ch_sO e_19 ch (by simp)
  have o_130 := mo_sOx e_19 (Or.inl (by decide)) o_130
  have i_h := is_ext x_19 i_h
  have i_a5 := is_ext x_19 i_a5
  have i_a17 := isA_ext x_19 i_a17
  have o_131 := mo_put e_19
  refine v_aload_n C dX2_init_22 rfl ?_
  refine v_bipush (v := nI 12) C dX2_init_23 (by decide) ?_
  refine v_newrefs C (kd := 16) (N := 12) (t0 := 5) (by decide) (by decide +kernel) wd279 rfl (by decide) (by decide) (Nat.le_of_ble_eq_true rfl) (Nat.le_of_ble_eq_true rfl) (Nat.le_of_ble_eq_true rfl) dX2_init_25 (fun a25 n_a25 => ?_)
  have nn_a25 : a25 ∉ mL S := fun z => n_a25 (ch.1 a25 z).1
  have m_a25 := inv_new iv n_a25
  refine V.gen (fun S2_25 e_25 => ?_)
  have x_25 := x_sArr e_25 n_a25
  have iv := inv_sArr e_25 iv n_a25 (by decide)
  have ch := ch_sArr e_25 ch n_a25
  have o_130 := mo_sArry e_25 o_130
  have o_131 := mo_sArry e_25 o_131
  have i_h := is_ext x_25 i_h
  have i_a5 := is_ext x_25 i_a5
  have i_a17 := isA_ext x_25 i_a17
  have i_a25 := isA_sArrE e_25 n_a25
  refine p2_24 (v := some _) C i_h (hin rfl) dX2_init_28 ?_
  refine V.gen (fun S2_28 e_28 => ?_)
  have x_28 := x_sO e_28
  have iv := inv_sO e_28 iv (Or.inl List.mem_cons_self)
  have ch := ch_sO e_28 ch (by simp)
  have o_130 := mo_sOx e_28 (Or.inl (by decide)) o_130
  have o_131 := mo_sOx e_28 (Or.inl (by decide)) o_131
  have i_h := is_ext x_28 i_h
  have i_a5 := is_ext x_28 i_a5
  have i_a17 := isA_ext x_28 i_a17
  have i_a25 := isA_ext x_28 i_a25
  have o_133 := mo_put e_28
  refine v_aload_n C dX2_init_31 rfl ?_
  refine v_sipush (v := nI 240) C dX2_init_32 (by decide) ?_
  refine v_newarr C (kd := 13) (N := 240) wd87 rfl (t0 := 2) rfl (by decide) (fun _ => cell_newI (Or.inr rfl)) (fun _ => vp_cell_i _ _ _) (by decide) (by decide) (Nat.le_of_ble_eq_true rfl) (Nat.le_of_ble_eq_true rfl) (Nat.le_of_ble_eq_true rfl) dX2_init_35 (fun a35 n_a35 => ?_)
  have nn_a35 : a35 ∉ mL S := fun z => n_a35 (ch.1 a35 z).1
  have m_a35 := inv_new iv n_a35
  refine V.gen (fun S2_35 e_35 => ?_)
  have x_35 := x_sArr e_35 n_a35
  have iv := inv_sArr e_35 iv n_a35 (by decide)
  have ch := ch_sArr e_35 ch n_a35
  have o_130 := mo_sArry e_35 o_130
  have o_131 := mo_sArry e_35 o_131
  have o_133 := mo_sArry e_35 o_133
  have i_h := is_ext x_35 i_h
  have i_a5 := is_ext x_35 i_a5
  have i_a17 := isA_ext x_35 i_a17
  have i_a25 := isA_ext x_35 i_a25
  have i_a35 := isA_sArrE e_35 n_a35
  refine p2_28 (v := some _) C i_h (hin rfl) dX2_init_37 ?_
  refine V.gen (fun S2_37 e_37 => ?_)
  have x_37 := x_sO e_37
  have iv := inv_sO e_37 iv (Or.inl List.mem_cons_self)
  have ch := ch_sO e_37 ch (by simp)
  have o_130 := mo_sOx e_37 (Or.inl (by decide)) o_130
  have o_131 := mo_sOx e_37 (Or.inl (by decide)) o_131
  have o_133 := mo_sOx e_37 (Or.inl (by decide)) o_133
  have i_h := is_ext x_37 i_h
  have i_a5 := is_ext x_37 i_a5
  have i_a17 := isA_ext x_37 i_a17
  have i_a25 := isA_ext x_37 i_a25
  have i_a35 := isA_ext x_37 i_a35
  have o_134 := mo_put e_37
  refine v_aload_n C dX2_init_40 rfl ?_
  refine v_sipush (v := nI 240) C dX2_init_41 (by decide) ?_
  refine v_newarr C (kd := 11) (N := 240) wd42 rfl (t0 := 0) rfl (by decide) (fun _ => cell_newI (Or.inl rfl)) (fun _ => vp_cell_i _ _ _) (by decide) (by decide) (Nat.le_of_ble_eq_true rfl) (Nat.le_of_ble_eq_true rfl) (Nat.le_of_ble_eq_true rfl) dX2_init_44 (fun a44 n_a44 => ?_)
  have nn_a44 : a44 ∉ mL S := fun z => n_a44 (ch.1 a44 z).1
  have m_a44 := inv_new iv n_a44
  refine V.gen (fun S2_44 e_44 => ?_)
  have x_44 := x_sArr e_44 n_a44
  have iv := inv_sArr e_44 iv n_a44 (by decide)
  have ch := ch_sArr e_44 ch n_a44
  have o_130 := mo_sArry e_44 o_130
  have o_131 := mo_sArry e_44 o_131
  have o_133 := mo_sArry e_44 o_133
  have o_134 := mo_sArry e_44 o_134
  have i_h := is_ext x_44 i_h
  have i_a5 := is_ext x_44 i_a5
  have i_a17 := isA_ext x_44 i_a17
  have i_a25 := isA_ext x_44 i_a25
  have i_a35 := isA_ext x_44 i_a35
  have i_a44 := isA_sArrE e_44 n_a44
  refine p2_32 (v := some _) C i_h (hin rfl) dX2_init_46 ?_
  refine V.gen (fun S2_46 e_46 => ?_)
  have x_46 := x_sO e_46
  have iv := inv_sO e_46 iv (Or.inl List.mem_cons_self)
  have ch := ch_sO e_46 ch (by simp)
  have o_130 := mo_sOx e_46 (Or.inl (by decide)) o_130
  have o_131 := mo_sOx e_46 (Or.inl (by decide)) o_131
  have o_133 := mo_sOx e_46 (Or.inl (by decide)) o_133
  have o_134 := mo_sOx e_46 (Or.inl (by decide)) o_134
  have i_h := is_ext x_46 i_h
  have i_a5 := is_ext x_46 i_a5
  have i_a17 := isA_ext x_46 i_a17
  have i_a25 := isA_ext x_46 i_a25
  have i_a35 := isA_ext x_46 i_a35
  have i_a44 := isA_ext x_46 i_a44
  have o_136 := mo_put e_46
  refine v_aload_n C dX2_init_49 rfl ?_
  have q44 := i_a44
  refine v_sipush (v := nI 240) C dX2_init_50 (by decide) ?_
  refine v_newarr C (kd := 11) (N := 240) wd42 rfl (t0 := 0) rfl (by decide) (fun _ => cell_newI (Or.inl rfl)) (fun _ => vp_cell_i _ _ _) (by decide) (by decide) (Nat.le_of_ble_eq_true rfl) (Nat.le_of_ble_eq_true rfl) (Nat.le_of_ble_eq_true rfl) dX2_init_53 (fun a53 n_a53 => ?_)
  have nn_a53 : a53 ∉ mL S := fun z => n_a53 (ch.1 a53 z).1
  have m_a53 := inv_new iv n_a53
  refine V.gen (fun S2_53 e_53 => ?_)
  have x_53 := x_sArr e_53 n_a53
  have iv := inv_sArr e_53 iv n_a53 (by decide)
  have ch := ch_sArr e_53 ch n_a53
  have o_130 := mo_sArry e_53 o_130
  have o_131 := mo_sArry e_53 o_131
  have o_133 := mo_sArry e_53 o_133
  have o_134 := mo_sArry e_53 o_134
  have o_136 := mo_sArry e_53 o_136
  have i_h := is_ext x_53 i_h
  have i_a5 := is_ext x_53 i_a5
  have i_a17 := isA_ext x_53 i_a17
  have i_a25 := isA_ext x_53 i_a25
  have i_a35 := isA_ext x_53 i_a35
  have i_a44 := isA_ext x_53 i_a44
  have i_a53 := isA_sArrE e_53 n_a53
  refine p2_35 (v := some _) C i_h (hin rfl) dX2_init_55 ?_
  refine V.gen (fun S2_55 e_55 => ?_)
  have x_55 := x_sO e_55
  have iv := inv_sO e_55 iv (Or.inl List.mem_cons_self)
  have ch := ch_sO e_55 ch (by simp)
  have o_130 := mo_sOx e_55 (Or.inl (by decide)) o_130
  have o_131 := mo_sOx e_55 (Or.inl (by decide)) o_131
  have o_133 := mo_sOx e_55 (Or.inl (by decide)) o_133
  have o_134 := mo_sOx e_55 (Or.inl (by decide)) o_134
  have o_136 := mo_sOx e_55 (Or.inl (by decide)) o_136
  have i_h := is_ext x_55 i_h
  have i_a5 := is_ext x_55 i_a5
  have i_a17 := isA_ext x_55 i_a17
  have i_a25 := isA_ext x_55 i_a25
  have i_a35 := isA_ext x_55 i_a35
  have i_a44 := isA_ext x_55 i_a44
  have i_a53 := isA_ext x_55 i_a53
  have o_137 := mo_put e_55
  refine v_aload_n C dX2_init_58 rfl ?_
  refine v_bipush (v := nI 12) C dX2_init_59 (by decide) ?_
  refine v_newarr C (kd := 11) (N := 12) wd42 rfl (t0 := 0) rfl (by decide) (fun _ => cell_newI (Or.inl rfl)) (fun _ => vp_cell_i _ _ _) (by decide) (by decide) (Nat.le_of_ble_eq_true rfl) (Nat.le_of_ble_eq_true rfl) (Nat.le_of_ble_eq_true rfl) dX2_init_61 (fun a61 n_a61 => ?_)
  have nn_a61 : a61 ∉ mL S := fun z => n_a61 (ch.1 a61 z).1
  have m_a61 := inv_new iv n_a61
  refine V.gen (fun S2_61 e_61 => ?_)
  have x_61 := x_sArr e_61 n_a61
  have iv := inv_sArr e_61 iv n_a61 (by decide)
  have ch := ch_sArr e_61 ch n_a61
  have o_130 := mo_sArry e_61 o_130
  have o_131 := mo_sArry e_61 o_131
  have o_133 := mo_sArry e_61 o_133
  have o_134 := mo_sArry e_61 o_134
  have o_136 := mo_sArry e_61 o_136
  have o_137 := mo_sArry e_61 o_137
  have i_h := is_ext x_61 i_h
  have i_a5 := is_ext x_61 i_a5
  have i_a17 := isA_ext x_61 i_a17
  have i_a25 := isA_ext x_61 i_a25
  have i_a35 := isA_ext x_61 i_a35
  have i_a44 := isA_ext x_61 i_a44
  have i_a53 := isA_ext x_61 i_a53
  have i_a61 := isA_sArrE e_61 n_a61
  refine p2_38 (v := some _) C i_h (hin rfl) dX2_init_63 ?_
  refine V.gen (fun S2_63 e_63 => ?_)
  have x_63 := x_sO e_63
  have iv := inv_sO e_63 iv (Or.inl List.mem_cons_self)
  have ch := ch_sO e_63 ch (by simp)
  have o_130 := mo_sOx e_63 (Or.inl (by decide)) o_130
  have o_131 := mo_sOx e_63 (Or.inl (by decide)) o_131
  have o_133 := mo_sOx e_63 (Or.inl (by decide)) o_133
  have o_134 := mo_sOx e_63 (Or.inl (by decide)) o_134
  have o_136 := mo_sOx e_63 (Or.inl (by decide)) o_136
  have o_137 := mo_sOx e_63 (Or.inl (by decide)) o_137
  have i_h := is_ext x_63 i_h
  have i_a5 := is_ext x_63 i_a5
  have i_a17 := isA_ext x_63 i_a17
  have i_a25 := isA_ext x_63 i_a25
  have i_a35 := isA_ext x_63 i_a35
  have i_a44 := isA_ext x_63 i_a44
  have i_a53 := isA_ext x_63 i_a53
  have i_a61 := isA_ext x_63 i_a61
  have o_139 := mo_put e_63
  refine v_aload_n C dX2_init_66 rfl ?_
  refine v_iconst (v := nI 4) C dX2_init_67 (by decide) ?_
  refine v_newarr C (kd := 12) (N := 4) wd73 rfl (t0 := 1) rfl (by decide) (fun _ => cell_newJ) (fun _ => vp_cell_l _ _ _) (by decide) (by decide) (Nat.le_of_ble_eq_true rfl) (Nat.le_of_ble_eq_true rfl) (Nat.le_of_ble_eq_true rfl) dX2_init_68 (fun a68 n_a68 => ?_)
  have nn_a68 : a68 ∉ mL S := fun z => n_a68 (ch.1 a68 z).1
  have m_a68 := inv_new iv n_a68
  refine V.gen (fun S2_68 e_68 => ?_)
  have x_68 := x_sArr e_68 n_a68
  have iv := inv_sArr e_68 iv n_a68 (by decide)
  have ch := ch_sArr e_68 ch n_a68
  have o_130 := mo_sArry e_68 o_130
  have o_131 := mo_sArry e_68 o_131
  have o_133 := mo_sArry e_68 o_133
  have o_134 := mo_sArry e_68 o_134
  have o_136 := mo_sArry e_68 o_136
  have o_137 := mo_sArry e_68 o_137
  have o_139 := mo_sArry e_68 o_139
  have i_h := is_ext x_68 i_h
  have i_a5 := is_ext x_68 i_a5
  have i_a17 := isA_ext x_68 i_a17
  have i_a25 := isA_ext x_68 i_a25
  have i_a35 := isA_ext x_68 i_a35
  have i_a44 := isA_ext x_68 i_a44
  have i_a53 := isA_ext x_68 i_a53
  have i_a61 := isA_ext x_68 i_a61
  have i_a68 := isA_sArrE e_68 n_a68
  refine p2_41 (v := some _) C i_h (hin rfl) dX2_init_70 ?_
  refine V.gen (fun S2_70 e_70 => ?_)
  have x_70 := x_sO e_70
  have iv := inv_sO e_70 iv (Or.inl List.mem_cons_self)
  have ch := ch_sO e_70 ch (by simp)
  have o_130 := mo_sOx e_70 (Or.inl (by decide)) o_130
  have o_131 := mo_sOx e_70 (Or.inl (by decide)) o_131
  have o_133 := mo_sOx e_70 (Or.inl (by decide)) o_133
  have o_134 := mo_sOx e_70 (Or.inl (by decide)) o_134
  have o_136 := mo_sOx e_70 (Or.inl (by decide)) o_136
  have o_137 := mo_sOx e_70 (Or.inl (by decide)) o_137
  have o_139 := mo_sOx e_70 (Or.inl (by decide)) o_139
  have i_h := is_ext x_70 i_h
  have i_a5 := is_ext x_70 i_a5
  have i_a17 := isA_ext x_70 i_a17
  have i_a25 := isA_ext x_70 i_a25
  have i_a35 := isA_ext x_70 i_a35
  have i_a44 := isA_ext x_70 i_a44
  have i_a53 := isA_ext x_70 i_a53
  have i_a61 := isA_ext x_70 i_a61
  have i_a68 := isA_ext x_70 i_a68
  have o_140 := mo_put e_70
  refine v_aload_n C dX2_init_73 rfl ?_
  refine v_iload_n C dX2_init_74 rfl ?_
  refine p2_45 C i_h (hin rfl) dX2_init_75 ?_
  refine V.gen (fun S2_75 e_75 => ?_)
  have x_75 := x_sI e_75
  have iv := inv_sI e_75 iv (by decide) (by decide)
  have ch := ch_sI e_75 ch (by simp)
  have o_130 := mo_sIy e_75 o_130
  have o_131 := mo_sIy e_75 o_131
  have o_133 := mo_sIy e_75 o_133
  have o_134 := mo_sIy e_75 o_134
  have o_136 := mo_sIy e_75 o_136
  have o_137 := mo_sIy e_75 o_137
  have o_139 := mo_sIy e_75 o_139
  have o_140 := mo_sIy e_75 o_140
  have i_h := is_ext x_75 i_h
  have i_a5 := is_ext x_75 i_a5
  have i_a17 := isA_ext x_75 i_a17
  have i_a25 := isA_ext x_75 i_a25
  have i_a35 := isA_ext x_75 i_a35
  have i_a44 := isA_ext x_75 i_a44
  have i_a53 := isA_ext x_75 i_a53
  have i_a61 := isA_ext x_75 i_a61
  have i_a68 := isA_ext x_75 i_a68
  refine v_aload_n C dX2_init_78 rfl ?_
  refine v_iload_n C dX2_init_79 rfl ?_
  refine p2_49 C i_h (hin rfl) dX2_init_80 ?_
  refine V.gen (fun S2_80 e_80 => ?_)
  have x_80 := x_sI e_80
  have iv := inv_sI e_80 iv (by decide) (by decide)
  have ch := ch_sI e_80 ch (by simp)
  have o_130 := mo_sIy e_80 o_130
  have o_131 := mo_sIy e_80 o_131
  have o_133 := mo_sIy e_80 o_133
  have o_134 := mo_sIy e_80 o_134
  have o_136 := mo_sIy e_80 o_136
  have o_137 := mo_sIy e_80 o_137
  have o_139 := mo_sIy e_80 o_139
  have o_140 := mo_sIy e_80 o_140
  have i_h := is_ext x_80 i_h
  have i_a5 := is_ext x_80 i_a5
  have i_a17 := isA_ext x_80 i_a17
  have i_a25 := isA_ext x_80 i_a25
  have i_a35 := isA_ext x_80 i_a35
  have i_a44 := isA_ext x_80 i_a44
  have i_a53 := isA_ext x_80 i_a53
  have i_a61 := isA_ext x_80 i_a61
  have i_a68 := isA_ext x_80 i_a68
  refine v_aload_n C dX2_init_83 rfl ?_
  refine r2_32 (b := a44) C i_h o_136 dX2_init_84 ?_
  refine v_iconst (v := -1) C dX2_init_87 (by decide) ?_
  refine v_callS (As := [_, _]) (n := 2) C (ct_J7_fill_53178 l _ _ _) rfl ⟨wd289, wd55, wd56, wd57⟩ hy_J7_fill_53178 rfl ⟨Nat.le_of_ble_eq_true rfl, Nat.le_of_ble_eq_true rfl⟩ (Nat.le_of_ble_eq_true rfl) ⟨Nat.le_of_ble_eq_true rfl, Nat.le_of_ble_eq_true rfl⟩ dX2_init_88 ⟨rfl, i_a44, by decide⟩ (fun r_88 S2_88 h_88 => ?_)
  obtain ⟨rfl, e_88⟩ := h_88
  have x_88 := x_sFill e_88
  have iv := inv_sFill e_88 iv
  have ch := ch_sFilln e_88 ch nn_a44
  have o_130 := mo_sFilly e_88 o_130
  have o_131 := mo_sFilly e_88 o_131
  have o_133 := mo_sFilly e_88 o_133
  have o_134 := mo_sFilly e_88 o_134
  have o_136 := mo_sFilly e_88 o_136
  have o_137 := mo_sFilly e_88 o_137
  have o_139 := mo_sFilly e_88 o_139
  have o_140 := mo_sFilly e_88 o_140
  have i_h := is_ext x_88 i_h
  have i_a5 := is_ext x_88 i_a5
  have i_a17 := isA_ext x_88 i_a17
  have i_a25 := isA_ext x_88 i_a25
  have i_a35 := isA_ext x_88 i_a35
  have i_a44 := isA_ext x_88 i_a44
  have i_a53 := isA_ext x_88 i_a53
  have i_a61 := isA_ext x_88 i_a61
  have i_a68 := isA_ext x_88 i_a68
  refine v_aload_n C dX2_init_91 rfl ?_
  refine r2_35 (b := a53) C i_h o_137 dX2_init_92 ?_
  refine v_iconst (v := -1) C dX2_init_95 (by decide) ?_
  refine v_callS (As := [_, _]) (n := 2) C (ct_J7_fill_53178 l _ _ _) rfl ⟨wd289, wd55, wd56, wd57⟩ hy_J7_fill_53178 rfl ⟨Nat.le_of_ble_eq_true rfl, Nat.le_of_ble_eq_true rfl⟩ (Nat.le_of_ble_eq_true rfl) ⟨Nat.le_of_ble_eq_true rfl, Nat.le_of_ble_eq_true rfl⟩ dX2_init_96 ⟨rfl, i_a53, by decide⟩ (fun r_96 S2_96 h_96 => ?_)
  obtain ⟨rfl, e_96⟩ := h_96
  have x_96 := x_sFill e_96
  have iv := inv_sFill e_96 iv
  have ch := ch_sFilln e_96 ch nn_a53
  have o_130 := mo_sFilly e_96 o_130
  have o_131 := mo_sFilly e_96 o_131
  have o_133 := mo_sFilly e_96 o_133
  have o_134 := mo_sFilly e_96 o_134
  have o_136 := mo_sFilly e_96 o_136
  have o_137 := mo_sFilly e_96 o_137
  have o_139 := mo_sFilly e_96 o_139
  have o_140 := mo_sFilly e_96 o_140
  have i_h := is_ext x_96 i_h
  have i_a5 := is_ext x_96 i_a5
  have i_a17 := isA_ext x_96 i_a17
  have i_a25 := isA_ext x_96 i_a25
  have i_a35 := isA_ext x_96 i_a35
  have i_a44 := isA_ext x_96 i_a44
  have i_a53 := isA_ext x_96 i_a53
  have i_a61 := isA_ext x_96 i_a61
  have i_a68 := isA_ext x_96 i_a68
  refine v_aload_n C dX2_init_99 rfl ?_
  refine r2_38 (b := a61) C i_h o_139 dX2_init_100 ?_
  refine v_iconst (v := -1) C dX2_init_103 (by decide) ?_
  refine v_callS (As := [_, _]) (n := 2) C (ct_J7_fill_53178 l _ _ _) rfl ⟨wd289, wd55, wd56, wd57⟩ hy_J7_fill_53178 rfl ⟨Nat.le_of_ble_eq_true rfl, Nat.le_of_ble_eq_true rfl⟩ (Nat.le_of_ble_eq_true rfl) ⟨Nat.le_of_ble_eq_true rfl, Nat.le_of_ble_eq_true rfl⟩ dX2_init_104 ⟨rfl, i_a61, by decide⟩ (fun r_104 S2_104 h_104 => ?_)
  obtain ⟨rfl, e_104⟩ := h_104
  have x_104 := x_sFill e_104
  have iv := inv_sFill e_104 iv
  have ch := ch_sFilln e_104 ch nn_a61
  have o_130 := mo_sFilly e_104 o_130
  have o_131 := mo_sFilly e_104 o_131
  have o_133 := mo_sFilly e_104 o_133
  have o_134 := mo_sFilly e_104 o_134
  have o_136 := mo_sFilly e_104 o_136
  have o_137 := mo_sFilly e_104 o_137
  have o_139 := mo_sFilly e_104 o_139
  have o_140 := mo_sFilly e_104 o_140
  have i_h := is_ext x_104 i_h
  have i_a5 := is_ext x_104 i_a5
  have i_a17 := isA_ext x_104 i_a17
  have i_a25 := isA_ext x_104 i_a25
  have i_a35 := isA_ext x_104 i_a35
  have i_a44 := isA_ext x_104 i_a44
  have i_a53 := isA_ext x_104 i_a53
  have i_a61 := isA_ext x_104 i_a61
  have i_a68 := isA_ext x_104 i_a68
  refine v_vret C hr (Nat.le_of_ble_eq_true rfl) (Nat.le_of_ble_eq_true rfl) dX2_init_107 ?_
  have iv := inv_done iv i_h.2 (fun q hq hc => by
    rcases FT_c2 q hq hc with rfl | rfl | rfl | rfl | rfl | rfl | rfl | rfl
    · exact Or.inr ⟨_, o_130, Or.inl ⟨rfl, i_a5⟩⟩
    · exact Or.inr ⟨_, o_131, Or.inr ⟨by decide, i_a17, m_a17⟩⟩
    · exact Or.inr ⟨_, o_133, Or.inr ⟨by decide, i_a25, m_a25⟩⟩
    · exact Or.inr ⟨_, o_134, Or.inr ⟨by decide, i_a35, m_a35⟩⟩
    · exact Or.inr ⟨_, o_136, Or.inr ⟨by decide, i_a44, m_a44⟩⟩
    · exact Or.inr ⟨_, o_137, Or.inr ⟨by decide, i_a53, m_a53⟩⟩
    · exact Or.inr ⟨_, o_139, Or.inr ⟨by decide, i_a61, m_a61⟩⟩
    · exact Or.inr ⟨_, o_140, Or.inr ⟨by decide, i_a68, m_a68⟩⟩) (fun z => by cases z) (fun z => by cases z)
  have d44 := ne_of_isA n_a53 q44
  have cc := (ch_sFill e_104 (ch_sFill e_96 (ch_sFill e_88 (ch_sI e_80 (ch_sI e_75 (ch_sO e_70 (ch_sArr e_68 (ch_sO e_63 (ch_sArr e_61 (ch_sO e_55 (ch_sArr e_53 (ch_sO e_46 (ch_sArr e_44 (ch_sO e_37 (ch_sArr e_35 (ch_sO e_28 (ch_sArr e_25 (ch_sO e_19 (ch_sArr e_17 (ch_sO e_12 (ch_rfl (AR := [a44, a53, a61]) (PR := []) (FI := [(128, h), (129, h)]) (FO := [(130, h), (131, h), (133, h), (134, h), (136, h), (137, h), (139, h), (140, h)])) (by simp)) n_a17) (by simp)) n_a25) (by simp)) n_a35) (by simp)) n_a44) (by simp)) n_a53) (by simp)) n_a61) (by simp)) n_a68) (by simp)) (by simp)) (by simp)) (by simp)) (by simp)) (by simp))
  have k44 : r9 ≠ a44 ∧ q9 ≠ a44 ∧ r9 ≠ a53 ∧ q9 ≠ a53 ∧ r9 ≠ a61 ∧ q9 ≠ a61 := by
    have j1 := isA_ch cc l9.2.2.2.1
    have j2 := isA_ch cc l9.2.2.2.2.1
    exact ⟨isA_ne j1 i_a44 (by decide), isA_ne j2 i_a44 (by decide), isA_ne j1 i_a53 (by decide), isA_ne j2 i_a53 (by decide), isA_ne j1 i_a61 (by decide), isA_ne j2 i_a61 (by decide)⟩
  obtain ⟨k1, k2, k3, k4, k5, k6⟩ := k44
  have l107 := lnV_ch cc l9 (by simp; exact ⟨k1, k3, k5⟩) (by simp; exact ⟨k2, k4, k6⟩) (by simp) (by simp) (by simp)
  exact ⟨rfl, iv, ch, (⟨fun i => [h, a5, r9, q9, a17, a25, a35, a44, a53, a61].getD (i - 300) 0, rfl, ⟨i_h, o_130, o_131, i_a17, o_133, i_a25, o_134, i_a35, o_136, i_a44, o_137, i_a53, o_139, i_a61⟩, l107, (fun j h1 h2 => by
     have q : j = 301 ∨ j = 302 ∨ j = 303 ∨ j = 304 ∨ j = 305 ∨ j = 306 ∨ j = 307 ∨ j = 308 ∨ j = 309 := by omega
     rcases q with rfl | rfl | rfl | rfl | rfl | rfl | rfl | rfl | rfl
     · exact nn_a5
     · exact nr
     · exact nq
     · exact nn_a17
     · exact nn_a25
     · exact nn_a35
     · exact nn_a44
     · exact nn_a53
     · exact nn_a61), d44, ⟨mi_ch ch i_h0 (by simp) (hz0 132), mi_ch ch i_h0 (by simp) (hz0 135), mi_ch ch i_h0 (by simp) (hz0 138)⟩, fun i => (by show mP _ a25 i = none; rw [e_104, mP_sFill, e_96, mP_sFill, e_88, mP_sFill, e_80, mP_sI, e_75, mP_sI, e_70, mP_sO, e_68, mP_sArr, if_neg (isA_ne i_a25 i_a68 (by decide)), e_63, mP_sO, e_61, mP_sArr, if_neg (isA_ne i_a25 i_a61 (by decide)), e_55, mP_sO, e_53, mP_sArr, if_neg (isA_ne i_a25 i_a53 (by decide)), e_46, mP_sO, e_44, mP_sArr, if_neg (isA_ne i_a25 i_a44 (by decide)), e_37, mP_sO, e_35, mP_sArr, if_neg (isA_ne i_a25 i_a35 (by decide)), e_28, mP_sO, e_25, mP_sArr, if_pos rfl]), fun i => (by show mA _ a35 i = 0; rw [e_104, mA_sFill, if_neg (fun z => (isA_ne i_a35 i_a61 (by decide)) z.1), e_96, mA_sFill, if_neg (fun z => (isA_ne i_a35 i_a53 (by decide)) z.1), e_88, mA_sFill, if_neg (fun z => (isA_ne i_a35 i_a44 (by decide)) z.1), e_80, mA_sI, e_75, mA_sI, e_70, mA_sO, e_68, mA_sArr, if_neg (isA_ne i_a35 i_a68 (by decide)), e_63, mA_sO, e_61, mA_sArr, if_neg (isA_ne i_a35 i_a61 (by decide)), e_55, mA_sO, e_53, mA_sArr, if_neg (isA_ne i_a35 i_a53 (by decide)), e_46, mA_sO, e_44, mA_sArr, if_neg (isA_ne i_a35 i_a44 (by decide)), e_37, mA_sO, e_35, mA_sArr, if_pos rfl]), fun i hi => ⟨(by show mA _ a44 i = -1; rw [e_104, mA_sFill, if_neg (fun z => (isA_ne i_a44 i_a61 (by decide)) z.1), e_96, mA_sFill, if_neg (fun z => d44 z.1), e_88, mA_sFill, if_pos ⟨rfl, hi⟩]), (by show mA _ a53 i = -1; rw [e_104, mA_sFill, if_neg (fun z => (isA_ne i_a53 i_a61 (by decide)) z.1), e_96, mA_sFill, if_pos ⟨rfl, hi⟩])⟩, fun i hi => (by show mA _ a61 i = -1; rw [e_104, mA_sFill, if_pos ⟨rfl, hi⟩])⟩)⟩
