set_option maxRecDepth 100000 in
set_option maxHeartbeats 4000000 in
theorem ft_X4_init (l : Launch) (M : Nat → Prop) (E : List Nat) (h : Nat) : Ct l yX4_init cX4_init 1 none 2 8 100 43 (fun S av => av = [.ref h] ∧ INV M (h :: E) S ∧ is S h 4) (fun S _ r S' => r = none ∧ INV M E S' ∧ chg S S' [] [] [] [(256, h), (257, h), (258, h), (259, h)] ∧ (∃ x : MA, mgZ S' h x ∧ mdj x ∧ (x.rows ∉ mL S ∧ x.ft ∉ mL S ∧ x.gv ∉ mL S ∧ x.gr ∉ mL S ∧ x.gp ∉ mL S ∧ x.md ∉ mL S ∧ x.mr ∉ mL S ∧ x.mp ∉ mL S))) := by
  refine ct_of (by decide) (fun S av h => by obtain ⟨rfl, iv, i_h⟩ := h; exact Nat.le_of_ble_eq_true rfl) ?_
  intro p e s m args below meth c D G bs S av C hr hin hpre
  obtain ⟨rfl, iv, i_h⟩ := hpre
  have ch : chg S S [] [] [] [(256, h), (257, h), (258, h), (259, h)] := ch_rfl
  refine v_aload_n C dX4_init_0 rfl ?_
  refine v_objInit C wd39 wd11 wd12 dX4_init_1 (Nat.le_of_ble_eq_true rfl) (Nat.le_of_ble_eq_true rfl) ?_
  refine v_aload_n C dX4_init_4 rfl ?_
  refine v_bipush (v := nI 7) C dX4_init_5 (by decide) ?_
  refine v_newrefs C (kd := 15) (N := 7) (t0 := 4) (by decide) (by decide +kernel) wd40 rfl (by decide) (by decide) (Nat.le_of_ble_eq_true rfl) (Nat.le_of_ble_eq_true rfl) (Nat.le_of_ble_eq_true rfl) dX4_init_7 (fun a7 n_a7 => ?_)
  have nn_a7 : a7 ∉ mL S := fun z => n_a7 (ch.1 a7 z).1
  have m_a7 := inv_new iv n_a7
  refine V.gen (fun S2_7 e_7 => ?_)
  have x_7 := x_sArr e_7 n_a7
  have iv := inv_sArr e_7 iv n_a7 (by decide)
  have ch := ch_sArr e_7 ch n_a7
  have i_h := is_ext x_7 i_h
  have i_a7 := isA_sArrE e_7 n_a7
  refine p4_13 (v := some _) C i_h (hin rfl) dX4_init_10 ?_
  refine V.gen (fun S2_10 e_10 => ?_)
  have x_10 := x_sO e_10
  have iv := inv_sO e_10 iv (Or.inl List.mem_cons_self)
  have ch := ch_sO e_10 ch (by simp)
  have i_h := is_ext x_10 i_h
  have i_a7 := isA_ext x_10 i_a7
  have o_256 := mo_put e_10
  refine v_aload_n C dX4_init_13 rfl ?_
  refine v_bipush (v := nI 7) C dX4_init_14 (by decide) ?_
  refine v_newarr C (kd := 11) (N := 7) wd42 rfl (t0 := 0) rfl (by decide) (fun _ => cell_newI (Or.inl rfl)) (fun _ => vp_cell_i _ _ _) (by decide) (by decide) (Nat.le_of_ble_eq_true rfl) (Nat.le_of_ble_eq_true rfl) (Nat.le_of_ble_eq_true rfl) dX4_init_16 (fun a16 n_a16 => ?_)
  have nn_a16 : a16 ∉ mL S := fun z => n_a16 (ch.1 a16 z).1
  have m_a16 := inv_new iv n_a16
  refine V.gen (fun S2_16 e_16 => ?_)
  have x_16 := x_sArr e_16 n_a16
  have iv := inv_sArr e_16 iv n_a16 (by decide)
  have ch := ch_sArr e_16 ch n_a16
  have o_256 := mo_sArry e_16 o_256
  have i_h := is_ext x_16 i_h
  have i_a7 := isA_ext x_16 i_a7
  have i_a16 := isA_sArrE e_16 n_a16
  refine p4_17 (v := some _) C i_h (hin rfl) dX4_init_18 ?_
  refine V.gen (fun S2_18 e_18 => ?_)
  have x_18 := x_sO e_18
  have iv := inv_sO e_18 iv (Or.inl List.mem_cons_self)
  have ch := ch_sO e_18 ch (by simp)
  have o_256 := mo_sOx e_18 (Or.inl (by decide)) o_256
  have i_h := is_ext x_18 i_h
  have i_a7 := isA_ext x_18 i_a7
  have i_a16 := isA_ext x_18 i_a16
  have o_257 := mo_put e_18
  refine v_aload_n C dX4_init_21 rfl ?_
  refine v_new C (ci := 3) (by decide) rfl inlX3 tyX3_ok wd40 wd44 wd45 nfX3 (Nat.le_of_ble_eq_true rfl) (Nat.le_of_ble_eq_true rfl) dX4_init_22 (fun a22 n_a22 => ?_)
  have nn_a22 : a22 ∉ mL S := fun z => n_a22 (ch.1 a22 z).1
  refine V.gen (fun S2_22 e_22 => ?_)
  have x_22 := x_sNew e_22 n_a22
  have iv := inv_sNew e_22 iv n_a22 (by decide)
  have ch := ch_sNew e_22 ch n_a22
  have o_256 := mo_sNewx e_22 (ne_of_is  n_a22 i_h) o_256
  have o_257 := mo_sNewx e_22 (ne_of_is  n_a22 i_h) o_257
  have i_h := is_ext x_22 i_h
  have i_a7 := isA_ext x_22 i_a7
  have i_a16 := isA_ext x_22 i_a16
  have i_a22 := is_sNewE e_22 n_a22
  have z_a22 := mI_newE e_22
  have zo_a22 := mO_newE e_22
  refine v_dup C dX4_init_25 rfl ?_
  refine v_callI (As := []) (n := 0) C (ft_X3_init l M _ _) rfl ⟨wd48, wd49, wd45, wd50⟩ rfl hy_X3_init rfl ⟨Nat.le_of_ble_eq_true rfl, Nat.le_of_ble_eq_true rfl⟩ (Nat.le_of_ble_eq_true rfl) ⟨Nat.le_of_ble_eq_true rfl, Nat.le_of_ble_eq_true rfl⟩ dX4_init_26 ⟨rfl, iv, i_a22, z_a22 194⟩ (fun r_26 S2_26 h_26 => ?_)
  obtain ⟨rfl, iv', ch_26, r_v26⟩ := h_26
  obtain ⟨r26, q26, nr26, nq26, l26⟩ := r_v26
  have fr26 : r26 ∉ mL S := fun z => nr26 (ch.1 _ z).1
  have fq26 : q26 ∉ mL S := fun z => nq26 (ch.1 _ z).1
  have iv := iv'
  clear iv'
  have ch := ch_trn ch ch_26 ⟨by simp, by simp, by simp, fun q hq => Or.inr (by simp at hq; rcases hq with rfl | rfl <;> exact nn_a22)⟩
  have o_256 := mo_ch ch_26 i_h (by first | decide | simp) o_256
  have o_257 := mo_ch ch_26 i_h (by first | decide | simp) o_257
  have i_h := is_ch ch_26 i_h
  have i_a7 := isA_ch ch_26 i_a7
  have i_a16 := isA_ch ch_26 i_a16
  have i_a22 := is_ch ch_26 i_a22
  refine p4_22 (v := some _) C i_h (hin rfl) dX4_init_29 ?_
  refine V.gen (fun S2_29 e_29 => ?_)
  have x_29 := x_sO e_29
  have iv := inv_sO e_29 iv (Or.inl List.mem_cons_self)
  have ch := ch_sO e_29 ch (by simp)
  have o_256 := mo_sOx e_29 (Or.inl (by decide)) o_256
  have o_257 := mo_sOx e_29 (Or.inl (by decide)) o_257
  have i_h := is_ext x_29 i_h
  have i_a7 := isA_ext x_29 i_a7
  have i_a16 := isA_ext x_29 i_a16
  have i_a22 := is_ext x_29 i_a22
  have o_258 := mo_put e_29
  have q33 := i_a22
  refine v_aload_n C dX4_init_32 rfl ?_
  refine v_new C (ci := 3) (by decide) rfl inlX3 tyX3_ok wd40 wd44 wd45 nfX3 (Nat.le_of_ble_eq_true rfl) (Nat.le_of_ble_eq_true rfl) dX4_init_33 (fun a33 n_a33 => ?_)
  have nn_a33 : a33 ∉ mL S := fun z => n_a33 (ch.1 a33 z).1
  refine V.gen (fun S2_33 e_33 => ?_)
  have x_33 := x_sNew e_33 n_a33
  have iv := inv_sNew e_33 iv n_a33 (by decide)
  have ch := ch_sNew e_33 ch n_a33
  have o_256 := mo_sNewx e_33 (ne_of_is  n_a33 i_h) o_256
  have o_257 := mo_sNewx e_33 (ne_of_is  n_a33 i_h) o_257
  have o_258 := mo_sNewx e_33 (ne_of_is  n_a33 i_h) o_258
  have i_h := is_ext x_33 i_h
  have i_a7 := isA_ext x_33 i_a7
  have i_a16 := isA_ext x_33 i_a16
  have i_a22 := is_ext x_33 i_a22
  have i_a33 := is_sNewE e_33 n_a33
  have z_a33 := mI_newE e_33
  have zo_a33 := mO_newE e_33
  refine v_dup C dX4_init_36 rfl ?_
  have l33 := lnV_ch (ch_sNew e_33 (ch_sO e_29 (ch_rfl (AR := []) (PR := []) (FI := []) (FO := [(256, h), (257, h), (258, h), (259, h)])) (by simp)) n_a33) l26 (by simp) (by simp) (by simp) (by simp) (by simp)
  have d33 : a22 ≠ a33 := fun z => n_a33 (z ▸ q33.1)
  refine v_callI (As := []) (n := 0) C (ft_X3_init l M _ _) rfl ⟨wd48, wd49, wd45, wd50⟩ rfl hy_X3_init rfl ⟨Nat.le_of_ble_eq_true rfl, Nat.le_of_ble_eq_true rfl⟩ (Nat.le_of_ble_eq_true rfl) ⟨Nat.le_of_ble_eq_true rfl, Nat.le_of_ble_eq_true rfl⟩ dX4_init_37 ⟨rfl, iv, i_a33, z_a33 194⟩ (fun r_37 S2_37 h_37 => ?_)
  obtain ⟨rfl, iv', ch_37, r_v37⟩ := h_37
  obtain ⟨r37, q37, nr37, nq37, l37⟩ := r_v37
  have fr37 : r37 ∉ mL S := fun z => nr37 (ch.1 _ z).1
  have fq37 : q37 ∉ mL S := fun z => nq37 (ch.1 _ z).1
  have l40 := lnV_ch ch_37 l33 (by simp) (by simp) (by simp) (by simp; exact d33) (by simp; exact d33)
  have e1 : r26 ≠ r37 := fun z => nr37 (z ▸ l33.2.2.2.1.1)
  have e2 : r26 ≠ q37 := fun z => nq37 (z ▸ l33.2.2.2.1.1)
  have e3 : q26 ≠ r37 := fun z => nr37 (z ▸ l33.2.2.2.2.1.1)
  have e4 : q26 ≠ q37 := fun z => nq37 (z ▸ l33.2.2.2.2.1.1)
  have iv := iv'
  clear iv'
  have ch := ch_trn ch ch_37 ⟨by simp, by simp, by simp, fun q hq => Or.inr (by simp at hq; rcases hq with rfl | rfl <;> exact nn_a33)⟩
  have o_256 := mo_ch ch_37 i_h (by first | decide | simp) o_256
  have o_257 := mo_ch ch_37 i_h (by first | decide | simp) o_257
  have o_258 := mo_ch ch_37 i_h (by first | decide | simp) o_258
  have i_h := is_ch ch_37 i_h
  have i_a7 := isA_ch ch_37 i_a7
  have i_a16 := isA_ch ch_37 i_a16
  have i_a22 := is_ch ch_37 i_a22
  have i_a33 := is_ch ch_37 i_a33
  refine p4_26 (v := some _) C i_h (hin rfl) dX4_init_40 ?_
  refine V.gen (fun S2_40 e_40 => ?_)
  have x_40 := x_sO e_40
  have iv := inv_sO e_40 iv (Or.inl List.mem_cons_self)
  have ch := ch_sO e_40 ch (by simp)
  have o_256 := mo_sOx e_40 (Or.inl (by decide)) o_256
  have o_257 := mo_sOx e_40 (Or.inl (by decide)) o_257
  have o_258 := mo_sOx e_40 (Or.inl (by decide)) o_258
  have i_h := is_ext x_40 i_h
  have i_a7 := isA_ext x_40 i_a7
  have i_a16 := isA_ext x_40 i_a16
  have i_a22 := is_ext x_40 i_a22
  have i_a33 := is_ext x_40 i_a33
  have o_259 := mo_put e_40
  refine v_vret C hr (Nat.le_of_ble_eq_true rfl) (Nat.le_of_ble_eq_true rfl) dX4_init_43 ?_
  have iv := inv_done iv i_h.2 (fun q hq hc => by
    rcases FT_c4 q hq hc with rfl | rfl | rfl | rfl
    · exact Or.inr ⟨_, o_256, Or.inr ⟨by decide, i_a7, m_a7⟩⟩
    · exact Or.inr ⟨_, o_257, Or.inr ⟨by decide, i_a16, m_a16⟩⟩
    · exact Or.inr ⟨_, o_258, Or.inl ⟨rfl, i_a22⟩⟩
    · exact Or.inr ⟨_, o_259, Or.inl ⟨rfl, i_a33⟩⟩) (fun z => by cases z) (fun z => by cases z)
  have cc := ch_sO e_40 (ch_rfl (AR := []) (PR := []) (FI := []) (FO := [(256, h), (257, h), (258, h), (259, h)])) (by simp)
  have l1 := lnV_ch cc l40 (by simp) (by simp) (by simp) (by simp) (by simp)
  have l2 := lnV_ch cc l37 (by simp) (by simp) (by simp) (by simp) (by simp)
  exact ⟨rfl, iv, ch, (⟨fun i => [a7, a16, a22, r26, q26, a33, r37, q37].getD i 0, ⟨i_h, o_256, o_257, i_a7, i_a16, o_258, o_259, ⟨[], l1⟩, ⟨[], l2⟩⟩, ⟨d33, e1, e2, e3, e4⟩, nn_a7, nn_a16, nn_a22, fr26, fq26, nn_a33, fr37, fq37⟩)⟩
