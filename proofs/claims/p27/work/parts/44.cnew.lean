set_option maxRecDepth 100000 in
set_option maxHeartbeats 4000000 in
theorem ft_X4_init (l : Launch) (M : Nat → Prop) (E : List Nat) (h : Nat) : Ct l yX4_init cX4_init 1 none 2 8 100 43 (fun S av => av = [.ref h] ∧ INV M (h :: E) S ∧ is S h 4) (fun S _ r S' => r = none ∧ INV M E S' ∧ chg S S' [] [] [] [(256, h), (257, h), (258, h), (259, h)] ∧ (∃ x : MA, mgZ S' h x ∧ mdj x ∧ (x.rows ∉ mL S ∧ x.ft ∉ mL S ∧ x.gv ∉ mL S ∧ x.gr ∉ mL S ∧ x.gp ∉ mL S ∧ x.md ∉ mL S ∧ x.mr ∉ mL S ∧ x.mp ∉ mL S))) := by
  refine ct_of (by decide) (fun S av h => by obtain ⟨rfl, iv, i_h⟩ := h; exact Nat.le_of_ble_eq_true rfl) ?_
  intro p e s m args below meth c D G bs S av C hr hin hpre
  obtain ⟨rfl, iv, i_h⟩ := hpre
  have ch : chg S S [] [] [] [(256, h), (257, h), (258, h), (259, h)] := ch_rfl
  refine v_aload_n C dX4_init_0 rfl ?_
  refine v_objInit C wd39 wd11 wd12 dX4_init_1 (Nat.le_of_ble_eq_true rfl) (Nat.le_of_ble_eq_true rfl) ?_
  refine v_aload_n C dX4_init_4 rfl ?_
  refine v_bipush (v := nI 7) C dX4_init_5 (by decide) ?_
  refine v_newrefs C (kd := 15) (N := 7) (t0 := 4) (by decide) (by decide +kernel) wd40 rfl (by decide) (by decide) (Nat.le_of_ble_eq_true rfl) (Nat.le_of_ble_eq_true rfl) (Nat.le_of_ble_eq_true rfl) dX4_init_7 (fun a7 n_a7 => ?_)
  have nn_a7 : a7 ∉ mL S := fun z => n_a7 (ch.1 a7 z).1
  have m_a7 := inv_new iv n_a7
  refine V.gen (fun S2_7 e_7 => ?_)
  have x_7 := x_sArr e_7 n_a7
  have iv := inv_sArr e_7 iv n_a7 (by decide)
  have ch := ch_sArr e_7 ch n_a7
  have i_h := is_ext x_7 i_h
  have i_a7 := isA_sArrE e_7 n_a7
  refine p4_13 (v := some _) C i_h (hin rfl) dX4_init_10 ?_
  refine V.gen (fun S2_10 e_10 => ?_)
  have x_10 := x_sO e_10
  have iv := inv_sO e_10 iv (Or.inl List.mem_cons_self)
  have ch := ch_sO e_10 ch (by simp)
  have i_h := is_ext x_10 i_h
  have i_a7 := isA_ext x_10 i_a7
  have o_256 := mo_put e_10
  refine v_aload_n C dX4_init_13 rfl ?_
  refine v_bipush (v := nI 7) C dX4_init_14 (by decide) ?_
  refine v_newarr C (kd := 11) (N := 7) wd42 rfl (t0 := 0) rfl (by decide) (fun _ => cell_newI (Or.inl rfl)) (fun _ => vp_cell_i _ _ _) (by decide) (by decide) (Nat.le_of_ble_eq_true rfl) (Nat.le_of_ble_eq_true rfl) (Nat.le_of_ble_eq_true rfl) dX4_init_16 (fun a16 n_a16 => ?_)
  have nn_a16 : a16 ∉ mL S := fun z => n_a16 (ch.1 a16 z).1
  have m_a16 := inv_new iv n_a16
  refine V.gen (fun S2_16 e_16 => ?_)
  have x_16 := x_sArr e_16 n_a16
  have iv := inv_sArr e_16 iv n_a16 (by decide)
  have ch := ch_sArr e_16 ch n_a16
  have o_256 := mo_sArry e_16 o_256
  have i_h := is_ext x_16 i_h
  have i_a7 := isA_ext x_16 i_a7
  have i_a16 := isA_sArrE e_16 n_a16
  refine p4_17 (v := some _) C i_h (hin rfl) dX4_init_18 ?_
  refine V.gen (fun S2_18 e_18 => ?_)
  have x_18 := x_sO e_18
  have iv := inv_sO e_18 iv (Or.inl List.mem_cons_self)
  have ch := ch_sO e_18 ch (by simp)
  have o_256 := mo_sOx e_18 (Or.inl (by decide)) o_256
  have i_h := is_ext x_18 i_h
  have i_a7 := isA_ext x_18 i_a7
  have i_a16 := isA_ext x_18 i_a16
  have o_257 := mo_put e_18
  refine v_aload_n C dX4_init_21 rfl ?_
  refine v_new C (ci := 3) (by decide) rfl inlX3 tyX3_ok wd40 wd44 wd45 nfX3 (Nat.le_of_ble_eq_true rfl) (Nat.le_of_ble_eq_true rfl) dX4_init_22 (fun a22 n_a22 => ?_)
  have nn_a22 : a22 ∉ mL S := fun z => n_a22 (ch.1 a22 z).1
  refine V.gen (fun S2_22 e_22 => ?_)
  have x_22 := x_sNew e_22 n_a22
  have iv := inv_sNew e_22 iv n_a22 (by decide)
  have ch := ch_sNew e_22 ch n_a22
  have o_256 := mo_sNewx e_22 (ne_of_is  n_a22 i_h) o_256
  have o_257 := mo_sNewx e_22 (ne_of_is  n_a22 i_h) o_257
  have i_h := is_ext x_22 i_h
  have i_a7 := isA_ext x_22 i_a7
  have i_a16 := isA_ext x_22 i_a16
  have i_a22 := is_sNewE e_22 n_a22
  have z_a22 := mI_newE e_22
  have zo_a22 := mO_newE e_22
  refine v_dup C dX4_init_25 rfl ?_
  refine v_callI (As := []) (n := 0) C (ft_X3_init l M _ _) rfl ⟨wd48, wd49, wd45, wd50⟩ rfl hy_X3_init rfl ⟨Nat.le_of_ble_eq_true rfl, Nat.le_of_ble_eq_true rfl⟩ (Nat.le_of_ble_eq_true rfl) ⟨Nat.le_of_ble_eq_true rfl, Nat.le_of_ble_eq_true rfl⟩ dX4_init_26 ⟨rfl, iv, i_a22, z_a22 194⟩ (fun r_26 S2_26 h_26 => ?_)
  obtain ⟨rfl, iv', ch_26, r_v26⟩ := h_26
  obtain ⟨r26, q26, nr26, nq26, l26⟩ := r_v26
  have fr26 : r26 ∉ mL S := fun z => nr26 (ch.1 _ z).1
  have fq26 : q26 ∉ mL S := fun z => nq26 (ch.1 _ z).1
  have iv := iv'
  clear iv'
  have ch := ch_trn ch ch_26 ⟨by simp, by simp, by simp, fun q hq => Or.inr (by simp at hq; rcases hq with rfl | rfl <;> exact nn_a22)⟩
  have o_256 := mo_ch ch_26 i_h (by first | decide | simp) o_256
  have o_257 := mo_ch ch_26 i_h (by first | decide | simp) o_257
  have i_h := is_ch ch_26 i_h
  have i_a7 := isA_ch ch_26 i_a7
  have i_a16 := isA_ch ch_26 i_a16
  have i_a22 := is_ch ch_26 i_a22
  refine p4_22 (v := some _) C i_h (hin rfl) dX4_init_29 ?_
  refine V.gen (fun S2_29 e_29 => ?_)
  have x_29 := x_sO e_29
  have iv := inv_sO e_29 iv (Or.inl List.mem_cons_self)
  have ch := ch_sO e_29 ch (by simp)
  have o_256 := mo_sOx e_29 (Or.inl (by decide)) o_256
  have o_257 := mo_sOx e_29 (Or.inl (by decide)) o_257
  have i_h := is_ext x_29 i_h
  have i_a7 := isA_ext x_29 i_a7
  have i_a16 := isA_ext x_29 i_a16
  have i_a22 := is_ext x_29 i_a22
  have o_258 := mo_put e_29
  have q33 := i_a22
  refine v_aload_n C dX4_init_32 rfl ?_
  refine v_new C (ci := 3) (by decide) rfl inlX3 tyX3_ok wd40 wd44 wd45 nfX3 (Nat.le_of_ble_eq_true rfl) (Nat.le_of_ble_eq_true rfl) dX4_init_33 (fun a33 n_a33 => ?_)
  have nn_a33 : a33 ∉ mL S := fun z => n_a33 (ch.1 a33 z).1
  refine V.gen (fun S2_33 e_33 => ?_)
  have x_33 := x_sNew e_33 n_a33
  have iv := inv_sNew e_33 iv n_a33 (by decide)
  have ch := ch_sNew e_33 ch n_a33
  have o_256 := mo_sNewx e_33 (ne_of_is  n_a33 i_h) o_256
  have o_257 := mo_sNewx e_33 (ne_of_is  n_a33 i_h) o_257
  have o_258 := mo_sNewx e_33 (ne_of_is  n_a33 i_h) o_258
  have i_h := is_ext x_33 i_h
  have i_a7 := isA_ext x_33 i_a7
  have i_a16 := isA_ext x_33 i_a16
  have i_a22 := is_ext x_33 i_a22
  have i_a33 := is_sNewE e_33 n_a33
  have z_a33 := mI_newE e_33
  have zo_a33 := mO_newE e_33
  refine v_dup C dX4_init_36 rfl ?_
  have l33 := lnV_ch (ch_sNew e_33 (ch_sO e_29 (ch_rfl (AR := []) (PR := []) (FI := []) (FO := [(256, h), (257, h), (258, h), (259, h)])) (by simp)) n_a33) l26 (by simp) (by simp) (by simp) (by simp) (by simp)
  have d33 : a22 ≠ a33 := fun z => n_a33 (z ▸ q33.1)
  refine v_callI (As := []) (n := 0) C (ft_X3_init l M _ _) rfl ⟨wd48, wd49, wd45, wd50⟩ rfl hy_X3_init rfl ⟨Nat.le_of_ble_eq_true rfl, Nat.le_of_ble_eq_true rfl⟩ (Nat.le_of_ble_eq_true rfl) ⟨Nat.le_of_ble_eq_true rfl, Nat.le_of_ble_eq_true rfl⟩ dX4_init_37 ⟨rfl, iv, i_a33, z_a33 194⟩ (fun r_37 S2_37 h_37 => ?_)
  obtain ⟨rfl, iv', ch_37, r_v37⟩ := h_37
  obtain ⟨r37, q37, nr37, nq37, l37⟩ := r_v37
  have fr37 : r37 ∉ mL S := fun z => nr37 (ch.1 _ z).1
  have fq37 : q37 ∉ mL S := fun z => nq37 (ch.1 _ z).1
  have l40 := lnV_ch ch_37 l33 (by simp) (by simp) (by simp) (by simp; exact d33) (by simp; exact d33)
  have e1 : r26 ≠ r37 := fun z => nr37 (z ▸ l33.2.2.2.1.1)
  have e2 : r26 ≠ q37 := fun z => nq37 (z ▸ l33.2.2.2.1.1)
  have e3 : q26 ≠ r37 := fun z => nr37 (z ▸ l33.2.2.2.2.1.1)
  have e4 : q26 ≠ q37 := fun z => nq37 (z ▸ l33.2.2.2.2.1.1)
  have iv := iv'
  clear iv'
  have ch := ch_trn ch ch_37 ⟨by simp, by simp, by simp, fun q hq => Or.inr (by simp at hq; rcases hq with rfl | rfl <;> exact nn_a33)⟩
  have o_256 := mo_ch ch_37 i_h (by first | decide | simp) o_256
  have o_257 := mo_ch ch_37 i_h (by first | decide | simp) o_257
  have o_258 := mo_ch ch_37 i_h (by first | decide | simp) o_258
  have i_h := is_ch ch_37 i_h
  have i_a7 := isA_ch ch_37 i_a7
  have i_a16 := isA_ch ch_37 i_a16
  have i_a22 := is_ch ch_37 i_a22
  have i_a33 := is_ch ch_37 i_a33
  refine p4_26 (v := some _) C i_h (hin rfl) dX4_init_40 ?_
  refine V.gen (fun S2_40 e_40 => ?_)
  have x_40 := x_sO e_40
  have iv := inv_sO e_40 iv (Or.inl List.mem_cons_self)
  have ch := ch_sO e_40 ch (by simp)
  have o_256 := mo_sOx e_40 (Or.inl (by decide)) o_256
  have o_257 := mo_sOx e_40 (Or.inl (by decide)) o_257
  have o_258 := mo_sOx e_40 (Or.inl (by decide)) o_258
  have i_h := is_ext x_40 i_h
  have i_a7 := isA_ext x_40 i_a7
  have i_a16 := isA_ext x_40 i_a16
  have i_a22 := is_ext x_40 i_a22
  have i_a33 := is_ext x_40 i_a33
  have o_259 := mo_put e_40
  refine v_vret C hr (Nat.le_of_ble_eq_true rfl) (Nat.le_of_ble_eq_true rfl) dX4_init_43 ?_
  have iv := inv_done iv i_h.2 (fun q hq hc => by
    rcases FT_c4 q hq hc with rfl | rfl | rfl | rfl
    · exact Or.inr ⟨_, o_256, Or.inr ⟨by decide, i_a7, m_a7⟩⟩
    · exact Or.inr ⟨_, o_257, Or.inr ⟨by decide, i_a16, m_a16⟩⟩
    · exact Or.inr ⟨_, o_258, Or.inl ⟨rfl, i_a22⟩⟩
    · exact Or.inr ⟨_, o_259, Or.inl ⟨rfl, i_a33⟩⟩) (fun z => by cases z) (fun z => by cases z)
  have cc := ch_sO e_40 (ch_rfl (AR := []) (PR := []) (FI := []) (FO := [(256, h), (257, h), (258, h), (259, h)])) (by simp)
  have l1 := lnV_ch cc l40 (by simp) (by simp) (by simp) (by simp) (by simp)
  have l2 := lnV_ch cc l37 (by simp) (by simp) (by simp) (by simp) (by simp)
  exact ⟨rfl, iv, ch, (⟨fun i => [a7, a16, a22, r26, q26, a33, r37, q37].getD i 0, ⟨i_h, o_256, o_257, i_a7, i_a16, o_258, o_259, ⟨[], l1⟩, ⟨[], l2⟩⟩, ⟨d33, e1, e2, e3, e4⟩, nn_a7, nn_a16, nn_a22, fr26, fq26, nn_a33, fr37, fq37⟩)⟩
theorem mgZ_ch2 {S S' : Mem} {h m : Nat} {x : MA} (c : chg S S' [] [] [] [(64, h), (66, h), (68, h), (69, h)]) (g : mgZ S m x) : mgZ S' m x := by
  obtain ⟨h1, h2, h3, h4, h5, h6, h7, ⟨G, h8⟩, ⟨D, h9⟩⟩ := g
  exact ⟨is_ch c h1, mo_ch c h1 (by simp) h2, mo_ch c h1 (by simp) h3, isA_ch c h4, isA_ch c h5, mo_ch c h1 (by simp) h6, mo_ch c h1 (by simp) h7, ⟨G, lnV_ch c h8 (by simp) (by simp) (by simp) (by simp) (by simp)⟩, ⟨D, lnV_ch c h9 (by simp) (by simp) (by simp) (by simp) (by simp)⟩⟩
theorem ft_X0_init (l : Launch) (M : Nat → Prop) (E : List Nat) (h : Nat) : Ct l yX0_init cX0_init 1 none 1 0 0 12 (fun S av => av = [.ref h] ∧ INV M (h :: E) S ∧ is S h 0 ∧ ∀ g, mO S g h = none) (fun S _ r S' => r = none ∧ INV M E S' ∧ chg S S' [] [] [] [] ∧ S' = S) := by
  refine ct_cons (ct_X0_init l h) (fun S av k => ⟨k.1, k.2.2.1⟩) ?_
  rintro S av r S' ⟨_, iv, i, zo⟩ ⟨e0, rfl⟩
  refine ⟨e0, inv_done iv i.2 ?_ (fun z => by cases z) (fun z => by cases z), ch_rfl, rfl⟩
  intro q hq hc
  have hn : q.2.2.2 = true := by rcases FT_c0 q hq hc with rfl | rfl | rfl | rfl <;> rfl
  exact Or.inl ⟨hn, zo _⟩
set_option maxRecDepth 100000 in
set_option maxHeartbeats 4000000 in
theorem ft_X1_init (l : Launch) (M : Nat → Prop) (E : List Nat) (h : Nat) (LT : Nat → List Nat) : Ct l yX1_init cX1_init 1 none 3 12 147 63 (fun S av => av = [.ref h] ∧ INV M (h :: E) S ∧ is S h 1 ∧ (mI S 67 h = 0 ∧ mI S 65 h = 0)) (fun S _ r S' => r = none ∧ INV M E S' ∧ chg S S' [] [] [] [(64, h), (66, h), (68, h), (69, h)] ∧ ((mI S' 67 h = 0 ∧ ∃ fs, mO S' 66 h = some fs ∧ isA S' fs 14 12 ∧ ∀ i, mP S' fs i = none) ∧ ∃ (A : CA) (x : MA), trS S' h 0 A LT ∧ mgZ S' A.mg x ∧ mdj x ∧ A.ta ≠ x.rows)) := by
  refine ct_of (by decide) (fun S av h => by obtain ⟨rfl, iv, i_h, hz⟩ := h; exact Nat.le_of_ble_eq_true rfl) ?_
  intro p e s m args below meth c D G bs S av C hr hin hpre
  obtain ⟨rfl, iv, i_h, hz⟩ := hpre
  have ch : chg S S [] [] [] [(64, h), (66, h), (68, h), (69, h)] := ch_rfl
  have i_h0 := i_h
  refine v_aload_n C dX1_init_0 rfl ?_
  refine v_objInit C wd24 wd11 wd12 dX1_init_1 (Nat.le_of_ble_eq_true rfl) (Nat.le_of_ble_eq_true rfl) ?_
  refine v_aload_n C dX1_init_4 rfl ?_
  refine v_bipush (v := nI 20) C dX1_init_5 (by decide) ?_
  refine v_newrefs C (kd := 17) (N := 20) (t0 := 6) (by decide) (by decide +kernel) wd25 rfl (by decide) (by decide) (Nat.le_of_ble_eq_true rfl) (Nat.le_of_ble_eq_true rfl) (Nat.le_of_ble_eq_true rfl) dX1_init_7 (fun a7 n_a7 => ?_)
  have nn_a7 : a7 ∉ mL S := fun z => n_a7 (ch.1 a7 z).1
  have m_a7 := inv_new iv n_a7
  refine V.gen (fun S2_7 e_7 => ?_)
  have x_7 := x_sArr e_7 n_a7
  have iv := inv_sArr e_7 iv n_a7 (by decide)
  have ch := ch_sArr e_7 ch n_a7
  have i_h := is_ext x_7 i_h
  have i_a7 := isA_sArrE e_7 n_a7
  refine p1_11 (v := some _) C i_h (hin rfl) dX1_init_10 ?_
  refine V.gen (fun S2_10 e_10 => ?_)
  have x_10 := x_sO e_10
  have iv := inv_sO e_10 iv (Or.inl List.mem_cons_self)
  have ch := ch_sO e_10 ch (by simp)
  have i_h := is_ext x_10 i_h
  have i_a7 := isA_ext x_10 i_a7
  have o_64 := mo_put e_10
  have q7 := i_a7
  refine v_aload_n C dX1_init_13 rfl ?_
  refine v_bipush (v := nI 12) C dX1_init_14 (by decide) ?_
  refine v_newrefs C (kd := 14) (N := 12) (t0 := 3) (by decide) (by decide +kernel) wd27 rfl (by decide) (by decide) (Nat.le_of_ble_eq_true rfl) (Nat.le_of_ble_eq_true rfl) (Nat.le_of_ble_eq_true rfl) dX1_init_16 (fun a16 n_a16 => ?_)
  have nn_a16 : a16 ∉ mL S := fun z => n_a16 (ch.1 a16 z).1
  have m_a16 := inv_new iv n_a16
  refine V.gen (fun S2_16 e_16 => ?_)
  have x_16 := x_sArr e_16 n_a16
  have iv := inv_sArr e_16 iv n_a16 (by decide)
  have ch := ch_sArr e_16 ch n_a16
  have o_64 := mo_sArry e_16 o_64
  have i_h := is_ext x_16 i_h
  have i_a7 := isA_ext x_16 i_a7
  have i_a16 := isA_sArrE e_16 n_a16
  refine p1_19 (v := some _) C i_h (hin rfl) dX1_init_19 ?_
  refine V.gen (fun S2_19 e_19 => ?_)
  have x_19 := x_sO e_19
  have iv := inv_sO e_19 iv (Or.inl List.mem_cons_self)
  have ch := ch_sO e_19 ch (by simp)
  have o_64 := mo_sOx e_19 (Or.inl (by decide)) o_64
  have i_h := is_ext x_19 i_h
  have i_a7 := isA_ext x_19 i_a7
  have i_a16 := isA_ext x_19 i_a16
  have o_66 := mo_put e_19
  refine v_aload_n C dX1_init_22 rfl ?_
  refine v_new C (ci := 4) (by decide) rfl inlX4 tyX4_ok wd29 wd30 wd31 nfX4 (Nat.le_of_ble_eq_true rfl) (Nat.le_of_ble_eq_true rfl) dX1_init_23 (fun a23 n_a23 => ?_)
  have nn_a23 : a23 ∉ mL S := fun z => n_a23 (ch.1 a23 z).1
  refine V.gen (fun S2_23 e_23 => ?_)
  have x_23 := x_sNew e_23 n_a23
  have iv := inv_sNew e_23 iv n_a23 (by decide)
  have ch := ch_sNew e_23 ch n_a23
  have o_64 := mo_sNewx e_23 (ne_of_is  n_a23 i_h) o_64
  have o_66 := mo_sNewx e_23 (ne_of_is  n_a23 i_h) o_66
  have i_h := is_ext x_23 i_h
  have i_a7 := isA_ext x_23 i_a7
  have i_a16 := isA_ext x_23 i_a16
  have i_a23 := is_sNewE e_23 n_a23
  have z_a23 := mI_newE e_23
  have zo_a23 := mO_newE e_23
  refine v_dup C dX1_init_26 rfl ?_
  refine v_callIN (As := []) (n := 0) C (ft_X4_init l M _ _) rfl ⟨(by decide +kernel), wd37, wd31, wd38⟩ rfl hy_X4_init rfl ⟨Nat.le_of_ble_eq_true rfl, Nat.le_of_ble_eq_true rfl⟩ (Nat.le_of_ble_eq_true rfl) ⟨Nat.le_of_ble_eq_true rfl, Nat.le_of_ble_eq_true rfl⟩ dX1_init_27 ⟨rfl, iv, i_a23⟩ (fun r_27 S2_27 h_27 => ?_)
  obtain ⟨rfl, iv', ch_27, r_v27⟩ := h_27
  obtain ⟨x, g27, j27, f27⟩ := r_v27
  have dr : a7 ≠ x.rows := fun z => f27.1 (z ▸ i_a7.1)
  have d16 := ne_of_isA n_a16 q7
  have p16 : ∀ i, mP S2_27 a16 i = none := fun i => by rw [mp_ch ch_27 i_a16 (by simp), e_23, mP_sNew, e_19, mP_sO, e_16, mP_sArr, if_pos rfl]
  have p7 : ∀ i, mP S2_27 a7 i = none := fun i => by rw [mp_ch ch_27 i_a7 (by simp), e_23, mP_sNew, e_19, mP_sO, e_16, mP_sArr, if_neg d16, e_10, mP_sO, e_7, mP_sArr, if_pos rfl]
  have iv := iv'
  clear iv'
  have ch := ch_trn ch ch_27 ⟨by simp, by simp, by simp, fun q hq => Or.inr (by simp at hq; rcases hq with rfl | rfl | rfl | rfl <;> exact nn_a23)⟩
  have o_64 := mo_ch ch_27 i_h (by first | decide | simp) o_64
  have o_66 := mo_ch ch_27 i_h (by first | decide | simp) o_66
  have i_h := is_ch ch_27 i_h
  have i_a7 := isA_ch ch_27 i_a7
  have i_a16 := isA_ch ch_27 i_a16
  have i_a23 := is_ch ch_27 i_a23
  refine p1_26 (v := some _) C i_h (hin rfl) dX1_init_30 ?_
  refine V.gen (fun S2_30 e_30 => ?_)
  have x_30 := x_sO e_30
  have iv := inv_sO e_30 iv (Or.inl List.mem_cons_self)
  have ch := ch_sO e_30 ch (by simp)
  have o_64 := mo_sOx e_30 (Or.inl (by decide)) o_64
  have o_66 := mo_sOx e_30 (Or.inl (by decide)) o_66
  have i_h := is_ext x_30 i_h
  have i_a7 := isA_ext x_30 i_a7
  have i_a16 := isA_ext x_30 i_a16
  have i_a23 := is_ext x_30 i_a23
  have o_68 := mo_put e_30
  refine v_aload_n C dX1_init_33 rfl ?_
  refine v_new C (ci := 0) (by decide) rfl inlX0 tyX0_ok wd33 wd34 wd35 nfX0 (Nat.le_of_ble_eq_true rfl) (Nat.le_of_ble_eq_true rfl) dX1_init_34 (fun a34 n_a34 => ?_)
  have nn_a34 : a34 ∉ mL S := fun z => n_a34 (ch.1 a34 z).1
  refine V.gen (fun S2_34 e_34 => ?_)
  have x_34 := x_sNew e_34 n_a34
  have iv := inv_sNew e_34 iv n_a34 (by decide)
  have ch := ch_sNew e_34 ch n_a34
  have o_64 := mo_sNewx e_34 (ne_of_is  n_a34 i_h) o_64
  have o_66 := mo_sNewx e_34 (ne_of_is  n_a34 i_h) o_66
  have o_68 := mo_sNewx e_34 (ne_of_is  n_a34 i_h) o_68
  have i_h := is_ext x_34 i_h
  have i_a7 := isA_ext x_34 i_a7
  have i_a16 := isA_ext x_34 i_a16
  have i_a23 := is_ext x_34 i_a23
  have i_a34 := is_sNewE e_34 n_a34
  have z_a34 := mI_newE e_34
  have zo_a34 := mO_newE e_34
  refine v_dup C dX1_init_37 rfl ?_
  refine v_callIN (As := []) (n := 0) C (ft_X0_init l M _ _) rfl ⟨(by decide +kernel), wd58, wd35, wd59⟩ rfl hy_X0_init rfl ⟨Nat.le_of_ble_eq_true rfl, Nat.le_of_ble_eq_true rfl⟩ (Nat.le_of_ble_eq_true rfl) ⟨Nat.le_of_ble_eq_true rfl, Nat.le_of_ble_eq_true rfl⟩ dX1_init_38 ⟨rfl, iv, i_a34, zo_a34⟩ (fun r_38 S2_38 h_38 => ?_)
  obtain ⟨rfl, iv', ch_38, r_v38⟩ := h_38
  have iv := iv'
  clear iv'
  have ch := ch_tr ch ch_38 (by simp)
  have o_64 := mo_ch ch_38 i_h (by first | decide | simp) o_64
  have o_66 := mo_ch ch_38 i_h (by first | decide | simp) o_66
  have o_68 := mo_ch ch_38 i_h (by first | decide | simp) o_68
  have i_h := is_ch ch_38 i_h
  have i_a7 := isA_ch ch_38 i_a7
  have i_a16 := isA_ch ch_38 i_a16
  have i_a23 := is_ch ch_38 i_a23
  have i_a34 := is_ch ch_38 i_a34
  refine p1_33 (v := some _) C i_h (hin rfl) dX1_init_41 ?_
  refine V.gen (fun S2_41 e_41 => ?_)
  have x_41 := x_sO e_41
  have iv := inv_sO e_41 iv (Or.inl List.mem_cons_self)
  have ch := ch_sO e_41 ch (by simp)
  have o_64 := mo_sOx e_41 (Or.inl (by decide)) o_64
  have o_66 := mo_sOx e_41 (Or.inl (by decide)) o_66
  have o_68 := mo_sOx e_41 (Or.inl (by decide)) o_68
  have i_h := is_ext x_41 i_h
  have i_a7 := isA_ext x_41 i_a7
  have i_a16 := isA_ext x_41 i_a16
  have i_a23 := is_ext x_41 i_a23
  have i_a34 := is_ext x_41 i_a34
  have o_69 := mo_put e_41
  refine v_vret C hr (Nat.le_of_ble_eq_true rfl) (Nat.le_of_ble_eq_true rfl) dX1_init_44 ?_
  have iv := inv_done iv i_h.2 (fun q hq hc => by
    rcases FT_c1 q hq hc with rfl | rfl | rfl | rfl
    · exact Or.inr ⟨_, o_64, Or.inr ⟨by decide, i_a7, m_a7⟩⟩
    · exact Or.inr ⟨_, o_66, Or.inr ⟨by decide, i_a16, m_a16⟩⟩
    · exact Or.inr ⟨_, o_68, Or.inl ⟨rfl, i_a23⟩⟩
    · exact Or.inr ⟨_, o_69, Or.inl ⟨rfl, i_a34⟩⟩) (fun z => by cases z) (fun z => by cases z)
  have z67 := mi_ch ch i_h0 (by simp) hz.1
  have z65 := mi_ch ch i_h0 (by simp) hz.2
  have cc := ch_sO e_41 (ch_sNew (r_v38.trans e_34) (ch_sO e_30 (ch_rfl (AR := []) (PR := []) (FI := []) (FO := [(64, h), (66, h), (68, h), (69, h)])) (by simp)) n_a34) (by simp)
  have g44 := mgZ_ch2 cc g27
  have w16 : ∀ i, mP S2_41 a16 i = none := fun i => by rw [e_41, mP_sO, r_v38, e_34, mP_sNew, e_30, mP_sO, p16]
  have w7 : ∀ i, mP S2_41 a7 i = none := fun i => by rw [e_41, mP_sO, r_v38, e_34, mP_sNew, e_30, mP_sO, p7]
  exact ⟨rfl, iv, ch, (⟨⟨z67, a16, o_66, i_a16, w16⟩, (fun i _ => if i = 0 then a7 else a23), x, ⟨i_h, o_64, i_a7, z65, by decide, o_68, fun t _ => by rw [if_neg (Nat.not_lt_zero t)]; exact w7 t, fun t ht => absurd ht (Nat.not_lt_zero t)⟩, g44, j27, dr⟩)⟩
