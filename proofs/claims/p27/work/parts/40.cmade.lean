theorem ch_sNew {S S1 S2 : Mem} {AR PR : List Nat} {FI FO : List (Nat × Nat)} {a ci : Nat} (e : S2 = sNew S1 a ci) (h : chg S S1 AR PR FI FO) (n : a ∉ mL S1) : chg S S2 AR PR FI FO := by
  refine ⟨?_, ?_, ?_, ?_, ?_, ?_⟩
  · exact fun b hb => by
      have q := h.1 b hb
      have d : b ≠ a := fun z => n (z ▸ q.1)
      rw [e, mL_sNew, mK_sNew, mN_sNew, if_neg d]
      exact ⟨List.mem_append_left _ q.1, q.2⟩
  · exact fun b hb k => by rw [e, mA_sNew]; exact h.2.1 b hb k
  · exact fun b hb k => by rw [e, mP_sNew]; exact h.2.2.1 b hb k
  · exact fun b hb g k => by
      have d : b ≠ a := fun z => n (z ▸ (h.1 b hb).1)
      rw [e, mI_sNew, if_neg d]; exact h.2.2.2.1 b hb g k
  · exact fun b hb g k => by
      have d : b ≠ a := fun z => n (z ▸ (h.1 b hb).1)
      rw [e, mO_sNew, if_neg d]; exact h.2.2.2.2.1 b hb g k
  · exact fun b hb => by
      have d : b ≠ a := fun z => n (z ▸ (h.1 b hb).1)
      exact ⟨by rw [e, mQ_sNew]; exact (h.2.2.2.2.2 b hb).1, fun g => by rw [e, mJ_sNew, if_neg d]; exact (h.2.2.2.2.2 b hb).2 g⟩
theorem ch_sArr {S S1 S2 : Mem} {AR PR : List Nat} {FI FO : List (Nat × Nat)} {a kd k0 : Nat} (e : S2 = sArr S1 a kd k0) (h : chg S S1 AR PR FI FO) (n : a ∉ mL S1) : chg S S2 AR PR FI FO := by
  refine ⟨?_, ?_, ?_, ?_, ?_, ?_⟩
  · exact fun b hb => by
      have q := h.1 b hb
      have d : b ≠ a := fun z => n (z ▸ q.1)
      rw [e, mL_sArr, mK_sArr, mN_sArr, if_neg d, if_neg d]
      exact ⟨List.mem_append_left _ q.1, q.2⟩
  · exact fun b hb k => by
      have d : b ≠ a := fun z => n (z ▸ (h.1 b hb).1)
      exact (funext (fun j => by rw [e, mA_sArr, if_neg d])).trans (h.2.1 b hb k)
  · exact fun b hb k => by
      have d : b ≠ a := fun z => n (z ▸ (h.1 b hb).1)
      exact (funext (fun j => by rw [e, mP_sArr, if_neg d])).trans (h.2.2.1 b hb k)
  · exact fun b hb g k => by rw [e, mI_sArr]; exact h.2.2.2.1 b hb g k
  · exact fun b hb g k => by rw [e, mO_sArr]; exact h.2.2.2.2.1 b hb g k
  · exact fun b hb => by
      have d : b ≠ a := fun z => n (z ▸ (h.1 b hb).1)
      exact ⟨(funext (fun j => by rw [e, mQ_sArr, if_neg d])).trans (h.2.2.2.2.2 b hb).1, fun g => by rw [e, mJ_sArr]; exact (h.2.2.2.2.2 b hb).2 g⟩
theorem ch_trn {S S1 S2 : Mem} {AR PR AR' PR' : List Nat} {FI FO FI' FO' : List (Nat × Nat)} (h : chg S S1 AR PR FI FO) (k : chg S1 S2 AR' PR' FI' FO') (s : (∀ a ∈ AR', a ∈ AR ∨ a ∉ mL S) ∧ (∀ a ∈ PR', a ∈ PR ∨ a ∉ mL S) ∧ (∀ q ∈ FI', q ∈ FI ∨ q.2 ∉ mL S) ∧ ∀ q ∈ FO', q ∈ FO ∨ q.2 ∉ mL S) : chg S S2 AR PR FI FO :=
  ⟨fun a ha => ⟨(k.1 a (h.1 a ha).1).1, (k.1 a (h.1 a ha).1).2.1.trans (h.1 a ha).2.1, (k.1 a (h.1 a ha).1).2.2.trans (h.1 a ha).2.2⟩, fun a ha n => (k.2.1 a (h.1 a ha).1 (fun z => (s.1 a z).elim n (fun y => y ha))).trans (h.2.1 a ha n), fun a ha n => (k.2.2.1 a (h.1 a ha).1 (fun z => (s.2.1 a z).elim n (fun y => y ha))).trans (h.2.2.1 a ha n), fun a ha g n => (k.2.2.2.1 a (h.1 a ha).1 g (fun z => (s.2.2.1 _ z).elim n (fun y => y ha))).trans (h.2.2.2.1 a ha g n), fun a ha g n => (k.2.2.2.2.1 a (h.1 a ha).1 g (fun z => (s.2.2.2 _ z).elim n (fun y => y ha))).trans (h.2.2.2.2.1 a ha g n), fun a ha => ⟨(k.2.2.2.2.2 a (h.1 a ha).1).1.trans (h.2.2.2.2.2 a ha).1, fun g => ((k.2.2.2.2.2 a (h.1 a ha).1).2 g).trans ((h.2.2.2.2.2 a ha).2 g)⟩⟩
theorem lnV_new {S S' : Mem} {h r q : Nat} (e : S' = nLine S h r q) (i : is S h 3) (n1 : r ∉ mL S) (n2 : q ∉ mL S) (n3 : q ≠ r) (z : mI S 194 h = 0) : lnV S' h r q [] ∧ chg S S' [] [] [] [(192, h), (193, h)] := by
  have la := lineAt_nLineE e i n1 n2 n3
  refine ⟨⟨la.1, la.2.1, la.2.2.2.1, la.2.2.1, la.2.2.2.2, Ne.symm n3, ?_, List.nodup_nil, fun x hx => absurd hx List.not_mem_nil, fun i x hx => by simp at hx, fun x hx _ => ?_⟩, ?_⟩
  · rw [e, mI_nLine, z]; rfl
  · rw [e]; unfold nLine; rw [mA_sFill, if_pos ⟨rfl, hx⟩]
  · have n2' : ¬ q ∈ mL (sO (sArr S r 11 20) 192 h (some r)) := by
      rw [mL_sO, mL_sArr]
      exact fun z => (List.mem_append.mp z).elim n2 (fun z => n3 (List.mem_singleton.mp z))
    have c := ch_sFill (S := S) (AR := [q]) (PR := []) (FI := []) (FO := [(192, h), (193, h)]) e (ch_sO rfl (ch_sArr rfl (ch_sO rfl (ch_sArr rfl ch_rfl n1) (by simp)) n2') (by simp)) (by simp)
    exact ch_trn ch_rfl c ⟨fun a ha => Or.inr (List.mem_singleton.mp ha ▸ n2), fun a ha => absurd ha List.not_mem_nil, fun a ha => absurd ha List.not_mem_nil, fun q hq => Or.inl hq⟩
theorem ft_X3_init (l : Launch) (M : Nat → Prop) (E : List Nat) (h : Nat) : Ct l yX3_init cX3_init 1 none 1 2 40 23 (fun S av => av = [.ref h] ∧ INV M (h :: E) S ∧ is S h 3 ∧ mI S 194 h = 0) (fun S _ r S' => r = none ∧ INV M E S' ∧ chg S S' [] [] [] [(192, h), (193, h)] ∧ (∃ rw pl, rw ∉ mL S ∧ pl ∉ mL S ∧ lnV S' h rw pl [])) := by
  refine ct_cons (ct_X3_init l h) (fun S av k => ⟨k.1, k.2.2.1⟩) ?_
  rintro S av r S' ⟨_, iv, i, z⟩ ⟨e0, r1, r2, n1, n2, n3, e⟩
  have la := lineAt_nLineE e i n1 n2 n3
  have m1 := inv_new iv n1
  have m2 := inv_new iv n2
  have g1 := inv_sArr (kd := 11) (n := 20) rfl iv n1 (by decide)
  have g2 := inv_sO (g := 192) (a := h) (v := some r1) rfl g1 (Or.inl List.mem_cons_self)
  have n2' : ¬ r2 ∈ mL (sO (sArr S r1 11 20) 192 h (some r1)) := by
    rw [mL_sO, mL_sArr]
    exact fun z => (List.mem_append.mp z).elim n2 (fun z => n3 (List.mem_singleton.mp z))
  have g3 := inv_sArr (kd := 11) (n := 20) rfl g2 n2' (by decide)
  have g4 := inv_sO (g := 193) (a := h) (v := some r2) rfl g3 (Or.inl List.mem_cons_self)
  have g5 := inv_sFill (a := r2) (n := 20) (v := -1) (S' := S') e g4
  have w := lnV_new e i n1 n2 n3 z
  refine ⟨e0, inv_done g5 la.1.2 ?_ (fun _ => ⟨0, by decide, ?_⟩) (fun z => by cases z), w.2, r1, r2, n1, n2, w.1⟩
  · intro q hq hc
    rcases FT_c3 q hq hc with rfl | rfl
    · exact Or.inr ⟨_, la.2.1, Or.inr ⟨by decide, la.2.2.1, m1⟩⟩
    · exact Or.inr ⟨_, la.2.2.2.1, Or.inr ⟨by decide, la.2.2.2.2, m2⟩⟩
  · rw [e, mI_nLine, z]; rfl
set_option maxRecDepth 100000 in
set_option maxHeartbeats 4000000 in
theorem ft_X8_init (l : Launch) (M : Nat → Prop) (E : List Nat) (h : Nat) : Ct l yX8_init cX8_init 1 none 2 5 67 43 (fun S av => av = [.ref h] ∧ INV M (h :: E) S ∧ is S h 8) (fun S _ r S' => r = none ∧ INV M E S' ∧ chg S S' [] [] [] [(512, h), (513, h), (514, h)] ∧ (∃ ln rw pl bo gu, (ln ∉ mL S ∧ rw ∉ mL S ∧ pl ∉ mL S ∧ bo ∉ mL S ∧ gu ∉ mL S) ∧ (mO S' 512 h = some ln ∧ mO S' 513 h = some bo ∧ mO S' 514 h = some gu) ∧ isA S' bo 16 12 ∧ isA S' gu 16 12 ∧ bo ≠ gu ∧ lnV S' ln rw pl [] ∧ (∀ i, mP S' bo i = none) ∧ ∀ i, mP S' gu i = none)) := by
  refine ct_of (by decide) (fun S av h => by obtain ⟨rfl, iv, i_h⟩ := h; exact Nat.le_of_ble_eq_true rfl) ?_
  intro p e s m args below meth c D G bs S av C hr hin hpre
  obtain ⟨rfl, iv, i_h⟩ := hpre
  have ch : chg S S [] [] [] [(512, h), (513, h), (514, h)] := ch_rfl
  refine v_aload_n C dX8_init_0 rfl ?_
  refine v_objInit C wd216 wd11 wd12 dX8_init_1 (Nat.le_of_ble_eq_true rfl) (Nat.le_of_ble_eq_true rfl) ?_
  refine v_aload_n C dX8_init_4 rfl ?_
  refine v_new C (ci := 3) (by decide) rfl inlX3 tyX3_ok wd217 wd44 wd45 nfX3 (Nat.le_of_ble_eq_true rfl) (Nat.le_of_ble_eq_true rfl) dX8_init_5 (fun a5 n_a5 => ?_)
  have nn_a5 : a5 ∉ mL S := fun z => n_a5 (ch.1 a5 z).1
  refine V.gen (fun S2_5 e_5 => ?_)
  have x_5 := x_sNew e_5 n_a5
  have iv := inv_sNew e_5 iv n_a5 (by decide)
  have ch := ch_sNew e_5 ch n_a5
  have i_h := is_ext x_5 i_h
  have i_a5 := is_sNewE e_5 n_a5
  have z_a5 := mI_newE e_5
  have zo_a5 := mO_newE e_5
  refine v_dup C dX8_init_8 rfl ?_
  refine v_callI (As := []) (n := 0) C (ft_X3_init l M _ _) rfl ⟨wd222, wd49, wd45, wd50⟩ rfl hy_X3_init rfl ⟨Nat.le_of_ble_eq_true rfl, Nat.le_of_ble_eq_true rfl⟩ (Nat.le_of_ble_eq_true rfl) ⟨Nat.le_of_ble_eq_true rfl, Nat.le_of_ble_eq_true rfl⟩ dX8_init_9 ⟨rfl, iv, i_a5, z_a5 194⟩ (fun r_9 S2_9 h_9 => ?_)
  obtain ⟨rfl, iv', ch_9, r_v9⟩ := h_9
  obtain ⟨r9, q9, nr9, nq9, l9⟩ := r_v9
  have nr : r9 ∉ mL S := fun z => nr9 (ch.1 _ z).1
  have nq : q9 ∉ mL S := fun z => nq9 (ch.1 _ z).1
  have iv := iv'
  clear iv'
  have ch := ch_trn ch ch_9 ⟨by simp, by simp, by simp, fun q hq => Or.inr (by simp at hq; rcases hq with rfl | rfl <;> exact nn_a5)⟩
  have i_h := is_ch ch_9 i_h
  have i_a5 := is_ch ch_9 i_a5
  refine p8_12 (v := some _) C i_h (hin rfl) dX8_init_12 ?_
  refine V.gen (fun S2_12 e_12 => ?_)
  have x_12 := x_sO e_12
  have iv := inv_sO e_12 iv (Or.inl List.mem_cons_self)
  have ch := ch_sO e_12 ch (by simp)
  have i_h := is_ext x_12 i_h
  have i_a5 := is_ext x_12 i_a5
  have o_512 := mo_put e_12
  refine v_aload_n C dX8_init_15 rfl ?_
  refine v_bipush (v := nI 12) C dX8_init_16 (by decide) ?_
  refine v_newrefs C (kd := 16) (N := 12) (t0 := 5) (by decide) (by decide +kernel) wd219 rfl (by decide) (by decide) (Nat.le_of_ble_eq_true rfl) (Nat.le_of_ble_eq_true rfl) (Nat.le_of_ble_eq_true rfl) dX8_init_18 (fun a18 n_a18 => ?_)
  have nn_a18 : a18 ∉ mL S := fun z => n_a18 (ch.1 a18 z).1
  have m_a18 := inv_new iv n_a18
  refine V.gen (fun S2_18 e_18 => ?_)
  have x_18 := x_sArr e_18 n_a18
  have iv := inv_sArr e_18 iv n_a18 (by decide)
  have ch := ch_sArr e_18 ch n_a18
  have o_512 := mo_sArry e_18 o_512
  have i_h := is_ext x_18 i_h
  have i_a5 := is_ext x_18 i_a5
  have i_a18 := isA_sArrE e_18 n_a18
  refine p8_20 (v := some _) C i_h (hin rfl) dX8_init_21 ?_
  refine V.gen (fun S2_21 e_21 => ?_)
  have x_21 := x_sO e_21
  have iv := inv_sO e_21 iv (Or.inl List.mem_cons_self)
  have ch := ch_sO e_21 ch (by simp)
  have o_512 := mo_sOx e_21 (Or.inl (by decide)) o_512
  have i_h := is_ext x_21 i_h
  have i_a5 := is_ext x_21 i_a5
  have i_a18 := isA_ext x_21 i_a18
  have o_513 := mo_put e_21
  have q18 := i_a18
  refine v_aload_n C dX8_init_24 rfl ?_
  refine v_bipush (v := nI 12) C dX8_init_25 (by decide) ?_
  refine v_newrefs C (kd := 16) (N := 12) (t0 := 5) (by decide) (by decide +kernel) wd219 rfl (by decide) (by decide) (Nat.le_of_ble_eq_true rfl) (Nat.le_of_ble_eq_true rfl) (Nat.le_of_ble_eq_true rfl) dX8_init_27 (fun a27 n_a27 => ?_)
  have nn_a27 : a27 ∉ mL S := fun z => n_a27 (ch.1 a27 z).1
  have m_a27 := inv_new iv n_a27
  refine V.gen (fun S2_27 e_27 => ?_)
  have x_27 := x_sArr e_27 n_a27
  have iv := inv_sArr e_27 iv n_a27 (by decide)
  have ch := ch_sArr e_27 ch n_a27
  have o_512 := mo_sArry e_27 o_512
  have o_513 := mo_sArry e_27 o_513
  have i_h := is_ext x_27 i_h
  have i_a5 := is_ext x_27 i_a5
  have i_a18 := isA_ext x_27 i_a18
  have i_a27 := isA_sArrE e_27 n_a27
  refine p8_24 (v := some _) C i_h (hin rfl) dX8_init_30 ?_
  refine V.gen (fun S2_30 e_30 => ?_)
  have x_30 := x_sO e_30
  have iv := inv_sO e_30 iv (Or.inl List.mem_cons_self)
  have ch := ch_sO e_30 ch (by simp)
  have o_512 := mo_sOx e_30 (Or.inl (by decide)) o_512
  have o_513 := mo_sOx e_30 (Or.inl (by decide)) o_513
  have i_h := is_ext x_30 i_h
  have i_a5 := is_ext x_30 i_a5
  have i_a18 := isA_ext x_30 i_a18
  have i_a27 := isA_ext x_30 i_a27
  have o_514 := mo_put e_30
  refine v_vret C hr (Nat.le_of_ble_eq_true rfl) (Nat.le_of_ble_eq_true rfl) dX8_init_33 ?_
  have iv := inv_done iv i_h.2 (fun q hq hc => by
    rcases FT_c8 q hq hc with rfl | rfl | rfl
    · exact Or.inr ⟨_, o_512, Or.inl ⟨rfl, i_a5⟩⟩
    · exact Or.inr ⟨_, o_513, Or.inr ⟨by decide, i_a18, m_a18⟩⟩
    · exact Or.inr ⟨_, o_514, Or.inr ⟨by decide, i_a27, m_a27⟩⟩) (fun z => by cases z) (fun z => by cases z)
  have d18 := ne_of_isA n_a27 q18
  have cc := ch_sO e_30 (ch_sArr e_27 (ch_sO e_21 (ch_sArr e_18 (ch_sO e_12 (ch_rfl (AR := []) (PR := []) (FI := []) (FO := [(512, h), (513, h), (514, h)])) (by simp)) n_a18) (by simp)) n_a27) (by simp)
  have l30 := lnV_ch cc l9 (by simp) (by simp) (by simp) (by simp) (by simp)
  exact ⟨rfl, iv, ch, (⟨a5, r9, q9, a18, a27, ⟨nn_a5, nr, nq, nn_a18, nn_a27⟩, ⟨o_512, o_513, o_514⟩, i_a18, i_a27, d18, l30, fun i => by rw [e_30, mP_sO, e_27, mP_sArr, if_neg d18, e_21, mP_sO, e_18, mP_sArr, if_pos rfl], fun i => by rw [e_30, mP_sO, e_27, mP_sArr, if_pos rfl]⟩)⟩
