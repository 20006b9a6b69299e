/-! THE OBJECT AS IT IS MADE -/
theorem mgZ_chF {S S' : Mem} {m : Nat} {x : MA} {FO : List (Nat × Nat)} (c : chg S S' [] [] [] FO) (hf : ∀ q ∈ FO, 384 ≤ q.1) (g : mgZ S m x) : mgZ S' m x := by
  obtain ⟨h1, h2, h3, h4, h5, h6, h7, ⟨G, h8⟩, ⟨D, h9⟩⟩ := g
  have nf : ∀ g a, g < 384 → (g, a) ∉ FO := fun g a hg z => by have := hf _ z; simp at this; omega
  exact ⟨is_ch c h1, mo_ch c h1 (nf _ _ (by decide)) h2, mo_ch c h1 (nf _ _ (by decide)) h3, isA_ch c h4, isA_ch c h5, mo_ch c h1 (nf _ _ (by decide)) h6, mo_ch c h1 (nf _ _ (by decide)) h7, ⟨G, lnV_ch c h8 (by simp) (by simp) (by simp) (nf _ _ (by decide)) (nf _ _ (by decide))⟩, ⟨D, lnV_ch c h9 (by simp) (by simp) (by simp) (nf _ _ (by decide)) (nf _ _ (by decide))⟩⟩
def rep0 (S : Mem) (x : Nat) (W : Nat → Nat) (LT : Nat → List Nat) : Prop := (is S x 9 ∧ mO S 576 x = some (W 0)) ∧ injW W 0 0 ∧ (∀ i, i < 12 → W i ∈ mL S) ∧ trS S (W 0) 0 (aA W) LT ∧ mgZ S (W 3) (xA W) ∧ fA0 S W 0 ∧ mO S 578 x = none
theorem w12 (i : Nat) (h : uC 0 0 i) : i = 0 ∨ i = 1 ∨ i = 2 ∨ i = 3 ∨ i = 4 ∨ i = 5 ∨ i = 6 ∨ i = 7 ∨ i = 8 ∨ i = 9 ∨ i = 10 ∨ i = 11 := by unfold uC at h; omega
def kn0 : List Nat := [1000, 17020, 14012, 4000, 15007, 11007, 3000, 11020, 11020, 3000, 11020, 11020]
theorem kn0_ok1 : ∀ i ∈ List.range 12, ∀ j ∈ List.range 12, kn0.getD i 0 = kn0.getD j 0 → i = j ∨ (i = 6 ∧ j = 9) ∨ (i = 9 ∧ j = 6) ∨ ((i = 7 ∨ i = 8 ∨ i = 10 ∨ i = 11) ∧ (j = 7 ∨ j = 8 ∨ j = 10 ∨ j = 11)) := by decide +kernel
def tgK (S : Mem) (a : Nat) : Nat := 1000 * mK S a + (if mK S a < 11 then 0 else mN S a)
theorem tg_is {S : Mem} {a k : Nat} (h : is S a k) (hk : k < 11) : tgK S a = 1000 * k := by unfold tgK; rw [h.2, if_pos hk]; omega
theorem tg_isA {S : Mem} {a k n : Nat} (h : isA S a k n) (hk : ¬ k < 11) : tgK S a = 1000 * k + n := by unfold tgK; rw [h.2.1, h.2.2, if_neg hk]
theorem inj0 {S : Mem} {W : Nat → Nat} {LT : Nat → List Nat} (t : trS S (W 0) 0 (aA W) LT) (z : mgZ S (W 3) (xA W)) (j : mdj (xA W)) (f : fA0 S W 0) : injW W 0 0 ∧ ∀ i, i < 12 → W i ∈ mL S := by
  obtain ⟨a1, a2, a3, a4, a5, a6, a7, ⟨G, a8⟩, ⟨D, a9⟩⟩ := z
  have d1 : W 7 ≠ W 8 := a8.2.2.2.2.2.1
  have d2 : W 10 ≠ W 11 := a9.2.2.2.2.2.1
  obtain ⟨j1, j2, j3, j4, j5⟩ := j
  have e1 : W 6 ≠ W 9 := j1
  have e2 : W 7 ≠ W 10 := j2
  have e3 : W 7 ≠ W 11 := j3
  have e4 : W 8 ≠ W 10 := j4
  have e5 : W 8 ≠ W 11 := j5
  have tg : ∀ i, uC 0 0 i → tgK S (W i) = kn0.getD i 0 ∧ W i ∈ mL S := fun i h => by
    rcases w12 i h with rfl | rfl | rfl | rfl | rfl | rfl | rfl | rfl | rfl | rfl | rfl | rfl
    · exact ⟨tg_is t.1 (by decide), t.1.1⟩
    · exact ⟨tg_isA t.2.2.1 (by decide), t.2.2.1.1⟩
    · exact ⟨tg_isA f.2.1 (by decide), f.2.1.1⟩
    · exact ⟨tg_is a1 (by decide), a1.1⟩
    · exact ⟨tg_isA a4 (by decide), a4.1⟩
    · exact ⟨tg_isA a5 (by decide), a5.1⟩
    · exact ⟨tg_is a8.1 (by decide), a8.1.1⟩
    · exact ⟨tg_isA a8.2.2.2.1 (by decide), a8.2.2.2.1.1⟩
    · exact ⟨tg_isA a8.2.2.2.2.1 (by decide), a8.2.2.2.2.1.1⟩
    · exact ⟨tg_is a9.1 (by decide), a9.1.1⟩
    · exact ⟨tg_isA a9.2.2.2.1 (by decide), a9.2.2.2.1.1⟩
    · exact ⟨tg_isA a9.2.2.2.2.1 (by decide), a9.2.2.2.2.1.1⟩
  refine ⟨fun i k hi hk e => ?_, fun i hi => (tg i (Or.inl hi)).2⟩
  have q := (tg i hi).1.symm.trans ((congrArg (tgK S) e).trans (tg k hk).1)
  have i12 : i < 12 := by unfold uC at hi; omega
  have k12 : k < 12 := by unfold uC at hk; omega
  rcases kn0_ok1 i (List.mem_range.mpr i12) k (List.mem_range.mpr k12) q with z | ⟨rfl, rfl⟩ | ⟨rfl, rfl⟩ | ⟨z1, z2⟩
  · exact z
  · exact absurd e e1
  · exact absurd e.symm e1
  · rcases z1 with rfl | rfl | rfl | rfl <;> rcases z2 with rfl | rfl | rfl | rfl <;> first | rfl | exact absurd e d1 | exact absurd e.symm d1 | exact absurd e d2 | exact absurd e.symm d2 | exact absurd e e2 | exact absurd e.symm e2 | exact absurd e e3 | exact absurd e.symm e3 | exact absurd e e4 | exact absurd e.symm e4 | exact absurd e e5 | exact absurd e.symm e5
set_option maxRecDepth 100000 in
set_option maxHeartbeats 4000000 in
theorem ft_X7_init (l : Launch) (M : Nat → Prop) (E : List Nat) (h : Nat) : Ct l yX7_init cX7_init 1 none 1 1 1000 14 (fun S av => av = [.ref h] ∧ INV M (h :: E) S ∧ is S h 7 ∧ (mI S 449 h = 0)) (fun S _ r S' => r = none ∧ INV M E S' ∧ chg S S' [] [] [] [(448, h)] ∧ (mI S' 449 h = 0)) := by
  refine ct_of (by decide) (fun S av h => by obtain ⟨rfl, iv, i_h, hz⟩ := h; exact Nat.le_of_ble_eq_true rfl) ?_
  intro p e s m args below meth c D G bs S av C hr hin hpre
  obtain ⟨rfl, iv, i_h, hz⟩ := hpre
  have ch : chg S S [] [] [] [(448, h)] := ch_rfl
  have i_h0 := i_h
  refine v_aload_n C dX7_init_0 rfl ?_
  refine v_objInit C wd72 wd11 wd12 dX7_init_1 (Nat.le_of_ble_eq_true rfl) (Nat.le_of_ble_eq_true rfl) ?_
  refine v_aload_n C dX7_init_4 rfl ?_
  refine v_sipush (v := nI 1000) C dX7_init_5 (by decide) ?_
  refine v_newarr C (kd := 12) (N := 1000) wd73 rfl (t0 := 1) rfl (by decide) (fun _ => cell_newJ) (fun _ => vp_cell_l _ _ _) (by decide) (by decide) (Nat.le_of_ble_eq_true rfl) (Nat.le_of_ble_eq_true rfl) (Nat.le_of_ble_eq_true rfl) dX7_init_8 (fun a8 n_a8 => ?_)
  have nn_a8 : a8 ∉ mL S := fun z => n_a8 (ch.1 a8 z).1
  have m_a8 := inv_new iv n_a8
  refine V.gen (fun S2_8 e_8 => ?_)
  have x_8 := x_sArr e_8 n_a8
  have iv := inv_sArr e_8 iv n_a8 (by decide)
  have ch := ch_sArr e_8 ch n_a8
  have i_h := is_ext x_8 i_h
  have i_a8 := isA_sArrE e_8 n_a8
  refine p7_11 (v := some _) C i_h (hin rfl) dX7_init_10 ?_
  refine V.gen (fun S2_10 e_10 => ?_)
  have x_10 := x_sO e_10
  have iv := inv_sO e_10 iv (Or.inl List.mem_cons_self)
  have ch := ch_sO e_10 ch (by simp)
  have i_h := is_ext x_10 i_h
  have i_a8 := isA_ext x_10 i_a8
  have o_448 := mo_put e_10
  refine v_vret C hr (Nat.le_of_ble_eq_true rfl) (Nat.le_of_ble_eq_true rfl) dX7_init_13 ?_
  have z4 := mi_ch ch i_h0 (by simp) hz
  have iv := inv_done iv i_h.2 (fun q hq hc => by
    rcases FT_c7 q hq hc with rfl
    exact Or.inr ⟨_, o_448, Or.inr ⟨by decide, i_a8, m_a8⟩⟩) (fun z => by cases z) (fun _ => ⟨0, by decide, z4⟩)
  exact ⟨rfl, iv, ch, (z4)⟩
set_option maxRecDepth 100000 in
set_option maxHeartbeats 4000000 in
theorem ft_X6_init (l : Launch) (M : Nat → Prop) (E : List Nat) (h : Nat) (co : Nat) : Ct l yX6_init cX6_init 2 none 2 2 1002 34 (fun S av => av = [.ref h, .ref co] ∧ INV M (h :: E) S ∧ is S h 6 ∧ is S co 1) (fun S _ r S' => r = none ∧ INV M E S' ∧ chg S S' [] [] [] [(384, h), (385, h)] ∧ (True)) := by
  refine ct_of (by decide) (fun S av h => by obtain ⟨rfl, iv, i_h, i_co⟩ := h; exact Nat.le_of_ble_eq_true rfl) ?_
  intro p e s m args below meth c D G bs S av C hr hin hpre
  obtain ⟨rfl, iv, i_h, i_co⟩ := hpre
  have ch : chg S S [] [] [] [(384, h), (385, h)] := ch_rfl
  have i_h0 := i_h
  refine v_aload_n C dX6_init_0 rfl ?_
  refine v_objInit C wd64 wd11 wd12 dX6_init_1 (Nat.le_of_ble_eq_true rfl) (Nat.le_of_ble_eq_true rfl) ?_
  refine v_aload_n C dX6_init_4 rfl ?_
  refine v_new C (ci := 7) (by decide) rfl inlX7 tyX7_ok wd65 wd66 wd67 nfX7 (Nat.le_of_ble_eq_true rfl) (Nat.le_of_ble_eq_true rfl) dX6_init_5 (fun a5 n_a5 => ?_)
  have nn_a5 : a5 ∉ mL S := fun z => n_a5 (ch.1 a5 z).1
  refine V.gen (fun S2_5 e_5 => ?_)
  have x_5 := x_sNew e_5 n_a5
  have iv := inv_sNew e_5 iv n_a5 (by decide)
  have ch := ch_sNew e_5 ch n_a5
  have i_h := is_ext x_5 i_h
  have i_co := is_ext x_5 i_co
  have i_a5 := is_sNewE e_5 n_a5
  have z_a5 := mI_newE e_5
  have zo_a5 := mO_newE e_5
  refine v_dup C dX6_init_8 rfl ?_
  refine v_callIN (As := []) (n := 0) C (ft_X7_init l M _ _) rfl ⟨(by decide +kernel), wd70, wd67, wd71⟩ rfl hy_X7_init rfl ⟨Nat.le_of_ble_eq_true rfl, Nat.le_of_ble_eq_true rfl⟩ (Nat.le_of_ble_eq_true rfl) ⟨Nat.le_of_ble_eq_true rfl, Nat.le_of_ble_eq_true rfl⟩ dX6_init_9 ⟨rfl, iv, i_a5, (z_a5 449)⟩ (fun r_9 S2_9 h_9 => ?_)
  obtain ⟨rfl, iv', ch_9, r_v9⟩ := h_9
  have iv := iv'
  clear iv'
  have ch := ch_trn ch ch_9 ⟨by simp, by simp, by simp, fun q hq => Or.inr (by simp at hq; rw [hq]; exact nn_a5)⟩
  have i_h := is_ch ch_9 i_h
  have i_co := is_ch ch_9 i_co
  have i_a5 := is_ch ch_9 i_a5
  refine p6_12 (v := some _) C i_h (hin rfl) dX6_init_12 ?_
  refine V.gen (fun S2_12 e_12 => ?_)
  have x_12 := x_sO e_12
  have iv := inv_sO e_12 iv (Or.inl List.mem_cons_self)
  have ch := ch_sO e_12 ch (by simp)
  have i_h := is_ext x_12 i_h
  have i_co := is_ext x_12 i_co
  have i_a5 := is_ext x_12 i_a5
  have o_385 := mo_put e_12
  refine v_aload_n C dX6_init_15 rfl ?_
  refine v_aload_n C dX6_init_16 rfl ?_
  refine p6_18 (v := some _) C i_h (hin rfl) dX6_init_17 ?_
  refine V.gen (fun S2_17 e_17 => ?_)
  have x_17 := x_sO e_17
  have iv := inv_sO e_17 iv (Or.inl List.mem_cons_self)
  have ch := ch_sO e_17 ch (by simp)
  have o_385 := mo_sOx e_17 (Or.inl (by decide)) o_385
  have i_h := is_ext x_17 i_h
  have i_co := is_ext x_17 i_co
  have i_a5 := is_ext x_17 i_a5
  have o_384 := mo_put e_17
  refine v_vret C hr (Nat.le_of_ble_eq_true rfl) (Nat.le_of_ble_eq_true rfl) dX6_init_20 ?_
  have iv := inv_done iv i_h.2 (fun q hq hc => by
    rcases FT_c6 q hq hc with rfl | rfl
    · exact Or.inr ⟨_, o_384, Or.inl ⟨rfl, i_co⟩⟩
    · exact Or.inr ⟨_, o_385, Or.inl ⟨rfl, i_a5⟩⟩) (fun z => by cases z) (fun z => by cases z)
  exact ⟨rfl, iv, ch, (trivial)⟩
set_option maxRecDepth 100000 in
set_option maxHeartbeats 4000000 in
theorem ft_X9_init (l : Launch) (M : Nat → Prop) (E : List Nat) (h : Nat) (LT : Nat → List Nat) : Ct l yX9_init cX9_init 1 none 4 16 1162 83 (fun S av => av = [.ref h] ∧ INV M (h :: E) S ∧ is S h 9) (fun S _ r S' => r = none ∧ INV M E S' ∧ chg S S' [] [] [] [(576, h), (577, h), (578, h)] ∧ (∃ W, rep0 S' h W LT)) := by
  refine ct_of (by decide) (fun S av h => by obtain ⟨rfl, iv, i_h⟩ := h; exact Nat.le_of_ble_eq_true rfl) ?_
  intro p e s m args below meth c D G bs S av C hr hin hpre
  obtain ⟨rfl, iv, i_h⟩ := hpre
  have ch : chg S S [] [] [] [(576, h), (577, h), (578, h)] := ch_rfl
  refine v_aload_n C dX9_init_0 rfl ?_
  refine v_objInit C wd10 wd11 wd12 dX9_init_1 (Nat.le_of_ble_eq_true rfl) (Nat.le_of_ble_eq_true rfl) ?_
  refine v_aload_n C dX9_init_4 rfl ?_
  refine v_new C (ci := 1) (by decide) rfl inlX1 tyX1_ok wd13 wd14 wd15 nfX1 (Nat.le_of_ble_eq_true rfl) (Nat.le_of_ble_eq_true rfl) dX9_init_5 (fun a5 n_a5 => ?_)
  have nn_a5 : a5 ∉ mL S := fun z => n_a5 (ch.1 a5 z).1
  refine V.gen (fun S2_5 e_5 => ?_)
  have x_5 := x_sNew e_5 n_a5
  have iv := inv_sNew e_5 iv n_a5 (by decide)
  have ch := ch_sNew e_5 ch n_a5
  have i_h := is_ext x_5 i_h
  have i_a5 := is_sNewE e_5 n_a5
  have z_a5 := mI_newE e_5
  have zo_a5 := mO_newE e_5
  refine v_dup C dX9_init_8 rfl ?_
  refine v_callIN (As := []) (n := 0) C (ft_X1_init l M _ _ LT) rfl ⟨(by decide +kernel), wd22, wd15, wd23⟩ rfl hy_X1_init rfl ⟨Nat.le_of_ble_eq_true rfl, Nat.le_of_ble_eq_true rfl⟩ (Nat.le_of_ble_eq_true rfl) ⟨Nat.le_of_ble_eq_true rfl, Nat.le_of_ble_eq_true rfl⟩ dX9_init_9 ⟨rfl, iv, i_a5, ⟨z_a5 67, z_a5 65⟩⟩ (fun r_9 S2_9 h_9 => ?_)
  obtain ⟨rfl, iv', ch_9, r_v9⟩ := h_9
  have iv := iv'
  clear iv'
  have ch := ch_trn ch ch_9 ⟨by simp, by simp, by simp, fun q hq => Or.inr (by simp at hq; rcases hq with rfl | rfl | rfl | rfl <;> exact nn_a5)⟩
  have i_h := is_ch ch_9 i_h
  have i_a5 := is_ch ch_9 i_a5
  obtain ⟨⟨r67, fs, r66, ifs, pfs⟩, A, x, rT, rZ, rJ, rD⟩ := r_v9
  refine p9_10 (v := some _) C i_h (hin rfl) dX9_init_12 ?_
  refine V.gen (fun S2_12 e_12 => ?_)
  have x_12 := x_sO e_12
  have iv := inv_sO e_12 iv (Or.inl List.mem_cons_self)
  have ch := ch_sO e_12 ch (by simp)
  have i_h := is_ext x_12 i_h
  have i_a5 := is_ext x_12 i_a5
  have o_576 := mo_put e_12
  refine v_aload_n C dX9_init_15 rfl ?_
  refine v_new C (ci := 6) (by decide) rfl inlX6 tyX6_ok wd17 wd18 wd19 nfX6 (Nat.le_of_ble_eq_true rfl) (Nat.le_of_ble_eq_true rfl) dX9_init_16 (fun a16 n_a16 => ?_)
  have nn_a16 : a16 ∉ mL S := fun z => n_a16 (ch.1 a16 z).1
  refine V.gen (fun S2_16 e_16 => ?_)
  have x_16 := x_sNew e_16 n_a16
  have iv := inv_sNew e_16 iv n_a16 (by decide)
  have ch := ch_sNew e_16 ch n_a16
  have o_576 := mo_sNewx e_16 (ne_of_is  n_a16 i_h) o_576
  have i_h := is_ext x_16 i_h
  have i_a5 := is_ext x_16 i_a5
  have i_a16 := is_sNewE e_16 n_a16
  have z_a16 := mI_newE e_16
  have zo_a16 := mO_newE e_16
  refine v_dup C dX9_init_19 rfl ?_
  refine v_aload_n C dX9_init_20 rfl ?_
  refine r9_10 (b := a5) C i_h o_576 dX9_init_21 ?_
  refine v_callI (As := [_]) (n := 1) C (ft_X6_init l M _ _ _) rfl ⟨wd61, wd62, wd19, wd63⟩ rfl hy_X6_init rfl ⟨Nat.le_of_ble_eq_true rfl, Nat.le_of_ble_eq_true rfl⟩ (Nat.le_of_ble_eq_true rfl) ⟨Nat.le_of_ble_eq_true rfl, Nat.le_of_ble_eq_true rfl⟩ dX9_init_24 ⟨rfl, iv, i_a16, i_a5⟩ (fun r_24 S2_24 h_24 => ?_)
  obtain ⟨rfl, iv', ch_24, r_v24⟩ := h_24
  have iv := iv'
  clear iv'
  have ch := ch_trn ch ch_24 ⟨by simp, by simp, by simp, fun q hq => Or.inr (by simp at hq; rcases hq with rfl | rfl <;> exact nn_a16)⟩
  have o_576 := mo_ch ch_24 i_h (by first | decide | simp) o_576
  have i_h := is_ch ch_24 i_h
  have i_a5 := is_ch ch_24 i_a5
  have i_a16 := is_ch ch_24 i_a16
  refine p9_21 (v := some _) C i_h (hin rfl) dX9_init_27 ?_
  refine V.gen (fun S2_27 e_27 => ?_)
  have x_27 := x_sO e_27
  have iv := inv_sO e_27 iv (Or.inl List.mem_cons_self)
  have ch := ch_sO e_27 ch (by simp)
  have o_576 := mo_sOx e_27 (Or.inl (by decide)) o_576
  have i_h := is_ext x_27 i_h
  have i_a5 := is_ext x_27 i_a5
  have i_a16 := is_ext x_27 i_a16
  have o_577 := mo_put e_27
  refine v_aload_n C dX9_init_30 rfl ?_
  refine v_null C dX9_init_31 ?_
  refine p9_25 C i_h dX9_init_32 ?_
  refine V.gen (fun S2_32 e_32 => ?_)
  have x_32 := x_sO e_32
  have iv := inv_sO e_32 iv (Or.inl List.mem_cons_self)
  have ch := ch_sO e_32 ch (by simp)
  have o_576 := mo_sOx e_32 (Or.inl (by decide)) o_576
  have o_577 := mo_sOx e_32 (Or.inl (by decide)) o_577
  have i_h := is_ext x_32 i_h
  have i_a5 := is_ext x_32 i_a5
  have i_a16 := is_ext x_32 i_a16
  have o_578 := mo_put e_32
  refine v_vret C hr (Nat.le_of_ble_eq_true rfl) (Nat.le_of_ble_eq_true rfl) dX9_init_35 ?_
  have iv := inv_done iv i_h.2 (fun q hq hc => by
    rcases FT_c9 q hq hc with rfl | rfl | rfl
    · exact Or.inr ⟨_, o_576, Or.inl ⟨rfl, i_a5⟩⟩
    · exact Or.inr ⟨_, o_577, Or.inl ⟨rfl, i_a16⟩⟩
    · exact Or.inl ⟨rfl, o_578⟩) (fun z => by cases z) (fun z => by cases z)
  have c1 := ch_sNew e_16 (ch_sO e_12 (ch_rfl (AR := []) (PR := []) (FI := []) (FO := [(576, h), (577, h), (578, h)])) (by simp)) n_a16
  have c2 := ch_sO e_32 (ch_sO e_27 (ch_trn c1 ch_24 ⟨by simp, by simp, by simp, fun q hq => Or.inr (by simp at hq; rcases hq with rfl | rfl <;> exact fun z => n_a16 (by rw [e_12, mL_sO]; exact z))⟩) (by simp)) (by simp)
  have t9 := trS_ch c2 rT (by simp) (by simp) (by simp) (by simp) (fun t ht => absurd ht (Nat.not_lt_zero t))
  have z9 := mgZ_chF c2 (by simp) rZ
  obtain ⟨W, eW⟩ : ∃ W : Nat → Nat, W = fun i => [a5, A.ta, fs, A.mg, x.rows, x.ft, x.gv, x.gr, x.gp, x.md, x.mr, x.mp].getD i 0 := ⟨_, rfl⟩
  have t9 : trS S2_32 (W 0) 0 (aA W) LT := by
    rw [eW]; exact trS_cg t9 ⟨rfl, rfl⟩ (fun t ht => absurd ht (Nat.not_lt_zero t))
  have z9 : mgZ S2_32 (W 3) (xA W) := by
    rw [eW]; exact z9
  have f9 : fA0 S2_32 W 0 := by
    rw [eW]
    exact ⟨mo_ch c2 rT.1 (by simp) r66, isA_ch c2 ifs, mi_ch c2 rT.1 (by simp) r67, by decide, fun i _ => by rw [if_neg (Nat.not_lt_zero i)]; exact (congrFun (mp_ch c2 ifs (by simp)) i).trans (pfs i)⟩
  have j9 : mdj (xA W) := by rw [eW]; exact rJ
  obtain ⟨q1, q2⟩ := inj0 t9 z9 j9 f9
  exact ⟨rfl, iv, ch, (⟨W, ⟨i_h, by rw [eW]; exact o_576⟩, q1, q2, t9, z9, f9, o_578⟩)⟩
