/-! FIGURES AT NUMBERS -/
def fgO (W : Nat → Nat) (nC : Nat) (t : Int32) : Option Nat := bif below t nC then some (W (10 * t.toNatClampNeg + 300)) else none
theorem fgO_none {W : Nat → Nat} {T : Nat} {t : Int32} (hT : T ≤ 12) (h : below t 12 = false) : fgO W T t = none := by
  unfold fgO
  cases e : below t T with
  | false => rfl
  | true => rw [below_mono hT e] at h; cases h
theorem fgO_nI {W : Nat → Nat} {T k : Nat} (hT : T ≤ 12) (hk : k < 12) : fgO W T (nI k) = if k < T then some (W (10 * k + 300)) else none := by
  unfold fgO
  by_cases z : k < T
  · rw [below_nI z (by omega), if_pos z, nI_clamp (by omega)]; rfl
  · rw [if_neg z]
    cases e : below (nI k) T with
    | false => rfl
    | true =>
      obtain ⟨j, hj, ej⟩ := below_some e
      have := congrArg Int32.toNatClampNeg ej
      rw [nI_clamp (by omega), nI_clamp (by omega)] at this
      omega
theorem fgO_no {W : Nat → Nat} {T : Nat} {t : Int32} (h : fgO W T t = none) : below t T = false := by
  unfold fgO at h
  cases e : below t T with
  | false => rfl
  | true => rw [e] at h; cases h
theorem fgO_yes {W : Nat → Nat} {T b : Nat} {t : Int32} (h : fgO W T t = some b) : below t T = true := by
  unfold fgO at h
  cases e : below t T with
  | true => rfl
  | false => rw [e] at h; cases h
theorem newF_ch {S S1 S2 : Mem} {a w h : Nat} {N : Nat → Nat} (f : newF S S1 a N) (c : chg S1 S2 [] [w] [(67, h)] []) (i : isA S1 w 14 12) : newF S S2 a N := by
  obtain ⟨e, ⟨h1, h2, h3, h4, h5, h6, h7, h8, h9, h10, h11, h12, h13, h14⟩, l, fr, d, ⟨m1, m2, m3⟩, p1, p2, p3, p4⟩ := f
  have nw : N 305 ≠ w := isA_ne h6 i (by decide)
  have ea : N (10 * 0 + 300) = a := e
  refine ⟨e, ⟨is_ch c h1, mo_ch c h1 (by simp) h2, mo_ch c h1 (by simp) h3, isA_ch c h4, mo_ch c h1 (by simp) h5, isA_ch c h6, mo_ch c h1 (by simp) h7, isA_ch c h8, mo_ch c h1 (by simp) h9, isA_ch c h10, mo_ch c h1 (by simp) h11, isA_ch c h12, mo_ch c h1 (by simp) h13, isA_ch c h14⟩, lnV_ch c l (by simp) (by simp) (by simp) (by simp) (by simp), fr, d, ?_, fun j => ?_, fun j => ?_, fun j hj => ?_, fun j hj => ?_⟩
  · rw [← ea] at m1 m2 m3 ⊢
    exact ⟨mi_ch c h1 (by simp) m1, mi_ch c h1 (by simp) m2, mi_ch c h1 (by simp) m3⟩
  · have q := mp_ch c h6 (by simp; exact nw)
    exact (congrFun q j).trans (p1 j)
  · have q := ma_ch c h8 (by simp)
    exact (congrFun q j).trans (p2 j)
  · have q := ma_ch c h10 (by simp)
    have q2 := ma_ch c h12 (by simp)
    exact ⟨(congrFun q j).trans (p3 j hj).1, (congrFun q2 j).trans (p3 j hj).2⟩
  · have q := ma_ch c h14 (by simp)
    exact (congrFun q j).trans (p4 j hj)
theorem newF_S {S S0 S1 : Mem} {a : Nat} {N : Nat → Nat} (m : ∀ z, z ∈ mL S → z ∈ mL S0) (f : newF S0 S1 a N) : newF S S1 a N :=
  ⟨f.1, f.2.1, f.2.2.1, fun j h1 h2 z => f.2.2.2.1 j h1 h2 (m _ z), f.2.2.2.2⟩
/-- a part as it is made -/
def newP (S S' : Mem) (a : Nat) (gv so re rs nd : Int32) : Prop := a ∉ mL S ∧ is S' a 5 ∧ mI S' 328 a = 0 ∧ mI S' 320 a = gv ∧ mI S' 321 a = so ∧ mI S' 322 a = re ∧ mI S' 323 a = rs ∧ mI S' 324 a = nd
theorem newP_ch {S S1 S2 : Mem} {a : Nat} {gv so re rs nd : Int32} {AR PR : List Nat} {FO : List (Nat × Nat)} (f : newP S S1 a gv so re rs nd) (c : chg S1 S2 AR PR [] FO) : newP S S2 a gv so re rs nd := by
  obtain ⟨h0, h1, h2, h3, h4, h5, h6, h7⟩ := f
  exact ⟨h0, is_ch c h1, mi_ch c h1 (by simp) h2, mi_ch c h1 (by simp) h3, mi_ch c h1 (by simp) h4, mi_ch c h1 (by simp) h5, mi_ch c h1 (by simp) h6, mi_ch c h1 (by simp) h7⟩
set_option maxRecDepth 100000 in
set_option maxHeartbeats 4000000 in
theorem ft_X1_figureAt (l : Launch) (h : Nat) (t : Int32) (W : Nat → Nat) (nC : Nat) : Ct l yX1_figureAt cX1_figureAt 2 (some (.object "PuppetCast$Figure")) 1 0 0 21 (fun S av => av = [.ref h, .int t] ∧ is S h 1 ∧ (h = W 0) ∧ (fA0 S W nC)) (fun S _ r S' => ∃ v : Option Nat, r = some (va_rf v) ∧ v = fgO W nC t ∧ S' = S) := by
  refine ct_of (by decide) (fun S av h => by obtain ⟨rfl, i_h, hW, hF⟩ := h; exact Nat.le_of_ble_eq_true rfl) ?_
  intro p e s m args below meth c D G bs S av C hr hin hpre
  obtain ⟨rfl, i_h, hW, hF⟩ := hpre
  have o_66 : mO S 66 h = some (W 2) := by rw [hW]; exact hF.1
  have i_fs := hF.2.1
  refine v_iload_n C dX1_figureAt_0 rfl ?_
  refine v_bipush (v := nI 12) C dX1_figureAt_1 (by decide) ?_
  refine v_callSN (As := [_, _]) (n := 2) C (sb_isBelow l _ _) rfl ⟨(by decide +kernel), wd141, wd2, wd142⟩ hy_X9_isBelow rfl ⟨Nat.le_of_ble_eq_true rfl, Nat.le_of_ble_eq_true rfl⟩ (Nat.le_of_ble_eq_true rfl) ⟨Nat.le_of_ble_eq_true rfl, Nat.le_of_ble_eq_true rfl⟩ dX1_figureAt_3 rfl (fun r_3 S2_3 h_3 => ?_)
  obtain ⟨v3, rfl, p_v3, q_v3⟩ := h_3
  obtain rfl := q_v3.symm
  rw [isB_below (n := 12) (by decide)] at p_v3
  refine b_if_eq (tgt := 18) C dX1_figureAt_6 (by decide) (fun c_6 => ?_) (fun c_6 => ?_)
  · skip
    have hb20 : blw t 12 = false := p_v3.symm.trans c_6
    refine v_null C dX1_figureAt_18 ?_
    refine v_aret C hr (Nat.le_of_ble_eq_true rfl) (Nat.le_of_ble_eq_true rfl) dX1_figureAt_19 ?_
    exact ⟨_, rfl, (fgO_none hF.2.2.2.1 hb20).symm, rfl⟩
  · skip
    have hb20 : blw t 12 = true := p_v3.symm.trans c_6
    obtain ⟨k, hk, ek⟩ := below_some (n := 12) hb20
    subst ek
    refine v_aload_n C dX1_figureAt_9 rfl ?_
    refine r1_19 (b := (W 2)) C i_h o_66 dX1_figureAt_10 ?_
    refine v_iload_n C dX1_figureAt_13 rfl ?_
    refine v_aald (t0 := 3) C i_fs (by decide) rfl (vp_in_nI (by omega) (by omega)) dX1_figureAt_14 ?_
    rw [nI_clamp (by omega)]
    obtain ⟨q14, e_q14⟩ : ∃ z, z = mP S (W 2) k := ⟨_, rfl⟩
    rw [← e_q14]
    refine v_goto (tgt := 19) C dX1_figureAt_15 (by decide) ?_
    refine v_aret C hr (Nat.le_of_ble_eq_true rfl) (Nat.le_of_ble_eq_true rfl) dX1_figureAt_19 ?_
    exact ⟨_, rfl, (e_q14.trans ((hF.2.2.2.2 k hk).trans (fgO_nI hF.2.2.2.1 hk).symm)), rfl⟩
set_option maxRecDepth 100000 in
set_option maxHeartbeats 4000000 in
theorem ft_X1_addFigure (l : Launch) (M : Nat → Prop) (h : Nat) (tp : Int32) (W : Nat → Nat) (nC : Nat) : Ct l yX1_addFigure cX1_addFigure 3 (some .int) 3 11 809 65 (fun S av => av = [.ref h, .int tp] ∧ INV M [] S ∧ is S h 1 ∧ (h = W 0) ∧ (fA0 S W nC) ∧ (nC < 12)) (fun S _ r S' => ∃ v : Nat, r = some (.int (nI v)) ∧ v = nC ∧ INV M [] S' ∧ chg S S' [] [W 2] [(67, h)] [] ∧ (∃ a N, a ∉ mL S ∧ newF S S' a N ∧ (∀ i, mP S' (W 2) i = if i = nC then some a else mP S (W 2) i) ∧ mI S' 67 h = nI (nC + 1))) := by
  refine ct_of (by decide) (fun S av h => by obtain ⟨rfl, iv, i_h, hW, hF, hC⟩ := h; exact Nat.le_of_ble_eq_true rfl) ?_
  intro p e s m args below meth c D G bs S av C hr hin hpre
  obtain ⟨rfl, iv, i_h, hW, hF, hC⟩ := hpre
  have ch : chg S S [] [W 2] [(67, h)] [] := ch_rfl
  have o_66 : mO S 66 h = some (W 2) := by rw [hW]; exact hF.1
  have i_fs := hF.2.1
  have i_fs0 := i_fs
  have i_h0 := i_h
  have eC : mI S 67 h = nI nC := by rw [hW]; exact hF.2.2.1
  refine v_aload_n C dX1_addFigure_0 rfl ?_
  refine g1_92 C i_h dX1_addFigure_1 ?_
  refine v_val eC ?_
  refine v_istore_n C dX1_addFigure_4 (by decide) (by first | rfl | exact cat_ok _ | simp [okS, cat_rf]) ?_
  refine v_iload_n C dX1_addFigure_5 rfl ?_
  refine v_bipush (v := nI 12) C dX1_addFigure_6 (by decide) ?_
  refine v_callSN (As := [_, _]) (n := 2) C (sb_isBelow l _ _) rfl ⟨(by decide +kernel), wd141, wd2, wd142⟩ hy_X9_isBelow rfl ⟨Nat.le_of_ble_eq_true rfl, Nat.le_of_ble_eq_true rfl⟩ (Nat.le_of_ble_eq_true rfl) ⟨Nat.le_of_ble_eq_true rfl, Nat.le_of_ble_eq_true rfl⟩ dX1_addFigure_8 rfl (fun r_8 S2_8 h_8 => ?_)
  obtain ⟨v8, rfl, p_v8, q_v8⟩ := h_8
  obtain rfl := q_v8.symm
  rw [isB_nI (by omega) (by decide)] at p_v8
  refine b_if_eq (tgt := 39) C dX1_addFigure_11 (by decide) (fun c_11 => ?_) (fun c_11 => ?_)
  · skip
    exact absurd hC (of_decide_eq_false (p_v8.symm.trans c_11))
  · skip
    refine v_aload_n C dX1_addFigure_14 rfl ?_
    refine r1_19 (b := (W 2)) C i_h o_66 dX1_addFigure_15 ?_
    refine v_iload_n C dX1_addFigure_18 rfl ?_
    refine v_new C (ci := 2) (by decide) rfl inlX2 tyX2_ok wd27 wd270 wd271 nfX2 (Nat.le_of_ble_eq_true rfl) (Nat.le_of_ble_eq_true rfl) dX1_addFigure_19 (fun a19 n_a19 => ?_)
    have nn_a19 : a19 ∉ mL S := fun z => n_a19 (ch.1 a19 z).1
    refine V.gen (fun S4_19 e_19 => ?_)
    have x_19 := x_sNew e_19 n_a19
    have iv := inv_sNew e_19 iv n_a19 (by decide)
    have ch := ch_sNew e_19 ch n_a19
    have o_66 := mo_sNewx e_19 (ne_of_is  n_a19 i_h) o_66
    have i_h := is_ext x_19 i_h
    have i_fs := isA_ext x_19 i_fs
    have i_a19 := is_sNewE e_19 n_a19
    have z_a19 := mI_newE e_19
    have zo_a19 := mO_newE e_19
    refine v_dup C dX1_addFigure_22 rfl ?_
    refine v_iload_n C dX1_addFigure_23 rfl ?_
    refine v_iload_n C dX1_addFigure_24 rfl ?_
    refine v_callI (As := [_, _]) (n := 2) C (ft_X2_init l M _ _ _ _) rfl ⟨wd272, wd273, wd271, wd274⟩ rfl hy_X2_init rfl ⟨Nat.le_of_ble_eq_true rfl, Nat.le_of_ble_eq_true rfl⟩ (Nat.le_of_ble_eq_true rfl) ⟨Nat.le_of_ble_eq_true rfl, Nat.le_of_ble_eq_true rfl⟩ dX1_addFigure_25 ⟨rfl, iv, i_a19, (fun g => z_a19 g)⟩ (fun r_25 S4_25 h_25 => ?_)
    obtain ⟨rfl, iv', ch_25, r_v25⟩ := h_25
    have mls : ∀ z, z ∈ mL S → z ∈ mL S4_19 := fun z hz => (ch.1 z hz).1
    have iv := iv'
    clear iv'
    have ch := ch_trn ch ch_25 ⟨by simp, by simp, fun q hq => Or.inr (by simp at hq; rcases hq with rfl | rfl <;> exact nn_a19), fun q hq => Or.inr (by simp at hq; rcases hq with rfl | rfl | rfl | rfl | rfl | rfl | rfl | rfl <;> exact nn_a19)⟩
    have o_66 := mo_ch ch_25 i_h (by first | decide | simp) o_66
    have i_h := is_ch ch_25 i_h
    have i_fs := isA_ch ch_25 i_fs
    have i_a19 := is_ch ch_25 i_a19
    have c0 : chg S S4_25 [] [] [] [] := ch_trn (ch_sNew e_19 ch_rfl n_a19) ch_25 ⟨by simp, by simp, fun q hq => Or.inr (by simp at hq; rcases hq with rfl | rfl <;> exact nn_a19), fun q hq => Or.inr (by simp at hq; rcases hq with rfl | rfl | rfl | rfl | rfl | rfl | rfl | rfl <;> exact nn_a19)⟩
    have eC2 := mi_ch c0 i_h0 (by simp) eC
    refine v_aast (t0 := 3) C i_fs (by decide) i_a19 (by decide) rfl rfl (vp_in_nI (by omega) (by omega)) dX1_addFigure_28 ?_
    rw [nI_clamp (by omega)]
    refine V.gen (fun S4_28 e_28 => ?_)
    have x_28 := x_sP e_28
    have iv := inv_sP e_28 iv i_fs.2.1 (by decide) (nOK_is i_a19)
    have ch := ch_sP e_28 ch (by simp)
    have o_66 := mo_sPy e_28 o_66
    have i_h := is_ext x_28 i_h
    have i_fs := isA_ext x_28 i_fs
    have i_a19 := is_ext x_28 i_a19
    refine v_aload_n C dX1_addFigure_29 rfl ?_
    refine v_dup C dX1_addFigure_30 rfl ?_
    refine g1_92 C i_h dX1_addFigure_31 ?_
    refine v_val (mi_sPy e_28 eC2) ?_
    refine v_iconst (v := nI 1) C dX1_addFigure_34 (by decide) ?_
    refine n_iadd C dX1_addFigure_35 ?_
    refine p1_92 C i_h dX1_addFigure_36 ?_
    refine V.gen (fun S4_36 e_36 => ?_)
    have x_36 := x_sI e_36
    have iv := inv_sI e_36 iv (by decide) (by decide)
    have ch := ch_sI e_36 ch (by simp)
    have o_66 := mo_sIy e_36 o_66
    have i_h := is_ext x_36 i_h
    have i_fs := isA_ext x_36 i_fs
    have i_a19 := is_ext x_36 i_a19
    refine v_iload_n C dX1_addFigure_39 rfl ?_
    refine v_iret C hr (Nat.le_of_ble_eq_true rfl) (Nat.le_of_ble_eq_true rfl) dX1_addFigure_40 ?_
    exact ⟨_, rfl, (rfl), iv, ch, ((by
       obtain ⟨N, fN_⟩ := r_v25
       refine ⟨a19, N, nn_a19, newF_ch (newF_S mls fN_) (ch_sI e_36 (ch_sP e_28 (ch_rfl (AR := []) (PR := [W 2]) (FI := [(67, h)]) (FO := [])) (by simp)) (by simp)) (isA_ch c0 i_fs0), fun i => ?_, by rw [e_36, mI_sI, if_pos ⟨rfl, rfl⟩]⟩
       rw [e_36, mP_sI, e_28, mP_sP, mp_ch c0 i_fs0 (by simp)]; simp))⟩
set_option maxRecDepth 100000 in
set_option maxHeartbeats 4000000 in
theorem ft_X9_character (l : Launch) (M : Nat → Prop) (h : Nat) (tp : Int32) (W : Nat → Nat) (nC : Nat) : Ct l yX9_character cX9_character 2 (some .int) 4 11 809 87 (fun S av => av = [.ref h, .int tp] ∧ INV M [] S ∧ is S h 9 ∧ (mO S 576 h = some (W 0)) ∧ (is S (W 0) 1) ∧ (fA0 S W nC)) (fun S _ r S' => ∃ v : Int32, r = some (.int v) ∧ INV M [] S' ∧ chg S S' [] [W 2] [(67, W 0)] [] ∧ ((blw tp 4 = false ∧ v = -2 ∧ S' = S) ∨ (blw tp 4 = true ∧ nC = 12 ∧ v = -4 ∧ S' = S) ∨ (blw tp 4 = true ∧ nC < 12 ∧ v = nI nC ∧ ∃ a N, a ∉ mL S ∧ newF S S' a N ∧ (∀ i, mP S' (W 2) i = if i = nC then some a else mP S (W 2) i) ∧ mI S' 67 (W 0) = nI (nC + 1)))) := by
  refine ct_of (by decide) (fun S av h => by obtain ⟨rfl, iv, i_h, hc, i_cm, hF⟩ := h; exact Nat.le_of_ble_eq_true rfl) ?_
  intro p e s m args below meth c D G bs S av C hr hin hpre
  obtain ⟨rfl, iv, i_h, hc, i_cm, hF⟩ := hpre
  have ch : chg S S [] [W 2] [(67, W 0)] [] := ch_rfl
  have eC := hF.2.2.1
  have h12_ := hF.2.2.2.1
  refine v_iload_n C dX9_character_0 rfl ?_
  refine v_iconst (v := nI 4) C dX9_character_1 (by decide) ?_
  refine v_callS (As := [_, _]) (n := 2) C (sb_isBelow l _ _) rfl ⟨wd264, wd141, wd2, wd142⟩ hy_X9_isBelow rfl ⟨Nat.le_of_ble_eq_true rfl, Nat.le_of_ble_eq_true rfl⟩ (Nat.le_of_ble_eq_true rfl) ⟨Nat.le_of_ble_eq_true rfl, Nat.le_of_ble_eq_true rfl⟩ dX9_character_2 rfl (fun r_2 S2_2 h_2 => ?_)
  obtain ⟨v2, rfl, p_v2, q_v2⟩ := h_2
  obtain rfl := q_v2.symm
  rw [isB_below (n := 4) (by decide)] at p_v2
  refine b_if_ne (tgt := 11) C dX9_character_5 (by decide) (fun c_5 => ?_) (fun c_5 => ?_)
  · skip
    refine v_aload_n C dX9_character_11 rfl ?_
    refine r9_10 (b := (W 0)) C i_h hc dX9_character_12 ?_
    refine g9_48 C i_cm dX9_character_15 ?_
    refine v_val eC ?_
    refine v_bipush (v := nI 12) C dX9_character_18 (by decide) ?_
    refine n_icmp_lt (tgt := 28) C (by omega) (by omega) dX9_character_20 (by decide) (fun c_20 => ?_) (fun c_20 => ?_)
    · skip
      refine v_aload_n C dX9_character_28 rfl ?_
      refine r9_10 (b := (W 0)) C i_h hc dX9_character_29 ?_
      refine v_iload_n C dX9_character_32 rfl ?_
      refine v_callV (As := [_]) (n := 1) C (ft_X1_addFigure l M _ _ W nC) rfl i_cm (by decide) rfl ⟨wd265, wd266, wd267, wd15, wd268⟩ ⟨rfl, hy_X1_addFigure⟩ rfl ⟨Nat.le_of_ble_eq_true rfl, Nat.le_of_ble_eq_true rfl⟩ (Nat.le_of_ble_eq_true rfl) ⟨Nat.le_of_ble_eq_true rfl, Nat.le_of_ble_eq_true rfl⟩ dX9_character_33 ⟨rfl, iv, i_cm, rfl, hF, c_20⟩ (fun r_33 S6_33 h_33 => ?_)
      obtain ⟨v33, rfl, p_v33, iv', ch_33, r_v33⟩ := h_33
      have iv := iv'
      clear iv'
      have ch := ch_tr ch ch_33 (by simp)
      have hc := mo_ch ch_33 i_h (by first | decide | simp) hc
      have i_h := is_ch ch_33 i_h
      have i_cm := is_ch ch_33 i_cm
      refine v_iret C hr (Nat.le_of_ble_eq_true rfl) (Nat.le_of_ble_eq_true rfl) dX9_character_36 ?_
      exact ⟨_, rfl, iv, ch, (Or.inr (Or.inr ⟨p_v2.symm.trans c_5, c_20, by rw [p_v33], r_v33⟩))⟩
    · skip
      have h12 := hF.2.2.2.1
      refine v_bipush (v := -4) C dX9_character_23 (by decide) ?_
      refine v_goto (tgt := 36) C dX9_character_25 (by decide) ?_
      refine v_iret C hr (Nat.le_of_ble_eq_true rfl) (Nat.le_of_ble_eq_true rfl) dX9_character_36 ?_
      exact ⟨_, rfl, iv, ch, (Or.inr (Or.inl ⟨p_v2.symm.trans c_5, by omega, rfl, rfl⟩))⟩
  · skip
    refine v_bipush (v := -2) C dX9_character_8 (by decide) ?_
    refine v_iret C hr (Nat.le_of_ble_eq_true rfl) (Nat.le_of_ble_eq_true rfl) dX9_character_10 ?_
    exact ⟨_, rfl, iv, ch, (Or.inl ⟨p_v2.symm.trans c_5, rfl, rfl⟩)⟩
set_option maxRecDepth 100000 in
set_option maxHeartbeats 4000000 in
theorem ft_X5_init (l : Launch) (M : Nat → Prop) (E : List Nat) (h : Nat) (gv : Int32) (so : Int32) (re : Int32) (rs : Int32) (nd : Int32) : Ct l yX5_init cX5_init 6 none 1 3 24 14 (fun S av => av = [.ref h, .int gv, .int so, .int re, .int rs, .int nd] ∧ INV M (h :: E) S ∧ is S h 5 ∧ (mI S 328 h = 0) ∧ ((nd = 0 ∨ nd = 1))) (fun S _ r S' => r = none ∧ INV M E S' ∧ chg S S' [] [] [(320, h), (321, h), (322, h), (323, h), (324, h)] [(325, h), (326, h), (327, h)] ∧ (mI S' 328 h = 0 ∧ mI S' 320 h = gv ∧ mI S' 321 h = so ∧ mI S' 322 h = re ∧ mI S' 323 h = rs ∧ mI S' 324 h = nd)) := by
  refine ct_of (by decide) (fun S av h => by obtain ⟨rfl, iv, i_h, hz, hn⟩ := h; exact Nat.le_of_ble_eq_true rfl) ?_
  intro p e s m args below meth c D G bs S av C hr hin hpre
  obtain ⟨rfl, iv, i_h, hz, hn⟩ := hpre
  have ch : chg S S [] [] [(320, h), (321, h), (322, h), (323, h), (324, h)] [(325, h), (326, h), (327, h)] := ch_rfl
  have i_h0 := i_h
  refine v_aload_n C dX5_init_0 rfl ?_
  refine v_objInit C wd351 wd11 wd12 dX5_init_1 (Nat.le_of_ble_eq_true rfl) (Nat.le_of_ble_eq_true rfl) ?_
  refine v_aload_n C dX5_init_4 rfl ?_
  refine v_bipush (v := nI 8) C dX5_init_5 (by decide) ?_
  refine v_newarr C (kd := 11) (N := 8) wd42 rfl (t0 := 0) rfl (by decide) (fun _ => cell_newI (Or.inl rfl)) (fun _ => vp_cell_i _ _ _) (by decide) (by decide) (Nat.le_of_ble_eq_true rfl) (Nat.le_of_ble_eq_true rfl) (Nat.le_of_ble_eq_true rfl) dX5_init_7 (fun a7 n_a7 => ?_)
  have nn_a7 : a7 ∉ mL S := fun z => n_a7 (ch.1 a7 z).1
  have m_a7 := inv_new iv n_a7
  refine V.gen (fun S2_7 e_7 => ?_)
  have x_7 := x_sArr e_7 n_a7
  have iv := inv_sArr e_7 iv n_a7 (by decide)
  have ch := ch_sArr e_7 ch n_a7
  have i_h := is_ext x_7 i_h
  have i_a7 := isA_sArrE e_7 n_a7
  refine p5_9 (v := some _) C i_h (hin rfl) dX5_init_9 ?_
  refine V.gen (fun S2_9 e_9 => ?_)
  have x_9 := x_sO e_9
  have iv := inv_sO e_9 iv (Or.inl List.mem_cons_self)
  have ch := ch_sO e_9 ch (by simp)
  have i_h := is_ext x_9 i_h
  have i_a7 := isA_ext x_9 i_a7
  have o_325 := mo_put e_9
  refine v_aload_n C dX5_init_12 rfl ?_
  refine v_bipush (v := nI 8) C dX5_init_13 (by decide) ?_
  refine v_newarr C (kd := 11) (N := 8) wd42 rfl (t0 := 0) rfl (by decide) (fun _ => cell_newI (Or.inl rfl)) (fun _ => vp_cell_i _ _ _) (by decide) (by decide) (Nat.le_of_ble_eq_true rfl) (Nat.le_of_ble_eq_true rfl) (Nat.le_of_ble_eq_true rfl) dX5_init_15 (fun a15 n_a15 => ?_)
  have nn_a15 : a15 ∉ mL S := fun z => n_a15 (ch.1 a15 z).1
  have m_a15 := inv_new iv n_a15
  refine V.gen (fun S2_15 e_15 => ?_)
  have x_15 := x_sArr e_15 n_a15
  have iv := inv_sArr e_15 iv n_a15 (by decide)
  have ch := ch_sArr e_15 ch n_a15
  have o_325 := mo_sArry e_15 o_325
  have i_h := is_ext x_15 i_h
  have i_a7 := isA_ext x_15 i_a7
  have i_a15 := isA_sArrE e_15 n_a15
  refine p5_15 (v := some _) C i_h (hin rfl) dX5_init_17 ?_
  refine V.gen (fun S2_17 e_17 => ?_)
  have x_17 := x_sO e_17
  have iv := inv_sO e_17 iv (Or.inl List.mem_cons_self)
  have ch := ch_sO e_17 ch (by simp)
  have o_325 := mo_sOx e_17 (Or.inl (by decide)) o_325
  have i_h := is_ext x_17 i_h
  have i_a7 := isA_ext x_17 i_a7
  have i_a15 := isA_ext x_17 i_a15
  have o_326 := mo_put e_17
  refine v_aload_n C dX5_init_20 rfl ?_
  refine v_bipush (v := nI 8) C dX5_init_21 (by decide) ?_
  refine v_newarr C (kd := 11) (N := 8) wd42 rfl (t0 := 0) rfl (by decide) (fun _ => cell_newI (Or.inl rfl)) (fun _ => vp_cell_i _ _ _) (by decide) (by decide) (Nat.le_of_ble_eq_true rfl) (Nat.le_of_ble_eq_true rfl) (Nat.le_of_ble_eq_true rfl) dX5_init_23 (fun a23 n_a23 => ?_)
  have nn_a23 : a23 ∉ mL S := fun z => n_a23 (ch.1 a23 z).1
  have m_a23 := inv_new iv n_a23
  refine V.gen (fun S2_23 e_23 => ?_)
  have x_23 := x_sArr e_23 n_a23
  have iv := inv_sArr e_23 iv n_a23 (by decide)
  have ch := ch_sArr e_23 ch n_a23
  have o_325 := mo_sArry e_23 o_325
  have o_326 := mo_sArry e_23 o_326
  have i_h := is_ext x_23 i_h
  have i_a7 := isA_ext x_23 i_a7
  have i_a15 := isA_ext x_23 i_a15
  have i_a23 := isA_sArrE e_23 n_a23
  refine p5_18 (v := some _) C i_h (hin rfl) dX5_init_25 ?_
  refine V.gen (fun S2_25 e_25 => ?_)
  have x_25 := x_sO e_25
  have iv := inv_sO e_25 iv (Or.inl List.mem_cons_self)
  have ch := ch_sO e_25 ch (by simp)
  have o_325 := mo_sOx e_25 (Or.inl (by decide)) o_325
  have o_326 := mo_sOx e_25 (Or.inl (by decide)) o_326
  have i_h := is_ext x_25 i_h
  have i_a7 := isA_ext x_25 i_a7
  have i_a15 := isA_ext x_25 i_a15
  have i_a23 := isA_ext x_25 i_a23
  have o_327 := mo_put e_25
  refine v_aload_n C dX5_init_28 rfl ?_
  refine v_iload_n C dX5_init_29 rfl ?_
  refine p5_21 C i_h (hin rfl) dX5_init_30 ?_
  refine V.gen (fun S2_30 e_30 => ?_)
  have x_30 := x_sI e_30
  have iv := inv_sI e_30 iv (by decide) (by decide)
  have ch := ch_sI e_30 ch (by simp)
  have o_325 := mo_sIy e_30 o_325
  have o_326 := mo_sIy e_30 o_326
  have o_327 := mo_sIy e_30 o_327
  have i_h := is_ext x_30 i_h
  have i_a7 := isA_ext x_30 i_a7
  have i_a15 := isA_ext x_30 i_a15
  have i_a23 := isA_ext x_30 i_a23
  refine v_aload_n C dX5_init_33 rfl ?_
  refine v_iload_n C dX5_init_34 rfl ?_
  refine p5_25 C i_h (hin rfl) dX5_init_35 ?_
  refine V.gen (fun S2_35 e_35 => ?_)
  have x_35 := x_sI e_35
  have iv := inv_sI e_35 iv (by decide) (by decide)
  have ch := ch_sI e_35 ch (by simp)
  have o_325 := mo_sIy e_35 o_325
  have o_326 := mo_sIy e_35 o_326
  have o_327 := mo_sIy e_35 o_327
  have i_h := is_ext x_35 i_h
  have i_a7 := isA_ext x_35 i_a7
  have i_a15 := isA_ext x_35 i_a15
  have i_a23 := isA_ext x_35 i_a23
  refine v_aload_n C dX5_init_38 rfl ?_
  refine v_iload_n C dX5_init_39 rfl ?_
  refine p5_28 C i_h (hin rfl) dX5_init_40 ?_
  refine V.gen (fun S2_40 e_40 => ?_)
  have x_40 := x_sI e_40
  have iv := inv_sI e_40 iv (by decide) (by decide)
  have ch := ch_sI e_40 ch (by simp)
  have o_325 := mo_sIy e_40 o_325
  have o_326 := mo_sIy e_40 o_326
  have o_327 := mo_sIy e_40 o_327
  have i_h := is_ext x_40 i_h
  have i_a7 := isA_ext x_40 i_a7
  have i_a15 := isA_ext x_40 i_a15
  have i_a23 := isA_ext x_40 i_a23
  refine v_aload_n C dX5_init_43 rfl ?_
  refine v_iload C dX5_init_44 rfl ?_
  refine p5_31 C i_h (hin rfl) dX5_init_46 ?_
  refine V.gen (fun S2_46 e_46 => ?_)
  have x_46 := x_sI e_46
  have iv := inv_sI e_46 iv (by decide) (by decide)
  have ch := ch_sI e_46 ch (by simp)
  have o_325 := mo_sIy e_46 o_325
  have o_326 := mo_sIy e_46 o_326
  have o_327 := mo_sIy e_46 o_327
  have i_h := is_ext x_46 i_h
  have i_a7 := isA_ext x_46 i_a7
  have i_a15 := isA_ext x_46 i_a15
  have i_a23 := isA_ext x_46 i_a23
  refine v_aload_n C dX5_init_49 rfl ?_
  refine v_iload C dX5_init_50 rfl ?_
  refine p5_34 C i_h (hin rfl) (by rcases hn with rfl | rfl <;> decide) dX5_init_52 ?_
  refine V.gen (fun S2_52 e_52 => ?_)
  have x_52 := x_sI e_52
  have iv := inv_sI e_52 iv (by decide) (by decide)
  have ch := ch_sI e_52 ch (by simp)
  have o_325 := mo_sIy e_52 o_325
  have o_326 := mo_sIy e_52 o_326
  have o_327 := mo_sIy e_52 o_327
  have i_h := is_ext x_52 i_h
  have i_a7 := isA_ext x_52 i_a7
  have i_a15 := isA_ext x_52 i_a15
  have i_a23 := isA_ext x_52 i_a23
  refine v_vret C hr (Nat.le_of_ble_eq_true rfl) (Nat.le_of_ble_eq_true rfl) dX5_init_55 ?_
  have iv := inv_done iv i_h.2 (fun q hq hc => by
    rcases FT_c5 q hq hc with rfl | rfl | rfl
    · exact Or.inr ⟨_, o_325, Or.inr ⟨by decide, i_a7, m_a7⟩⟩
    · exact Or.inr ⟨_, o_326, Or.inr ⟨by decide, i_a15, m_a15⟩⟩
    · exact Or.inr ⟨_, o_327, Or.inr ⟨by decide, i_a23, m_a23⟩⟩) (fun z => by cases z) (fun z => by cases z)
  exact ⟨rfl, iv, ch, (⟨mi_ch ch i_h0 (by simp) hz, (by rw [e_52, mI_sI, if_neg (by simp)]; rw [e_46, mI_sI, if_neg (by simp)]; rw [e_40, mI_sI, if_neg (by simp)]; rw [e_35, mI_sI, if_neg (by simp)]; rw [e_30, mI_sI, if_pos ⟨rfl, rfl⟩]), (by rw [e_52, mI_sI, if_neg (by simp)]; rw [e_46, mI_sI, if_neg (by simp)]; rw [e_40, mI_sI, if_neg (by simp)]; rw [e_35, mI_sI, if_pos ⟨rfl, rfl⟩]), (by rw [e_52, mI_sI, if_neg (by simp)]; rw [e_46, mI_sI, if_neg (by simp)]; rw [e_40, mI_sI, if_pos ⟨rfl, rfl⟩]), (by rw [e_52, mI_sI, if_neg (by simp)]; rw [e_46, mI_sI, if_pos ⟨rfl, rfl⟩]), (by rw [e_52, mI_sI, if_pos ⟨rfl, rfl⟩])⟩)⟩
set_option maxRecDepth 100000 in
set_option maxHeartbeats 4000000 in
theorem ft_X8_setBody (l : Launch) (M : Nat → Prop) (h : Nat) (j : Nat) (pa : Nat) (bo : Nat) : Ct l yX8_setBody cX8_setBody 3 none 1 0 0 21 (fun S av => av = [.ref h, .int (nI j), .ref pa] ∧ INV M [] S ∧ is S h 8 ∧ is S pa 5 ∧ (j < 12) ∧ (mO S 513 h = some bo ∧ isA S bo 16 12)) (fun S _ r S' => r = none ∧ INV M [] S' ∧ chg S S' [] [bo] [] [] ∧ (∀ i, mP S' bo i = if i = j then some pa else mP S bo i)) := by
  refine ct_of (by decide) (fun S av h => by obtain ⟨rfl, iv, i_h, i_pa, hj, hb⟩ := h; exact Nat.le_of_ble_eq_true rfl) ?_
  intro p e s m args below meth c D G bs S av C hr hin hpre
  obtain ⟨rfl, iv, i_h, i_pa, hj, hb⟩ := hpre
  have ch : chg S S [] [bo] [] [] := ch_rfl
  obtain ⟨o_bo, i_bo⟩ := hb
  refine v_iload_n C dX8_setBody_0 rfl ?_
  refine v_bipush (v := nI 12) C dX8_setBody_1 (by decide) ?_
  refine v_callSN (As := [_, _]) (n := 2) C (sb_isBelow l _ _) rfl ⟨(by decide +kernel), wd141, wd2, wd142⟩ hy_X9_isBelow rfl ⟨Nat.le_of_ble_eq_true rfl, Nat.le_of_ble_eq_true rfl⟩ (Nat.le_of_ble_eq_true rfl) ⟨Nat.le_of_ble_eq_true rfl, Nat.le_of_ble_eq_true rfl⟩ dX8_setBody_3 rfl (fun r_3 S2_3 h_3 => ?_)
  obtain ⟨v3, rfl, p_v3, q_v3⟩ := h_3
  obtain rfl := q_v3.symm
  rw [isB_nI (by omega) (by decide)] at p_v3
  refine b_if_eq (tgt := 16) C dX8_setBody_6 (by decide) (fun c_6 => ?_) (fun c_6 => ?_)
  · skip
    exact absurd hj (of_decide_eq_false (p_v3.symm.trans c_6))
  · skip
    refine v_aload_n C dX8_setBody_9 rfl ?_
    refine r8_20 (b := bo) C i_h o_bo dX8_setBody_10 ?_
    refine v_iload_n C dX8_setBody_13 rfl ?_
    refine v_aload_n C dX8_setBody_14 rfl ?_
    refine v_aast (t0 := 5) C i_bo (by decide) i_pa (by decide) rfl rfl (vp_in_nI (by omega) (by omega)) dX8_setBody_15 ?_
    rw [nI_clamp (by omega)]
    refine V.gen (fun S4_15 e_15 => ?_)
    have x_15 := x_sP e_15
    have iv := inv_sP e_15 iv i_bo.2.1 (by decide) (nOK_is i_pa)
    have ch := ch_sP e_15 ch (by simp)
    have o_bo := mo_sPy e_15 o_bo
    have i_h := is_ext x_15 i_h
    have i_pa := is_ext x_15 i_pa
    have i_bo := isA_ext x_15 i_bo
    refine v_vret C hr (Nat.le_of_ble_eq_true rfl) (Nat.le_of_ble_eq_true rfl) dX8_setBody_16 ?_
    exact ⟨rfl, iv, ch, ((fun i => by rw [e_15, mP_sP]; simp))⟩
set_option maxRecDepth 100000 in
set_option maxHeartbeats 4000000 in
theorem ft_X8_setGuard (l : Launch) (M : Nat → Prop) (h : Nat) (j : Nat) (pa : Nat) (bo : Nat) : Ct l yX8_setGuard cX8_setGuard 3 none 1 0 0 21 (fun S av => av = [.ref h, .int (nI j), .ref pa] ∧ INV M [] S ∧ is S h 8 ∧ is S pa 5 ∧ (j < 12) ∧ (mO S 514 h = some bo ∧ isA S bo 16 12)) (fun S _ r S' => r = none ∧ INV M [] S' ∧ chg S S' [] [bo] [] [] ∧ (∀ i, mP S' bo i = if i = j then some pa else mP S bo i)) := by
  refine ct_of (by decide) (fun S av h => by obtain ⟨rfl, iv, i_h, i_pa, hj, hb⟩ := h; exact Nat.le_of_ble_eq_true rfl) ?_
  intro p e s m args below meth c D G bs S av C hr hin hpre
  obtain ⟨rfl, iv, i_h, i_pa, hj, hb⟩ := hpre
  have ch : chg S S [] [bo] [] [] := ch_rfl
  obtain ⟨o_bo, i_bo⟩ := hb
  refine v_iload_n C dX8_setGuard_0 rfl ?_
  refine v_bipush (v := nI 12) C dX8_setGuard_1 (by decide) ?_
  refine v_callSN (As := [_, _]) (n := 2) C (sb_isBelow l _ _) rfl ⟨(by decide +kernel), wd141, wd2, wd142⟩ hy_X9_isBelow rfl ⟨Nat.le_of_ble_eq_true rfl, Nat.le_of_ble_eq_true rfl⟩ (Nat.le_of_ble_eq_true rfl) ⟨Nat.le_of_ble_eq_true rfl, Nat.le_of_ble_eq_true rfl⟩ dX8_setGuard_3 rfl (fun r_3 S2_3 h_3 => ?_)
  obtain ⟨v3, rfl, p_v3, q_v3⟩ := h_3
  obtain rfl := q_v3.symm
  rw [isB_nI (by omega) (by decide)] at p_v3
  refine b_if_eq (tgt := 16) C dX8_setGuard_6 (by decide) (fun c_6 => ?_) (fun c_6 => ?_)
  · skip
    exact absurd hj (of_decide_eq_false (p_v3.symm.trans c_6))
  · skip
    refine v_aload_n C dX8_setGuard_9 rfl ?_
    refine r8_24 (b := bo) C i_h o_bo dX8_setGuard_10 ?_
    refine v_iload_n C dX8_setGuard_13 rfl ?_
    refine v_aload_n C dX8_setGuard_14 rfl ?_
    refine v_aast (t0 := 5) C i_bo (by decide) i_pa (by decide) rfl rfl (vp_in_nI (by omega) (by omega)) dX8_setGuard_15 ?_
    rw [nI_clamp (by omega)]
    refine V.gen (fun S4_15 e_15 => ?_)
    have x_15 := x_sP e_15
    have iv := inv_sP e_15 iv i_bo.2.1 (by decide) (nOK_is i_pa)
    have ch := ch_sP e_15 ch (by simp)
    have o_bo := mo_sPy e_15 o_bo
    have i_h := is_ext x_15 i_h
    have i_pa := is_ext x_15 i_pa
    have i_bo := isA_ext x_15 i_bo
    refine v_vret C hr (Nat.le_of_ble_eq_true rfl) (Nat.le_of_ble_eq_true rfl) dX8_setGuard_16 ?_
    exact ⟨rfl, iv, ch, ((fun i => by rw [e_15, mP_sP]; simp))⟩
set_option maxRecDepth 100000 in
set_option maxHeartbeats 4000000 in
theorem ft_X2_setOwnBody (l : Launch) (M : Nat → Prop) (h : Nat) (j : Nat) (pa : Nat) (bo : Nat) : Ct l yX2_setOwnBody cX2_setOwnBody 3 none 1 0 0 21 (fun S av => av = [.ref h, .int (nI j), .ref pa] ∧ INV M [] S ∧ is S h 2 ∧ is S pa 5 ∧ (j < 12) ∧ (mO S 133 h = some bo ∧ isA S bo 16 12)) (fun S _ r S' => r = none ∧ INV M [] S' ∧ chg S S' [] [bo] [] [] ∧ (∀ i, mP S' bo i = if i = j then some pa else mP S bo i)) := by
  refine ct_of (by decide) (fun S av h => by obtain ⟨rfl, iv, i_h, i_pa, hj, hb⟩ := h; exact Nat.le_of_ble_eq_true rfl) ?_
  intro p e s m args below meth c D G bs S av C hr hin hpre
  obtain ⟨rfl, iv, i_h, i_pa, hj, hb⟩ := hpre
  have ch : chg S S [] [bo] [] [] := ch_rfl
  obtain ⟨o_bo, i_bo⟩ := hb
  refine v_iload_n C dX2_setOwnBody_0 rfl ?_
  refine v_bipush (v := nI 12) C dX2_setOwnBody_1 (by decide) ?_
  refine v_callSN (As := [_, _]) (n := 2) C (sb_isBelow l _ _) rfl ⟨(by decide +kernel), wd141, wd2, wd142⟩ hy_X9_isBelow rfl ⟨Nat.le_of_ble_eq_true rfl, Nat.le_of_ble_eq_true rfl⟩ (Nat.le_of_ble_eq_true rfl) ⟨Nat.le_of_ble_eq_true rfl, Nat.le_of_ble_eq_true rfl⟩ dX2_setOwnBody_3 rfl (fun r_3 S2_3 h_3 => ?_)
  obtain ⟨v3, rfl, p_v3, q_v3⟩ := h_3
  obtain rfl := q_v3.symm
  rw [isB_nI (by omega) (by decide)] at p_v3
  refine b_if_eq (tgt := 16) C dX2_setOwnBody_6 (by decide) (fun c_6 => ?_) (fun c_6 => ?_)
  · skip
    exact absurd hj (of_decide_eq_false (p_v3.symm.trans c_6))
  · skip
    refine v_aload_n C dX2_setOwnBody_9 rfl ?_
    refine r2_24 (b := bo) C i_h o_bo dX2_setOwnBody_10 ?_
    refine v_iload_n C dX2_setOwnBody_13 rfl ?_
    refine v_aload_n C dX2_setOwnBody_14 rfl ?_
    refine v_aast (t0 := 5) C i_bo (by decide) i_pa (by decide) rfl rfl (vp_in_nI (by omega) (by omega)) dX2_setOwnBody_15 ?_
    rw [nI_clamp (by omega)]
    refine V.gen (fun S4_15 e_15 => ?_)
    have x_15 := x_sP e_15
    have iv := inv_sP e_15 iv i_bo.2.1 (by decide) (nOK_is i_pa)
    have ch := ch_sP e_15 ch (by simp)
    have o_bo := mo_sPy e_15 o_bo
    have i_h := is_ext x_15 i_h
    have i_pa := is_ext x_15 i_pa
    have i_bo := isA_ext x_15 i_bo
    refine v_vret C hr (Nat.le_of_ble_eq_true rfl) (Nat.le_of_ble_eq_true rfl) dX2_setOwnBody_16 ?_
    exact ⟨rfl, iv, ch, ((fun i => by rw [e_15, mP_sP]; simp))⟩
set_option maxRecDepth 100000 in
set_option maxHeartbeats 4000000 in
theorem ft_X9_body (l : Launch) (M : Nat → Prop) (h : Nat) (t : Int32) (ac : Int32) (re : Int32) (rs : Int32) (W : Nat → Nat) (nT : Nat) (LT : Nat → List Nat) (pt : Nat → Option Nat) : Ct l yX9_body cX9_body 6 (some .int) 2 4 33 43 (fun S av => av = [.ref h, .int t, .int ac, .int re, .int rs] ∧ INV M [] S ∧ is S h 9 ∧ (mO S 576 h = some (W 0)) ∧ (trS S (W 0) nT (aA W) LT) ∧ (all1 (bR1 S W pt) nT)) (fun S _ r S' => ∃ v : Int32, r = some (.int v) ∧ INV M [] S' ∧ chg S S' [] [W (6 * t.toNatClampNeg + 104)] [] [(578, h)] ∧ (((blw t nT && blw ac 12 && blw re 3 && blw rs 4) = false ∧ v = -2 ∧ S' = S) ∨ (∃ k j a, k < nT ∧ j < 12 ∧ t = nI k ∧ ac = nI j ∧ blw re 3 = true ∧ blw rs 4 = true ∧ v = 1 ∧ newP S S' a t (-1) re rs 0 ∧ (∀ i, mP S' (W (6 * k + 104)) i = if i = j then some a else mP S (W (6 * k + 104)) i) ∧ mO S' 578 h = some a))) := by
  refine ct_of (by decide) (fun S av h => by obtain ⟨rfl, iv, i_h, hc, hT, hB⟩ := h; exact Nat.le_of_ble_eq_true rfl) ?_
  intro p e s m args below meth c D G bs S av C hr hin hpre
  obtain ⟨rfl, iv, i_h, hc, hT, hB⟩ := hpre
  have ch : chg S S [] [W (6 * t.toNatClampNeg + 104)] [] [(578, h)] := ch_rfl
  have i_cm := hT.1
  obtain ⟨_, _, _, _, hT20, _, _, htr⟩ := id hT
  refine v_aload_n C dX9_body_0 rfl ?_
  refine r9_10 (b := (W 0)) C i_h hc dX9_body_1 ?_
  refine v_iload_n C dX9_body_4 rfl ?_
  refine v_callV (As := [_]) (n := 1) C (ft_X1_traitAt l _ _ nT (aA W) LT) rfl i_cm (by decide) rfl ⟨wd304, wd138, wd139, wd15, wd140⟩ ⟨rfl, hy_X1_traitAt⟩ rfl ⟨Nat.le_of_ble_eq_true rfl, Nat.le_of_ble_eq_true rfl⟩ (Nat.le_of_ble_eq_true rfl) ⟨Nat.le_of_ble_eq_true rfl, Nat.le_of_ble_eq_true rfl⟩ dX9_body_5 ⟨rfl, i_cm, hT⟩ (fun r_5 S2_5 h_5 => ?_)
  obtain ⟨v5, rfl, p_v5, q_v5⟩ := h_5
  obtain rfl := q_v5.symm
  refine v_qstore C dX9_body_8 (by decide) (by first | rfl | exact cat_ok _ | simp [okS, cat_rf]) ?_
  refine v_qload C dX9_body_10 rfl ?_
  refine v_ifnull (tgt := 39) C dX9_body_12 (by decide) (fun c_12 => ?_) (fun b12 c_12 => ?_)
  · skip
    subst c_12
    have hq : blw t nT = false := trO_no p_v5.symm
    refine v_bipush (v := -2) C dX9_body_39 (by decide) ?_
    refine v_iret C hr (Nat.le_of_ble_eq_true rfl) (Nat.le_of_ble_eq_true rfl) dX9_body_41 ?_
    exact ⟨_, rfl, iv, ch, (Or.inl ⟨by simp [hq], rfl, rfl⟩)⟩
  · skip
    subst c_12
    obtain ⟨k, hk, ek⟩ := below_some (trO_yes p_v5.symm)
    subst ek
    obtain rfl : b12 = W (6 * k + 100) := Option.some.inj (p_v5.trans ((trO_nI hT20 (by omega)).trans (if_pos hk)))
    have i_gv : is S (W (6 * k + 100)) 8 := (htr k hk).1
    obtain ⟨o_bo, o_gu, i_bo, i_gu, _⟩ := hB k hk
    refine v_iload_n C dX9_body_15 rfl ?_
    refine v_callS (As := [_]) (n := 1) C (sb_isAct l _) rfl ⟨wd345, wd346, wd2, wd347⟩ hy_X9_isAct rfl ⟨Nat.le_of_ble_eq_true rfl, Nat.le_of_ble_eq_true rfl⟩ (Nat.le_of_ble_eq_true rfl) ⟨Nat.le_of_ble_eq_true rfl, Nat.le_of_ble_eq_true rfl⟩ dX9_body_16 rfl (fun r_16 S4_16 h_16 => ?_)
    obtain ⟨v16, rfl, p_v16, q_v16⟩ := h_16
    obtain rfl := q_v16.symm
    rw [isB_below (n := 12) (by decide)] at p_v16
    refine b_if_eq (tgt := 39) C dX9_body_19 (by decide) (fun c_19 => ?_) (fun c_19 => ?_)
    · skip
      have hq : blw ac 12 = false := p_v16.symm.trans c_19
      refine v_bipush (v := -2) C dX9_body_39 (by decide) ?_
      refine v_iret C hr (Nat.le_of_ble_eq_true rfl) (Nat.le_of_ble_eq_true rfl) dX9_body_41 ?_
      exact ⟨_, rfl, iv, ch, (Or.inl ⟨by simp [hq], rfl, rfl⟩)⟩
    · skip
      have hac : blw ac 12 = true := p_v16.symm.trans c_19
      obtain ⟨j, hj, ej⟩ := below_some hac
      subst ej
      refine v_iload_n C dX9_body_22 rfl ?_
      refine v_iconst (v := nI 3) C dX9_body_23 (by decide) ?_
      refine v_callS (As := [_, _]) (n := 2) C (sb_isBelow l _ _) rfl ⟨wd264, wd141, wd2, wd142⟩ hy_X9_isBelow rfl ⟨Nat.le_of_ble_eq_true rfl, Nat.le_of_ble_eq_true rfl⟩ (Nat.le_of_ble_eq_true rfl) ⟨Nat.le_of_ble_eq_true rfl, Nat.le_of_ble_eq_true rfl⟩ dX9_body_24 rfl (fun r_24 S6_24 h_24 => ?_)
      obtain ⟨v24, rfl, p_v24, q_v24⟩ := h_24
      obtain rfl := q_v24.symm
      rw [isB_below (n := 3) (by decide)] at p_v24
      refine b_if_eq (tgt := 39) C dX9_body_27 (by decide) (fun c_27 => ?_) (fun c_27 => ?_)
      · skip
        have hq : blw re 3 = false := p_v24.symm.trans c_27
        refine v_bipush (v := -2) C dX9_body_39 (by decide) ?_
        refine v_iret C hr (Nat.le_of_ble_eq_true rfl) (Nat.le_of_ble_eq_true rfl) dX9_body_41 ?_
        exact ⟨_, rfl, iv, ch, (Or.inl ⟨by simp [hq], rfl, rfl⟩)⟩
      · skip
        have h_re : blw re 3 = true := p_v24.symm.trans c_27
        refine v_iload C dX9_body_30 rfl ?_
        refine v_iconst (v := nI 4) C dX9_body_32 (by decide) ?_
        refine v_callS (As := [_, _]) (n := 2) C (sb_isBelow l _ _) rfl ⟨wd264, wd141, wd2, wd142⟩ hy_X9_isBelow rfl ⟨Nat.le_of_ble_eq_true rfl, Nat.le_of_ble_eq_true rfl⟩ (Nat.le_of_ble_eq_true rfl) ⟨Nat.le_of_ble_eq_true rfl, Nat.le_of_ble_eq_true rfl⟩ dX9_body_33 rfl (fun r_33 S8_33 h_33 => ?_)
        obtain ⟨v33, rfl, p_v33, q_v33⟩ := h_33
        obtain rfl := q_v33.symm
        rw [isB_below (n := 4) (by decide)] at p_v33
        refine b_if_ne (tgt := 42) C dX9_body_36 (by decide) (fun c_36 => ?_) (fun c_36 => ?_)
        · skip
          have h_rs : blw rs 4 = true := p_v33.symm.trans c_36
          refine v_aload_n C dX9_body_42 rfl ?_
          refine v_new C (ci := 5) (by decide) rfl inlX5 tyX5_ok wd342 wd343 wd344 nfX5 (Nat.le_of_ble_eq_true rfl) (Nat.le_of_ble_eq_true rfl) dX9_body_43 (fun a43 n_a43 => ?_)
          have nn_a43 : a43 ∉ mL S := fun z => n_a43 (ch.1 a43 z).1
          refine V.gen (fun S10_43 e_43 => ?_)
          have x_43 := x_sNew e_43 n_a43
          have iv := inv_sNew e_43 iv n_a43 (by decide)
          have ch := ch_sNew e_43 ch n_a43
          have hc := mo_sNewx e_43 (ne_of_is  n_a43 i_h) hc
          have i_h := is_ext x_43 i_h
          have i_cm := is_ext x_43 i_cm
          have i_gv := is_ext x_43 i_gv
          have i_a43 := is_sNewE e_43 n_a43
          have z_a43 := mI_newE e_43
          have zo_a43 := mO_newE e_43
          refine v_dup C dX9_body_46 rfl ?_
          refine v_iload_n C dX9_body_47 rfl ?_
          refine v_iconst (v := -1) C dX9_body_48 (by decide) ?_
          refine v_iload_n C dX9_body_49 rfl ?_
          refine v_iload C dX9_body_50 rfl ?_
          refine v_iconst (v := nI 0) C dX9_body_52 (by decide) ?_
          refine v_callI (As := [_, _, _, _, _]) (n := 5) C (ft_X5_init l M _ _ _ _ _ _ _) rfl ⟨wd348, wd349, wd344, wd350⟩ rfl hy_X5_init rfl ⟨Nat.le_of_ble_eq_true rfl, Nat.le_of_ble_eq_true rfl⟩ (Nat.le_of_ble_eq_true rfl) ⟨Nat.le_of_ble_eq_true rfl, Nat.le_of_ble_eq_true rfl⟩ dX9_body_53 ⟨rfl, iv, i_a43, (z_a43 328), (Or.inl rfl)⟩ (fun r_53 S10_53 h_53 => ?_)
          obtain ⟨rfl, iv', ch_53, r_v53⟩ := h_53
          have iv := iv'
          clear iv'
          have ch := ch_trn ch ch_53 ⟨by simp, by simp, fun q hq => Or.inr (by simp at hq; rcases hq with rfl | rfl | rfl | rfl | rfl <;> exact nn_a43), fun q hq => Or.inr (by simp at hq; rcases hq with rfl | rfl | rfl <;> exact nn_a43)⟩
          have hc := mo_ch ch_53 i_h (by first | decide | simp) hc
          have i_h := is_ch ch_53 i_h
          have i_cm := is_ch ch_53 i_cm
          have i_gv := is_ch ch_53 i_gv
          have i_a43 := is_ch ch_53 i_a43
          have np : newP S S10_53 a43 (nI k) (-1) re rs 0 := ⟨nn_a43, i_a43, r_v53⟩
          refine p9_25 (v := some _) C i_h dX9_body_56 ?_
          refine V.gen (fun S10_56 e_56 => ?_)
          have x_56 := x_sO e_56
          have iv := inv_sO e_56 iv (Or.inr (F578 (nOK_is i_a43)))
          have ch := ch_sO e_56 ch (by simp)
          have hc := mo_sOx e_56 (Or.inl (by decide)) hc
          have i_h := is_ext x_56 i_h
          have i_cm := is_ext x_56 i_cm
          have i_gv := is_ext x_56 i_gv
          have i_a43 := is_ext x_56 i_a43
          have np := newP_ch np (ch_sO e_56 (ch_rfl (AR := []) (PR := []) (FI := []) (FO := [(578, h)])) (by simp))
          have o_578 := mo_put e_56
          refine v_aload C dX9_body_59 rfl ?_
          refine v_iload_n C dX9_body_61 rfl ?_
          refine v_aload_n C dX9_body_62 rfl ?_
          refine r9_25 (b := a43) C i_h o_578 dX9_body_63 ?_
          have c0 : chg S S10_56 [] [] [] [(578, h)] := ch_sO e_56 (ch_trn (ch_sNew e_43 ch_rfl n_a43) ch_53 ⟨by simp, by simp, fun q hq => Or.inr (by simp at hq; rcases hq with rfl | rfl | rfl | rfl | rfl <;> exact nn_a43), fun q hq => Or.inr (by simp at hq; rcases hq with rfl | rfl | rfl <;> exact nn_a43)⟩) (by simp)
          have o_bo2 := mo_ch c0 (htr k hk).1 (by simp) o_bo
          have i_bo2 := isA_ch c0 i_bo
          refine v_callV (As := [_, _]) (n := 2) C (ft_X8_setBody l M _ _ _ (W (6 * k + 104))) rfl i_gv (by decide) rfl ⟨wd360, wd361, wd362, wd212, wd363⟩ ⟨rfl, hy_X8_setBody⟩ rfl ⟨Nat.le_of_ble_eq_true rfl, Nat.le_of_ble_eq_true rfl⟩ (Nat.le_of_ble_eq_true rfl) ⟨Nat.le_of_ble_eq_true rfl, Nat.le_of_ble_eq_true rfl⟩ dX9_body_66 ⟨rfl, iv, i_gv, i_a43, hj, ⟨o_bo2, i_bo2⟩⟩ (fun r_66 S10_66 h_66 => ?_)
          obtain ⟨rfl, iv', ch_66, r_v66⟩ := h_66
          have iv := iv'
          clear iv'
          have ch := ch_tr ch ch_66 (by rw [nI_clamp (show k < 2 ^ 31 by omega)]; simp)
          have hc := mo_ch ch_66 i_h (by first | decide | simp) hc
          have o_578 := mo_ch ch_66 i_h (by first | decide | simp) o_578
          have i_h := is_ch ch_66 i_h
          have i_cm := is_ch ch_66 i_cm
          have i_gv := is_ch ch_66 i_gv
          have i_a43 := is_ch ch_66 i_a43
          refine v_iconst (v := nI 1) C dX9_body_69 (by decide) ?_
          refine v_iret C hr (Nat.le_of_ble_eq_true rfl) (Nat.le_of_ble_eq_true rfl) dX9_body_70 ?_
          exact ⟨_, rfl, iv, ch, (Or.inr ⟨k, j, a43, hk, hj, rfl, rfl, h_re, h_rs, rfl, newP_ch np ch_66, fun i => by rw [r_v66, mp_ch c0 i_bo (by simp)], o_578⟩)⟩
        · skip
          have hq : blw rs 4 = false := p_v33.symm.trans c_36
          refine v_bipush (v := -2) C dX9_body_39 (by decide) ?_
          refine v_iret C hr (Nat.le_of_ble_eq_true rfl) (Nat.le_of_ble_eq_true rfl) dX9_body_41 ?_
          exact ⟨_, rfl, iv, ch, (Or.inl ⟨by simp [hq], rfl, rfl⟩)⟩
set_option maxRecDepth 100000 in
set_option maxHeartbeats 4000000 in
theorem ft_X9_need (l : Launch) (M : Nat → Prop) (h : Nat) (t : Int32) (ac : Int32) (rs : Int32) (W : Nat → Nat) (nT : Nat) (LT : Nat → List Nat) (pt : Nat → Option Nat) : Ct l yX9_need cX9_need 5 (some .int) 2 4 33 43 (fun S av => av = [.ref h, .int t, .int ac, .int rs] ∧ INV M [] S ∧ is S h 9 ∧ (mO S 576 h = some (W 0)) ∧ (trS S (W 0) nT (aA W) LT) ∧ (all1 (bR1 S W pt) nT)) (fun S _ r S' => ∃ v : Int32, r = some (.int v) ∧ INV M [] S' ∧ chg S S' [] [W (6 * t.toNatClampNeg + 104)] [] [(578, h)] ∧ (((blw t nT && blw ac 12 && blw rs 4) = false ∧ v = -2 ∧ S' = S) ∨ (∃ k j a, k < nT ∧ j < 12 ∧ t = nI k ∧ ac = nI j ∧ blw rs 4 = true ∧ v = 1 ∧ newP S S' a t (-1) 0 rs 1 ∧ (∀ i, mP S' (W (6 * k + 104)) i = if i = j then some a else mP S (W (6 * k + 104)) i) ∧ mO S' 578 h = none))) := by
  refine ct_of (by decide) (fun S av h => by obtain ⟨rfl, iv, i_h, hc, hT, hB⟩ := h; exact Nat.le_of_ble_eq_true rfl) ?_
  intro p e s m args below meth c D G bs S av C hr hin hpre
  obtain ⟨rfl, iv, i_h, hc, hT, hB⟩ := hpre
  have ch : chg S S [] [W (6 * t.toNatClampNeg + 104)] [] [(578, h)] := ch_rfl
  have i_cm := hT.1
  obtain ⟨_, _, _, _, hT20, _, _, htr⟩ := id hT
  refine v_aload_n C dX9_need_0 rfl ?_
  refine r9_10 (b := (W 0)) C i_h hc dX9_need_1 ?_
  refine v_iload_n C dX9_need_4 rfl ?_
  refine v_callV (As := [_]) (n := 1) C (ft_X1_traitAt l _ _ nT (aA W) LT) rfl i_cm (by decide) rfl ⟨wd304, wd138, wd139, wd15, wd140⟩ ⟨rfl, hy_X1_traitAt⟩ rfl ⟨Nat.le_of_ble_eq_true rfl, Nat.le_of_ble_eq_true rfl⟩ (Nat.le_of_ble_eq_true rfl) ⟨Nat.le_of_ble_eq_true rfl, Nat.le_of_ble_eq_true rfl⟩ dX9_need_5 ⟨rfl, i_cm, hT⟩ (fun r_5 S2_5 h_5 => ?_)
  obtain ⟨v5, rfl, p_v5, q_v5⟩ := h_5
  obtain rfl := q_v5.symm
  refine v_qstore C dX9_need_8 (by decide) (by first | rfl | exact cat_ok _ | simp [okS, cat_rf]) ?_
  refine v_qload C dX9_need_10 rfl ?_
  refine v_ifnull (tgt := 30) C dX9_need_12 (by decide) (fun c_12 => ?_) (fun b12 c_12 => ?_)
  · skip
    subst c_12
    have hq : blw t nT = false := trO_no p_v5.symm
    refine v_bipush (v := -2) C dX9_need_30 (by decide) ?_
    refine v_iret C hr (Nat.le_of_ble_eq_true rfl) (Nat.le_of_ble_eq_true rfl) dX9_need_32 ?_
    exact ⟨_, rfl, iv, ch, (Or.inl ⟨by simp [hq], rfl, rfl⟩)⟩
  · skip
    subst c_12
    obtain ⟨k, hk, ek⟩ := below_some (trO_yes p_v5.symm)
    subst ek
    obtain rfl : b12 = W (6 * k + 100) := Option.some.inj (p_v5.trans ((trO_nI hT20 (by omega)).trans (if_pos hk)))
    have i_gv : is S (W (6 * k + 100)) 8 := (htr k hk).1
    obtain ⟨o_bo, o_gu, i_bo, i_gu, _⟩ := hB k hk
    refine v_iload_n C dX9_need_15 rfl ?_
    refine v_callS (As := [_]) (n := 1) C (sb_isAct l _) rfl ⟨wd345, wd346, wd2, wd347⟩ hy_X9_isAct rfl ⟨Nat.le_of_ble_eq_true rfl, Nat.le_of_ble_eq_true rfl⟩ (Nat.le_of_ble_eq_true rfl) ⟨Nat.le_of_ble_eq_true rfl, Nat.le_of_ble_eq_true rfl⟩ dX9_need_16 rfl (fun r_16 S4_16 h_16 => ?_)
    obtain ⟨v16, rfl, p_v16, q_v16⟩ := h_16
    obtain rfl := q_v16.symm
    rw [isB_below (n := 12) (by decide)] at p_v16
    refine b_if_eq (tgt := 30) C dX9_need_19 (by decide) (fun c_19 => ?_) (fun c_19 => ?_)
    · skip
      have hq : blw ac 12 = false := p_v16.symm.trans c_19
      refine v_bipush (v := -2) C dX9_need_30 (by decide) ?_
      refine v_iret C hr (Nat.le_of_ble_eq_true rfl) (Nat.le_of_ble_eq_true rfl) dX9_need_32 ?_
      exact ⟨_, rfl, iv, ch, (Or.inl ⟨by simp [hq], rfl, rfl⟩)⟩
    · skip
      have hac : blw ac 12 = true := p_v16.symm.trans c_19
      obtain ⟨j, hj, ej⟩ := below_some hac
      subst ej
      refine v_iload_n C dX9_need_22 rfl ?_
      refine v_iconst (v := nI 4) C dX9_need_23 (by decide) ?_
      refine v_callS (As := [_, _]) (n := 2) C (sb_isBelow l _ _) rfl ⟨wd264, wd141, wd2, wd142⟩ hy_X9_isBelow rfl ⟨Nat.le_of_ble_eq_true rfl, Nat.le_of_ble_eq_true rfl⟩ (Nat.le_of_ble_eq_true rfl) ⟨Nat.le_of_ble_eq_true rfl, Nat.le_of_ble_eq_true rfl⟩ dX9_need_24 rfl (fun r_24 S6_24 h_24 => ?_)
      obtain ⟨v24, rfl, p_v24, q_v24⟩ := h_24
      obtain rfl := q_v24.symm
      rw [isB_below (n := 4) (by decide)] at p_v24
      refine b_if_ne (tgt := 33) C dX9_need_27 (by decide) (fun c_27 => ?_) (fun c_27 => ?_)
      · skip
        have h_rs : blw rs 4 = true := p_v24.symm.trans c_27
        refine v_aload C dX9_need_33 rfl ?_
        refine v_iload_n C dX9_need_35 rfl ?_
        refine v_new C (ci := 5) (by decide) rfl inlX5 tyX5_ok wd342 wd343 wd344 nfX5 (Nat.le_of_ble_eq_true rfl) (Nat.le_of_ble_eq_true rfl) dX9_need_36 (fun a36 n_a36 => ?_)
        have nn_a36 : a36 ∉ mL S := fun z => n_a36 (ch.1 a36 z).1
        refine V.gen (fun S8_36 e_36 => ?_)
        have x_36 := x_sNew e_36 n_a36
        have iv := inv_sNew e_36 iv n_a36 (by decide)
        have ch := ch_sNew e_36 ch n_a36
        have hc := mo_sNewx e_36 (ne_of_is  n_a36 i_h) hc
        have i_h := is_ext x_36 i_h
        have i_cm := is_ext x_36 i_cm
        have i_gv := is_ext x_36 i_gv
        have i_a36 := is_sNewE e_36 n_a36
        have z_a36 := mI_newE e_36
        have zo_a36 := mO_newE e_36
        refine v_dup C dX9_need_39 rfl ?_
        refine v_iload_n C dX9_need_40 rfl ?_
        refine v_iconst (v := -1) C dX9_need_41 (by decide) ?_
        refine v_iconst (v := nI 0) C dX9_need_42 (by decide) ?_
        refine v_iload_n C dX9_need_43 rfl ?_
        refine v_iconst (v := nI 1) C dX9_need_44 (by decide) ?_
        refine v_callI (As := [_, _, _, _, _]) (n := 5) C (ft_X5_init l M _ _ _ _ _ _ _) rfl ⟨wd348, wd349, wd344, wd350⟩ rfl hy_X5_init rfl ⟨Nat.le_of_ble_eq_true rfl, Nat.le_of_ble_eq_true rfl⟩ (Nat.le_of_ble_eq_true rfl) ⟨Nat.le_of_ble_eq_true rfl, Nat.le_of_ble_eq_true rfl⟩ dX9_need_45 ⟨rfl, iv, i_a36, (z_a36 328), (Or.inr rfl)⟩ (fun r_45 S8_45 h_45 => ?_)
        obtain ⟨rfl, iv', ch_45, r_v45⟩ := h_45
        have iv := iv'
        clear iv'
        have ch := ch_trn ch ch_45 ⟨by simp, by simp, fun q hq => Or.inr (by simp at hq; rcases hq with rfl | rfl | rfl | rfl | rfl <;> exact nn_a36), fun q hq => Or.inr (by simp at hq; rcases hq with rfl | rfl | rfl <;> exact nn_a36)⟩
        have hc := mo_ch ch_45 i_h (by first | decide | simp) hc
        have i_h := is_ch ch_45 i_h
        have i_cm := is_ch ch_45 i_cm
        have i_gv := is_ch ch_45 i_gv
        have i_a36 := is_ch ch_45 i_a36
        have np : newP S S8_45 a36 (nI k) (-1) 0 rs 1 := ⟨nn_a36, i_a36, r_v45⟩
        have c0 : chg S S8_45 [] [] [] [] := ch_trn (ch_sNew e_36 ch_rfl n_a36) ch_45 ⟨by simp, by simp, fun q hq => Or.inr (by simp at hq; rcases hq with rfl | rfl | rfl | rfl | rfl <;> exact nn_a36), fun q hq => Or.inr (by simp at hq; rcases hq with rfl | rfl | rfl <;> exact nn_a36)⟩
        have o_bo2 := mo_ch c0 (htr k hk).1 (by simp) o_bo
        have i_bo2 := isA_ch c0 i_bo
        refine v_callV (As := [_, _]) (n := 2) C (ft_X8_setBody l M _ _ _ (W (6 * k + 104))) rfl i_gv (by decide) rfl ⟨wd360, wd361, wd362, wd212, wd363⟩ ⟨rfl, hy_X8_setBody⟩ rfl ⟨Nat.le_of_ble_eq_true rfl, Nat.le_of_ble_eq_true rfl⟩ (Nat.le_of_ble_eq_true rfl) ⟨Nat.le_of_ble_eq_true rfl, Nat.le_of_ble_eq_true rfl⟩ dX9_need_48 ⟨rfl, iv, i_gv, i_a36, hj, ⟨o_bo2, i_bo2⟩⟩ (fun r_48 S8_48 h_48 => ?_)
        obtain ⟨rfl, iv', ch_48, r_v48⟩ := h_48
        have iv := iv'
        clear iv'
        have ch := ch_tr ch ch_48 (by rw [nI_clamp (show k < 2 ^ 31 by omega)]; simp)
        have hc := mo_ch ch_48 i_h (by first | decide | simp) hc
        have i_h := is_ch ch_48 i_h
        have i_cm := is_ch ch_48 i_cm
        have i_gv := is_ch ch_48 i_gv
        have i_a36 := is_ch ch_48 i_a36
        have np := newP_ch np ch_48
        refine v_aload_n C dX9_need_51 rfl ?_
        refine v_null C dX9_need_52 ?_
        refine p9_25 C i_h dX9_need_53 ?_
        refine V.gen (fun S8_53 e_53 => ?_)
        have x_53 := x_sO e_53
        have iv := inv_sO e_53 iv (Or.inr (F578 nOK_none))
        have ch := ch_sO e_53 ch (by simp)
        have hc := mo_sOx e_53 (Or.inl (by decide)) hc
        have i_h := is_ext x_53 i_h
        have i_cm := is_ext x_53 i_cm
        have i_gv := is_ext x_53 i_gv
        have i_a36 := is_ext x_53 i_a36
        refine v_iconst (v := nI 1) C dX9_need_56 (by decide) ?_
        refine v_iret C hr (Nat.le_of_ble_eq_true rfl) (Nat.le_of_ble_eq_true rfl) dX9_need_57 ?_
        exact ⟨_, rfl, iv, ch, (Or.inr ⟨k, j, a36, hk, hj, rfl, rfl, h_rs, rfl, newP_ch np (ch_sO e_53 (ch_rfl (AR := []) (PR := []) (FI := []) (FO := [(578, h)])) (by simp)), fun i => by rw [e_53, mP_sO, r_v48, mp_ch c0 i_bo (by simp)], mo_put e_53⟩)⟩
      · skip
        have hq : blw rs 4 = false := p_v24.symm.trans c_27
        refine v_bipush (v := -2) C dX9_need_30 (by decide) ?_
        refine v_iret C hr (Nat.le_of_ble_eq_true rfl) (Nat.le_of_ble_eq_true rfl) dX9_need_32 ?_
        exact ⟨_, rfl, iv, ch, (Or.inl ⟨by simp [hq], rfl, rfl⟩)⟩
set_option maxRecDepth 100000 in
set_option maxHeartbeats 4000000 in
theorem ft_X9_guard (l : Launch) (M : Nat → Prop) (h : Nat) (t : Int32) (ac : Int32) (rs : Int32) (W : Nat → Nat) (nT : Nat) (LT : Nat → List Nat) (pt : Nat → Option Nat) : Ct l yX9_guard cX9_guard 5 (some .int) 2 4 33 43 (fun S av => av = [.ref h, .int t, .int ac, .int rs] ∧ INV M [] S ∧ is S h 9 ∧ (mO S 576 h = some (W 0)) ∧ (trS S (W 0) nT (aA W) LT) ∧ (all1 (bR1 S W pt) nT)) (fun S _ r S' => ∃ v : Int32, r = some (.int v) ∧ INV M [] S' ∧ chg S S' [] [W (6 * t.toNatClampNeg + 105)] [] [(578, h)] ∧ (((blw t nT && blw ac 12 && blw rs 3) = false ∧ v = -2 ∧ S' = S) ∨ (∃ k j a, k < nT ∧ j < 12 ∧ t = nI k ∧ ac = nI j ∧ blw rs 3 = true ∧ v = 1 ∧ newP S S' a t rs 0 0 0 ∧ (∀ i, mP S' (W (6 * k + 105)) i = if i = j then some a else mP S (W (6 * k + 105)) i) ∧ mO S' 578 h = some a))) := by
  refine ct_of (by decide) (fun S av h => by obtain ⟨rfl, iv, i_h, hc, hT, hB⟩ := h; exact Nat.le_of_ble_eq_true rfl) ?_
  intro p e s m args below meth c D G bs S av C hr hin hpre
  obtain ⟨rfl, iv, i_h, hc, hT, hB⟩ := hpre
  have ch : chg S S [] [W (6 * t.toNatClampNeg + 105)] [] [(578, h)] := ch_rfl
  have i_cm := hT.1
  obtain ⟨_, _, _, _, hT20, _, _, htr⟩ := id hT
  refine v_aload_n C dX9_guard_0 rfl ?_
  refine r9_10 (b := (W 0)) C i_h hc dX9_guard_1 ?_
  refine v_iload_n C dX9_guard_4 rfl ?_
  refine v_callV (As := [_]) (n := 1) C (ft_X1_traitAt l _ _ nT (aA W) LT) rfl i_cm (by decide) rfl ⟨wd304, wd138, wd139, wd15, wd140⟩ ⟨rfl, hy_X1_traitAt⟩ rfl ⟨Nat.le_of_ble_eq_true rfl, Nat.le_of_ble_eq_true rfl⟩ (Nat.le_of_ble_eq_true rfl) ⟨Nat.le_of_ble_eq_true rfl, Nat.le_of_ble_eq_true rfl⟩ dX9_guard_5 ⟨rfl, i_cm, hT⟩ (fun r_5 S2_5 h_5 => ?_)
  obtain ⟨v5, rfl, p_v5, q_v5⟩ := h_5
  obtain rfl := q_v5.symm
  refine v_qstore C dX9_guard_8 (by decide) (by first | rfl | exact cat_ok _ | simp [okS, cat_rf]) ?_
  refine v_qload C dX9_guard_10 rfl ?_
  refine v_ifnull (tgt := 30) C dX9_guard_12 (by decide) (fun c_12 => ?_) (fun b12 c_12 => ?_)
  · skip
    subst c_12
    have hq : blw t nT = false := trO_no p_v5.symm
    refine v_bipush (v := -2) C dX9_guard_30 (by decide) ?_
    refine v_iret C hr (Nat.le_of_ble_eq_true rfl) (Nat.le_of_ble_eq_true rfl) dX9_guard_32 ?_
    exact ⟨_, rfl, iv, ch, (Or.inl ⟨by simp [hq], rfl, rfl⟩)⟩
  · skip
    subst c_12
    obtain ⟨k, hk, ek⟩ := below_some (trO_yes p_v5.symm)
    subst ek
    obtain rfl : b12 = W (6 * k + 100) := Option.some.inj (p_v5.trans ((trO_nI hT20 (by omega)).trans (if_pos hk)))
    have i_gv : is S (W (6 * k + 100)) 8 := (htr k hk).1
    obtain ⟨o_bo, o_gu, i_bo, i_gu, _⟩ := hB k hk
    refine v_iload_n C dX9_guard_15 rfl ?_
    refine v_callS (As := [_]) (n := 1) C (sb_isAct l _) rfl ⟨wd345, wd346, wd2, wd347⟩ hy_X9_isAct rfl ⟨Nat.le_of_ble_eq_true rfl, Nat.le_of_ble_eq_true rfl⟩ (Nat.le_of_ble_eq_true rfl) ⟨Nat.le_of_ble_eq_true rfl, Nat.le_of_ble_eq_true rfl⟩ dX9_guard_16 rfl (fun r_16 S4_16 h_16 => ?_)
    obtain ⟨v16, rfl, p_v16, q_v16⟩ := h_16
    obtain rfl := q_v16.symm
    rw [isB_below (n := 12) (by decide)] at p_v16
    refine b_if_eq (tgt := 30) C dX9_guard_19 (by decide) (fun c_19 => ?_) (fun c_19 => ?_)
    · skip
      have hq : blw ac 12 = false := p_v16.symm.trans c_19
      refine v_bipush (v := -2) C dX9_guard_30 (by decide) ?_
      refine v_iret C hr (Nat.le_of_ble_eq_true rfl) (Nat.le_of_ble_eq_true rfl) dX9_guard_32 ?_
      exact ⟨_, rfl, iv, ch, (Or.inl ⟨by simp [hq], rfl, rfl⟩)⟩
    · skip
      have hac : blw ac 12 = true := p_v16.symm.trans c_19
      obtain ⟨j, hj, ej⟩ := below_some hac
      subst ej
      refine v_iload_n C dX9_guard_22 rfl ?_
      refine v_iconst (v := nI 3) C dX9_guard_23 (by decide) ?_
      refine v_callS (As := [_, _]) (n := 2) C (sb_isBelow l _ _) rfl ⟨wd264, wd141, wd2, wd142⟩ hy_X9_isBelow rfl ⟨Nat.le_of_ble_eq_true rfl, Nat.le_of_ble_eq_true rfl⟩ (Nat.le_of_ble_eq_true rfl) ⟨Nat.le_of_ble_eq_true rfl, Nat.le_of_ble_eq_true rfl⟩ dX9_guard_24 rfl (fun r_24 S6_24 h_24 => ?_)
      obtain ⟨v24, rfl, p_v24, q_v24⟩ := h_24
      obtain rfl := q_v24.symm
      rw [isB_below (n := 3) (by decide)] at p_v24
      refine b_if_ne (tgt := 33) C dX9_guard_27 (by decide) (fun c_27 => ?_) (fun c_27 => ?_)
      · skip
        have h_rs : blw rs 3 = true := p_v24.symm.trans c_27
        refine v_aload_n C dX9_guard_33 rfl ?_
        refine v_new C (ci := 5) (by decide) rfl inlX5 tyX5_ok wd342 wd343 wd344 nfX5 (Nat.le_of_ble_eq_true rfl) (Nat.le_of_ble_eq_true rfl) dX9_guard_34 (fun a34 n_a34 => ?_)
        have nn_a34 : a34 ∉ mL S := fun z => n_a34 (ch.1 a34 z).1
        refine V.gen (fun S8_34 e_34 => ?_)
        have x_34 := x_sNew e_34 n_a34
        have iv := inv_sNew e_34 iv n_a34 (by decide)
        have ch := ch_sNew e_34 ch n_a34
        have hc := mo_sNewx e_34 (ne_of_is  n_a34 i_h) hc
        have i_h := is_ext x_34 i_h
        have i_cm := is_ext x_34 i_cm
        have i_gv := is_ext x_34 i_gv
        have i_a34 := is_sNewE e_34 n_a34
        have z_a34 := mI_newE e_34
        have zo_a34 := mO_newE e_34
        refine v_dup C dX9_guard_37 rfl ?_
        refine v_iload_n C dX9_guard_38 rfl ?_
        refine v_iload_n C dX9_guard_39 rfl ?_
        refine v_iconst (v := nI 0) C dX9_guard_40 (by decide) ?_
        refine v_iconst (v := nI 0) C dX9_guard_41 (by decide) ?_
        refine v_iconst (v := nI 0) C dX9_guard_42 (by decide) ?_
        refine v_callI (As := [_, _, _, _, _]) (n := 5) C (ft_X5_init l M _ _ _ _ _ _ _) rfl ⟨wd348, wd349, wd344, wd350⟩ rfl hy_X5_init rfl ⟨Nat.le_of_ble_eq_true rfl, Nat.le_of_ble_eq_true rfl⟩ (Nat.le_of_ble_eq_true rfl) ⟨Nat.le_of_ble_eq_true rfl, Nat.le_of_ble_eq_true rfl⟩ dX9_guard_43 ⟨rfl, iv, i_a34, (z_a34 328), (Or.inl rfl)⟩ (fun r_43 S8_43 h_43 => ?_)
        obtain ⟨rfl, iv', ch_43, r_v43⟩ := h_43
        have iv := iv'
        clear iv'
        have ch := ch_trn ch ch_43 ⟨by simp, by simp, fun q hq => Or.inr (by simp at hq; rcases hq with rfl | rfl | rfl | rfl | rfl <;> exact nn_a34), fun q hq => Or.inr (by simp at hq; rcases hq with rfl | rfl | rfl <;> exact nn_a34)⟩
        have hc := mo_ch ch_43 i_h (by first | decide | simp) hc
        have i_h := is_ch ch_43 i_h
        have i_cm := is_ch ch_43 i_cm
        have i_gv := is_ch ch_43 i_gv
        have i_a34 := is_ch ch_43 i_a34
        have np : newP S S8_43 a34 (nI k) rs 0 0 0 := ⟨nn_a34, i_a34, r_v43⟩
        refine p9_25 (v := some _) C i_h dX9_guard_46 ?_
        refine V.gen (fun S8_46 e_46 => ?_)
        have x_46 := x_sO e_46
        have iv := inv_sO e_46 iv (Or.inr (F578 (nOK_is i_a34)))
        have ch := ch_sO e_46 ch (by simp)
        have hc := mo_sOx e_46 (Or.inl (by decide)) hc
        have i_h := is_ext x_46 i_h
        have i_cm := is_ext x_46 i_cm
        have i_gv := is_ext x_46 i_gv
        have i_a34 := is_ext x_46 i_a34
        have np := newP_ch np (ch_sO e_46 (ch_rfl (AR := []) (PR := []) (FI := []) (FO := [(578, h)])) (by simp))
        have o_578 := mo_put e_46
        refine v_aload C dX9_guard_49 rfl ?_
        refine v_iload_n C dX9_guard_51 rfl ?_
        refine v_aload_n C dX9_guard_52 rfl ?_
        refine r9_25 (b := a34) C i_h o_578 dX9_guard_53 ?_
        have c0 : chg S S8_46 [] [] [] [(578, h)] := ch_sO e_46 (ch_trn (ch_sNew e_34 ch_rfl n_a34) ch_43 ⟨by simp, by simp, fun q hq => Or.inr (by simp at hq; rcases hq with rfl | rfl | rfl | rfl | rfl <;> exact nn_a34), fun q hq => Or.inr (by simp at hq; rcases hq with rfl | rfl | rfl <;> exact nn_a34)⟩) (by simp)
        have o_gu2 := mo_ch c0 (htr k hk).1 (by simp) o_gu
        have i_gu2 := isA_ch c0 i_gu
        refine v_callV (As := [_, _]) (n := 2) C (ft_X8_setGuard l M _ _ _ (W (6 * k + 105))) rfl i_gv (by decide) rfl ⟨wd387, wd388, wd389, wd212, wd390⟩ ⟨rfl, hy_X8_setGuard⟩ rfl ⟨Nat.le_of_ble_eq_true rfl, Nat.le_of_ble_eq_true rfl⟩ (Nat.le_of_ble_eq_true rfl) ⟨Nat.le_of_ble_eq_true rfl, Nat.le_of_ble_eq_true rfl⟩ dX9_guard_56 ⟨rfl, iv, i_gv, i_a34, hj, ⟨o_gu2, i_gu2⟩⟩ (fun r_56 S8_56 h_56 => ?_)
        obtain ⟨rfl, iv', ch_56, r_v56⟩ := h_56
        have iv := iv'
        clear iv'
        have ch := ch_tr ch ch_56 (by rw [nI_clamp (show k < 2 ^ 31 by omega)]; simp)
        have hc := mo_ch ch_56 i_h (by first | decide | simp) hc
        have o_578 := mo_ch ch_56 i_h (by first | decide | simp) o_578
        have i_h := is_ch ch_56 i_h
        have i_cm := is_ch ch_56 i_cm
        have i_gv := is_ch ch_56 i_gv
        have i_a34 := is_ch ch_56 i_a34
        refine v_iconst (v := nI 1) C dX9_guard_59 (by decide) ?_
        refine v_iret C hr (Nat.le_of_ble_eq_true rfl) (Nat.le_of_ble_eq_true rfl) dX9_guard_60 ?_
        exact ⟨_, rfl, iv, ch, (Or.inr ⟨k, j, a34, hk, hj, rfl, rfl, h_rs, rfl, newP_ch np ch_56, fun i => by rw [r_v56, mp_ch c0 i_gu (by simp)], o_578⟩)⟩
      · skip
        have hq : blw rs 3 = false := p_v24.symm.trans c_27
        refine v_bipush (v := -2) C dX9_guard_30 (by decide) ?_
        refine v_iret C hr (Nat.le_of_ble_eq_true rfl) (Nat.le_of_ble_eq_true rfl) dX9_guard_32 ?_
        exact ⟨_, rfl, iv, ch, (Or.inl ⟨by simp [hq], rfl, rfl⟩)⟩
set_option maxRecDepth 100000 in
set_option maxHeartbeats 4000000 in
theorem ft_X9_own (l : Launch) (M : Nat → Prop) (h : Nat) (t : Int32) (ac : Int32) (re : Int32) (rs : Int32) (W : Nat → Nat) (nC : Nat) : Ct l yX9_own cX9_own 6 (some .int) 2 4 33 43 (fun S av => av = [.ref h, .int t, .int ac, .int re, .int rs] ∧ INV M [] S ∧ is S h 9 ∧ (mO S 576 h = some (W 0)) ∧ (is S (W 0) 1) ∧ (fA0 S W nC) ∧ (all1 (fA1 S W) nC)) (fun S _ r S' => ∃ v : Int32, r = some (.int v) ∧ INV M [] S' ∧ chg S S' [] [W (10 * t.toNatClampNeg + 305)] [] [(578, h)] ∧ (((blw t nC && blw ac 12 && blw re 3 && blw rs 4) = false ∧ v = -2 ∧ S' = S) ∨ (∃ k j a, k < nC ∧ j < 12 ∧ t = nI k ∧ ac = nI j ∧ blw re 3 = true ∧ blw rs 4 = true ∧ v = 1 ∧ newP S S' a (-1) (-1) re rs 0 ∧ (∀ i, mP S' (W (10 * k + 305)) i = if i = j then some a else mP S (W (10 * k + 305)) i) ∧ mO S' 578 h = some a))) := by
  refine ct_of (by decide) (fun S av h => by obtain ⟨rfl, iv, i_h, hc, i_cm, hF, hA⟩ := h; exact Nat.le_of_ble_eq_true rfl) ?_
  intro p e s m args below meth c D G bs S av C hr hin hpre
  obtain ⟨rfl, iv, i_h, hc, i_cm, hF, hA⟩ := hpre
  have ch : chg S S [] [W (10 * t.toNatClampNeg + 305)] [] [(578, h)] := ch_rfl
  refine v_aload_n C dX9_own_0 rfl ?_
  refine r9_10 (b := (W 0)) C i_h hc dX9_own_1 ?_
  refine v_iload_n C dX9_own_4 rfl ?_
  refine v_callV (As := [_]) (n := 1) C (ft_X1_figureAt l _ _ W nC) rfl i_cm (by decide) rfl ⟨wd300, wd301, wd302, wd15, wd303⟩ ⟨rfl, hy_X1_figureAt⟩ rfl ⟨Nat.le_of_ble_eq_true rfl, Nat.le_of_ble_eq_true rfl⟩ (Nat.le_of_ble_eq_true rfl) ⟨Nat.le_of_ble_eq_true rfl, Nat.le_of_ble_eq_true rfl⟩ dX9_own_5 ⟨rfl, i_cm, rfl, hF⟩ (fun r_5 S2_5 h_5 => ?_)
  obtain ⟨v5, rfl, p_v5, q_v5⟩ := h_5
  obtain rfl := q_v5.symm
  refine v_qstore C dX9_own_8 (by decide) (by first | rfl | exact cat_ok _ | simp [okS, cat_rf]) ?_
  refine v_qload C dX9_own_10 rfl ?_
  refine v_ifnull (tgt := 39) C dX9_own_12 (by decide) (fun c_12 => ?_) (fun b12 c_12 => ?_)
  · skip
    subst c_12
    have hq : blw t nC = false := fgO_no p_v5.symm
    refine v_bipush (v := -2) C dX9_own_39 (by decide) ?_
    refine v_iret C hr (Nat.le_of_ble_eq_true rfl) (Nat.le_of_ble_eq_true rfl) dX9_own_41 ?_
    exact ⟨_, rfl, iv, ch, (Or.inl ⟨by simp [hq], rfl, rfl⟩)⟩
  · skip
    subst c_12
    obtain ⟨k, hk, ek⟩ := below_some (fgO_yes p_v5.symm)
    subst ek
    have hC12 := hF.2.2.2.1
    obtain rfl : b12 = W (10 * k + 300) := Option.some.inj (p_v5.trans ((fgO_nI hC12 (by omega)).trans (if_pos hk)))
    obtain ⟨i_gv, o_ln, o_tk, i_tk, o_ow, i_ow, o_lf, i_lf, o_nm, i_nm, o_og, i_og, o_pf, i_pf⟩ := hA k hk
    refine v_iload_n C dX9_own_15 rfl ?_
    refine v_callS (As := [_]) (n := 1) C (sb_isAct l _) rfl ⟨wd345, wd346, wd2, wd347⟩ hy_X9_isAct rfl ⟨Nat.le_of_ble_eq_true rfl, Nat.le_of_ble_eq_true rfl⟩ (Nat.le_of_ble_eq_true rfl) ⟨Nat.le_of_ble_eq_true rfl, Nat.le_of_ble_eq_true rfl⟩ dX9_own_16 rfl (fun r_16 S4_16 h_16 => ?_)
    obtain ⟨v16, rfl, p_v16, q_v16⟩ := h_16
    obtain rfl := q_v16.symm
    rw [isB_below (n := 12) (by decide)] at p_v16
    refine b_if_eq (tgt := 39) C dX9_own_19 (by decide) (fun c_19 => ?_) (fun c_19 => ?_)
    · skip
      have hq : blw ac 12 = false := p_v16.symm.trans c_19
      refine v_bipush (v := -2) C dX9_own_39 (by decide) ?_
      refine v_iret C hr (Nat.le_of_ble_eq_true rfl) (Nat.le_of_ble_eq_true rfl) dX9_own_41 ?_
      exact ⟨_, rfl, iv, ch, (Or.inl ⟨by simp [hq], rfl, rfl⟩)⟩
    · skip
      have hac : blw ac 12 = true := p_v16.symm.trans c_19
      obtain ⟨j, hj, ej⟩ := below_some hac
      subst ej
      refine v_iload_n C dX9_own_22 rfl ?_
      refine v_iconst (v := nI 3) C dX9_own_23 (by decide) ?_
      refine v_callS (As := [_, _]) (n := 2) C (sb_isBelow l _ _) rfl ⟨wd264, wd141, wd2, wd142⟩ hy_X9_isBelow rfl ⟨Nat.le_of_ble_eq_true rfl, Nat.le_of_ble_eq_true rfl⟩ (Nat.le_of_ble_eq_true rfl) ⟨Nat.le_of_ble_eq_true rfl, Nat.le_of_ble_eq_true rfl⟩ dX9_own_24 rfl (fun r_24 S6_24 h_24 => ?_)
      obtain ⟨v24, rfl, p_v24, q_v24⟩ := h_24
      obtain rfl := q_v24.symm
      rw [isB_below (n := 3) (by decide)] at p_v24
      refine b_if_eq (tgt := 39) C dX9_own_27 (by decide) (fun c_27 => ?_) (fun c_27 => ?_)
      · skip
        have hq : blw re 3 = false := p_v24.symm.trans c_27
        refine v_bipush (v := -2) C dX9_own_39 (by decide) ?_
        refine v_iret C hr (Nat.le_of_ble_eq_true rfl) (Nat.le_of_ble_eq_true rfl) dX9_own_41 ?_
        exact ⟨_, rfl, iv, ch, (Or.inl ⟨by simp [hq], rfl, rfl⟩)⟩
      · skip
        have h_re : blw re 3 = true := p_v24.symm.trans c_27
        refine v_iload C dX9_own_30 rfl ?_
        refine v_iconst (v := nI 4) C dX9_own_32 (by decide) ?_
        refine v_callS (As := [_, _]) (n := 2) C (sb_isBelow l _ _) rfl ⟨wd264, wd141, wd2, wd142⟩ hy_X9_isBelow rfl ⟨Nat.le_of_ble_eq_true rfl, Nat.le_of_ble_eq_true rfl⟩ (Nat.le_of_ble_eq_true rfl) ⟨Nat.le_of_ble_eq_true rfl, Nat.le_of_ble_eq_true rfl⟩ dX9_own_33 rfl (fun r_33 S8_33 h_33 => ?_)
        obtain ⟨v33, rfl, p_v33, q_v33⟩ := h_33
        obtain rfl := q_v33.symm
        rw [isB_below (n := 4) (by decide)] at p_v33
        refine b_if_ne (tgt := 42) C dX9_own_36 (by decide) (fun c_36 => ?_) (fun c_36 => ?_)
        · skip
          have h_rs : blw rs 4 = true := p_v33.symm.trans c_36
          refine v_aload_n C dX9_own_42 rfl ?_
          refine v_new C (ci := 5) (by decide) rfl inlX5 tyX5_ok wd342 wd343 wd344 nfX5 (Nat.le_of_ble_eq_true rfl) (Nat.le_of_ble_eq_true rfl) dX9_own_43 (fun a43 n_a43 => ?_)
          have nn_a43 : a43 ∉ mL S := fun z => n_a43 (ch.1 a43 z).1
          refine V.gen (fun S10_43 e_43 => ?_)
          have x_43 := x_sNew e_43 n_a43
          have iv := inv_sNew e_43 iv n_a43 (by decide)
          have ch := ch_sNew e_43 ch n_a43
          have hc := mo_sNewx e_43 (ne_of_is  n_a43 i_h) hc
          have i_h := is_ext x_43 i_h
          have i_cm := is_ext x_43 i_cm
          have i_gv := is_ext x_43 i_gv
          have i_a43 := is_sNewE e_43 n_a43
          have z_a43 := mI_newE e_43
          have zo_a43 := mO_newE e_43
          refine v_dup C dX9_own_46 rfl ?_
          refine v_iconst (v := -1) C dX9_own_47 (by decide) ?_
          refine v_iconst (v := -1) C dX9_own_48 (by decide) ?_
          refine v_iload_n C dX9_own_49 rfl ?_
          refine v_iload C dX9_own_50 rfl ?_
          refine v_iconst (v := nI 0) C dX9_own_52 (by decide) ?_
          refine v_callI (As := [_, _, _, _, _]) (n := 5) C (ft_X5_init l M _ _ _ _ _ _ _) rfl ⟨wd348, wd349, wd344, wd350⟩ rfl hy_X5_init rfl ⟨Nat.le_of_ble_eq_true rfl, Nat.le_of_ble_eq_true rfl⟩ (Nat.le_of_ble_eq_true rfl) ⟨Nat.le_of_ble_eq_true rfl, Nat.le_of_ble_eq_true rfl⟩ dX9_own_53 ⟨rfl, iv, i_a43, (z_a43 328), (Or.inl rfl)⟩ (fun r_53 S10_53 h_53 => ?_)
          obtain ⟨rfl, iv', ch_53, r_v53⟩ := h_53
          have iv := iv'
          clear iv'
          have ch := ch_trn ch ch_53 ⟨by simp, by simp, fun q hq => Or.inr (by simp at hq; rcases hq with rfl | rfl | rfl | rfl | rfl <;> exact nn_a43), fun q hq => Or.inr (by simp at hq; rcases hq with rfl | rfl | rfl <;> exact nn_a43)⟩
          have hc := mo_ch ch_53 i_h (by first | decide | simp) hc
          have i_h := is_ch ch_53 i_h
          have i_cm := is_ch ch_53 i_cm
          have i_gv := is_ch ch_53 i_gv
          have i_a43 := is_ch ch_53 i_a43
          have np : newP S S10_53 a43 (-1) (-1) re rs 0 := ⟨nn_a43, i_a43, r_v53⟩
          refine p9_25 (v := some _) C i_h dX9_own_56 ?_
          refine V.gen (fun S10_56 e_56 => ?_)
          have x_56 := x_sO e_56
          have iv := inv_sO e_56 iv (Or.inr (F578 (nOK_is i_a43)))
          have ch := ch_sO e_56 ch (by simp)
          have hc := mo_sOx e_56 (Or.inl (by decide)) hc
          have i_h := is_ext x_56 i_h
          have i_cm := is_ext x_56 i_cm
          have i_gv := is_ext x_56 i_gv
          have i_a43 := is_ext x_56 i_a43
          have np := newP_ch np (ch_sO e_56 (ch_rfl (AR := []) (PR := []) (FI := []) (FO := [(578, h)])) (by simp))
          have o_578 := mo_put e_56
          refine v_aload C dX9_own_59 rfl ?_
          refine v_iload_n C dX9_own_61 rfl ?_
          refine v_aload_n C dX9_own_62 rfl ?_
          refine r9_25 (b := a43) C i_h o_578 dX9_own_63 ?_
          have c0 : chg S S10_56 [] [] [] [(578, h)] := ch_sO e_56 (ch_trn (ch_sNew e_43 ch_rfl n_a43) ch_53 ⟨by simp, by simp, fun q hq => Or.inr (by simp at hq; rcases hq with rfl | rfl | rfl | rfl | rfl <;> exact nn_a43), fun q hq => Or.inr (by simp at hq; rcases hq with rfl | rfl | rfl <;> exact nn_a43)⟩) (by simp)
          have o_bo2 := mo_ch c0 (hA k hk).1 (by simp) o_ow
          have i_bo2 := isA_ch c0 i_ow
          refine v_callV (As := [_, _]) (n := 2) C (ft_X2_setOwnBody l M _ _ _ (W (10 * k + 305))) rfl i_gv (by decide) rfl ⟨wd399, wd400, wd401, wd271, wd402⟩ ⟨rfl, hy_X2_setOwnBody⟩ rfl ⟨Nat.le_of_ble_eq_true rfl, Nat.le_of_ble_eq_true rfl⟩ (Nat.le_of_ble_eq_true rfl) ⟨Nat.le_of_ble_eq_true rfl, Nat.le_of_ble_eq_true rfl⟩ dX9_own_66 ⟨rfl, iv, i_gv, i_a43, hj, ⟨o_bo2, i_bo2⟩⟩ (fun r_66 S10_66 h_66 => ?_)
          obtain ⟨rfl, iv', ch_66, r_v66⟩ := h_66
          have iv := iv'
          clear iv'
          have ch := ch_tr ch ch_66 (by rw [nI_clamp (show k < 2 ^ 31 by omega)]; simp)
          have hc := mo_ch ch_66 i_h (by first | decide | simp) hc
          have o_578 := mo_ch ch_66 i_h (by first | decide | simp) o_578
          have i_h := is_ch ch_66 i_h
          have i_cm := is_ch ch_66 i_cm
          have i_gv := is_ch ch_66 i_gv
          have i_a43 := is_ch ch_66 i_a43
          refine v_iconst (v := nI 1) C dX9_own_69 (by decide) ?_
          refine v_iret C hr (Nat.le_of_ble_eq_true rfl) (Nat.le_of_ble_eq_true rfl) dX9_own_70 ?_
          exact ⟨_, rfl, iv, ch, (Or.inr ⟨k, j, a43, hk, hj, rfl, rfl, h_re, h_rs, rfl, newP_ch np ch_66, fun i => by rw [r_v66, mp_ch c0 i_ow (by simp)], o_578⟩)⟩
        · skip
          have hq : blw rs 4 = false := p_v33.symm.trans c_36
          refine v_bipush (v := -2) C dX9_own_39 (by decide) ?_
          refine v_iret C hr (Nat.le_of_ble_eq_true rfl) (Nat.le_of_ble_eq_true rfl) dX9_own_41 ?_
          exact ⟨_, rfl, iv, ch, (Or.inl ⟨by simp [hq], rfl, rfl⟩)⟩
