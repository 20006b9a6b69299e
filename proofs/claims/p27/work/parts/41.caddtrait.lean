/-! A TRAIT IS ADDED -/
def newTB (S : Mem) (a bo gu : Nat) : Prop := is S a 8 ∧ mO S 513 a = some bo ∧ mO S 514 a = some gu ∧ isA S bo 16 12 ∧ isA S gu 16 12 ∧ bo ≠ gu ∧ (∀ i, mP S bo i = none) ∧ ∀ i, mP S gu i = none
theorem newTB_ch {S S' : Mem} {AR PR : List Nat} {FI FO : List (Nat × Nat)} {a bo gu : Nat} (c : chg S S' AR PR FI FO) (h : newTB S a bo gu) (n1 : bo ∉ PR) (n2 : gu ∉ PR) (n3 : (513, a) ∉ FO) (n4 : (514, a) ∉ FO) : newTB S' a bo gu := by
  obtain ⟨h1, h2, h3, h4, h5, h6, h7, h8⟩ := h
  exact ⟨is_ch c h1, mo_ch c h1 n3 h2, mo_ch c h1 n4 h3, isA_ch c h4, isA_ch c h5, h6, fun i => by rw [mp_ch c h4 n1]; exact h7 i, fun i => by rw [mp_ch c h5 n2]; exact h8 i⟩
def cup (A : CA) (T tr ln rw pl : Nat) : CA := fun i t => if t = T then (if i = 2 then tr else if i = 3 then ln else if i = 4 then rw else if i = 5 then pl else A i t) else A i t
theorem cup_lo {A : CA} {T tr ln rw pl t i : Nat} (h : t ≠ T) : cup A T tr ln rw pl i t = A i t := if_neg h
theorem cup_ta {A : CA} {T tr ln rw pl : Nat} : CA.ta (cup A T tr ln rw pl) = CA.ta A := by
  unfold CA.ta cup; split <;> simp
theorem cup_mg {A : CA} {T tr ln rw pl : Nat} : CA.mg (cup A T tr ln rw pl) = CA.mg A := by
  unfold CA.mg cup; split <;> simp
theorem cup_at {A : CA} {T tr ln rw pl : Nat} : CA.tr (cup A T tr ln rw pl) T = tr ∧ CA.ln (cup A T tr ln rw pl) T = ln ∧ CA.rw (cup A T tr ln rw pl) T = rw ∧ CA.pl (cup A T tr ln rw pl) T = pl := by
  unfold CA.tr CA.ln CA.rw CA.pl cup; simp
theorem cup_ne {A : CA} {T tr ln rw pl t : Nat} (h : t ≠ T) : CA.tr (cup A T tr ln rw pl) t = CA.tr A t ∧ CA.ln (cup A T tr ln rw pl) t = CA.ln A t ∧ CA.rw (cup A T tr ln rw pl) t = CA.rw A t ∧ CA.pl (cup A T tr ln rw pl) t = CA.pl A t := ⟨cup_lo h, cup_lo h, cup_lo h, cup_lo h⟩
theorem trS_add {S S' : Mem} {cm T a ln rw pl : Nat} {A : CA} {LT : Nat → List Nat} {L : List Nat} (h : trS S cm T A LT) (hT : T < 20) (c : chg S S' [] [A.ta] [(65, cm)] []) (hp : ∀ t, mP S' A.ta t = if t = T then some a else mP S A.ta t) (hi : mI S' 65 cm = nI (T + 1)) (ha : is S' a 8) (ho : mO S' 512 a = some ln) (hl : lnV S' ln rw pl L) : trS S' cm (T + 1) (cup A T a ln rw pl) (up LT T L) := by
  obtain ⟨h1, h2, h3, h4, h5, h6, h7, h8⟩ := h
  refine ⟨is_ch c h1, by rw [cup_ta]; exact mo_ch c h1 (by simp) h2, by rw [cup_ta]; exact isA_ch c h3, hi, by omega, by rw [cup_mg]; exact mo_ch c h1 (by simp) h6, fun t ht => ?_, fun t ht => ?_⟩
  · rw [cup_ta, hp]
    by_cases z : t = T
    · rw [if_pos z, z, if_pos (Nat.lt_succ_self T), cup_at.1]
    · rw [if_neg z, h7 t ht, (cup_ne z).1]
      by_cases y : t < T
      · rw [if_pos y, if_pos (by omega)]
      · rw [if_neg y, if_neg (by omega)]
  · by_cases z : t = T
    · obtain ⟨k1, k2, k3, k4⟩ := cup_at (A := A) (T := T) (tr := a) (ln := ln) (rw := rw) (pl := pl)
      rw [z, k1, k2, k3, k4, up_eq]
      exact ⟨ha, ho, hl⟩
    · obtain ⟨k1, k2, k3, k4⟩ := cup_ne (A := A) (tr := a) (ln := ln) (rw := rw) (pl := pl) z
      rw [k1, k2, k3, k4, up_ne z]
      obtain ⟨g1, g2, g3⟩ := h8 t (by omega)
      exact ⟨is_ch c g1, mo_ch c g1 (by simp) g2, lnV_ch c g3 (by simp) (by simp) (by simp) (by simp) (by simp)⟩
set_option maxRecDepth 100000 in
set_option maxHeartbeats 4000000 in
theorem ft_X1_addTrait (l : Launch) (M : Nat → Prop) (h : Nat) (T md mr mp : Nat) (A : CA) (LT : Nat → List Nat) (L : List Nat) : Ct l yX1_addTrait cX1_addTrait 3 (some .int) 3 6 80 64 (fun S av => av = [.ref h] ∧ INV M [] S ∧ is S h 1 ∧ (trS S h T A LT) ∧ (T < 20) ∧ (is S A.mg 4 ∧ mO S 259 A.mg = some md) ∧ (lnV S md mr mp L) ∧ (([T] ++ L).Nodup)) (fun S _ r S' => ∃ v : Nat, r = some (.int (nI v)) ∧ v = T ∧ INV M [] S' ∧ chg S S' [] [A.ta] [(65, h)] [] ∧ (∃ a ln rw pl bo gu, (a ∉ mL S ∧ ln ∉ mL S ∧ rw ∉ mL S ∧ pl ∉ mL S ∧ bo ∉ mL S ∧ gu ∉ mL S) ∧ newTB S' a bo gu ∧ trS S' h (T + 1) (cup A T a ln rw pl) (up LT T ([T] ++ L)))) := by
  refine ct_of (by decide) (fun S av h => by obtain ⟨rfl, iv, i_h, hT, hT20, hmg, hMd, hTL⟩ := h; exact Nat.le_of_ble_eq_true rfl) ?_
  intro p e s m args below meth c D G bs S av C hr hin hpre
  obtain ⟨rfl, iv, i_h, hT, hT20, hmg, hMd, hTL⟩ := hpre
  have ch : chg S S [] [A.ta] [(65, h)] [] := ch_rfl
  obtain ⟨ih0, o_ta, i_ta, eT, _, o_mg, hta, htr⟩ := id hT
  obtain ⟨i_mg, o_md⟩ := hmg
  have i_md := hMd.1
  have i_ta0 := i_ta
  refine v_aload_n C dX1_addTrait_0 rfl ?_
  refine g1_76 C i_h dX1_addTrait_1 ?_
  refine v_val eT ?_
  refine v_istore_n C dX1_addTrait_4 (by decide) (by first | rfl | exact cat_ok _ | simp [okS, cat_rf]) ?_
  refine v_iload_n C dX1_addTrait_5 rfl ?_
  refine v_bipush (v := nI 20) C dX1_addTrait_6 (by decide) ?_
  refine v_callSN (As := [_, _]) (n := 2) C (sb_isBelow l _ _) rfl ⟨(by decide +kernel), wd141, wd2, wd142⟩ hy_X9_isBelow rfl ⟨Nat.le_of_ble_eq_true rfl, Nat.le_of_ble_eq_true rfl⟩ (Nat.le_of_ble_eq_true rfl) ⟨Nat.le_of_ble_eq_true rfl, Nat.le_of_ble_eq_true rfl⟩ dX1_addTrait_8 rfl (fun r_8 S2_8 h_8 => ?_)
  obtain ⟨v8, rfl, p_v8, q_v8⟩ := h_8
  obtain rfl := q_v8.symm
  rw [isB_nI (by omega) (by decide)] at p_v8
  refine b_if_eq (tgt := 61) C dX1_addTrait_11 (by decide) (fun c_11 => ?_) (fun c_11 => ?_)
  · skip
    exact absurd hT20 (of_decide_eq_false (p_v8.symm.trans c_11))
  · skip
    refine v_new C (ci := 8) (by decide) rfl inlX8 tyX8_ok wd25 wd211 wd212 nfX8 (Nat.le_of_ble_eq_true rfl) (Nat.le_of_ble_eq_true rfl) dX1_addTrait_14 (fun a14 n_a14 => ?_)
    have nn_a14 : a14 ∉ mL S := fun z => n_a14 (ch.1 a14 z).1
    refine V.gen (fun S4_14 e_14 => ?_)
    have x_14 := x_sNew e_14 n_a14
    have iv := inv_sNew e_14 iv n_a14 (by decide)
    have ch := ch_sNew e_14 ch n_a14
    have o_ta := mo_sNewx e_14 (ne_of_is  n_a14 i_h) o_ta
    have o_mg := mo_sNewx e_14 (ne_of_is  n_a14 i_h) o_mg
    have o_md := mo_sNewx e_14 (ne_of_is  n_a14 i_mg) o_md
    have i_h := is_ext x_14 i_h
    have i_ta := isA_ext x_14 i_ta
    have i_mg := is_ext x_14 i_mg
    have i_md := is_ext x_14 i_md
    have i_a14 := is_sNewE e_14 n_a14
    have z_a14 := mI_newE e_14
    have zo_a14 := mO_newE e_14
    refine v_dup C dX1_addTrait_17 rfl ?_
    refine v_callIN (As := []) (n := 0) C (ft_X8_init l M _ _) rfl ⟨(by decide +kernel), wd214, wd212, wd215⟩ rfl hy_X8_init rfl ⟨Nat.le_of_ble_eq_true rfl, Nat.le_of_ble_eq_true rfl⟩ (Nat.le_of_ble_eq_true rfl) ⟨Nat.le_of_ble_eq_true rfl, Nat.le_of_ble_eq_true rfl⟩ dX1_addTrait_18 ⟨rfl, iv, i_a14⟩ (fun r_18 S4_18 h_18 => ?_)
    obtain ⟨rfl, iv', ch_18, r_v18⟩ := h_18
    obtain ⟨ln, rw, pl, bo, gu, ⟨nln, nrw, npl, nbo, ngu⟩, ⟨o_ln, o_bo, o_gu⟩, i_bo, i_gu, dbg, l18, pbo, pgu⟩ := r_v18
    have nbo : bo ∉ mL S := fun z => nbo (ch.1 _ z).1
    have ngu : gu ∉ mL S := fun z => ngu (ch.1 _ z).1
    have nln : ln ∉ mL S := fun z => nln (ch.1 _ z).1
    have nrw : rw ∉ mL S := fun z => nrw (ch.1 _ z).1
    have npl : pl ∉ mL S := fun z => npl (ch.1 _ z).1
    have iv := iv'
    clear iv'
    have ch := ch_trn ch ch_18 ⟨by simp, by simp, by simp, fun q hq => Or.inr (by simp at hq; rcases hq with rfl | rfl | rfl <;> exact nn_a14)⟩
    have o_ta := mo_ch ch_18 i_h (by first | decide | simp) o_ta
    have o_mg := mo_ch ch_18 i_h (by first | decide | simp) o_mg
    have o_md := mo_ch ch_18 i_mg (by first | decide | simp) o_md
    have i_h := is_ch ch_18 i_h
    have i_ta := isA_ch ch_18 i_ta
    have i_mg := is_ch ch_18 i_mg
    have i_md := is_ch ch_18 i_md
    have i_a14 := is_ch ch_18 i_a14
    have i_ln := l18.1
    have nb : newTB S4_18 a14 bo gu := ⟨i_a14, o_bo, o_gu, i_bo, i_gu, dbg, pbo, pgu⟩
    refine v_astore_n C dX1_addTrait_21 (by decide) (by first | rfl | exact cat_ok _ | simp [okS, cat_rf]) ?_
    refine v_aload_n C dX1_addTrait_22 rfl ?_
    refine r1_68 (b := ln) C i_a14 o_ln dX1_addTrait_23 ?_
    refine v_iload_n C dX1_addTrait_26 rfl ?_
    refine v_callV (As := [_]) (n := 1) C (ft_X3_add l M _ _ rw pl []) rfl i_ln (by decide) rfl ⟨wd223, wd167, wd168, wd45, wd169⟩ ⟨rfl, hy_X3_add⟩ rfl ⟨Nat.le_of_ble_eq_true rfl, Nat.le_of_ble_eq_true rfl⟩ (Nat.le_of_ble_eq_true rfl) ⟨Nat.le_of_ble_eq_true rfl, Nat.le_of_ble_eq_true rfl⟩ dX1_addTrait_27 ⟨rfl, iv, i_ln, l18, hT20, List.not_mem_nil⟩ (fun r_27 S4_27 h_27 => ?_)
    obtain ⟨rfl, iv', ch_27, r_v27⟩ := h_27
    have iv := iv'
    clear iv'
    have ch := ch_trn ch ch_27 ⟨fun q hq => Or.inr (by simp at hq; rcases hq with rfl | rfl; exact nrw; exact npl), by simp, fun q hq => Or.inr (by simp at hq; rw [hq]; exact nln), by simp⟩
    have o_ta := mo_ch ch_27 i_h (by first | decide | simp) o_ta
    have o_mg := mo_ch ch_27 i_h (by first | decide | simp) o_mg
    have o_md := mo_ch ch_27 i_mg (by first | decide | simp) o_md
    have o_ln := mo_ch ch_27 i_a14 (by first | decide | simp) o_ln
    have i_h := is_ch ch_27 i_h
    have i_ta := isA_ch ch_27 i_ta
    have i_mg := is_ch ch_27 i_mg
    have i_md := is_ch ch_27 i_md
    have i_a14 := is_ch ch_27 i_a14
    have i_ln := is_ch ch_27 i_ln
    rw [List.nil_append] at r_v27
    have nb := newTB_ch ch_27 nb (by simp) (by simp) (by simp) (by simp)
    refine v_aload_n C dX1_addTrait_30 rfl ?_
    refine r1_68 (b := ln) C i_a14 o_ln dX1_addTrait_31 ?_
    refine v_aload_n C dX1_addTrait_34 rfl ?_
    refine r1_26 (b := A.mg) C i_h o_mg dX1_addTrait_35 ?_
    refine r1_85 (b := md) C i_mg o_md dX1_addTrait_38 ?_
    have hM4 := lnV_ch ch hMd (by simp) (by simp) (by simp) (by simp) (by simp)
    refine v_callV (As := [_]) (n := 1) C (ft_X3_addAll l M _ _ rw pl [T] mr mp L) rfl i_ln (by decide) rfl ⟨wd224, wd225, wd226, wd45, wd227⟩ ⟨rfl, hy_X3_addAll⟩ rfl ⟨Nat.le_of_ble_eq_true rfl, Nat.le_of_ble_eq_true rfl⟩ (Nat.le_of_ble_eq_true rfl) ⟨Nat.le_of_ble_eq_true rfl, Nat.le_of_ble_eq_true rfl⟩ dX1_addTrait_41 ⟨rfl, iv, i_ln, i_md, r_v27, hM4, ⟨hTL, fun z => nln (z ▸ hMd.1.1), fun z => nrw (z ▸ hMd.2.2.2.1.1), fun z => nrw (z ▸ hMd.2.2.2.2.1.1), fun z => npl (z ▸ hMd.2.2.2.1.1), fun z => npl (z ▸ hMd.2.2.2.2.1.1)⟩⟩ (fun r_41 S4_41 h_41 => ?_)
    obtain ⟨rfl, iv', ch_41, r_v41⟩ := h_41
    have iv := iv'
    clear iv'
    have ch := ch_trn ch ch_41 ⟨fun q hq => Or.inr (by simp at hq; rcases hq with rfl | rfl; exact nrw; exact npl), by simp, fun q hq => Or.inr (by simp at hq; rw [hq]; exact nln), by simp⟩
    have o_ta := mo_ch ch_41 i_h (by first | decide | simp) o_ta
    have o_mg := mo_ch ch_41 i_h (by first | decide | simp) o_mg
    have o_md := mo_ch ch_41 i_mg (by first | decide | simp) o_md
    have o_ln := mo_ch ch_41 i_a14 (by first | decide | simp) o_ln
    have i_h := is_ch ch_41 i_h
    have i_ta := isA_ch ch_41 i_ta
    have i_mg := is_ch ch_41 i_mg
    have i_md := is_ch ch_41 i_md
    have i_a14 := is_ch ch_41 i_a14
    have i_ln := is_ch ch_41 i_ln
    have nb := newTB_ch ch_41 nb (by simp) (by simp) (by simp) (by simp)
    have c0 : chg S S4_41 [] [] [] [] := ch_trn (ch_trn (ch_trn (ch_sNew e_14 ch_rfl n_a14) ch_18 ⟨by simp, by simp, by simp, fun q hq => Or.inr (by simp at hq; rcases hq with rfl | rfl | rfl <;> exact nn_a14)⟩) ch_27 ⟨fun q hq => Or.inr (by simp at hq; rcases hq with rfl | rfl; exact nrw; exact npl), by simp, fun q hq => Or.inr (by simp at hq; rw [hq]; exact nln), by simp⟩) ch_41 ⟨fun q hq => Or.inr (by simp at hq; rcases hq with rfl | rfl; exact nrw; exact npl), by simp, fun q hq => Or.inr (by simp at hq; rw [hq]; exact nln), by simp⟩
    have eT4 := mi_ch c0 ih0 (by simp) eT
    refine v_aload_n C dX1_addTrait_44 rfl ?_
    refine r1_11 (b := A.ta) C i_h o_ta dX1_addTrait_45 ?_
    refine v_iload_n C dX1_addTrait_48 rfl ?_
    refine v_aload_n C dX1_addTrait_49 rfl ?_
    refine v_aast (t0 := 6) C i_ta (by decide) i_a14 (by decide) rfl rfl (vp_in_nI (by omega) (by omega)) dX1_addTrait_50 ?_
    rw [nI_clamp (by omega)]
    refine V.gen (fun S4_50 e_50 => ?_)
    have x_50 := x_sP e_50
    have iv := inv_sP e_50 iv i_ta.2.1 (by decide) (nOK_is i_a14)
    have ch := ch_sP e_50 ch (by simp)
    have o_ta := mo_sPy e_50 o_ta
    have o_mg := mo_sPy e_50 o_mg
    have o_md := mo_sPy e_50 o_md
    have o_ln := mo_sPy e_50 o_ln
    have i_h := is_ext x_50 i_h
    have i_ta := isA_ext x_50 i_ta
    have i_mg := is_ext x_50 i_mg
    have i_md := is_ext x_50 i_md
    have i_a14 := is_ext x_50 i_a14
    have i_ln := is_ext x_50 i_ln
    refine v_aload_n C dX1_addTrait_51 rfl ?_
    refine v_dup C dX1_addTrait_52 rfl ?_
    refine g1_76 C i_h dX1_addTrait_53 ?_
    refine v_val (mi_sPy e_50 eT4) ?_
    refine v_iconst (v := nI 1) C dX1_addTrait_56 (by decide) ?_
    refine n_iadd C dX1_addTrait_57 ?_
    skip
    refine p1_76 C i_h dX1_addTrait_58 ?_
    refine V.gen (fun S4_58 e_58 => ?_)
    have x_58 := x_sI e_58
    have iv := inv_sI e_58 iv (by decide) (by decide)
    have ch := ch_sI e_58 ch (by simp)
    have o_ta := mo_sIy e_58 o_ta
    have o_mg := mo_sIy e_58 o_mg
    have o_md := mo_sIy e_58 o_md
    have o_ln := mo_sIy e_58 o_ln
    have i_h := is_ext x_58 i_h
    have i_ta := isA_ext x_58 i_ta
    have i_mg := is_ext x_58 i_mg
    have i_md := is_ext x_58 i_md
    have i_a14 := is_ext x_58 i_a14
    have i_ln := is_ext x_58 i_ln
    refine v_iload_n C dX1_addTrait_61 rfl ?_
    refine v_iret C hr (Nat.le_of_ble_eq_true rfl) (Nat.le_of_ble_eq_true rfl) dX1_addTrait_62 ?_
    exact ⟨_, rfl, (rfl), iv, ch, ((by
       have hp : ∀ t, mP S4_58 A.ta t = if t = T then some a14 else mP S A.ta t := fun t => by
         rw [e_58, mP_sI, e_50, mP_sP, mp_ch c0 i_ta0 (by simp)]; simp
       have l5 := lnV_ch (ch_sI e_58 (ch_sP e_50 (ch_rfl (AR := []) (PR := [A.ta]) (FI := [(65, h)]) (FO := [])) (by simp)) (by simp)) r_v41 (by simp) (by simp) (by simp) (by simp) (by simp)
       have nb := newTB_ch (ch_sI e_58 (ch_sP e_50 (ch_rfl (AR := []) (PR := [A.ta]) (FI := [(65, h)]) (FO := [])) (by simp)) (by simp)) nb (by simp; exact isA_nn nb.2.2.2.1 (isA_ch c0 i_ta0) (by decide)) (by simp; exact isA_nn nb.2.2.2.2.1 (isA_ch c0 i_ta0) (by decide)) (by simp) (by simp)
       exact ⟨a14, ln, rw, pl, bo, gu, ⟨nn_a14, nln, nrw, npl, nbo, ngu⟩, nb, trS_add hT hT20 ch hp (by rw [e_58, mI_sI, if_pos ⟨rfl, rfl⟩]) i_a14 o_ln l5⟩))⟩
