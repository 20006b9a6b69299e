/-! THE CLASS'S MERGER: its rows, as lists; how far each has been used -/
def rowC (LL : Nat → List Nat) (r i : Nat) : Option Nat := (LL r)[i]?
def mgR (S : Mem) (mg rows ft cnt : Nat) (ln rw pl : Nat → Nat) (LL : Nat → List Nat) (fr : Nat → Nat) : Prop := is S mg 4 ∧ mO S 256 mg = some rows ∧ mO S 257 mg = some ft ∧ isA S rows 15 7 ∧ isA S ft 11 7 ∧ mI S 260 mg = nI cnt ∧ cnt ≤ 7 ∧ ∀ r, r < cnt → mP S rows r = some (ln r) ∧ lnV S (ln r) (rw r) (pl r) (LL r) ∧ mA S ft r = nI (fr r) ∧ fr r ≤ 20
theorem mgR_ch {S S' : Mem} {AR PR : List Nat} {FI FO : List (Nat × Nat)} {mg rows ft cnt : Nat} {ln rw pl fr : Nat → Nat} {LL : Nat → List Nat} (c : chg S S' AR PR FI FO) (h : mgR S mg rows ft cnt ln rw pl LL fr) (n1 : rows ∉ PR) (n2 : ft ∉ AR) (n3 : (260, mg) ∉ FI) (n4 : (256, mg) ∉ FO) (n5 : (257, mg) ∉ FO) (n6 : ∀ r, r < cnt → rw r ∉ AR ∧ pl r ∉ AR ∧ (194, ln r) ∉ FI ∧ (192, ln r) ∉ FO ∧ (193, ln r) ∉ FO) : mgR S' mg rows ft cnt ln rw pl LL fr := by
  obtain ⟨h1, h2, h3, h4, h5, h6, h7, h8⟩ := h
  refine ⟨is_ch c h1, mo_ch c h1 n4 h2, mo_ch c h1 n5 h3, isA_ch c h4, isA_ch c h5, mi_ch c h1 n3 h6, h7, fun r hr => ?_⟩
  obtain ⟨g1, g2, g3, g4⟩ := h8 r hr
  obtain ⟨k1, k2, k3, k4, k5⟩ := n6 r hr
  exact ⟨by rw [mp_ch c h4 n1]; exact g1, lnV_ch c g2 k1 k2 k3 k4 k5, by rw [ma_ch c h5 n2]; exact g3, g4⟩
theorem rowC_shut {S : Mem} {mg rows ft cnt : Nat} {ln rw pl fr : Nat → Nat} {LL : Nat → List Nat} (h : mgR S mg rows ft cnt ln rw pl LL fr) : shut (rowC LL) cnt := by
  intro r hr
  have hl := lnV_len (h.2.2.2.2.2.2.2 r hr).2.1
  refine ⟨fun i j hij hn => ?_, fun i t ht => ?_⟩
  · unfold rowC at *
    rw [List.getElem?_eq_none_iff] at *
    omega
  · have := (List.getElem?_eq_some_iff.mp ht).1
    omega
theorem oI_le {v : Option Nat} {f : Nat} (hv : ∀ k, v = some k → k < 2 ^ 31) (hf : f < 2 ^ 31) : oI v ≤ nI f ↔ ∀ i, v = some i → i ≤ f := by
  cases v with
  | none =>
    refine ⟨fun _ i z => (by cases z), fun _ => ?_⟩
    rw [Int32.le_iff_toInt_le, nI_toInt hf]
    show (-1 : Int32).toInt ≤ _
    rw [show (-1 : Int32).toInt = -1 from rfl]; omega
  | some k => exact (nI_leI (hv k rfl) hf).trans ⟨fun z i e => by cases e; exact z, fun z => z k rfl⟩
theorem behR_pos {LL : Nat → List Nat} {fr : Nat → Nat} {cnt t r : Nat} (hs : shut (rowC LL) cnt) (hr : r < cnt) (hd : (LL r).Nodup) : behR (rowC LL) fr t r = true ↔ ∃ i, posO (LL r) t = some i ∧ fr r < i := by
  rw [behR_true hs hr]
  exact ⟨fun ⟨i, h1, h2⟩ => ⟨i, posO_of hd h2, h1⟩, fun ⟨i, h1, h2⟩ => ⟨i, h2, posO_some h1⟩⟩
set_option maxRecDepth 100000 in
set_option maxHeartbeats 4000000 in
theorem ft_X4_firstOf (l : Launch) (h : Nat) (r : Nat) (rows ft ln rw pl f : Nat) (L : List Nat) : Ct l yX4_firstOf cX4_firstOf 3 (some .int) 2 0 0 42 (fun S av => av = [.ref h, .int (nI r)] ∧ is S h 4 ∧ (mO S 256 h = some rows ∧ mO S 257 h = some ft ∧ isA S rows 15 7 ∧ isA S ft 11 7) ∧ (r < 7) ∧ (mP S rows r = some ln) ∧ (lnV S ln rw pl L) ∧ (mA S ft r = nI f ∧ f < 2 ^ 31)) (fun S _ r S' => ∃ v : Option Nat, r = some (.int (oI v)) ∧ v = L[f]? ∧ (∀ k, v = some k → k < 20) ∧ S' = S) := by
  refine ct_of (by decide) (fun S av h => by obtain ⟨rfl, i_h, hW, hr7, hp, hL, hf⟩ := h; exact Nat.le_of_ble_eq_true rfl) ?_
  intro p e s m args below meth c D G bs S av C hr hin hpre
  obtain ⟨rfl, i_h, hW, hr7, hp, hL, hf⟩ := hpre
  obtain ⟨o_rows, o_ft, i_rows, i_ft⟩ := hW
  have i_ln := hL.1
  refine v_iload_n C dX4_firstOf_0 rfl ?_
  refine v_bipush (v := nI 7) C dX4_firstOf_1 (by decide) ?_
  refine v_callSN (As := [_, _]) (n := 2) C (sb_isBelow l _ _) rfl ⟨(by decide +kernel), wd141, wd2, wd142⟩ hy_X9_isBelow rfl ⟨Nat.le_of_ble_eq_true rfl, Nat.le_of_ble_eq_true rfl⟩ (Nat.le_of_ble_eq_true rfl) ⟨Nat.le_of_ble_eq_true rfl, Nat.le_of_ble_eq_true rfl⟩ dX4_firstOf_3 rfl (fun r_3 S2_3 h_3 => ?_)
  obtain ⟨v3, rfl, p_v3, q_v3⟩ := h_3
  obtain rfl := q_v3.symm
  rw [isB_nI (by omega) (by decide)] at p_v3
  refine b_if_eq (tgt := 18) C dX4_firstOf_6 (by decide) (fun c_6 => ?_) (fun c_6 => ?_)
  · skip
    exact absurd hr7 (of_decide_eq_false (p_v3.symm.trans c_6))
  · skip
    refine v_aload_n C dX4_firstOf_9 rfl ?_
    refine r4_13 (b := rows) C i_h o_rows dX4_firstOf_10 ?_
    refine v_iload_n C dX4_firstOf_13 rfl ?_
    refine v_aald (t0 := 4) C i_rows (by decide) rfl (vp_in_nI (by omega) (by omega)) dX4_firstOf_14 ?_
    rw [nI_clamp (by omega)]
    refine v_valq hp ?_
    refine v_goto (tgt := 19) C dX4_firstOf_15 (by decide) ?_
    refine v_astore_n C dX4_firstOf_19 (by decide) (by first | rfl | exact cat_ok _ | simp [okS, cat_rf]) ?_
    refine v_aload_n C dX4_firstOf_20 rfl ?_
    refine v_ifnonnull (o := some _) (tgt := 28) C dX4_firstOf_21 (by decide) (fun _ _ => ?_) (fun c => by cases c)
    refine v_aload_n C dX4_firstOf_28 rfl ?_
    refine v_aload_n C dX4_firstOf_29 rfl ?_
    refine r4_17 (b := ft) C i_h o_ft dX4_firstOf_30 ?_
    refine v_iload_n C dX4_firstOf_33 rfl ?_
    refine v_iald C i_ft (vp_in_nI (by omega) (by omega)) dX4_firstOf_34 ?_
    rw [nI_clamp (by omega)]
    refine v_val hf.1 ?_
    refine v_callV (As := [_]) (n := 1) C (ft_X3_at l _ _ _ _ _) rfl i_ln (by decide) rfl ⟨wd186, wd187, wd188, wd45, wd189⟩ ⟨rfl, hy_X3_at⟩ rfl ⟨Nat.le_of_ble_eq_true rfl, Nat.le_of_ble_eq_true rfl⟩ (Nat.le_of_ble_eq_true rfl) ⟨Nat.le_of_ble_eq_true rfl, Nat.le_of_ble_eq_true rfl⟩ dX4_firstOf_35 ⟨rfl, i_ln, hL, hf.2⟩ (fun r_35 S4_35 h_35 => ?_)
    obtain ⟨v35, rfl, p_v35, b_v35, q_v35⟩ := h_35
    obtain rfl := q_v35.symm
    refine v_iret C hr (Nat.le_of_ble_eq_true rfl) (Nat.le_of_ble_eq_true rfl) dX4_firstOf_38 ?_
    exact ⟨_, rfl, (p_v35), (b_v35), rfl⟩
set_option maxRecDepth 100000 in
set_option maxHeartbeats 4000000 in
theorem ft_X4_standsBehind (l : Launch) (h : Nat) (t : Nat) (rows ft cnt : Nat) (ln rw pl fr : Nat → Nat) (LL : Nat → List Nat) : Ct l yX4_standsBehind cX4_standsBehind 4 (some .boolean) 2 0 0 42 (fun S av => av = [.ref h, .int (nI t)] ∧ is S h 4 ∧ (mgR S h rows ft cnt ln rw pl LL fr) ∧ (t < 20)) (fun S _ r S' => ∃ v : Bool, r = some (.int (bI v)) ∧ v = beh (rowC LL) fr cnt t ∧ S' = S) := by
  refine ct_of (by decide) (fun S av h => by obtain ⟨rfl, i_h, hG, ht⟩ := h; exact Nat.le_of_ble_eq_true rfl) ?_
  intro p e s m args below meth c D G bs S av C hr hin hpre
  obtain ⟨rfl, i_h, hG, ht⟩ := hpre
  obtain ⟨_, o_rows, o_ft, i_rows, i_ft, ecnt, hc7, hrow⟩ := id hG
  have hsh := rowC_shut hG
  refine v_iconst (v := nI 0) C dX4_standsBehind_0 (by decide) ?_
  refine v_istore_n C dX4_standsBehind_1 (by decide) (by first | rfl | exact cat_ok _ | simp [okS, cat_rf]) ?_
  refine V.lits (lv' := [_, _, _, _]) rfl ?_
  refine v_loop (fun (tt : (Nat)) lv0 => (lv0.set 2 (some (.int (nI tt))))) (fun (S1 : Mem) (tt : (Nat)) => S1 = S ∧ (tt ≤ cnt) ∧ (beh (rowC LL) fr cnt t = (sc (behR (rowC LL) fr t) (cnt - tt) tt).isSome)) (fun (S1 : Mem) (tt : (Nat)) => cnt - tt) (t := (0)) rfl ⟨rfl, (Nat.zero_le _), rfl⟩ ?_
  intro L2 tt h_2 ih_2
  revert h_2 ih_2
  revert tt
  intro r h_2 ih_2
  obtain ⟨e_S, hri, ho⟩ := h_2
  subst e_S
  try dsimp only at *
  refine v_iload_n C dX4_standsBehind_2 rfl ?_
  refine v_aload_n C dX4_standsBehind_3 rfl ?_
  refine g4_32 C i_h dX4_standsBehind_4 ?_
  refine v_val ecnt ?_
  refine n_icmp_ge (tgt := 49) C (by omega) (by omega) dX4_standsBehind_7 (by decide) (fun c_7 => ?_) (fun c_7 => ?_)
  · skip
    refine v_iconst (v := nI 0) C dX4_standsBehind_49 (by decide) ?_
    refine v_zret C hr (by first | rfl | exact bI_nar _) (Nat.le_of_ble_eq_true rfl) (Nat.le_of_ble_eq_true rfl) dX4_standsBehind_50 ?_
    exact ⟨false, rfl, (by rw [ho, sc_end (by omega)]; rfl), rfl⟩
  · skip
    obtain ⟨w1, w2, w3, w4⟩ := hrow r (by omega)
    have i_ln := w2.1
    refine v_iload_n C dX4_standsBehind_10 rfl ?_
    refine v_bipush (v := nI 7) C dX4_standsBehind_11 (by decide) ?_
    refine n_icmp_ge (tgt := 49) C (by omega) (by omega) dX4_standsBehind_13 (by decide) (fun c_13 => ?_) (fun c_13 => ?_)
    · skip
      omega
    · skip
      refine v_aload_n C dX4_standsBehind_16 rfl ?_
      refine r4_13 (b := rows) C i_h o_rows dX4_standsBehind_17 ?_
      refine v_iload_n C dX4_standsBehind_20 rfl ?_
      refine v_aald (t0 := 4) C i_rows (by decide) rfl (vp_in_nI (by omega) (by omega)) dX4_standsBehind_21 ?_
      rw [nI_clamp (by omega)]
      refine v_valq w1 ?_
      refine v_astore_n C dX4_standsBehind_22 (by decide) (by first | rfl | exact cat_ok _ | simp [okS, cat_rf]) ?_
      refine v_aload_n C dX4_standsBehind_23 rfl ?_
      refine v_ifnull (o := some _) (tgt := 43) C dX4_standsBehind_24 (by decide) (fun c => by cases c) (fun _ _ => ?_)
      refine v_aload_n C dX4_standsBehind_27 rfl ?_
      refine v_iload_n C dX4_standsBehind_28 rfl ?_
      refine v_callV (As := [_]) (n := 1) C (ft_X3_placeOf l _ _ (rw r) (pl r) (LL r)) rfl i_ln (by decide) rfl ⟨wd194, wd195, wd196, wd45, wd197⟩ ⟨rfl, hy_X3_placeOf⟩ rfl ⟨Nat.le_of_ble_eq_true rfl, Nat.le_of_ble_eq_true rfl⟩ (Nat.le_of_ble_eq_true rfl) ⟨Nat.le_of_ble_eq_true rfl, Nat.le_of_ble_eq_true rfl⟩ dX4_standsBehind_29 ⟨rfl, i_ln, w2, ht⟩ (fun r_29 S4_29 h_29 => ?_)
      obtain ⟨v29, rfl, p_v29, b_v29, q_v29⟩ := h_29
      obtain rfl := q_v29.symm
      refine v_aload_n C dX4_standsBehind_32 rfl ?_
      refine r4_17 (b := ft) C i_h o_ft dX4_standsBehind_33 ?_
      refine v_iload_n C dX4_standsBehind_36 rfl ?_
      refine v_iald C i_ft (vp_in_nI (by omega) (by omega)) dX4_standsBehind_37 ?_
      rw [nI_clamp (by omega)]
      refine v_val w3 ?_
      refine v_icmp_le (tgt := 43) C dX4_standsBehind_38 (by decide) (fun c_38 => ?_) (fun c_38 => ?_)
      · skip
        have hP : behR (rowC LL) fr t r = false := by
          cases e : behR (rowC LL) fr t r with
          | false => rfl
          | true =>
            obtain ⟨i, z1, z2⟩ := (behR_pos hsh (by omega) w2.2.2.2.2.2.2.2.1).mp e
            have := (oI_le (fun k z => by have := b_v29 k z; omega) (by omega)).mp c_38 i (p_v29.trans z1)
            omega
        refine v_iinc C dX4_standsBehind_43 rfl (nI_inc _) (by decide) (by first | rfl | exact cat_ok _ | simp [okS, cat_rf]) ?_
        refine v_goto (tgt := 2) C dX4_standsBehind_46 (by decide) ?_
        refine V.drop 3 ?_
        refine V.lits (lv' := [_, _, _, _]) rfl ?_
        exact ih_2 _ ((r + 1)) (by first | omega | (dsimp only; omega)) ⟨rfl, (by omega), (ho.trans (congrArg Option.isSome (sc_step (by omega) hP)))⟩
      · skip
        have hP : behR (rowC LL) fr t r = true := by
          cases e : v29 with
          | none => exact absurd ((oI_le (fun k z => by have := b_v29 k z; omega) (by omega)).mpr (fun i z => by rw [e] at z; cases z)) c_38
          | some i =>
            refine (behR_pos hsh (by omega) w2.2.2.2.2.2.2.2.1).mpr ⟨i, p_v29.symm.trans e, ?_⟩
            have hc := c_38
            rw [e] at hc
            exact Nat.lt_of_not_le (fun z => hc ((nI_leI (by have := b_v29 i e; omega) (by omega)).mpr z))
        refine v_iconst (v := nI 1) C dX4_standsBehind_41 (by decide) ?_
        refine v_zret C hr (by first | rfl | exact bI_nar _) (Nat.le_of_ble_eq_true rfl) (Nat.le_of_ble_eq_true rfl) dX4_standsBehind_42 ?_
        exact ⟨true, rfl, (by rw [ho, sc_hit (by omega) hP]; rfl), rfl⟩
set_option maxRecDepth 100000 in
set_option maxHeartbeats 4000000 in
theorem ft_X4_nextTrait (l : Launch) (h : Nat) (rows ft cnt : Nat) (ln rw pl fr : Nat → Nat) (LL : Nat → List Nat) : Ct l yX4_nextTrait cX4_nextTrait 3 (some .int) 3 0 0 65 (fun S av => av = [.ref h] ∧ is S h 4 ∧ (mgR S h rows ft cnt ln rw pl LL fr)) (fun S _ r S' => ∃ v : Option Nat, r = some (.int (oI v)) ∧ v = nx (rowC LL) fr cnt ∧ (∀ k, v = some k → k < 20) ∧ S' = S) := by
  refine ct_of (by decide) (fun S av h => by obtain ⟨rfl, i_h, hG⟩ := h; exact Nat.le_of_ble_eq_true rfl) ?_
  intro p e s m args below meth c D G bs S av C hr hin hpre
  obtain ⟨rfl, i_h, hG⟩ := hpre
  obtain ⟨_, o_rows, o_ft, i_rows, i_ft, ecnt, hc7, hrow⟩ := id hG
  have hsh := rowC_shut hG
  refine v_iconst (v := nI 0) C dX4_nextTrait_0 (by decide) ?_
  refine v_istore_n C dX4_nextTrait_1 (by decide) (by first | rfl | exact cat_ok _ | simp [okS, cat_rf]) ?_
  refine V.lits (lv' := [_, _, _]) rfl ?_
  refine v_loop (fun (tt : (Nat)) lv0 => (lv0.set 1 (some (.int (nI tt))))) (fun (S1 : Mem) (tt : (Nat)) => S1 = S ∧ (tt ≤ cnt) ∧ (nx (rowC LL) fr cnt = nxO (rowC LL) fr (sc (nxP (rowC LL) fr cnt) (cnt - tt) tt))) (fun (S1 : Mem) (tt : (Nat)) => cnt - tt) (t := (0)) rfl ⟨rfl, (Nat.zero_le _), rfl⟩ ?_
  intro L2 tt h_2 ih_2
  revert h_2 ih_2
  revert tt
  intro r h_2 ih_2
  obtain ⟨e_S, hri, ho⟩ := h_2
  subst e_S
  try dsimp only at *
  refine v_iload_n C dX4_nextTrait_2 rfl ?_
  refine v_aload_n C dX4_nextTrait_3 rfl ?_
  refine g4_32 C i_h dX4_nextTrait_4 ?_
  refine v_val ecnt ?_
  refine n_icmp_ge (tgt := 37) C (by omega) (by omega) dX4_nextTrait_7 (by decide) (fun c_7 => ?_) (fun c_7 => ?_)
  · skip
    refine v_iconst (v := -1) C dX4_nextTrait_37 (by decide) ?_
    refine v_iret C hr (Nat.le_of_ble_eq_true rfl) (Nat.le_of_ble_eq_true rfl) dX4_nextTrait_38 ?_
    exact ⟨none, rfl, (by rw [ho, sc_end (by omega)]; rfl), (fun k z => by cases z), rfl⟩
  · skip
    obtain ⟨w1, w2, w3, w4⟩ := hrow r (by omega)
    refine v_aload_n C dX4_nextTrait_10 rfl ?_
    refine v_iload_n C dX4_nextTrait_11 rfl ?_
    refine v_callV (As := [_]) (n := 1) C (ft_X4_firstOf l _ _ rows ft (ln r) (rw r) (pl r) (fr r) (LL r)) rfl i_h (by decide) rfl ⟨wd182, wd183, wd184, wd31, wd185⟩ ⟨rfl, hy_X4_firstOf⟩ rfl ⟨Nat.le_of_ble_eq_true rfl, Nat.le_of_ble_eq_true rfl⟩ (Nat.le_of_ble_eq_true rfl) ⟨Nat.le_of_ble_eq_true rfl, Nat.le_of_ble_eq_true rfl⟩ dX4_nextTrait_12 ⟨rfl, i_h, ⟨o_rows, o_ft, i_rows, i_ft⟩, (by omega), w1, w2, ⟨w3, by omega⟩⟩ (fun r_12 S2_12 h_12 => ?_)
    obtain ⟨v12, rfl, p_v12, b_v12, q_v12⟩ := h_12
    obtain rfl := q_v12.symm
    refine v_istore_n C dX4_nextTrait_15 (by decide) (by first | rfl | exact cat_ok _ | simp [okS, cat_rf]) ?_
    refine v_iload_n C dX4_nextTrait_16 rfl ?_
    refine v_iconst (v := -1) C dX4_nextTrait_17 (by decide) ?_
    refine o_icmp_eq (tgt := 31) C (fun k z => by have := b_v12 k z; omega) dX4_nextTrait_18 (by decide) (fun c_18 => ?_) (fun k18 c_18 => ?_)
    · skip
      subst c_18
      have hP : nxP (rowC LL) fr cnt r = false := by unfold nxP; rw [show rowC LL r (fr r) = none from p_v12.symm]
      refine v_iinc C dX4_nextTrait_31 rfl (nI_inc _) (by decide) (by first | rfl | exact cat_ok _ | simp [okS, cat_rf]) ?_
      refine v_goto (tgt := 2) C dX4_nextTrait_34 (by decide) ?_
      refine V.drop 2 ?_
      refine V.lits (lv' := [_, _, _]) rfl ?_
      exact ih_2 _ ((r + 1)) (by first | omega | (dsimp only; omega)) ⟨rfl, (by omega), (ho.trans (congrArg (nxO (rowC LL) fr) (sc_step (by omega) hP)))⟩
    · skip
      have b_k18 := b_v12 k18 c_18
      subst c_18
      have hrs : rowC LL r (fr r) = some k18 := p_v12.symm
      refine v_aload_n C dX4_nextTrait_21 rfl ?_
      refine v_iload_n C dX4_nextTrait_22 rfl ?_
      refine v_callV (As := [_]) (n := 1) C (ft_X4_standsBehind l _ _ rows ft cnt ln rw pl fr LL) rfl i_h (by decide) rfl ⟨wd190, wd191, wd192, wd31, wd193⟩ ⟨rfl, hy_X4_standsBehind⟩ rfl ⟨Nat.le_of_ble_eq_true rfl, Nat.le_of_ble_eq_true rfl⟩ (Nat.le_of_ble_eq_true rfl) ⟨Nat.le_of_ble_eq_true rfl, Nat.le_of_ble_eq_true rfl⟩ dX4_nextTrait_23 ⟨rfl, i_h, hG, (by omega)⟩ (fun r_23 S4_23 h_23 => ?_)
      obtain ⟨v23, rfl, p_v23, q_v23⟩ := h_23
      obtain rfl := q_v23.symm
      refine b_if_ne (tgt := 31) C dX4_nextTrait_26 (by decide) (fun c_26 => ?_) (fun c_26 => ?_)
      · skip
        have hP : nxP (rowC LL) fr cnt r = false := by unfold nxP; rw [hrs]; show (!beh (rowC LL) fr cnt k18) = false; rw [← p_v23, c_26]; rfl
        refine v_iinc C dX4_nextTrait_31 rfl (nI_inc _) (by decide) (by first | rfl | exact cat_ok _ | simp [okS, cat_rf]) ?_
        refine v_goto (tgt := 2) C dX4_nextTrait_34 (by decide) ?_
        refine V.drop 2 ?_
        refine V.lits (lv' := [_, _, _]) rfl ?_
        exact ih_2 _ ((r + 1)) (by first | omega | (dsimp only; omega)) ⟨rfl, (by omega), (ho.trans (congrArg (nxO (rowC LL) fr) (sc_step (by omega) hP)))⟩
      · skip
        have hP : nxP (rowC LL) fr cnt r = true := by unfold nxP; rw [hrs]; show (!beh (rowC LL) fr cnt k18) = true; rw [← p_v23, c_26]; rfl
        refine v_iload_n C dX4_nextTrait_29 rfl ?_
        refine v_iret C hr (Nat.le_of_ble_eq_true rfl) (Nat.le_of_ble_eq_true rfl) dX4_nextTrait_30 ?_
        exact ⟨some _, rfl, (by rw [ho, sc_hit (by omega) hP]; exact hrs.symm), (fun k z => by cases z; exact b_k18), rfl⟩
theorem any_mono {row : Nat → Nat → Option Nat} {fr : Nat → Nat} {r n : Nat} (h : r ≤ n) (e : anyFr row fr r = true) : anyFr row fr n = true := by
  unfold anyFr at *
  rw [Option.isSome_iff_exists] at e
  obtain ⟨j, hj⟩ := e
  obtain ⟨h1, h2, h3, h4⟩ := sc_some hj
  rw [sc_eq_some (f := n) h1 (by omega) h3 h4]; rfl
set_option maxRecDepth 100000 in
set_option maxHeartbeats 4000000 in
theorem ft_X4_allDone (l : Launch) (h : Nat) (rows ft cnt : Nat) (ln rw pl fr : Nat → Nat) (LL : Nat → List Nat) : Ct l yX4_allDone cX4_allDone 2 (some .boolean) 3 0 0 64 (fun S av => av = [.ref h] ∧ is S h 4 ∧ (mgR S h rows ft cnt ln rw pl LL fr)) (fun S _ r S' => ∃ v : Bool, r = some (.int (bI v)) ∧ v = !anyFr (rowC LL) fr cnt ∧ S' = S) := by
  refine ct_of (by decide) (fun S av h => by obtain ⟨rfl, i_h, hG⟩ := h; exact Nat.le_of_ble_eq_true rfl) ?_
  intro p e s m args below meth c D G bs S av C hr hin hpre
  obtain ⟨rfl, i_h, hG⟩ := hpre
  obtain ⟨_, o_rows, o_ft, i_rows, i_ft, ecnt, hc7, hrow⟩ := id hG
  have hsh := rowC_shut hG
  refine v_iconst (v := nI 0) C dX4_allDone_0 (by decide) ?_
  refine v_istore_n C dX4_allDone_1 (by decide) (by first | rfl | exact cat_ok _ | simp [okS, cat_rf]) ?_
  refine V.lits (lv' := [_, _]) rfl ?_
  refine v_loop (fun (tt : (Nat)) lv0 => (lv0.set 1 (some (.int (nI tt))))) (fun (S1 : Mem) (tt : (Nat)) => S1 = S ∧ (tt ≤ cnt) ∧ (anyFr (rowC LL) fr tt = false)) (fun (S1 : Mem) (tt : (Nat)) => cnt - tt) (t := (0)) rfl ⟨rfl, (Nat.zero_le _), rfl⟩ ?_
  intro L2 tt h_2 ih_2
  revert h_2 ih_2
  revert tt
  intro r h_2 ih_2
  obtain ⟨e_S, hri, ho⟩ := h_2
  subst e_S
  try dsimp only at *
  refine v_iload_n C dX4_allDone_2 rfl ?_
  refine v_aload_n C dX4_allDone_3 rfl ?_
  refine g4_32 C i_h dX4_allDone_4 ?_
  refine v_val ecnt ?_
  refine n_icmp_ge (tgt := 27) C (by omega) (by omega) dX4_allDone_7 (by decide) (fun c_7 => ?_) (fun c_7 => ?_)
  · skip
    refine v_iconst (v := nI 1) C dX4_allDone_27 (by decide) ?_
    refine v_zret C hr (by first | rfl | exact bI_nar _) (Nat.le_of_ble_eq_true rfl) (Nat.le_of_ble_eq_true rfl) dX4_allDone_28 ?_
    exact ⟨true, rfl, (by rw [← (show r = cnt by omega), ho]; rfl), rfl⟩
  · skip
    obtain ⟨w1, w2, w3, w4⟩ := hrow r (by omega)
    refine v_aload_n C dX4_allDone_10 rfl ?_
    refine v_iload_n C dX4_allDone_11 rfl ?_
    refine v_callV (As := [_]) (n := 1) C (ft_X4_firstOf l _ _ rows ft (ln r) (rw r) (pl r) (fr r) (LL r)) rfl i_h (by decide) rfl ⟨wd182, wd183, wd184, wd31, wd185⟩ ⟨rfl, hy_X4_firstOf⟩ rfl ⟨Nat.le_of_ble_eq_true rfl, Nat.le_of_ble_eq_true rfl⟩ (Nat.le_of_ble_eq_true rfl) ⟨Nat.le_of_ble_eq_true rfl, Nat.le_of_ble_eq_true rfl⟩ dX4_allDone_12 ⟨rfl, i_h, ⟨o_rows, o_ft, i_rows, i_ft⟩, (by omega), w1, w2, ⟨w3, by omega⟩⟩ (fun r_12 S2_12 h_12 => ?_)
    obtain ⟨v12, rfl, p_v12, b_v12, q_v12⟩ := h_12
    obtain rfl := q_v12.symm
    refine v_iconst (v := -1) C dX4_allDone_15 (by decide) ?_
    refine o_icmp_eq (tgt := 21) C (fun k z => by have := b_v12 k z; omega) dX4_allDone_16 (by decide) (fun c_16 => ?_) (fun k16 c_16 => ?_)
    · skip
      subst c_16
      have hrn : rowC LL r (fr r) = none := p_v12.symm
      refine v_iinc C dX4_allDone_21 rfl (nI_inc _) (by decide) (by first | rfl | exact cat_ok _ | simp [okS, cat_rf]) ?_
      refine v_goto (tgt := 2) C dX4_allDone_24 (by decide) ?_
      refine V.lits (lv' := [_, _]) rfl ?_
      exact ih_2 _ ((r + 1)) (by first | omega | (dsimp only; omega)) ⟨rfl, (by omega), ((any_step hrn).trans ho)⟩
    · skip
      have b_k16 := b_v12 k16 c_16
      subst c_16
      have hrs : rowC LL r (fr r) = some k16 := p_v12.symm
      refine v_iconst (v := nI 0) C dX4_allDone_19 (by decide) ?_
      refine v_zret C hr (by first | rfl | exact bI_nar _) (Nat.le_of_ble_eq_true rfl) (Nat.le_of_ble_eq_true rfl) dX4_allDone_20 ?_
      exact ⟨false, rfl, (by rw [any_mono (show r + 1 ≤ cnt by omega) (any_hit hrs)]; rfl), rfl⟩
/-! what changes a merger -/
def up {A : Type} (f : Nat → A) (n : Nat) (v : A) : Nat → A := fun q => if q = n then v else f q
theorem up_eq {A : Type} {f : Nat → A} {n : Nat} {v : A} : up f n v n = v := if_pos rfl
theorem up_ne {A : Type} {f : Nat → A} {n q : Nat} {v : A} (h : q ≠ n) : up f n v q = f q := if_neg h
theorem isA_nn {S : Mem} {a b k k' n n' : Nat} (h : isA S a k n) (h' : isA S b k' n') (d : n ≠ n') : a ≠ b := fun z => d (h.2.2.symm.trans (z ▸ h'.2.2))
theorem mgR_congr {S : Mem} {mg rows ft cnt : Nat} {ln rw pl fr fr' : Nat → Nat} {LL : Nat → List Nat} (h : mgR S mg rows ft cnt ln rw pl LL fr) (e : ∀ r, r < cnt → fr' r = fr r) : mgR S mg rows ft cnt ln rw pl LL fr' :=
  ⟨h.1, h.2.1, h.2.2.1, h.2.2.2.1, h.2.2.2.2.1, h.2.2.2.2.2.1, h.2.2.2.2.2.2.1, fun r hr => by rw [e r hr]; exact h.2.2.2.2.2.2.2 r hr⟩
theorem mgR_one {S S2 : Mem} {mg rows ft cnt r v : Nat} {ln rw pl fr : Nat → Nat} {LL : Nat → List Nat} (h : mgR S mg rows ft cnt ln rw pl LL fr) (e : S2 = sA S ft r (nI v)) (hv : v ≤ 20) : mgR S2 mg rows ft cnt ln rw pl LL (up fr r v) := by
  have c := ch_sA e (ch_rfl (S := S) (AR := [ft]) (PR := []) (FI := []) (FO := [])) (by simp)
  obtain ⟨h1, h2, h3, h4, h5, h6, h7, h8⟩ := h
  refine ⟨is_ch c h1, mo_ch c h1 (by simp) h2, mo_ch c h1 (by simp) h3, isA_ch c h4, isA_ch c h5, mi_ch c h1 (by simp) h6, h7, fun q hq => ?_⟩
  obtain ⟨g1, g2, g3, g4⟩ := h8 q hq
  have d1 := isA_nn g2.2.2.2.1 h5 (by decide)
  have d2 := isA_nn g2.2.2.2.2.1 h5 (by decide)
  refine ⟨by rw [mp_ch c h4 (by simp)]; exact g1, lnV_ch c g2 (by simp; exact d1) (by simp; exact d2) (by simp) (by simp) (by simp), ?_, ?_⟩
  · rw [e, mA_sA]
    by_cases z : q = r
    · rw [if_pos ⟨rfl, z⟩, z, up_eq]
    · rw [if_neg (fun y => z y.2), up_ne z]; exact g3
  · by_cases z : q = r
    · rw [z, up_eq]; exact hv
    · rw [up_ne z]; exact g4
theorem mgR_row {S S1 S2 S3 : Mem} {mg rows ft cnt lx rx px : Nat} {ln rw pl fr : Nat → Nat} {LL : Nat → List Nat} {L : List Nat} (h : mgR S mg rows ft cnt ln rw pl LL fr) (hc : cnt < 7) (hL : lnV S lx rx px L) (e1 : S1 = sP S rows cnt (some lx)) (e2 : S2 = sA S1 ft cnt (nI 0)) (e3 : S3 = sI S2 260 mg (nI (cnt + 1))) : mgR S3 mg rows ft (cnt + 1) (up ln cnt lx) (up rw cnt rx) (up pl cnt px) (up LL cnt L) (up fr cnt 0) := by
  have c := ch_sI e3 (ch_sA e2 (ch_sP e1 (ch_rfl (S := S) (AR := [ft]) (PR := [rows]) (FI := [(260, mg)]) (FO := [])) (by simp)) (by simp)) (by simp)
  obtain ⟨h1, h2, h3, h4, h5, h6, h7, h8⟩ := h
  have kL : ∀ a r p l, lnV S a r p l → lnV S3 a r p l := fun a r p l g => by
    have d1 := isA_nn g.2.2.2.1 h5 (by decide)
    have d2 := isA_nn g.2.2.2.2.1 h5 (by decide)
    exact lnV_ch c g (by simp; exact d1) (by simp; exact d2) (by simp) (by simp) (by simp)
  have eP : ∀ q, mP S3 rows q = if q = cnt then some lx else mP S rows q := fun q => by
    rw [e3, mP_sI, e2, mP_sA, e1, mP_sP]; simp
  have eA : ∀ q, mA S3 ft q = if q = cnt then nI 0 else mA S ft q := fun q => by
    rw [e3, mA_sI, e2, mA_sA, e1, mA_sP]; simp
  refine ⟨is_ch c h1, mo_ch c h1 (by simp) h2, mo_ch c h1 (by simp) h3, isA_ch c h4, isA_ch c h5, by rw [e3, mI_sI, if_pos ⟨rfl, rfl⟩], by omega, fun q hq => ?_⟩
  by_cases z : q = cnt
  · subst z
    rw [up_eq, up_eq, up_eq, up_eq, up_eq, eP, eA, if_pos rfl, if_pos rfl]
    exact ⟨rfl, kL _ _ _ _ hL, rfl, Nat.zero_le _⟩
  · rw [up_ne z, up_ne z, up_ne z, up_ne z, up_ne z, eP, eA, if_neg z, if_neg z]
    obtain ⟨g1, g2, g3, g4⟩ := h8 q (by omega)
    exact ⟨g1, kL _ _ _ _ g2, g3, g4⟩
/-- the fronts, once the rows before r have been struck -/
def stF (row : Nat → Nat → Option Nat) (fr : Nat → Nat) (t r : Nat) : Nat → Nat := fun q => if q < r then adv row fr t q else fr q
theorem stF_at {row : Nat → Nat → Option Nat} {fr : Nat → Nat} {t r : Nat} : stF row fr t r r = fr r := if_neg (Nat.lt_irrefl r)
theorem stF_lt {row : Nat → Nat → Option Nat} {fr : Nat → Nat} {t r q : Nat} (h : q < r) : stF row fr t r q = adv row fr t q := if_pos h
theorem stF_hit {row : Nat → Nat → Option Nat} {fr : Nat → Nat} {t r : Nat} (h : row r (fr r) = some t) (q : Nat) : stF row fr t (r + 1) q = up (stF row fr t r) r (fr r + 1) q := by
  by_cases z : q = r
  · subst z; rw [up_eq, stF_lt (Nat.lt_succ_self q)]; exact if_pos h
  · rw [up_ne z]
    unfold stF
    by_cases y : q < r
    · rw [if_pos y, if_pos (by omega)]
    · rw [if_neg y, if_neg (by omega)]
theorem stF_miss {row : Nat → Nat → Option Nat} {fr : Nat → Nat} {t r : Nat} (h : ¬ row r (fr r) = some t) (q : Nat) : stF row fr t (r + 1) q = stF row fr t r q := by
  by_cases z : q = r
  · subst z; rw [stF_at, stF_lt (Nat.lt_succ_self q)]; exact if_neg h
  · unfold stF
    by_cases y : q < r
    · rw [if_pos y, if_pos (by omega)]
    · rw [if_neg y, if_neg (by omega)]
set_option maxRecDepth 100000 in
set_option maxHeartbeats 4000000 in
theorem ft_X4_strike (l : Launch) (M : Nat → Prop) (h : Nat) (t : Nat) (rows ft cnt : Nat) (ln rw pl fr : Nat → Nat) (LL : Nat → List Nat) : Ct l yX4_strike cX4_strike 3 none 3 0 0 64 (fun S av => av = [.ref h, .int (nI t)] ∧ INV M [] S ∧ is S h 4 ∧ (mgR S h rows ft cnt ln rw pl LL fr) ∧ (t < 20)) (fun S _ r S' => r = none ∧ INV M [] S' ∧ chg S S' [ft] [] [] [] ∧ (mgR S' h rows ft cnt ln rw pl LL (adv (rowC LL) fr t))) := by
  refine ct_of (by decide) (fun S av h => by obtain ⟨rfl, iv, i_h, hG, ht⟩ := h; exact Nat.le_of_ble_eq_true rfl) ?_
  intro p e s m args below meth c D G bs S av C hr hin hpre
  obtain ⟨rfl, iv, i_h, hG, ht⟩ := hpre
  have ch : chg S S [ft] [] [] [] := ch_rfl
  obtain ⟨_, o_rows, o_ft, i_rows, i_ft, ecnt, hc7, hrow⟩ := id hG
  have hsh := rowC_shut hG
  refine v_iconst (v := nI 0) C dX4_strike_0 (by decide) ?_
  refine v_istore_n C dX4_strike_1 (by decide) (by first | rfl | exact cat_ok _ | simp [okS, cat_rf]) ?_
  refine V.lits (lv' := [_, _, _]) rfl ?_
  refine v_loop (fun (tt : (Nat)) lv0 => (lv0.set 2 (some (.int (nI tt))))) (fun (S1 : Mem) (tt : (Nat)) => INV M [] S1 ∧ chg S S1 [ft] [] [] [] ∧ is S1 h 4 ∧ isA S1 rows 15 7 ∧ isA S1 ft 11 7 ∧ mO S1 256 h = some rows ∧ mO S1 257 h = some ft ∧ (tt ≤ cnt) ∧ (mgR S1 h rows ft cnt ln rw pl LL (stF (rowC LL) fr t tt))) (fun (S1 : Mem) (tt : (Nat)) => cnt - tt) (t := (0)) rfl ⟨iv, ch, i_h, i_rows, i_ft, o_rows, o_ft, (Nat.zero_le _), (mgR_congr hG (fun q _ => if_neg (Nat.not_lt_zero q)))⟩ ?_
  intro L2 tt h_2 ih_2
  revert h_2 ih_2
  revert tt
  intro r h_2 ih_2
  obtain ⟨iv, ch, i_h, i_rows, i_ft, o_rows, o_ft, hri, hG1⟩ := h_2
  try dsimp only at *
  obtain ⟨_, _, _, _, _, ecnt1, _, hrow1⟩ := id hG1
  refine v_iload_n C dX4_strike_2 rfl ?_
  refine v_aload_n C dX4_strike_3 rfl ?_
  refine g4_32 C i_h dX4_strike_4 ?_
  refine v_val ecnt1 ?_
  refine n_icmp_ge (tgt := 41) C (by omega) (by omega) dX4_strike_7 (by decide) (fun c_7 => ?_) (fun c_7 => ?_)
  · skip
    refine v_vret C hr (Nat.le_of_ble_eq_true rfl) (Nat.le_of_ble_eq_true rfl) dX4_strike_41 ?_
    exact ⟨rfl, iv, ch, ((mgR_congr hG1 (fun q hq => (stF_lt (by omega)).symm)))⟩
  · skip
    obtain ⟨w1, w2, w3, w4⟩ := hrow1 r (by omega)
    rw [stF_at] at w3 w4
    refine v_iload_n C dX4_strike_10 rfl ?_
    refine v_bipush (v := nI 7) C dX4_strike_11 (by decide) ?_
    refine n_icmp_ge (tgt := 41) C (by omega) (by omega) dX4_strike_13 (by decide) (fun c_13 => ?_) (fun c_13 => ?_)
    · skip
      omega
    · skip
      refine v_aload_n C dX4_strike_16 rfl ?_
      refine v_iload_n C dX4_strike_17 rfl ?_
      refine v_callV (As := [_]) (n := 1) C (ft_X4_firstOf l _ _ rows ft (ln r) (rw r) (pl r) (fr r) (LL r)) rfl i_h (by decide) rfl ⟨wd182, wd183, wd184, wd31, wd185⟩ ⟨rfl, hy_X4_firstOf⟩ rfl ⟨Nat.le_of_ble_eq_true rfl, Nat.le_of_ble_eq_true rfl⟩ (Nat.le_of_ble_eq_true rfl) ⟨Nat.le_of_ble_eq_true rfl, Nat.le_of_ble_eq_true rfl⟩ dX4_strike_18 ⟨rfl, i_h, ⟨o_rows, o_ft, i_rows, i_ft⟩, (by omega), w1, w2, ⟨w3, by omega⟩⟩ (fun r_18 S4_18 h_18 => ?_)
      obtain ⟨v18, rfl, p_v18, b_v18, q_v18⟩ := h_18
      obtain rfl := q_v18.symm
      refine v_iload_n C dX4_strike_21 rfl ?_
      refine v_icmp_ne (tgt := 35) C dX4_strike_22 (by decide) (fun c_22 => ?_) (fun c_22 => ?_)
      · skip
        have hP : ¬ rowC LL r (fr r) = some t := fun z => c_22 ((oI_nI (fun k z => by have := b_v18 k z; omega) (by omega)).mpr (p_v18.trans z))
        refine v_iinc C dX4_strike_35 rfl (nI_inc _) (by decide) (by first | rfl | exact cat_ok _ | simp [okS, cat_rf]) ?_
        refine v_goto (tgt := 2) C dX4_strike_38 (by decide) ?_
        refine V.lits (lv' := [_, _, _]) rfl ?_
        exact ih_2 _ ((r + 1)) (by first | omega | (dsimp only; omega)) ⟨iv, ch, i_h, i_rows, i_ft, o_rows, o_ft, (by omega), (mgR_congr hG1 (fun q _ => stF_miss hP q))⟩
      · skip
        have hP : rowC LL r (fr r) = some t := p_v18.symm.trans ((oI_nI (fun k z => by have := b_v18 k z; omega) (by omega)).mp c_22)
        have hl20 := (hsh r (by omega)).2 _ _ hP
        refine v_aload_n C dX4_strike_25 rfl ?_
        refine r4_17 (b := ft) C i_h o_ft dX4_strike_26 ?_
        refine v_iload_n C dX4_strike_29 rfl ?_
        refine v_dup2 C dX4_strike_30 rfl rfl ?_
        refine v_iald C i_ft (vp_in_nI (by omega) (by omega)) dX4_strike_31 ?_
        rw [nI_clamp (by omega)]
        refine v_val w3 ?_
        refine v_iconst (v := nI 1) C dX4_strike_32 (by decide) ?_
        refine n_iadd C dX4_strike_33 ?_
        refine v_iast C i_ft (vp_in_nI (by omega) (by omega)) dX4_strike_34 ?_
        rw [nI_clamp (by omega)]
        refine V.gen (fun S6_34 e_34 => ?_)
        have x_34 := x_sA e_34
        have iv := inv_sA e_34 iv
        have ch := ch_sA e_34 ch (by simp)
        have o_rows := mo_sAy e_34 o_rows
        have o_ft := mo_sAy e_34 o_ft
        have i_h := is_ext x_34 i_h
        have i_rows := isA_ext x_34 i_rows
        have i_ft := isA_ext x_34 i_ft
        refine v_iinc C dX4_strike_35 rfl (nI_inc _) (by decide) (by first | rfl | exact cat_ok _ | simp [okS, cat_rf]) ?_
        refine v_goto (tgt := 2) C dX4_strike_38 (by decide) ?_
        refine V.lits (lv' := [_, _, _]) rfl ?_
        exact ih_2 _ ((r + 1)) (by first | omega | (dsimp only; omega)) ⟨iv, ch, i_h, i_rows, i_ft, o_rows, o_ft, (by omega), (mgR_congr (mgR_one hG1 e_34 (by omega)) (fun q _ => stF_hit hP q))⟩
set_option maxRecDepth 100000 in
set_option maxHeartbeats 4000000 in
theorem ft_X4_addRow (l : Launch) (M : Nat → Prop) (h : Nat) (x : Nat) (rows ft cnt : Nat) (ln rw pl fr : Nat → Nat) (LL : Nat → List Nat) (rx px : Nat) (L : List Nat) : Ct l yX4_addRow cX4_addRow 2 none 1 0 0 21 (fun S av => av = [.ref h, .ref x] ∧ INV M [] S ∧ is S h 4 ∧ is S x 3 ∧ (mgR S h rows ft cnt ln rw pl LL fr) ∧ (cnt < 7) ∧ (lnV S x rx px L)) (fun S _ r S' => r = none ∧ INV M [] S' ∧ chg S S' [ft] [rows] [(260, h)] [] ∧ (mgR S' h rows ft (cnt + 1) (up ln cnt x) (up rw cnt rx) (up pl cnt px) (up LL cnt L) (up fr cnt 0))) := by
  refine ct_of (by decide) (fun S av h => by obtain ⟨rfl, iv, i_h, i_x, hG, hc, hL⟩ := h; exact Nat.le_of_ble_eq_true rfl) ?_
  intro p e s m args below meth c D G bs S av C hr hin hpre
  obtain ⟨rfl, iv, i_h, i_x, hG, hc, hL⟩ := hpre
  have ch : chg S S [ft] [rows] [(260, h)] [] := ch_rfl
  obtain ⟨_, o_rows, o_ft, i_rows, i_ft, ecnt, hc7, hrow⟩ := id hG
  have hsh := rowC_shut hG
  refine v_aload_n C dX4_addRow_0 rfl ?_
  refine g4_32 C i_h dX4_addRow_1 ?_
  refine v_val ecnt ?_
  refine v_bipush (v := nI 7) C dX4_addRow_4 (by decide) ?_
  refine v_callSN (As := [_, _]) (n := 2) C (sb_isBelow l _ _) rfl ⟨(by decide +kernel), wd141, wd2, wd142⟩ hy_X9_isBelow rfl ⟨Nat.le_of_ble_eq_true rfl, Nat.le_of_ble_eq_true rfl⟩ (Nat.le_of_ble_eq_true rfl) ⟨Nat.le_of_ble_eq_true rfl, Nat.le_of_ble_eq_true rfl⟩ dX4_addRow_6 rfl (fun r_6 S2_6 h_6 => ?_)
  obtain ⟨v6, rfl, p_v6, q_v6⟩ := h_6
  obtain rfl := q_v6.symm
  rw [isB_nI (by omega) (by decide)] at p_v6
  refine b_if_eq (tgt := 42) C dX4_addRow_9 (by decide) (fun c_9 => ?_) (fun c_9 => ?_)
  · skip
    exact absurd hc (of_decide_eq_false (p_v6.symm.trans c_9))
  · skip
    refine v_aload_n C dX4_addRow_12 rfl ?_
    refine r4_13 (b := rows) C i_h o_rows dX4_addRow_13 ?_
    refine v_aload_n C dX4_addRow_16 rfl ?_
    refine g4_32 C i_h dX4_addRow_17 ?_
    refine v_val ecnt ?_
    refine v_aload_n C dX4_addRow_20 rfl ?_
    refine v_aast (t0 := 4) C i_rows (by decide) i_x (by decide) rfl rfl (vp_in_nI (by omega) (by omega)) dX4_addRow_21 ?_
    rw [nI_clamp (by omega)]
    refine V.gen (fun S4_21 e_21 => ?_)
    have x_21 := x_sP e_21
    have iv := inv_sP e_21 iv i_rows.2.1 (by decide) (nOK_is i_x)
    have ch := ch_sP e_21 ch (by simp)
    have o_rows := mo_sPy e_21 o_rows
    have o_ft := mo_sPy e_21 o_ft
    have i_h := is_ext x_21 i_h
    have i_x := is_ext x_21 i_x
    have i_rows := isA_ext x_21 i_rows
    have i_ft := isA_ext x_21 i_ft
    refine v_aload_n C dX4_addRow_22 rfl ?_
    refine r4_17 (b := ft) C i_h o_ft dX4_addRow_23 ?_
    refine v_aload_n C dX4_addRow_26 rfl ?_
    refine g4_32 C i_h dX4_addRow_27 ?_
    refine v_val (mi_sPy e_21 ecnt) ?_
    refine v_iconst (v := nI 0) C dX4_addRow_30 (by decide) ?_
    refine v_iast C i_ft (vp_in_nI (by omega) (by omega)) dX4_addRow_31 ?_
    rw [nI_clamp (by omega)]
    refine V.gen (fun S4_31 e_31 => ?_)
    have x_31 := x_sA e_31
    have iv := inv_sA e_31 iv
    have ch := ch_sA e_31 ch (by simp)
    have o_rows := mo_sAy e_31 o_rows
    have o_ft := mo_sAy e_31 o_ft
    have i_h := is_ext x_31 i_h
    have i_x := is_ext x_31 i_x
    have i_rows := isA_ext x_31 i_rows
    have i_ft := isA_ext x_31 i_ft
    refine v_aload_n C dX4_addRow_32 rfl ?_
    refine v_dup C dX4_addRow_33 rfl ?_
    refine g4_32 C i_h dX4_addRow_34 ?_
    refine v_val (mi_sAy e_31 (mi_sPy e_21 ecnt)) ?_
    refine v_iconst (v := nI 1) C dX4_addRow_37 (by decide) ?_
    refine n_iadd C dX4_addRow_38 ?_
    refine p4_32 C i_h dX4_addRow_39 ?_
    refine V.gen (fun S4_39 e_39 => ?_)
    have x_39 := x_sI e_39
    have iv := inv_sIn e_39 iv (n := cnt + 1) rfl ⟨fun _ => by omega, fun z => by cases z⟩
    have ch := ch_sI e_39 ch (by simp)
    have o_rows := mo_sIy e_39 o_rows
    have o_ft := mo_sIy e_39 o_ft
    have i_h := is_ext x_39 i_h
    have i_x := is_ext x_39 i_x
    have i_rows := isA_ext x_39 i_rows
    have i_ft := isA_ext x_39 i_ft
    refine v_vret C hr (Nat.le_of_ble_eq_true rfl) (Nat.le_of_ble_eq_true rfl) dX4_addRow_42 ?_
    exact ⟨rfl, iv, ch, (mgR_row hG hc hL e_21 e_31 e_39)⟩
set_option maxRecDepth 100000 in
set_option maxHeartbeats 4000000 in
theorem ft_X4_merges (l : Launch) (M : Nat → Prop) (h : Nat) (rows ft cnt gv grw gpl md mrw mpl : Nat) (ln rw pl lnu rwu plu : Nat → Nat) (LL LLu : Nat → List Nat) (gs : List Nat) : Ct l yX4_merges cX4_merges 3 (some .boolean) 4 0 0 87 (fun S av => av = [.ref h] ∧ INV M [] S ∧ is S h 4 ∧ (mgR S h rows ft cnt ln rw pl LL (fun _ => 0)) ∧ (cnt < 7) ∧ (mO S 258 h = some gv ∧ mO S 259 h = some md) ∧ (lnV S gv grw gpl gs) ∧ (lnV S md mrw mpl []) ∧ (lnu = up ln cnt gv ∧ rwu = up rw cnt grw ∧ plu = up pl cnt gpl ∧ LLu = up LL cnt gs) ∧ (∀ r, r < cnt + 1 → lnu r ≠ md ∧ rwu r ≠ mrw ∧ rwu r ≠ mpl ∧ plu r ≠ mrw ∧ plu r ≠ mpl)) (fun S _ r S' => ∃ v : Bool, r = some (.int (bI v)) ∧ v = (mg (rowC LLu) (cnt + 1) 20 (fun _ => 0) []).isSome ∧ INV M [] S' ∧ chg S S' [ft, mrw, mpl] [rows] [(260, h), (194, md)] [] ∧ (∃ L1, lnV S' md mrw mpl L1 ∧ ∀ L, mg (rowC LLu) (cnt + 1) 20 (fun _ => 0) [] = some L → L1 = L)) := by
  refine ct_of (by decide) (fun S av h => by obtain ⟨rfl, iv, i_h, hG, hc, hgo, hL, hM, hU, hD⟩ := h; exact Nat.le_of_ble_eq_true rfl) ?_
  intro p e s m args below meth c D G bs S av C hr hin hpre
  obtain ⟨rfl, iv, i_h, hG, hc, hgo, hL, hM, hU, hD⟩ := hpre
  have ch : chg S S [ft, mrw, mpl] [rows] [(260, h), (194, md)] [] := ch_rfl
  obtain ⟨_, o_rows, o_ft, i_rows, i_ft, ecnt, hc7, hrow⟩ := id hG
  obtain ⟨o_gv, o_md⟩ := hgo
  have i_gv := hL.1
  have i_md := hM.1
  refine v_aload_n C dX4_merges_0 rfl ?_
  refine v_aload_n C dX4_merges_1 rfl ?_
  refine r4_22 (b := gv) C i_h o_gv dX4_merges_2 ?_
  refine v_callV (As := [_]) (n := 1) C (ft_X4_addRow l M _ _ rows ft cnt ln rw pl (fun _ => 0) LL grw gpl gs) rfl i_h (by decide) rfl ⟨wd170, wd171, wd172, wd31, wd173⟩ ⟨rfl, hy_X4_addRow⟩ rfl ⟨Nat.le_of_ble_eq_true rfl, Nat.le_of_ble_eq_true rfl⟩ (Nat.le_of_ble_eq_true rfl) ⟨Nat.le_of_ble_eq_true rfl, Nat.le_of_ble_eq_true rfl⟩ dX4_merges_5 ⟨rfl, iv, i_h, i_gv, hG, hc, hL⟩ (fun r_5 S2_5 h_5 => ?_)
  obtain ⟨rfl, iv', ch_5, r_v5⟩ := h_5
  have hM1 : lnV S2_5 md mrw mpl [] := lnV_ch ch_5 hM (by simp; exact isA_nn hM.2.2.2.1 i_ft (by decide)) (by simp; exact isA_nn hM.2.2.2.2.1 i_ft (by decide)) (by simp) (by simp) (by simp)
  have iv := iv'
  clear iv'
  have ch := ch_tr ch ch_5 (by simp)
  have o_rows := mo_ch ch_5 i_h (by first | decide | simp) o_rows
  have o_ft := mo_ch ch_5 i_h (by first | decide | simp) o_ft
  have o_gv := mo_ch ch_5 i_h (by first | decide | simp) o_gv
  have o_md := mo_ch ch_5 i_h (by first | decide | simp) o_md
  have i_h := is_ch ch_5 i_h
  have i_rows := isA_ch ch_5 i_rows
  have i_ft := isA_ch ch_5 i_ft
  have i_gv := is_ch ch_5 i_gv
  have i_md := is_ch ch_5 i_md
  obtain ⟨rfl, rfl, rfl, rfl⟩ := hU
  have hG0 := mgR_congr (fr' := fun _ => 0) r_v5 (fun q hq => by by_cases z : q = cnt; (rw [z, up_eq]); (rw [up_ne z]))
  have hsh := rowC_shut hG0
  have hT : ∀ r, r < cnt + 1 → ∀ i t, rowC (up LL cnt gs) r i = some t → t < 20 := fun r hr i t z => (hG0.2.2.2.2.2.2.2 r hr).2.1.2.2.2.2.2.2.2.2.1 t (List.mem_of_getElem? z)
  refine v_iconst (v := nI 0) C dX4_merges_8 (by decide) ?_
  refine v_istore_n C dX4_merges_9 (by decide) (by first | rfl | exact cat_ok _ | simp [okS, cat_rf]) ?_
  refine V.lits (lv' := [_, _, _]) rfl ?_
  refine v_loop (fun (tt : (Nat) × (Nat → Nat) × (List Nat)) lv0 => (lv0.set 1 (some (.int (nI tt.1))))) (fun (S1 : Mem) (tt : (Nat) × (Nat → Nat) × (List Nat)) => INV M [] S1 ∧ chg S S1 [ft, mrw, mpl] [rows] [(260, h), (194, md)] [] ∧ is S1 h 4 ∧ isA S1 rows 15 7 ∧ isA S1 ft 11 7 ∧ is S1 gv 3 ∧ is S1 md 3 ∧ mO S1 256 h = some rows ∧ mO S1 257 h = some ft ∧ mO S1 258 h = some gv ∧ mO S1 259 h = some md ∧ (tt.1 = tt.2.2.length ∧ tt.1 ≤ 20) ∧ (mgR S1 h rows ft (cnt + 1) (up ln cnt gv) (up rw cnt grw) (up pl cnt gpl) (up LL cnt gs) tt.2.1) ∧ (lnV S1 md mrw mpl tt.2.2) ∧ (DI (rowC (up LL cnt gs)) (cnt + 1) tt.2.1 tt.2.2 20) ∧ (mg (rowC (up LL cnt gs)) (cnt + 1) 20 (fun _ => 0) [] = mg (rowC (up LL cnt gs)) (cnt + 1) (20 - tt.2.2.length) tt.2.1 tt.2.2)) (fun (S1 : Mem) (tt : (Nat) × (Nat → Nat) × (List Nat)) => 20 - tt.1) (t := (0, (fun _ => 0), [])) rfl ⟨iv, ch, i_h, i_rows, i_ft, i_gv, i_md, o_rows, o_ft, o_gv, o_md, ⟨rfl, by decide⟩, hG0, hM1, DI_0, rfl⟩ ?_
  intro L10 tt h_10 ih_10
  obtain ⟨i, fr, acc⟩ := tt
  obtain ⟨iv, ch, i_h, i_rows, i_ft, i_gv, i_md, o_rows, o_ft, o_gv, o_md, hi, hG1, hM2, dB, hm⟩ := h_10
  try dsimp only at *
  refine v_iload_n C dX4_merges_10 rfl ?_
  refine v_bipush (v := nI 20) C dX4_merges_11 (by decide) ?_
  refine n_icmp_ge (tgt := 48) C (by omega) (by omega) dX4_merges_13 (by decide) (fun c_13 => ?_) (fun c_13 => ?_)
  · skip
    have hend : mg (rowC (up LL cnt gs)) (cnt + 1) 20 (fun _ => 0) [] = bif anyFr (rowC (up LL cnt gs)) fr (cnt + 1) then none else some acc := hm.trans (by rw [show 20 - acc.length = 0 by omega, mg])
    refine v_aload_n C dX4_merges_48 rfl ?_
    refine v_callV (As := []) (n := 0) C (ft_X4_allDone l _ rows ft (cnt + 1) (up ln cnt gv) (up rw cnt grw) (up pl cnt gpl) fr (up LL cnt gs)) rfl i_h (by decide) rfl ⟨wd202, wd203, wd204, wd31, wd205⟩ ⟨rfl, hy_X4_allDone⟩ rfl ⟨Nat.le_of_ble_eq_true rfl, Nat.le_of_ble_eq_true rfl⟩ (Nat.le_of_ble_eq_true rfl) ⟨Nat.le_of_ble_eq_true rfl, Nat.le_of_ble_eq_true rfl⟩ dX4_merges_49 ⟨rfl, i_h, hG1⟩ (fun r_49 S2_49 h_49 => ?_)
    obtain ⟨v49, rfl, p_v49, q_v49⟩ := h_49
    obtain rfl := q_v49.symm
    refine v_zret C hr (by first | rfl | exact bI_nar _) (Nat.le_of_ble_eq_true rfl) (Nat.le_of_ble_eq_true rfl) dX4_merges_52 ?_
    exact ⟨_, rfl, (by rw [hend, p_v49]; cases anyFr (rowC (up LL cnt gs)) fr (cnt + 1) <;> rfl), iv, ch, (⟨acc, hM2, fun L hL => by rw [hend] at hL; revert hL; cases anyFr (rowC (up LL cnt gs)) fr (cnt + 1) <;> intro hL <;> cases hL; rfl⟩)⟩
  · skip
    refine v_aload_n C dX4_merges_16 rfl ?_
    refine v_callV (As := []) (n := 0) C (ft_X4_nextTrait l _ rows ft (cnt + 1) (up ln cnt gv) (up rw cnt grw) (up pl cnt gpl) fr (up LL cnt gs)) rfl i_h (by decide) rfl ⟨wd178, wd179, wd180, wd31, wd181⟩ ⟨rfl, hy_X4_nextTrait⟩ rfl ⟨Nat.le_of_ble_eq_true rfl, Nat.le_of_ble_eq_true rfl⟩ (Nat.le_of_ble_eq_true rfl) ⟨Nat.le_of_ble_eq_true rfl, Nat.le_of_ble_eq_true rfl⟩ dX4_merges_17 ⟨rfl, i_h, hG1⟩ (fun r_17 S2_17 h_17 => ?_)
    obtain ⟨v17, rfl, p_v17, b_v17, q_v17⟩ := h_17
    obtain rfl := q_v17.symm
    refine v_istore_n C dX4_merges_20 (by decide) (by first | rfl | exact cat_ok _ | simp [okS, cat_rf]) ?_
    refine v_iload_n C dX4_merges_21 rfl ?_
    refine v_iconst (v := -1) C dX4_merges_22 (by decide) ?_
    refine o_icmp_ne (tgt := 29) C (fun k z => by have := b_v17 k z; omega) dX4_merges_23 (by decide) (fun k23 c_23 => ?_) (fun c_23 => ?_)
    · skip
      have b_k23 := b_v17 k23 c_23
      subst c_23
      have hnx := p_v17.symm
      have d2 := DI_step hsh hT dB hnx
      have l2 := DI_len d2
      rw [List.length_append] at l2
      simp only [List.length_cons, List.length_nil] at l2
      have hmn := hm.trans (mg_next hnx (by omega))
      have hnt : k23 ∉ acc := fun z => (List.nodup_append.mp d2.1).2.2 k23 z k23 (by simp) rfl
      refine v_aload_n C dX4_merges_29 rfl ?_
      refine r4_26 (b := md) C i_h o_md dX4_merges_30 ?_
      refine v_iload_n C dX4_merges_33 rfl ?_
      refine v_callV (As := [_]) (n := 1) C (ft_X3_add l M _ _ mrw mpl acc) rfl i_md (by decide) rfl ⟨wd166, wd167, wd168, wd45, wd169⟩ ⟨rfl, hy_X3_add⟩ rfl ⟨Nat.le_of_ble_eq_true rfl, Nat.le_of_ble_eq_true rfl⟩ (Nat.le_of_ble_eq_true rfl) ⟨Nat.le_of_ble_eq_true rfl, Nat.le_of_ble_eq_true rfl⟩ dX4_merges_34 ⟨rfl, iv, i_md, hM2, b_k23, hnt⟩ (fun r_34 S4_34 h_34 => ?_)
      obtain ⟨rfl, iv', ch_34, r_v34⟩ := h_34
      have hG2 : mgR S4_34 h rows ft (cnt + 1) (up ln cnt gv) (up rw cnt grw) (up pl cnt gpl) (up LL cnt gs) fr := mgR_ch ch_34 hG1 (by simp) (by simp; exact ⟨fun z => isA_nn hM2.2.2.2.1 i_ft (by decide) z.symm, fun z => isA_nn hM2.2.2.2.2.1 i_ft (by decide) z.symm⟩) (by simp) (by simp) (by simp) (fun r hr => by obtain ⟨z1, z2, z3, z4, z5⟩ := hD r hr; exact ⟨by simp; exact ⟨z2, z3⟩, by simp; exact ⟨z4, z5⟩, by simp; exact z1, by simp, by simp⟩)
      have iv := iv'
      clear iv'
      have ch := ch_tr ch ch_34 (by simp)
      have o_rows := mo_ch ch_34 i_h (by first | decide | simp) o_rows
      have o_ft := mo_ch ch_34 i_h (by first | decide | simp) o_ft
      have o_gv := mo_ch ch_34 i_h (by first | decide | simp) o_gv
      have o_md := mo_ch ch_34 i_h (by first | decide | simp) o_md
      have i_h := is_ch ch_34 i_h
      have i_rows := isA_ch ch_34 i_rows
      have i_ft := isA_ch ch_34 i_ft
      have i_gv := is_ch ch_34 i_gv
      have i_md := is_ch ch_34 i_md
      refine v_aload_n C dX4_merges_37 rfl ?_
      refine v_iload_n C dX4_merges_38 rfl ?_
      refine v_callV (As := [_]) (n := 1) C (ft_X4_strike l M _ _ rows ft (cnt + 1) (up ln cnt gv) (up rw cnt grw) (up pl cnt gpl) fr (up LL cnt gs)) rfl i_h (by decide) rfl ⟨wd198, wd199, wd200, wd31, wd201⟩ ⟨rfl, hy_X4_strike⟩ rfl ⟨Nat.le_of_ble_eq_true rfl, Nat.le_of_ble_eq_true rfl⟩ (Nat.le_of_ble_eq_true rfl) ⟨Nat.le_of_ble_eq_true rfl, Nat.le_of_ble_eq_true rfl⟩ dX4_merges_39 ⟨rfl, iv, i_h, hG2, b_k23⟩ (fun r_39 S4_39 h_39 => ?_)
      obtain ⟨rfl, iv', ch_39, r_v39⟩ := h_39
      have hM3 : lnV S4_39 md mrw mpl (acc ++ [k23]) := lnV_ch ch_39 r_v34 (by simp; exact isA_nn r_v34.2.2.2.1 i_ft (by decide)) (by simp; exact isA_nn r_v34.2.2.2.2.1 i_ft (by decide)) (by simp) (by simp) (by simp)
      have iv := iv'
      clear iv'
      have ch := ch_tr ch ch_39 (by simp)
      have o_rows := mo_ch ch_39 i_h (by first | decide | simp) o_rows
      have o_ft := mo_ch ch_39 i_h (by first | decide | simp) o_ft
      have o_gv := mo_ch ch_39 i_h (by first | decide | simp) o_gv
      have o_md := mo_ch ch_39 i_h (by first | decide | simp) o_md
      have i_h := is_ch ch_39 i_h
      have i_rows := isA_ch ch_39 i_rows
      have i_ft := isA_ch ch_39 i_ft
      have i_gv := is_ch ch_39 i_gv
      have i_md := is_ch ch_39 i_md
      refine v_iinc C dX4_merges_42 rfl (nI_inc _) (by decide) (by first | rfl | exact cat_ok _ | simp [okS, cat_rf]) ?_
      refine v_goto (tgt := 10) C dX4_merges_45 (by decide) ?_
      refine V.drop 2 ?_
      refine V.lits (lv' := [_, _, _]) rfl ?_
      exact ih_10 _ ((i + 1), (adv (rowC (up LL cnt gs)) fr k23), (acc ++ [k23])) (by first | omega | (dsimp only; omega)) ⟨iv, ch, i_h, i_rows, i_ft, i_gv, i_md, o_rows, o_ft, o_gv, o_md, ⟨by rw [List.length_append]; simp; omega, by omega⟩, r_v39, hM3, d2, hmn⟩
    · skip
      subst c_23
      have hend : mg (rowC (up LL cnt gs)) (cnt + 1) 20 (fun _ => 0) [] = bif anyFr (rowC (up LL cnt gs)) fr (cnt + 1) then none else some acc := hm.trans (mg_none p_v17.symm)
      refine v_goto (tgt := 48) C dX4_merges_26 (by decide) ?_
      refine v_aload_n C dX4_merges_48 rfl ?_
      refine v_callV (As := []) (n := 0) C (ft_X4_allDone l _ rows ft (cnt + 1) (up ln cnt gv) (up rw cnt grw) (up pl cnt gpl) fr (up LL cnt gs)) rfl i_h (by decide) rfl ⟨wd202, wd203, wd204, wd31, wd205⟩ ⟨rfl, hy_X4_allDone⟩ rfl ⟨Nat.le_of_ble_eq_true rfl, Nat.le_of_ble_eq_true rfl⟩ (Nat.le_of_ble_eq_true rfl) ⟨Nat.le_of_ble_eq_true rfl, Nat.le_of_ble_eq_true rfl⟩ dX4_merges_49 ⟨rfl, i_h, hG1⟩ (fun r_49 S4_49 h_49 => ?_)
      obtain ⟨v49, rfl, p_v49, q_v49⟩ := h_49
      obtain rfl := q_v49.symm
      refine v_zret C hr (by first | rfl | exact bI_nar _) (Nat.le_of_ble_eq_true rfl) (Nat.le_of_ble_eq_true rfl) dX4_merges_52 ?_
      exact ⟨_, rfl, (by rw [hend, p_v49]; cases anyFr (rowC (up LL cnt gs)) fr (cnt + 1) <;> rfl), iv, ch, (⟨acc, hM2, fun L hL => by rw [hend] at hL; revert hL; cases anyFr (rowC (up LL cnt gs)) fr (cnt + 1) <;> intro hL <;> cases hL; rfl⟩)⟩
