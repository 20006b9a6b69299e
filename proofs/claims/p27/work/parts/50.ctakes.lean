/-! WHAT A CHARACTER HAS TAKEN -/
def tkS (S : Mem) (fi tk : Nat) (gs : List Nat) : Prop := is S fi 2 ∧ mO S 131 fi = some tk ∧ isA S tk 11 5 ∧ mI S 132 fi = nI gs.length ∧ gs.length ≤ 5 ∧ (∀ i, i < gs.length → mA S tk i = nI (gs.getD i 0)) ∧ ∀ u ∈ gs, u < 20
theorem tkS_ch {S S' : Mem} {AR PR : List Nat} {FI FO : List (Nat × Nat)} {fi tk : Nat} {gs : List Nat} (c : chg S S' AR PR FI FO) (h : tkS S fi tk gs) (n1 : tk ∉ AR) (n2 : (132, fi) ∉ FI) (n3 : (131, fi) ∉ FO) : tkS S' fi tk gs := by
  obtain ⟨h1, h2, h3, h4, h5, h6, h7⟩ := h
  exact ⟨is_ch c h1, mo_ch c h1 n3 h2, isA_ch c h3, mi_ch c h1 n2 h4, h5, fun i hi => by rw [ma_ch c h3 n1]; exact h6 i hi, h7⟩
theorem tkS_mg {S S' : Mem} {fi tk m : Nat} {x : MA} {gs : List Nat} (c : chg S S' [x.ft, x.gr, x.gp, x.mr, x.mp] [x.rows] [(260, m), (194, x.gv), (194, x.md)] []) (h : tkS S fi tk gs) (n : tk ≠ x.ft ∧ tk ≠ x.gr ∧ tk ≠ x.gp ∧ tk ≠ x.mr ∧ tk ≠ x.mp) : tkS S' fi tk gs := tkS_ch c h (by simp; exact n) (by simp) (by simp)
theorem tk_ne {S : Mem} {fi tk m : Nat} {x : MA} {gs : List Nat} (h : tkS S fi tk gs) (z : mgZ S m x) : tk ≠ x.ft ∧ tk ≠ x.gr ∧ tk ≠ x.gp ∧ tk ≠ x.mr ∧ tk ≠ x.mp := by
  obtain ⟨a1, a2, a3, a4, a5, a6, a7, ⟨G, a8⟩, ⟨D, a9⟩⟩ := z
  have t := h.2.2.1
  exact ⟨isA_ne t a5 (by decide), isA_ne t a8.2.2.2.1 (by decide), isA_ne t a8.2.2.2.2.1 (by decide), isA_ne t a9.2.2.2.1 (by decide), isA_ne t a9.2.2.2.2.1 (by decide)⟩
theorem getD_at {gs : List Nat} {i : Nat} (h : i < gs.length) : gs.getD i 0 = gs[i] := by rw [List.getD_eq_getElem?_getD, List.getElem?_eq_getElem h]; rfl
theorem take_D {gs : List Nat} {i : Nat} (h : i < gs.length) : gs.take (i + 1) = gs.take i ++ [gs.getD i 0] := by rw [getD_at h, List.take_add_one, List.getElem?_eq_getElem h]; rfl
theorem take_nin {gs : List Nat} {i : Nat} (hn : gs.Nodup) (h : i < gs.length) : gs.getD i 0 ∉ gs.take i := by
  rw [getD_at h]
  exact add_new (L := []) hn h rfl
theorem tkS_add {S S1 S2 : Mem} {fi tk t : Nat} {gs : List Nat} (h : tkS S fi tk gs) (h5 : gs.length < 5) (ht : t < 20) (e1 : S1 = sA S tk gs.length (nI t)) (e2 : S2 = sI S1 132 fi (nI (gs.length + 1))) : tkS S2 fi tk (gs ++ [t]) := by
  have c := ch_sI e2 (ch_sA e1 (ch_rfl (S := S) (AR := [tk]) (PR := []) (FI := [(132, fi)]) (FO := [])) (by simp)) (by simp)
  obtain ⟨k1, k2, k3, k4, k5, k6, k7⟩ := h
  refine ⟨is_ch c k1, mo_ch c k1 (by simp) k2, isA_ch c k3, by rw [e2, mI_sI, if_pos ⟨rfl, rfl⟩, List.length_append]; rfl, by rw [List.length_append]; simp; omega, fun i hi => ?_, fun u hu => ?_⟩
  · rw [e2, mA_sI, e1, mA_sA]
    rw [List.length_append] at hi
    simp only [List.length_cons, List.length_nil] at hi
    by_cases z : i = gs.length
    · rw [if_pos ⟨rfl, z⟩, z]; congr 1; simp [List.getD_eq_getElem?_getD]
    · rw [if_neg (fun y => z y.2), k6 i (by omega)]; congr 1
      rw [List.getD_eq_getElem?_getD, List.getD_eq_getElem?_getD, List.getElem?_append_left (by omega)]
  · rcases List.mem_append.mp hu with hu | hu
    · exact k7 u hu
    · rw [List.mem_singleton] at hu; omega
set_option maxRecDepth 100000 in
set_option maxHeartbeats 4000000 in
theorem ft_X2_takenAt (l : Launch) (h : Nat) (i : Nat) (tk : Nat) (gs : List Nat) : Ct l yX2_takenAt cX2_takenAt 2 (some .int) 1 0 0 21 (fun S av => av = [.ref h, .int (nI i)] ∧ is S h 2 ∧ (tkS S h tk gs) ∧ (i < gs.length)) (fun S _ r S' => ∃ v : Nat, r = some (.int (nI v)) ∧ v = gs.getD i 0 ∧ S' = S) := by
  refine ct_of (by decide) (fun S av h => by obtain ⟨rfl, i_h, hK, hi⟩ := h; exact Nat.le_of_ble_eq_true rfl) ?_
  intro p e s m args below meth c D G bs S av C hr hin hpre
  obtain ⟨rfl, i_h, hK, hi⟩ := hpre
  obtain ⟨_, o_tk, i_tk, eN, h5, hat, h20⟩ := id hK
  refine v_iload_n C dX2_takenAt_0 rfl ?_
  refine v_aload_n C dX2_takenAt_1 rfl ?_
  refine g2_58 C i_h dX2_takenAt_2 ?_
  refine v_val eN ?_
  refine v_callSN (As := [_, _]) (n := 2) C (sb_isBelow l _ _) rfl ⟨(by decide +kernel), wd141, wd2, wd142⟩ hy_X9_isBelow rfl ⟨Nat.le_of_ble_eq_true rfl, Nat.le_of_ble_eq_true rfl⟩ (Nat.le_of_ble_eq_true rfl) ⟨Nat.le_of_ble_eq_true rfl, Nat.le_of_ble_eq_true rfl⟩ dX2_takenAt_5 rfl (fun r_5 S2_5 h_5 => ?_)
  obtain ⟨v5, rfl, p_v5, q_v5⟩ := h_5
  obtain rfl := q_v5.symm
  rw [isB_nI (by omega) (by omega)] at p_v5
  refine b_if_eq (tgt := 25) C dX2_takenAt_8 (by decide) (fun c_8 => ?_) (fun c_8 => ?_)
  · skip
    exact absurd hi (of_decide_eq_false (p_v5.symm.trans c_8))
  · skip
    refine v_iload_n C dX2_takenAt_11 rfl ?_
    refine v_iconst (v := nI 5) C dX2_takenAt_12 (by decide) ?_
    refine n_icmp_ge (tgt := 25) C (by omega) (by omega) dX2_takenAt_13 (by decide) (fun c_13 => ?_) (fun c_13 => ?_)
    · skip
      omega
    · skip
      refine v_aload_n C dX2_takenAt_16 rfl ?_
      refine r2_18 (b := tk) C i_h o_tk dX2_takenAt_17 ?_
      refine v_iload_n C dX2_takenAt_20 rfl ?_
      refine v_iald C i_tk (vp_in_nI (by omega) (by omega)) dX2_takenAt_21 ?_
      rw [nI_clamp (by omega)]
      refine v_val (hat i hi) ?_
      refine v_goto (tgt := 26) C dX2_takenAt_22 (by decide) ?_
      refine v_iret C hr (Nat.le_of_ble_eq_true rfl) (Nat.le_of_ble_eq_true rfl) dX2_takenAt_26 ?_
      exact ⟨_, rfl, (rfl), rfl⟩
set_option maxRecDepth 100000 in
set_option maxHeartbeats 4000000 in
theorem ft_X2_hasTaken (l : Launch) (h : Nat) (t : Nat) (tk : Nat) (gs : List Nat) : Ct l yX2_hasTaken cX2_hasTaken 3 (some .boolean) 2 0 0 42 (fun S av => av = [.ref h, .int (nI t)] ∧ is S h 2 ∧ (tkS S h tk gs) ∧ (t < 20)) (fun S _ r S' => ∃ v : Bool, r = some (.int (bI v)) ∧ v = decide (t ∈ gs) ∧ S' = S) := by
  refine ct_of (by decide) (fun S av h => by obtain ⟨rfl, i_h, hK, ht⟩ := h; exact Nat.le_of_ble_eq_true rfl) ?_
  intro p e s m args below meth c D G bs S av C hr hin hpre
  obtain ⟨rfl, i_h, hK, ht⟩ := hpre
  obtain ⟨_, o_tk, i_tk, eN, h5, hat, h20⟩ := id hK
  refine v_iconst (v := nI 0) C dX2_hasTaken_0 (by decide) ?_
  refine v_istore_n C dX2_hasTaken_1 (by decide) (by first | rfl | exact cat_ok _ | simp [okS, cat_rf]) ?_
  refine V.lits (lv' := [_, _, _]) rfl ?_
  refine v_loop (fun (tt : (Nat)) lv0 => (lv0.set 2 (some (.int (nI tt))))) (fun (S1 : Mem) (tt : (Nat)) => S1 = S ∧ (tt ≤ gs.length) ∧ (t ∉ gs.take tt)) (fun (S1 : Mem) (tt : (Nat)) => gs.length - tt) (t := (0)) rfl ⟨rfl, (Nat.zero_le _), (by rw [List.take_zero]; exact List.not_mem_nil)⟩ ?_
  intro L2 tt h_2 ih_2
  revert h_2 ih_2
  revert tt
  intro i h_2 ih_2
  obtain ⟨e_S, hri, ho⟩ := h_2
  subst e_S
  try dsimp only at *
  refine v_iload_n C dX2_hasTaken_2 rfl ?_
  refine v_aload_n C dX2_hasTaken_3 rfl ?_
  refine g2_58 C i_h dX2_hasTaken_4 ?_
  refine v_val eN ?_
  refine n_icmp_ge (tgt := 27) C (by omega) (by omega) dX2_hasTaken_7 (by decide) (fun c_7 => ?_) (fun c_7 => ?_)
  · skip
    refine v_iconst (v := nI 0) C dX2_hasTaken_27 (by decide) ?_
    refine v_zret C hr (by first | rfl | exact bI_nar _) (Nat.le_of_ble_eq_true rfl) (Nat.le_of_ble_eq_true rfl) dX2_hasTaken_28 ?_
    exact ⟨false, rfl, (decide_eq_false (by rw [List.take_of_length_le (by omega)] at ho; exact ho)).symm, rfl⟩
  · skip
    refine v_aload_n C dX2_hasTaken_10 rfl ?_
    refine v_iload_n C dX2_hasTaken_11 rfl ?_
    refine v_callV (As := [_]) (n := 1) C (ft_X2_takenAt l _ _ tk gs) rfl i_h (by decide) rfl ⟨wd310, wd311, wd312, wd271, wd313⟩ ⟨rfl, hy_X2_takenAt⟩ rfl ⟨Nat.le_of_ble_eq_true rfl, Nat.le_of_ble_eq_true rfl⟩ (Nat.le_of_ble_eq_true rfl) ⟨Nat.le_of_ble_eq_true rfl, Nat.le_of_ble_eq_true rfl⟩ dX2_hasTaken_12 ⟨rfl, i_h, hK, c_7⟩ (fun r_12 S2_12 h_12 => ?_)
    obtain ⟨v12, rfl, p_v12, q_v12⟩ := h_12
    obtain rfl := q_v12.symm
    have b12 : v12 < 20 := by rw [p_v12, getD_at c_7]; exact h20 _ (List.getElem_mem c_7)
    refine v_iload_n C dX2_hasTaken_15 rfl ?_
    refine n_icmp_ne (tgt := 21) C (by omega) (by omega) dX2_hasTaken_16 (by decide) (fun c_16 => ?_) (fun c_16 => ?_)
    · skip
      refine v_iinc C dX2_hasTaken_21 rfl (nI_inc _) (by decide) (by first | rfl | exact cat_ok _ | simp [okS, cat_rf]) ?_
      refine v_goto (tgt := 2) C dX2_hasTaken_24 (by decide) ?_
      refine V.lits (lv' := [_, _, _]) rfl ?_
      exact ih_2 _ ((i + 1)) (by first | omega | (dsimp only; omega)) ⟨rfl, (by omega), (by rw [take_D c_7]; intro z; rcases List.mem_append.mp z with z | z; exact ho z; exact c_16 (p_v12.trans (List.mem_singleton.mp z).symm))⟩
    · skip
      refine v_iconst (v := nI 1) C dX2_hasTaken_19 (by decide) ?_
      refine v_zret C hr (by first | rfl | exact bI_nar _) (Nat.le_of_ble_eq_true rfl) (Nat.le_of_ble_eq_true rfl) dX2_hasTaken_20 ?_
      exact ⟨true, rfl, (decide_eq_true (by rw [← c_16, p_v12, getD_at c_7]; exact List.getElem_mem c_7)).symm, rfl⟩
set_option maxRecDepth 100000 in
set_option maxHeartbeats 4000000 in
theorem ft_X2_addTaken (l : Launch) (M : Nat → Prop) (h : Nat) (t : Nat) (tk : Nat) (gs : List Nat) : Ct l yX2_addTaken cX2_addTaken 2 none 1 0 0 21 (fun S av => av = [.ref h, .int (nI t)] ∧ INV M [] S ∧ is S h 2 ∧ (tkS S h tk gs) ∧ (t < 20) ∧ (gs.length < 5)) (fun S _ r S' => r = none ∧ INV M [] S' ∧ chg S S' [tk] [] [(132, h)] [] ∧ (tkS S' h tk (gs ++ [t]))) := by
  refine ct_of (by decide) (fun S av h => by obtain ⟨rfl, iv, i_h, hK, ht, h5⟩ := h; exact Nat.le_of_ble_eq_true rfl) ?_
  intro p e s m args below meth c D G bs S av C hr hin hpre
  obtain ⟨rfl, iv, i_h, hK, ht, h5⟩ := hpre
  have ch : chg S S [tk] [] [(132, h)] [] := ch_rfl
  obtain ⟨_, o_tk, i_tk, eN, _, hat, h20⟩ := id hK
  refine v_aload_n C dX2_addTaken_0 rfl ?_
  refine g2_58 C i_h dX2_addTaken_1 ?_
  refine v_val eN ?_
  refine v_iconst (v := nI 5) C dX2_addTaken_4 (by decide) ?_
  refine v_callSN (As := [_, _]) (n := 2) C (sb_isBelow l _ _) rfl ⟨(by decide +kernel), wd141, wd2, wd142⟩ hy_X9_isBelow rfl ⟨Nat.le_of_ble_eq_true rfl, Nat.le_of_ble_eq_true rfl⟩ (Nat.le_of_ble_eq_true rfl) ⟨Nat.le_of_ble_eq_true rfl, Nat.le_of_ble_eq_true rfl⟩ dX2_addTaken_5 rfl (fun r_5 S2_5 h_5 => ?_)
  obtain ⟨v5, rfl, p_v5, q_v5⟩ := h_5
  obtain rfl := q_v5.symm
  rw [isB_nI (by omega) (by decide)] at p_v5
  refine b_if_eq (tgt := 31) C dX2_addTaken_8 (by decide) (fun c_8 => ?_) (fun c_8 => ?_)
  · skip
    exact absurd h5 (of_decide_eq_false (p_v5.symm.trans c_8))
  · skip
    refine v_aload_n C dX2_addTaken_11 rfl ?_
    refine r2_18 (b := tk) C i_h o_tk dX2_addTaken_12 ?_
    refine v_aload_n C dX2_addTaken_15 rfl ?_
    refine g2_58 C i_h dX2_addTaken_16 ?_
    refine v_val eN ?_
    refine v_iload_n C dX2_addTaken_19 rfl ?_
    refine v_iast C i_tk (vp_in_nI (by omega) (by omega)) dX2_addTaken_20 ?_
    rw [nI_clamp (by omega)]
    refine V.gen (fun S4_20 e_20 => ?_)
    have x_20 := x_sA e_20
    have iv := inv_sA e_20 iv
    have ch := ch_sA e_20 ch (by simp)
    have o_tk := mo_sAy e_20 o_tk
    have i_h := is_ext x_20 i_h
    have i_tk := isA_ext x_20 i_tk
    refine v_aload_n C dX2_addTaken_21 rfl ?_
    refine v_dup C dX2_addTaken_22 rfl ?_
    refine g2_58 C i_h dX2_addTaken_23 ?_
    refine v_val (mi_sAy e_20 eN) ?_
    refine v_iconst (v := nI 1) C dX2_addTaken_26 (by decide) ?_
    refine n_iadd C dX2_addTaken_27 ?_
    refine p2_58 C i_h dX2_addTaken_28 ?_
    refine V.gen (fun S4_28 e_28 => ?_)
    have x_28 := x_sI e_28
    have iv := inv_sI e_28 iv (by decide) (by decide)
    have ch := ch_sI e_28 ch (by simp)
    have o_tk := mo_sIy e_28 o_tk
    have i_h := is_ext x_28 i_h
    have i_tk := isA_ext x_28 i_tk
    refine v_vret C hr (Nat.le_of_ble_eq_true rfl) (Nat.le_of_ble_eq_true rfl) dX2_addTaken_31 ?_
    exact ⟨rfl, iv, ch, (tkS_add hK h5 ht e_20 e_28)⟩
set_option maxRecDepth 100000 in
set_option maxHeartbeats 4000000 in
theorem ft_X1_alignsTaking (l : Launch) (M : Nat → Prop) (h : Nat) (fi : Nat) (t : Nat) (T : Nat) (x : MA) (A : CA) (LT : Nat → List Nat) (tk : Nat) (gs : List Nat) : Ct l yX1_alignsTaking cX1_alignsTaking 4 (some .boolean) 5 0 0 109 (fun S av => av = [.ref h, .ref fi, .int (nI t)] ∧ INV M [] S ∧ is S h 1 ∧ is S fi 2 ∧ (trS S h T A LT) ∧ (mgZ S A.mg x) ∧ (mdj x) ∧ (tdj A x T) ∧ (tkS S fi tk gs) ∧ (gs.Nodup ∧ (∀ u ∈ gs, u < T) ∧ t < T ∧ t ∉ gs)) (fun S _ r S' => ∃ v : Bool, r = some (.int (bI v)) ∧ v = (alF LT (gs ++ [t])).isSome ∧ INV M [] S' ∧ chg S S' [x.ft, x.gr, x.gp, x.mr, x.mp] [x.rows] [(260, A.mg), (194, x.gv), (194, x.md)] [] ∧ (∃ L1, lnV S' x.md x.mr x.mp L1 ∧ (∀ L, alF LT (gs ++ [t]) = some L → L1 = L) ∧ mgZ S' A.mg x)) := by
  refine ct_of (by decide) (fun S av h => by obtain ⟨rfl, iv, i_h, i_fi, hT, hZ, hj, hdj, hK, hgs⟩ := h; exact Nat.le_of_ble_eq_true rfl) ?_
  intro p e s m args below meth c D G bs S av C hr hin hpre
  obtain ⟨rfl, iv, i_h, i_fi, hT, hZ, hj, hdj, hK, hgs⟩ := hpre
  have ch : chg S S [x.ft, x.gr, x.gp, x.mr, x.mp] [x.rows] [(260, A.mg), (194, x.gv), (194, x.md)] [] := ch_rfl
  have o_mg := hT.2.2.2.2.2.1
  obtain ⟨i_mg, o_rows, o_ft, i_rows, i_ft, o_gv, o_md, _, _⟩ := id hZ
  have h5 := hK.2.2.2.2.1
  have ntk := tk_ne hK hZ
  obtain ⟨hnd, hgT, htT, htn⟩ := hgs
  have hT20 := hT.2.2.2.2.1
  refine v_aload_n C dX1_alignsTaking_0 rfl ?_
  refine r1_26 (b := A.mg) C i_h o_mg dX1_alignsTaking_1 ?_
  refine v_callV (As := []) (n := 0) C (ft_X4_begin l M _ x A LT) rfl i_mg (by decide) rfl ⟨wd147, wd148, wd149, wd31, wd150⟩ ⟨rfl, hy_X4_begin⟩ rfl ⟨Nat.le_of_ble_eq_true rfl, Nat.le_of_ble_eq_true rfl⟩ (Nat.le_of_ble_eq_true rfl) ⟨Nat.le_of_ble_eq_true rfl, Nat.le_of_ble_eq_true rfl⟩ dX1_alignsTaking_4 ⟨rfl, iv, i_mg, hZ, hj⟩ (fun r_4 S2_4 h_4 => ?_)
  obtain ⟨rfl, iv', ch_4, r_v4⟩ := h_4
  have hT1 : trS S2_4 h T A LT := trS_mg (x := x) (ch_tr ch_rfl ch_4 (by simp)) hT hdj i_rows i_ft
  have hK1 : tkS S2_4 fi tk gs := tkS_mg (m := A.mg) (x := x) (ch_tr ch_rfl ch_4 (by simp)) hK ntk
  have iv := iv'
  clear iv'
  have ch := ch_tr ch ch_4 (by simp)
  have o_mg := mo_ch ch_4 i_h (by first | decide | simp) o_mg
  have o_rows := mo_ch ch_4 i_mg (by first | decide | simp) o_rows
  have o_ft := mo_ch ch_4 i_mg (by first | decide | simp) o_ft
  have o_gv := mo_ch ch_4 i_mg (by first | decide | simp) o_gv
  have o_md := mo_ch ch_4 i_mg (by first | decide | simp) o_md
  have i_h := is_ch ch_4 i_h
  have i_fi := is_ch ch_4 i_fi
  have i_mg := is_ch ch_4 i_mg
  have i_rows := isA_ch ch_4 i_rows
  have i_ft := isA_ch ch_4 i_ft
  refine v_iconst (v := nI 0) C dX1_alignsTaking_7 (by decide) ?_
  refine v_istore_n C dX1_alignsTaking_8 (by decide) (by first | rfl | exact cat_ok _ | simp [okS, cat_rf]) ?_
  refine V.lits (lv' := [_, _, _, _]) rfl ?_
  refine v_loop (fun (tt : (Nat)) lv0 => (lv0.set 3 (some (.int (nI tt))))) (fun (S1 : Mem) (tt : (Nat)) => INV M [] S1 ∧ chg S S1 [x.ft, x.gr, x.gp, x.mr, x.mp] [x.rows] [(260, A.mg), (194, x.gv), (194, x.md)] [] ∧ is S1 h 1 ∧ is S1 fi 2 ∧ is S1 A.mg 4 ∧ isA S1 x.rows 15 7 ∧ isA S1 x.ft 11 7 ∧ mO S1 68 h = some A.mg ∧ mO S1 256 A.mg = some x.rows ∧ mO S1 257 A.mg = some x.ft ∧ mO S1 258 A.mg = some x.gv ∧ mO S1 259 A.mg = some x.md ∧ (tt ≤ gs.length) ∧ (trS S1 h T A LT) ∧ (tkS S1 fi tk gs) ∧ (mgS S1 A.mg x A LT (gs.take tt) [])) (fun (S1 : Mem) (tt : (Nat)) => gs.length - tt) (t := (0)) rfl ⟨iv, ch, i_h, i_fi, i_mg, i_rows, i_ft, o_mg, o_rows, o_ft, o_gv, o_md, (Nat.zero_le _), hT1, hK1, (by rw [List.take_zero]; exact r_v4)⟩ ?_
  intro L9 tt h_9 ih_9
  revert h_9 ih_9
  revert tt
  intro i h_9 ih_9
  obtain ⟨iv, ch, i_h, i_fi, i_mg, i_rows, i_ft, o_mg, o_rows, o_ft, o_gv, o_md, hri, hT2, hK2, hM2⟩ := h_9
  try dsimp only at *
  refine v_iload_n C dX1_alignsTaking_9 rfl ?_
  refine v_aload_n C dX1_alignsTaking_10 rfl ?_
  refine g1_60 C i_fi dX1_alignsTaking_11 ?_
  refine v_val hK2.2.2.2.1 ?_
  refine n_icmp_ge (tgt := 32) C (by omega) (by omega) dX1_alignsTaking_14 (by decide) (fun c_14 => ?_) (fun c_14 => ?_)
  · skip
    refine v_aload_n C dX1_alignsTaking_32 rfl ?_
    refine v_iload_n C dX1_alignsTaking_33 rfl ?_
    rw [List.take_of_length_le (by omega)] at hM2
    refine v_callV (As := [_]) (n := 1) C (ft_X1_addToMerger l M _ _ T x A LT gs []) rfl i_h (by decide) rfl ⟨wd157, wd158, wd159, wd15, wd160⟩ ⟨rfl, hy_X1_addToMerger⟩ rfl ⟨Nat.le_of_ble_eq_true rfl, Nat.le_of_ble_eq_true rfl⟩ (Nat.le_of_ble_eq_true rfl) ⟨Nat.le_of_ble_eq_true rfl, Nat.le_of_ble_eq_true rfl⟩ dX1_alignsTaking_34 ⟨rfl, iv, i_h, hT2, hM2, hj, hdj, hgT, (fun k e hk z => htn (((nI_eq (by omega) (by omega)).mp e) ▸ z)), (by omega)⟩ (fun r_34 S2_34 h_34 => ?_)
    obtain ⟨rfl, iv', ch_34, r_v34⟩ := h_34
    have hT4 : trS S2_34 h T A LT := trS_mg (x := x) (ch_tr ch_rfl ch_34 (by simp)) hT2 hdj i_rows i_ft
    have hK4 : tkS S2_34 fi tk gs := tkS_mg (m := A.mg) (x := x) (ch_tr ch_rfl ch_34 (by simp)) hK2 ntk
    have iv := iv'
    clear iv'
    have ch := ch_tr ch ch_34 (by simp)
    have o_mg := mo_ch ch_34 i_h (by first | decide | simp) o_mg
    have o_rows := mo_ch ch_34 i_mg (by first | decide | simp) o_rows
    have o_ft := mo_ch ch_34 i_mg (by first | decide | simp) o_ft
    have o_gv := mo_ch ch_34 i_mg (by first | decide | simp) o_gv
    have o_md := mo_ch ch_34 i_mg (by first | decide | simp) o_md
    have i_h := is_ch ch_34 i_h
    have i_fi := is_ch ch_34 i_fi
    have i_mg := is_ch ch_34 i_mg
    have i_rows := isA_ch ch_34 i_rows
    have i_ft := isA_ch ch_34 i_ft
    rw [tN_nI htT hT20] at r_v34
    obtain ⟨gt, egt⟩ : ∃ z, z = gs ++ [t] := ⟨_, rfl⟩
    have lgs : gt.length < 7 := by rw [egt, List.length_append]; simp; omega
    have hgt : ∀ u ∈ gt, u < T := fun u z => by
      rw [egt] at z
      rcases List.mem_append.mp z with z | z
      · exact hgT u z
      · rw [List.mem_singleton.mp z]; exact htT
    rw [← egt]
    rw [← egt] at r_v34
    obtain ⟨hR, _, _, hGv, hMd⟩ := r_v34
    obtain ⟨j1, j2, j3, j4, j5⟩ := id hj
    refine v_aload_n C dX1_alignsTaking_37 rfl ?_
    refine r1_26 (b := A.mg) C i_h o_mg dX1_alignsTaking_38 ?_
    refine v_callV (As := []) (n := 0) C (ft_X4_merges l M _ x.rows x.ft gt.length x.gv x.gr x.gp x.md x.mr x.mp (gvr A.ln gt) (gvr A.rw gt) (gvr A.pl gt) _ _ _ (gvL LT gt) _ gt) rfl i_mg (by decide) rfl ⟨wd174, wd175, wd176, wd31, wd177⟩ ⟨rfl, hy_X4_merges⟩ rfl ⟨Nat.le_of_ble_eq_true rfl, Nat.le_of_ble_eq_true rfl⟩ (Nat.le_of_ble_eq_true rfl) ⟨Nat.le_of_ble_eq_true rfl, Nat.le_of_ble_eq_true rfl⟩ dX1_alignsTaking_41 ⟨rfl, iv, i_mg, hR, lgs, ⟨o_gv, o_md⟩, hGv, hMd, ⟨rfl, rfl, rfl, rfl⟩, (up_dj hdj hj hgt)⟩ (fun r_41 S2_41 h_41 => ?_)
    obtain ⟨v41, rfl, p_v41, iv', ch_41, r_v41⟩ := h_41
    have hGv3 : lnV S2_41 x.gv x.gr x.gp gt := lnV_ch ch_41 hGv (by simp; exact ⟨isA_nn hGv.2.2.2.1 i_ft (by decide), j2, j3⟩) (by simp; exact ⟨isA_nn hGv.2.2.2.2.1 i_ft (by decide), j4, j5⟩) (by simp; exact j1) (by simp) (by simp)
    have iv := iv'
    clear iv'
    have ch := ch_tr ch ch_41 (by simp)
    have o_mg := mo_ch ch_41 i_h (by first | decide | simp) o_mg
    have o_rows := mo_ch ch_41 i_mg (by first | decide | simp) o_rows
    have o_ft := mo_ch ch_41 i_mg (by first | decide | simp) o_ft
    have o_gv := mo_ch ch_41 i_mg (by first | decide | simp) o_gv
    have o_md := mo_ch ch_41 i_mg (by first | decide | simp) o_md
    have i_h := is_ch ch_41 i_h
    have i_fi := is_ch ch_41 i_fi
    have i_mg := is_ch ch_41 i_mg
    have i_rows := isA_ch ch_41 i_rows
    have i_ft := isA_ch ch_41 i_ft
    refine v_zret C hr (by first | rfl | exact bI_nar _) (Nat.le_of_ble_eq_true rfl) (Nat.le_of_ble_eq_true rfl) dX1_alignsTaking_44 ?_
    exact ⟨_, rfl, (p_v41), iv, ch, ((by obtain ⟨L1, y1, y2⟩ := r_v41; exact ⟨L1, y1, y2, i_mg, o_rows, o_ft, i_rows, i_ft, o_gv, o_md, ⟨_, hGv3⟩, ⟨_, y1⟩⟩))⟩
  · skip
    refine v_aload_n C dX1_alignsTaking_17 rfl ?_
    refine v_aload_n C dX1_alignsTaking_18 rfl ?_
    refine v_iload_n C dX1_alignsTaking_19 rfl ?_
    refine v_callV (As := [_]) (n := 1) C (ft_X2_takenAt l _ _ tk gs) rfl i_fi (by decide) rfl ⟨wd319, wd311, wd312, wd271, wd313⟩ ⟨rfl, hy_X2_takenAt⟩ rfl ⟨Nat.le_of_ble_eq_true rfl, Nat.le_of_ble_eq_true rfl⟩ (Nat.le_of_ble_eq_true rfl) ⟨Nat.le_of_ble_eq_true rfl, Nat.le_of_ble_eq_true rfl⟩ dX1_alignsTaking_20 ⟨rfl, i_fi, hK2, c_14⟩ (fun r_20 S2_20 h_20 => ?_)
    obtain ⟨v20, rfl, p_v20, q_v20⟩ := h_20
    obtain rfl := q_v20.symm
    obtain rfl := p_v20
    have hkT := hgT _ (getD_at c_14 ▸ List.getElem_mem c_14)
    refine v_callV (As := [_]) (n := 1) C (ft_X1_addToMerger l M _ _ T x A LT (gs.take i) []) rfl i_h (by decide) rfl ⟨wd157, wd158, wd159, wd15, wd160⟩ ⟨rfl, hy_X1_addToMerger⟩ rfl ⟨Nat.le_of_ble_eq_true rfl, Nat.le_of_ble_eq_true rfl⟩ (Nat.le_of_ble_eq_true rfl) ⟨Nat.le_of_ble_eq_true rfl, Nat.le_of_ble_eq_true rfl⟩ dX1_alignsTaking_23 ⟨rfl, iv, i_h, hT2, hM2, hj, hdj, (fun u z => hgT u (List.mem_of_mem_take z)), (fun k e hk z => take_nin hnd c_14 (((nI_eq (by omega) (by omega)).mp e).symm ▸ z)), (by rw [List.length_take]; omega)⟩ (fun r_23 S2_23 h_23 => ?_)
    obtain ⟨rfl, iv', ch_23, r_v23⟩ := h_23
    have hT3 : trS S2_23 h T A LT := trS_mg (x := x) (ch_tr ch_rfl ch_23 (by simp)) hT2 hdj i_rows i_ft
    have hK3 : tkS S2_23 fi tk gs := tkS_mg (m := A.mg) (x := x) (ch_tr ch_rfl ch_23 (by simp)) hK2 ntk
    have iv := iv'
    clear iv'
    have ch := ch_tr ch ch_23 (by simp)
    have o_mg := mo_ch ch_23 i_h (by first | decide | simp) o_mg
    have o_rows := mo_ch ch_23 i_mg (by first | decide | simp) o_rows
    have o_ft := mo_ch ch_23 i_mg (by first | decide | simp) o_ft
    have o_gv := mo_ch ch_23 i_mg (by first | decide | simp) o_gv
    have o_md := mo_ch ch_23 i_mg (by first | decide | simp) o_md
    have i_h := is_ch ch_23 i_h
    have i_fi := is_ch ch_23 i_fi
    have i_mg := is_ch ch_23 i_mg
    have i_rows := isA_ch ch_23 i_rows
    have i_ft := isA_ch ch_23 i_ft
    rw [tN_nI hkT hT20, ← take_D c_14] at r_v23
    refine v_iinc C dX1_alignsTaking_26 rfl (nI_inc _) (by decide) (by first | rfl | exact cat_ok _ | simp [okS, cat_rf]) ?_
    refine v_goto (tgt := 9) C dX1_alignsTaking_29 (by decide) ?_
    refine V.lits (lv' := [_, _, _, _]) rfl ?_
    exact ih_9 _ ((i + 1)) (by first | omega | (dsimp only; omega)) ⟨iv, ch, i_h, i_fi, i_mg, i_rows, i_ft, o_mg, o_rows, o_ft, o_gv, o_md, (by omega), hT3, hK3, r_v23⟩
set_option maxRecDepth 100000 in
set_option maxHeartbeats 4000000 in
theorem ft_X1_addTaken (l : Launch) (M : Nat → Prop) (h : Nat) (fi : Nat) (t : Nat) (mg0 md mr mp ln rw pl tk : Nat) (L L0 gs : List Nat) : Ct l yX1_addTaken cX1_addTaken 3 (some .int) 3 0 0 64 (fun S av => av = [.ref h, .ref fi, .int (nI t)] ∧ INV M [] S ∧ is S h 1 ∧ is S fi 2 ∧ (mO S 68 h = some mg0) ∧ (is S mg0 4 ∧ mO S 259 mg0 = some md) ∧ (lnV S md mr mp L) ∧ (mO S 130 fi = some ln) ∧ (lnV S ln rw pl L0) ∧ (tkS S fi tk gs) ∧ (gs.length < 5 ∧ t < 20) ∧ (ln ≠ md ∧ rw ≠ mr ∧ rw ≠ mp ∧ pl ≠ mr ∧ pl ≠ mp)) (fun S _ r S' => ∃ v : Nat, r = some (.int (nI v)) ∧ v = gs.length + 1 ∧ INV M [] S' ∧ chg S S' [tk, rw, pl] [] [(132, fi), (194, ln)] [] ∧ (tkS S' fi tk (gs ++ [t]) ∧ lnV S' ln rw pl L)) := by
  refine ct_of (by decide) (fun S av h => by obtain ⟨rfl, iv, i_h, i_fi, o_mg, hmg, hMd, o_ln, hL, hK, h5, hd⟩ := h; exact Nat.le_of_ble_eq_true rfl) ?_
  intro p e s m args below meth c D G bs S av C hr hin hpre
  obtain ⟨rfl, iv, i_h, i_fi, o_mg, hmg, hMd, o_ln, hL, hK, h5, hd⟩ := hpre
  have ch : chg S S [tk, rw, pl] [] [(132, fi), (194, ln)] [] := ch_rfl
  obtain ⟨i_mg0, o_md⟩ := hmg
  have i_md := hMd.1
  have i_ln := hL.1
  obtain ⟨d1, d2, d3, d4, d5⟩ := hd
  obtain ⟨h5, ht⟩ := h5
  have i_tk := hK.2.2.1
  have n1 : rw ≠ tk := isA_ne hL.2.2.2.1 i_tk (by decide)
  have n2 : pl ≠ tk := isA_ne hL.2.2.2.2.1 i_tk (by decide)
  have n3 : mr ≠ tk := isA_ne hMd.2.2.2.1 i_tk (by decide)
  have n4 : mp ≠ tk := isA_ne hMd.2.2.2.2.1 i_tk (by decide)
  refine v_aload_n C dX1_addTaken_0 rfl ?_
  refine v_iload_n C dX1_addTaken_1 rfl ?_
  refine v_callV (As := [_]) (n := 1) C (ft_X2_addTaken l M _ _ tk gs) rfl i_fi (by decide) rfl ⟨wd325, wd326, wd327, wd271, wd328⟩ ⟨rfl, hy_X2_addTaken⟩ rfl ⟨Nat.le_of_ble_eq_true rfl, Nat.le_of_ble_eq_true rfl⟩ (Nat.le_of_ble_eq_true rfl) ⟨Nat.le_of_ble_eq_true rfl, Nat.le_of_ble_eq_true rfl⟩ dX1_addTaken_2 ⟨rfl, iv, i_fi, hK, ht, h5⟩ (fun r_2 S2_2 h_2 => ?_)
  obtain ⟨rfl, iv', ch_2, r_v2⟩ := h_2
  have hL1 : lnV S2_2 ln rw pl L0 := lnV_ch ch_2 hL (by simp; exact n1) (by simp; exact n2) (by simp) (by simp) (by simp)
  have hM1 : lnV S2_2 md mr mp L := lnV_ch ch_2 hMd (by simp; exact n3) (by simp; exact n4) (by simp) (by simp) (by simp)
  have iv := iv'
  clear iv'
  have ch := ch_tr ch ch_2 (by simp)
  have o_mg := mo_ch ch_2 i_h (by first | decide | simp) o_mg
  have o_md := mo_ch ch_2 i_mg0 (by first | decide | simp) o_md
  have o_ln := mo_ch ch_2 i_fi (by first | decide | simp) o_ln
  have i_h := is_ch ch_2 i_h
  have i_fi := is_ch ch_2 i_fi
  have i_mg0 := is_ch ch_2 i_mg0
  have i_md := is_ch ch_2 i_md
  have i_ln := is_ch ch_2 i_ln
  refine v_aload_n C dX1_addTaken_5 rfl ?_
  refine r1_101 (b := ln) C i_fi o_ln dX1_addTaken_6 ?_
  refine v_callV (As := []) (n := 0) C (ft_X3_empty l M _ rw pl L0) rfl i_ln (by decide) rfl ⟨wd329, wd153, wd154, wd45, wd155⟩ ⟨rfl, hy_X3_empty⟩ rfl ⟨Nat.le_of_ble_eq_true rfl, Nat.le_of_ble_eq_true rfl⟩ (Nat.le_of_ble_eq_true rfl) ⟨Nat.le_of_ble_eq_true rfl, Nat.le_of_ble_eq_true rfl⟩ dX1_addTaken_9 ⟨rfl, iv, i_ln, hL1⟩ (fun r_9 S2_9 h_9 => ?_)
  obtain ⟨rfl, iv', ch_9, r_v9⟩ := h_9
  have hM2 : lnV S2_9 md mr mp L := lnV_ch ch_9 hM1 (by simp; exact Ne.symm d4) (by simp; exact Ne.symm d5) (by simp; exact Ne.symm d1) (by simp) (by simp)
  have hK2 : tkS S2_9 fi tk (gs ++ [t]) := tkS_ch ch_9 r_v2 (by simp; exact Ne.symm n2) (by simp) (by simp)
  have iv := iv'
  clear iv'
  have ch := ch_tr ch ch_9 (by simp)
  have o_mg := mo_ch ch_9 i_h (by first | decide | simp) o_mg
  have o_md := mo_ch ch_9 i_mg0 (by first | decide | simp) o_md
  have o_ln := mo_ch ch_9 i_fi (by first | decide | simp) o_ln
  have i_h := is_ch ch_9 i_h
  have i_fi := is_ch ch_9 i_fi
  have i_mg0 := is_ch ch_9 i_mg0
  have i_md := is_ch ch_9 i_md
  have i_ln := is_ch ch_9 i_ln
  refine v_aload_n C dX1_addTaken_12 rfl ?_
  refine r1_101 (b := ln) C i_fi o_ln dX1_addTaken_13 ?_
  refine v_aload_n C dX1_addTaken_16 rfl ?_
  refine r1_26 (b := mg0) C i_h o_mg dX1_addTaken_17 ?_
  refine r1_85 (b := md) C i_mg0 o_md dX1_addTaken_20 ?_
  refine v_callV (As := [_]) (n := 1) C (ft_X3_addAll l M _ _ rw pl [] mr mp L) rfl i_ln (by decide) rfl ⟨wd224, wd225, wd226, wd45, wd227⟩ ⟨rfl, hy_X3_addAll⟩ rfl ⟨Nat.le_of_ble_eq_true rfl, Nat.le_of_ble_eq_true rfl⟩ (Nat.le_of_ble_eq_true rfl) ⟨Nat.le_of_ble_eq_true rfl, Nat.le_of_ble_eq_true rfl⟩ dX1_addTaken_23 ⟨rfl, iv, i_ln, i_md, r_v9, hM2, ⟨by rw [List.nil_append]; exact hMd.2.2.2.2.2.2.2.1, d1, d2, d3, d4, d5⟩⟩ (fun r_23 S2_23 h_23 => ?_)
  obtain ⟨rfl, iv', ch_23, r_v23⟩ := h_23
  have hK3 : tkS S2_23 fi tk (gs ++ [t]) := tkS_ch ch_23 hK2 (by simp; exact ⟨Ne.symm n1, Ne.symm n2⟩) (by simp) (by simp)
  have iv := iv'
  clear iv'
  have ch := ch_tr ch ch_23 (by simp)
  have o_mg := mo_ch ch_23 i_h (by first | decide | simp) o_mg
  have o_md := mo_ch ch_23 i_mg0 (by first | decide | simp) o_md
  have o_ln := mo_ch ch_23 i_fi (by first | decide | simp) o_ln
  have i_h := is_ch ch_23 i_h
  have i_fi := is_ch ch_23 i_fi
  have i_mg0 := is_ch ch_23 i_mg0
  have i_md := is_ch ch_23 i_md
  have i_ln := is_ch ch_23 i_ln
  rw [List.nil_append] at r_v23
  have eN2 := hK3.2.2.2.1
  rw [List.length_append] at eN2
  refine v_aload_n C dX1_addTaken_26 rfl ?_
  refine g1_60 C i_fi dX1_addTaken_27 ?_
  refine v_val eN2 ?_
  refine v_iret C hr (Nat.le_of_ble_eq_true rfl) (Nat.le_of_ble_eq_true rfl) dX1_addTaken_30 ?_
  exact ⟨_, rfl, (rfl), iv, ch, (⟨hK3, r_v23⟩)⟩
/-- what a character has taken, as the reference keeps it -/
def tkl (K : RS) (c : Nat) : List Nat := (List.range (rN K 6 c)).map (fun i => rN K 5 (5 * c + i))
theorem tkl_len {K : RS} {c : Nat} : (tkl K c).length = rN K 6 c := by unfold tkl; rw [List.length_map, List.length_range]
theorem tkl_D {K : RS} {c i : Nat} (h : i < rN K 6 c) : (tkl K c).getD i 0 = rN K 5 (5 * c + i) := by
  unfold tkl
  rw [List.getD_eq_getElem?_getD, List.getElem?_map, List.getElem?_range h]; rfl
def tkR (S S' : Mem) (W : Nat → Nat) (K : RS) (nC nT : Nat) (LT : Nat → List Nat) (t u v : Int32) : Prop := ((blw t nC && blw u nT) = false ∧ v = -2 ∧ S' = S) ∨ ∃ k w, k < nC ∧ w < nT ∧ t = nI k ∧ u = nI w ∧ ((w ∈ tkl K k ∧ v = -2 ∧ S' = S) ∨ (w ∉ tkl K k ∧ mgZ S' (W 3) (xA W) ∧ ((alF LT (tkl K k ++ [w]) = none ∧ v = -3 ∧ tkS S' (W (10 * k + 300)) (W (10 * k + 304)) (tkl K k) ∧ fL1 S' W K k) ∨ ∃ L, alF LT (tkl K k ++ [w]) = some L ∧ ((rN K 6 k = 5 ∧ v = -4 ∧ tkS S' (W (10 * k + 300)) (W (10 * k + 304)) (tkl K k) ∧ fL1 S' W K k) ∨ (rN K 6 k < 5 ∧ v = nI (rN K 6 k + 1) ∧ tkS S' (W (10 * k + 300)) (W (10 * k + 304)) (tkl K k ++ [w]) ∧ lnV S' (W (10 * k + 301)) (W (10 * k + 302)) (W (10 * k + 303)) L)))))
set_option maxRecDepth 100000 in
set_option maxHeartbeats 4000000 in
theorem ft_X9_takes (l : Launch) (M : Nat → Prop) (h : Nat) (t : Int32) (u : Int32) (W : Nat → Nat) (nC nT : Nat) (LT : Nat → List Nat) (K : RS) : Ct l yX9_takes cX9_takes 4 (some .int) 6 0 0 132 (fun S av => av = [.ref h, .int t, .int u] ∧ INV M [] S ∧ is S h 9 ∧ (mO S 576 h = some (W 0)) ∧ (trS S (W 0) nT (aA W) LT) ∧ (fA0 S W nC) ∧ (all1 (fA1 S W) nC) ∧ (mgZ S (W 3) (xA W)) ∧ (mdj (xA W)) ∧ (tdj (aA W) (xA W) nT) ∧ (all1 (fL1 S W K) nC) ∧ (∀ k, k < nC → tkS S (W (10 * k + 300)) (W (10 * k + 304)) (tkl K k) ∧ (tkl K k).Nodup ∧ ∀ u ∈ tkl K k, u < nT) ∧ (∀ k, k < nC → W (10 * k + 301) ≠ W 6 ∧ W (10 * k + 301) ≠ W 9 ∧ (∀ j, j = 7 ∨ j = 8 ∨ j = 10 ∨ j = 11 → W (10 * k + 302) ≠ W j ∧ W (10 * k + 303) ≠ W j))) (fun S _ r S' => ∃ v : Int32, r = some (.int v) ∧ INV M [] S' ∧ chg S S' [(xA W).ft, (xA W).gr, (xA W).gp, (xA W).mr, (xA W).mp, W (10 * t.toNatClampNeg + 302), W (10 * t.toNatClampNeg + 303), W (10 * t.toNatClampNeg + 304)] [(xA W).rows] [(260, W 3), (194, (xA W).gv), (194, (xA W).md), (132, W (10 * t.toNatClampNeg + 300)), (194, W (10 * t.toNatClampNeg + 301))] [] ∧ (tkR S S' W K nC nT LT t u v)) := by
  refine ct_of (by decide) (fun S av h => by obtain ⟨rfl, iv, i_h, hc, hT, hF, hA, hZ, hj, hdj, hL, hTK, hd⟩ := h; exact Nat.le_of_ble_eq_true rfl) ?_
  intro p e s m args below meth c D G bs S av C hr hin hpre
  obtain ⟨rfl, iv, i_h, hc, hT, hF, hA, hZ, hj, hdj, hL, hTK, hd⟩ := hpre
  have ch : chg S S [(xA W).ft, (xA W).gr, (xA W).gp, (xA W).mr, (xA W).mp, W (10 * t.toNatClampNeg + 302), W (10 * t.toNatClampNeg + 303), W (10 * t.toNatClampNeg + 304)] [(xA W).rows] [(260, W 3), (194, (xA W).gv), (194, (xA W).md), (132, W (10 * t.toNatClampNeg + 300)), (194, W (10 * t.toNatClampNeg + 301))] [] := ch_rfl
  have i_cm := hT.1
  have hT20 := hT.2.2.2.2.1
  have hC12 := hF.2.2.2.1
  have o_mg := hT.2.2.2.2.2.1
  obtain ⟨i_mg, _, _, i_rows, i_ft, _, o_md, _, _⟩ := id hZ
  refine v_aload_n C dX9_takes_0 rfl ?_
  refine r9_10 (b := (W 0)) C i_h hc dX9_takes_1 ?_
  refine v_iload_n C dX9_takes_4 rfl ?_
  refine v_callV (As := [_]) (n := 1) C (ft_X1_figureAt l _ _ W nC) rfl i_cm (by decide) rfl ⟨wd300, wd301, wd302, wd15, wd303⟩ ⟨rfl, hy_X1_figureAt⟩ rfl ⟨Nat.le_of_ble_eq_true rfl, Nat.le_of_ble_eq_true rfl⟩ (Nat.le_of_ble_eq_true rfl) ⟨Nat.le_of_ble_eq_true rfl, Nat.le_of_ble_eq_true rfl⟩ dX9_takes_5 ⟨rfl, i_cm, rfl, hF⟩ (fun r_5 S2_5 h_5 => ?_)
  obtain ⟨v5, rfl, p_v5, q_v5⟩ := h_5
  obtain rfl := q_v5.symm
  refine v_qstore_n C dX9_takes_8 (by decide) (by first | rfl | exact cat_ok _ | simp [okS, cat_rf]) ?_
  refine v_qload_n C dX9_takes_9 rfl ?_
  refine v_ifnull (tgt := 32) C dX9_takes_10 (by decide) (fun c_10 => ?_) (fun b10 c_10 => ?_)
  · skip
    subst c_10
    have hq : blw t nC = false := fgO_no p_v5.symm
    refine v_bipush (v := -2) C dX9_takes_32 (by decide) ?_
    refine v_iret C hr (Nat.le_of_ble_eq_true rfl) (Nat.le_of_ble_eq_true rfl) dX9_takes_34 ?_
    exact ⟨_, rfl, iv, ch, (Or.inl ⟨by simp [hq], rfl, rfl⟩)⟩
  · skip
    subst c_10
    obtain ⟨k, hk, ek⟩ := below_some (fgO_yes p_v5.symm)
    subst ek
    obtain rfl : b10 = W (10 * k + 300) := Option.some.inj (p_v5.trans ((fgO_nI hC12 (by omega)).trans (if_pos hk)))
    obtain ⟨i_gv, o_ln, _⟩ := hA k hk
    obtain ⟨hK, hKn, hKT⟩ := hTK k hk
    obtain ⟨d1, d2, d3⟩ := hd k hk
    obtain ⟨d7, e7⟩ := d3 7 (by decide)
    obtain ⟨d8, e8⟩ := d3 8 (by decide)
    obtain ⟨d10, e10⟩ := d3 10 (by decide)
    obtain ⟨d11, e11⟩ := d3 11 (by decide)
    refine v_aload_n C dX9_takes_13 rfl ?_
    refine r9_10 (b := (W 0)) C i_h hc dX9_takes_14 ?_
    refine v_iload_n C dX9_takes_17 rfl ?_
    refine v_callV (As := [_]) (n := 1) C (ft_X1_traitAt l _ _ nT (aA W) LT) rfl i_cm (by decide) rfl ⟨wd304, wd138, wd139, wd15, wd140⟩ ⟨rfl, hy_X1_traitAt⟩ rfl ⟨Nat.le_of_ble_eq_true rfl, Nat.le_of_ble_eq_true rfl⟩ (Nat.le_of_ble_eq_true rfl) ⟨Nat.le_of_ble_eq_true rfl, Nat.le_of_ble_eq_true rfl⟩ dX9_takes_18 ⟨rfl, i_cm, hT⟩ (fun r_18 S4_18 h_18 => ?_)
    obtain ⟨v18, rfl, p_v18, q_v18⟩ := h_18
    obtain rfl := q_v18.symm
    refine v_ifnull (tgt := 32) C dX9_takes_21 (by decide) (fun c_21 => ?_) (fun b21 c_21 => ?_)
    · skip
      subst c_21
      have hq : blw u nT = false := trO_no p_v18.symm
      refine v_bipush (v := -2) C dX9_takes_32 (by decide) ?_
      refine v_iret C hr (Nat.le_of_ble_eq_true rfl) (Nat.le_of_ble_eq_true rfl) dX9_takes_34 ?_
      exact ⟨_, rfl, iv, ch, (Or.inl ⟨by simp [hq], rfl, rfl⟩)⟩
    · skip
      subst c_21
      obtain ⟨w, hw, ew⟩ := below_some (trO_yes p_v18.symm)
      subst ew
      refine v_aload_n C dX9_takes_24 rfl ?_
      refine v_iload_n C dX9_takes_25 rfl ?_
      refine v_callV (As := [_]) (n := 1) C (ft_X2_hasTaken l _ _ (W (10 * k + 304)) (tkl K k)) rfl i_gv (by decide) rfl ⟨wd305, wd306, wd307, wd271, wd308⟩ ⟨rfl, hy_X2_hasTaken⟩ rfl ⟨Nat.le_of_ble_eq_true rfl, Nat.le_of_ble_eq_true rfl⟩ (Nat.le_of_ble_eq_true rfl) ⟨Nat.le_of_ble_eq_true rfl, Nat.le_of_ble_eq_true rfl⟩ dX9_takes_26 ⟨rfl, i_gv, hK, (by omega)⟩ (fun r_26 S6_26 h_26 => ?_)
      obtain ⟨v26, rfl, p_v26, q_v26⟩ := h_26
      obtain rfl := q_v26.symm
      refine b_if_eq (tgt := 35) C dX9_takes_29 (by decide) (fun c_29 => ?_) (fun c_29 => ?_)
      · skip
        have hnin : w ∉ tkl K k := of_decide_eq_false (p_v26.symm.trans c_29)
        refine v_aload_n C dX9_takes_35 rfl ?_
        refine r9_10 (b := (W 0)) C i_h hc dX9_takes_36 ?_
        refine v_aload_n C dX9_takes_39 rfl ?_
        refine v_iload_n C dX9_takes_40 rfl ?_
        refine v_callV (As := [_, _]) (n := 2) C (ft_X1_alignsTaking l M _ _ _ nT (xA W) (aA W) LT (W (10 * k + 304)) (tkl K k)) rfl i_cm (by decide) rfl ⟨wd314, wd315, wd316, wd15, wd317⟩ ⟨rfl, hy_X1_alignsTaking⟩ rfl ⟨Nat.le_of_ble_eq_true rfl, Nat.le_of_ble_eq_true rfl⟩ (Nat.le_of_ble_eq_true rfl) ⟨Nat.le_of_ble_eq_true rfl, Nat.le_of_ble_eq_true rfl⟩ dX9_takes_41 ⟨rfl, iv, i_cm, i_gv, hT, hZ, hj, hdj, hK, ⟨hKn, hKT, hw, hnin⟩⟩ (fun r_41 S8_41 h_41 => ?_)
        obtain ⟨v41, rfl, p_v41, iv', ch_41, r_v41⟩ := h_41
        have ntk := tk_ne hK hZ
        have hK1 := tkS_mg ch_41 hK ntk
        have hl := hL k hk
        have nl1 : W (10 * k + 302) ≠ (xA W).ft := isA_ne hl.2.2.2.1 i_ft (by decide)
        have nl2 : W (10 * k + 303) ≠ (xA W).ft := isA_ne hl.2.2.2.2.1 i_ft (by decide)
        have hl1 : fL1 S8_41 W K k := lnV_ch ch_41 hl (by simp; exact ⟨nl1, d7, d8, d10, d11⟩) (by simp; exact ⟨nl2, e7, e8, e10, e11⟩) (by simp; exact ⟨d1, d2⟩) (by simp) (by simp)
        have o_mg1 := mo_ch ch_41 i_cm (by simp) o_mg
        have o_ln1 := mo_ch ch_41 (hA k hk).1 (by simp) o_ln
        have iv := iv'
        clear iv'
        have ch := ch_tr ch ch_41 (by refine ⟨fun a ha => List.mem_append_left [W (10 * (nI k).toNatClampNeg + 302), W (10 * (nI k).toNatClampNeg + 303), W (10 * (nI k).toNatClampNeg + 304)] ha, fun a ha => ha, fun a ha => List.mem_append_left [(132, W (10 * (nI k).toNatClampNeg + 300)), (194, W (10 * (nI k).toNatClampNeg + 301))] ha, fun a ha => ha⟩)
        have hc := mo_ch ch_41 i_h (by first | decide | simp) hc
        have i_h := is_ch ch_41 i_h
        have i_cm := is_ch ch_41 i_cm
        have i_mg := is_ch ch_41 i_mg
        have i_rows := isA_ch ch_41 i_rows
        have i_ft := isA_ch ch_41 i_ft
        have i_gv := is_ch ch_41 i_gv
        obtain ⟨L1, y1, y2, y3⟩ := r_v41
        have eN1 := hK1.2.2.2.1
        have hN5 := hK1.2.2.2.2.1
        rw [tkl_len] at eN1 hN5
        refine b_if_ne (tgt := 50) C dX9_takes_44 (by decide) (fun c_44 => ?_) (fun c_44 => ?_)
        · skip
          obtain ⟨L, hal⟩ : ∃ L, alF LT (tkl K k ++ [w]) = some L := Option.isSome_iff_exists.mp (p_v41.symm.trans c_44)
          obtain rfl := y2 L hal
          refine v_aload_n C dX9_takes_50 rfl ?_
          refine g9_73 C i_gv dX9_takes_51 ?_
          refine v_val eN1 ?_
          refine v_iconst (v := nI 5) C dX9_takes_54 (by decide) ?_
          refine n_icmp_lt (tgt := 63) C (by omega) (by omega) dX9_takes_55 (by decide) (fun c_55 => ?_) (fun c_55 => ?_)
          · skip
            refine v_aload_n C dX9_takes_63 rfl ?_
            refine r9_10 (b := (W 0)) C i_h hc dX9_takes_64 ?_
            refine v_aload_n C dX9_takes_67 rfl ?_
            refine v_iload_n C dX9_takes_68 rfl ?_
            refine v_callV (As := [_, _]) (n := 2) C (ft_X1_addTaken l M _ _ _ (W 3) (W 9) (W 10) (W 11) (W (10 * k + 301)) (W (10 * k + 302)) (W (10 * k + 303)) (W (10 * k + 304)) L1 (flist K k) (tkl K k)) rfl i_cm (by decide) rfl ⟨wd320, wd321, wd322, wd15, wd323⟩ ⟨rfl, hy_X1_addTaken⟩ rfl ⟨Nat.le_of_ble_eq_true rfl, Nat.le_of_ble_eq_true rfl⟩ (Nat.le_of_ble_eq_true rfl) ⟨Nat.le_of_ble_eq_true rfl, Nat.le_of_ble_eq_true rfl⟩ dX9_takes_69 ⟨rfl, iv, i_cm, i_gv, o_mg1, ⟨y3.1, y3.2.2.2.2.2.2.1⟩, y1, o_ln1, hl1, hK1, ⟨by rw [tkl_len]; exact c_55, by omega⟩, ⟨d2, d10, d11, e10, e11⟩⟩ (fun r_69 S12_69 h_69 => ?_)
            obtain ⟨v69, rfl, p_v69, iv', ch_69, r_v69⟩ := h_69
            obtain ⟨z1, z2, z3, z4, z5, z6, z7, ⟨G, z8⟩, ⟨D, z9⟩⟩ := id y3
            have nt1 := tk_ne hK1 y3
            obtain ⟨q1, q2, q3, q4, q5⟩ := nt1
            have y4 : mgZ S12_69 (W 3) (xA W) := ⟨is_ch ch_69 z1, mo_ch ch_69 z1 (by simp) z2, mo_ch ch_69 z1 (by simp) z3, isA_ch ch_69 z4, isA_ch ch_69 z5, mo_ch ch_69 z1 (by simp) z6, mo_ch ch_69 z1 (by simp) z7, ⟨G, lnV_ch ch_69 z8 (by simp; exact ⟨Ne.symm q2, Ne.symm d7, Ne.symm e7⟩) (by simp; exact ⟨Ne.symm q3, Ne.symm d8, Ne.symm e8⟩) (by simp; exact Ne.symm d1) (by simp) (by simp)⟩, ⟨D, lnV_ch ch_69 z9 (by simp; exact ⟨Ne.symm q4, Ne.symm d10, Ne.symm e10⟩) (by simp; exact ⟨Ne.symm q5, Ne.symm d11, Ne.symm e11⟩) (by simp; exact Ne.symm d2) (by simp) (by simp)⟩⟩
            have iv := iv'
            clear iv'
            have ch := ch_tr ch ch_69 (by rw [nI_clamp (show k < 2 ^ 31 by omega)]; simp)
            have hc := mo_ch ch_69 i_h (by first | decide | simp) hc
            have i_h := is_ch ch_69 i_h
            have i_cm := is_ch ch_69 i_cm
            have i_mg := is_ch ch_69 i_mg
            have i_rows := isA_ch ch_69 i_rows
            have i_ft := isA_ch ch_69 i_ft
            have i_gv := is_ch ch_69 i_gv
            refine v_iret C hr (Nat.le_of_ble_eq_true rfl) (Nat.le_of_ble_eq_true rfl) dX9_takes_72 ?_
            exact ⟨_, rfl, iv, ch, (Or.inr ⟨k, w, hk, hw, rfl, rfl, Or.inr ⟨hnin, y4, Or.inr ⟨_, hal, Or.inr ⟨c_55, by rw [p_v69, tkl_len], r_v69.1, r_v69.2⟩⟩⟩⟩)⟩
          · skip
            refine v_bipush (v := -4) C dX9_takes_58 (by decide) ?_
            refine v_goto (tgt := 72) C dX9_takes_60 (by decide) ?_
            refine v_iret C hr (Nat.le_of_ble_eq_true rfl) (Nat.le_of_ble_eq_true rfl) dX9_takes_72 ?_
            exact ⟨_, rfl, iv, ch, (Or.inr ⟨k, w, hk, hw, rfl, rfl, Or.inr ⟨hnin, y3, Or.inr ⟨_, hal, Or.inl ⟨by omega, rfl, hK1, hl1⟩⟩⟩⟩)⟩
        · skip
          have hal : alF LT (tkl K k ++ [w]) = none := Option.isSome_eq_false_iff.mp (p_v41.symm.trans c_44) |> Option.isNone_iff_eq_none.mp
          refine v_bipush (v := -3) C dX9_takes_47 (by decide) ?_
          refine v_iret C hr (Nat.le_of_ble_eq_true rfl) (Nat.le_of_ble_eq_true rfl) dX9_takes_49 ?_
          exact ⟨_, rfl, iv, ch, (Or.inr ⟨k, w, hk, hw, rfl, rfl, Or.inr ⟨hnin, y3, Or.inl ⟨hal, rfl, hK1, hl1⟩⟩⟩)⟩
      · skip
        have hin_ : w ∈ tkl K k := of_decide_eq_true (p_v26.symm.trans c_29)
        refine v_bipush (v := -2) C dX9_takes_32 (by decide) ?_
        refine v_iret C hr (Nat.le_of_ble_eq_true rfl) (Nat.le_of_ble_eq_true rfl) dX9_takes_34 ?_
        exact ⟨_, rfl, iv, ch, (Or.inr ⟨k, w, hk, hw, rfl, rfl, Or.inl ⟨hin_, rfl, rfl⟩⟩)⟩
