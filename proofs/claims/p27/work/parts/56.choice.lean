/-! BITS -/
def us (x y : Int32) : Int32 := (x.toUInt32 >>> (y.toUInt32 &&& Int32.toUInt32 31)).toInt32
def bcA (w : Int32) : Int32 := w - ((us w (nI 1)) &&& 1431655765)
def bcB (a : Int32) : Int32 := (a &&& 858993459) + ((us a (nI 2)) &&& 858993459)
def bcC (b : Int32) : Int32 := (b + us b (nI 4)) &&& 252645135
def bcD (c : Int32) : Int32 := c + us c (nI 8)
def bcE (d : Int32) : Int32 := (d + us d (nI 16)) &&& nI 63
def bcx (w : Int32) : Int32 := bcE (bcD (bcC (bcB (bcA w))))
def pc4 (m : Nat) : Nat := (if m.testBit 0 then 1 else 0) + (if m.testBit 1 then 1 else 0) + (if m.testBit 2 then 1 else 0) + (if m.testBit 3 then 1 else 0)
theorem bcx_ok : ∀ m ∈ List.range 16, bcx (nI m) = nI (pc4 m) := by decide +kernel
theorem or_ok : ∀ m ∈ List.range 16, ∀ r ∈ List.range 4, (nI m ||| (nI 1 <<< (nI r &&& 31))) = nI (m ||| (1 <<< r)) ∧ (m ||| (1 <<< r)) < 16 := by decide +kernel
theorem sr_ok : ∀ m ∈ List.range 16, ∀ r ∈ List.range 4, (nI m >>> (nI r &&& 31)) = nI (m >>> r) ∧ (m >>> r) < 16 := by decide +kernel
theorem sl_ok : ∀ r ∈ List.range 4, (nI 1 <<< (nI r &&& 31)) = nI (1 <<< r) ∧ 1 ≤ 1 <<< r ∧ 1 <<< r < 16 := by decide +kernel
theorem an_ok : ∀ m ∈ List.range 16, ∀ r ∈ List.range 4, (nI m &&& nI ((1 <<< r) - 1)) = nI (m &&& ((1 <<< r) - 1)) ∧ (m &&& ((1 <<< r) - 1)) < 16 := by decide +kernel
/-! THE CHOICE'S CELLS -/
def chS (S : Mem) (h : Nat) (pf fs lf : Option Nat) (rv nd : Bool) (ms : Nat) : Prop := mO S 4 h = pf ∧ mO S 5 h = fs ∧ mO S 6 h = lf ∧ mI S 7 h = bI rv ∧ mI S 8 h = bI nd ∧ mI S 9 h = nI ms
theorem chS_9 {S S' : Mem} {h : Nat} {pf fs lf : Option Nat} {rv nd : Bool} {ms m' : Nat} {v : Int32} (e : S' = sI S 9 h v) (ev : v = nI m') (k : chS S h pf fs lf rv nd ms) : chS S' h pf fs lf rv nd m' := by
  obtain ⟨h1, h2, h3, h4, h5, h6⟩ := k
  exact ⟨by rw [e, mO_sI]; exact h1, by rw [e, mO_sI]; exact h2, by rw [e, mO_sI]; exact h3, mi_sIx e (Or.inl (by decide)) h4, mi_sIx e (Or.inl (by decide)) h5, by rw [e, mI_sI, if_pos ⟨rfl, rfl⟩]; exact ev⟩
theorem chS_8 {S S' : Mem} {h : Nat} {pf fs lf : Option Nat} {rv nd b : Bool} {ms : Nat} {v : Int32} (e : S' = sI S 8 h v) (ev : v = bI b) (k : chS S h pf fs lf rv nd ms) : chS S' h pf fs lf rv b ms := by
  obtain ⟨h1, h2, h3, h4, h5, h6⟩ := k
  exact ⟨by rw [e, mO_sI]; exact h1, by rw [e, mO_sI]; exact h2, by rw [e, mO_sI]; exact h3, mi_sIx e (Or.inl (by decide)) h4, by rw [e, mI_sI, if_pos ⟨rfl, rfl⟩]; exact ev, mi_sIx e (Or.inl (by decide)) h6⟩
theorem chS_7 {S S' : Mem} {h : Nat} {pf fs lf : Option Nat} {rv nd b : Bool} {ms : Nat} {v : Int32} (e : S' = sI S 7 h v) (ev : v = bI b) (k : chS S h pf fs lf rv nd ms) : chS S' h pf fs lf b nd ms := by
  obtain ⟨h1, h2, h3, h4, h5, h6⟩ := k
  exact ⟨by rw [e, mO_sI]; exact h1, by rw [e, mO_sI]; exact h2, by rw [e, mO_sI]; exact h3, by rw [e, mI_sI, if_pos ⟨rfl, rfl⟩]; exact ev, mi_sIx e (Or.inl (by decide)) h5, mi_sIx e (Or.inl (by decide)) h6⟩
theorem chS_4 {S S' : Mem} {h : Nat} {pf fs lf v : Option Nat} {rv nd : Bool} {ms : Nat} (e : S' = sO S 4 h v) (k : chS S h pf fs lf rv nd ms) : chS S' h v fs lf rv nd ms := by
  obtain ⟨h1, h2, h3, h4, h5, h6⟩ := k
  exact ⟨mo_put e, mo_sOx e (Or.inl (by decide)) h2, mo_sOx e (Or.inl (by decide)) h3, by rw [e, mI_sO]; exact h4, by rw [e, mI_sO]; exact h5, by rw [e, mI_sO]; exact h6⟩
theorem chS_5 {S S' : Mem} {h : Nat} {pf fs lf v : Option Nat} {rv nd : Bool} {ms : Nat} (e : S' = sO S 5 h v) (k : chS S h pf fs lf rv nd ms) : chS S' h pf v lf rv nd ms := by
  obtain ⟨h1, h2, h3, h4, h5, h6⟩ := k
  exact ⟨mo_sOx e (Or.inl (by decide)) h1, mo_put e, mo_sOx e (Or.inl (by decide)) h3, by rw [e, mI_sO]; exact h4, by rw [e, mI_sO]; exact h5, by rw [e, mI_sO]; exact h6⟩
theorem chS_6 {S S' : Mem} {h : Nat} {pf fs lf v : Option Nat} {rv nd : Bool} {ms : Nat} (e : S' = sO S 6 h v) (k : chS S h pf fs lf rv nd ms) : chS S' h pf fs v rv nd ms := by
  obtain ⟨h1, h2, h3, h4, h5, h6⟩ := k
  exact ⟨mo_sOx e (Or.inl (by decide)) h1, mo_sOx e (Or.inl (by decide)) h2, mo_put e, by rw [e, mI_sO]; exact h4, by rw [e, mI_sO]; exact h5, by rw [e, mI_sO]; exact h6⟩
theorem chS_o {S S' : Mem} {g h : Nat} {pf fs lf v : Option Nat} {rv nd : Bool} {ms : Nat} (e : S' = sO S g h v) (hg : g < 4) (k : chS S h pf fs lf rv nd ms) : chS S' h pf fs lf rv nd ms := by
  obtain ⟨h1, h2, h3, h4, h5, h6⟩ := k
  exact ⟨mo_sOx e (Or.inl (by omega)) h1, mo_sOx e (Or.inl (by omega)) h2, mo_sOx e (Or.inl (by omega)) h3, by rw [e, mI_sO]; exact h4, by rw [e, mI_sO]; exact h5, by rw [e, mI_sO]; exact h6⟩
theorem chS_i {S S' : Mem} {g h : Nat} {pf fs lf : Option Nat} {rv nd : Bool} {ms : Nat} {v : Int32} (e : S' = sI S g h v) (hg : g < 4) (k : chS S h pf fs lf rv nd ms) : chS S' h pf fs lf rv nd ms := by
  obtain ⟨h1, h2, h3, h4, h5, h6⟩ := k
  exact ⟨by rw [e, mO_sI]; exact h1, by rw [e, mO_sI]; exact h2, by rw [e, mO_sI]; exact h3, mi_sIx e (Or.inl (by omega)) h4, mi_sIx e (Or.inl (by omega)) h5, mi_sIx e (Or.inl (by omega)) h6⟩
set_option maxRecDepth 100000 in
set_option maxHeartbeats 4000000 in
theorem ft_J6_bitCount_0f7a4 (l : Launch) (w : Int32) : Ct l yJ6_bitCount_0f7a4 cJ6_bitCount_0f7a4 1 (some .int) 0 0 0 0 (fun S av => av = [.int w]) (fun S _ r S' => ∃ v : Int32, r = some (.int v) ∧ v = bcx w ∧ S' = S) := by
  refine ct_of (by decide) (fun S av h => by obtain rfl := h; exact Nat.le_of_ble_eq_true rfl) ?_
  intro p e s m args below meth c D G bs S av C hr hin hpre
  obtain rfl := hpre
  refine v_iload_n C dJ6_bitCount_0f7a4_0 rfl ?_
  refine v_iload_n C dJ6_bitCount_0f7a4_1 rfl ?_
  refine v_iconst (v := nI 1) C dJ6_bitCount_0f7a4_2 (by decide) ?_
  refine v_iushr C dJ6_bitCount_0f7a4_3 ?_
  refine v_ldcw (v := (1431655765)) C wd578 dJ6_bitCount_0f7a4_4 ?_
  refine v_iand C dJ6_bitCount_0f7a4_7 ?_
  refine v_isub C dJ6_bitCount_0f7a4_8 ?_
  refine v_istore_n C dJ6_bitCount_0f7a4_9 (by decide) (by first | rfl | exact cat_ok _ | simp [okS, cat_rf]) ?_
  refine v_iload_n C dJ6_bitCount_0f7a4_10 rfl ?_
  refine v_ldcw (v := (858993459)) C wd579 dJ6_bitCount_0f7a4_11 ?_
  refine v_iand C dJ6_bitCount_0f7a4_14 ?_
  refine v_iload_n C dJ6_bitCount_0f7a4_15 rfl ?_
  refine v_iconst (v := nI 2) C dJ6_bitCount_0f7a4_16 (by decide) ?_
  refine v_iushr C dJ6_bitCount_0f7a4_17 ?_
  refine v_ldcw (v := (858993459)) C wd579 dJ6_bitCount_0f7a4_18 ?_
  refine v_iand C dJ6_bitCount_0f7a4_21 ?_
  refine v_iadd C dJ6_bitCount_0f7a4_22 ?_
  refine v_istore_n C dJ6_bitCount_0f7a4_23 (by decide) (by first | rfl | exact cat_ok _ | simp [okS, cat_rf]) ?_
  refine v_iload_n C dJ6_bitCount_0f7a4_24 rfl ?_
  refine v_iload_n C dJ6_bitCount_0f7a4_25 rfl ?_
  refine v_iconst (v := nI 4) C dJ6_bitCount_0f7a4_26 (by decide) ?_
  refine v_iushr C dJ6_bitCount_0f7a4_27 ?_
  refine v_iadd C dJ6_bitCount_0f7a4_28 ?_
  refine v_ldcw (v := (252645135)) C wd580 dJ6_bitCount_0f7a4_29 ?_
  refine v_iand C dJ6_bitCount_0f7a4_32 ?_
  refine v_istore_n C dJ6_bitCount_0f7a4_33 (by decide) (by first | rfl | exact cat_ok _ | simp [okS, cat_rf]) ?_
  refine v_iload_n C dJ6_bitCount_0f7a4_34 rfl ?_
  refine v_iload_n C dJ6_bitCount_0f7a4_35 rfl ?_
  refine v_bipush (v := nI 8) C dJ6_bitCount_0f7a4_36 (by decide) ?_
  refine v_iushr C dJ6_bitCount_0f7a4_38 ?_
  refine v_iadd C dJ6_bitCount_0f7a4_39 ?_
  refine v_istore_n C dJ6_bitCount_0f7a4_40 (by decide) (by first | rfl | exact cat_ok _ | simp [okS, cat_rf]) ?_
  refine v_iload_n C dJ6_bitCount_0f7a4_41 rfl ?_
  refine v_iload_n C dJ6_bitCount_0f7a4_42 rfl ?_
  refine v_bipush (v := nI 16) C dJ6_bitCount_0f7a4_43 (by decide) ?_
  refine v_iushr C dJ6_bitCount_0f7a4_45 ?_
  refine v_iadd C dJ6_bitCount_0f7a4_46 ?_
  refine v_istore_n C dJ6_bitCount_0f7a4_47 (by decide) (by first | rfl | exact cat_ok _ | simp [okS, cat_rf]) ?_
  refine v_iload_n C dJ6_bitCount_0f7a4_48 rfl ?_
  refine v_bipush (v := nI 63) C dJ6_bitCount_0f7a4_49 (by decide) ?_
  refine v_iand C dJ6_bitCount_0f7a4_51 ?_
  refine v_iret C hr (Nat.le_of_ble_eq_true rfl) (Nat.le_of_ble_eq_true rfl) dJ6_bitCount_0f7a4_52 ?_
  exact ⟨_, rfl, (rfl), rfl⟩
set_option maxRecDepth 100000 in
set_option maxHeartbeats 4000000 in
theorem ft_X3_has (l : Launch) (h : Nat) (t : Nat) (rw pl : Nat) (L : List Nat) : Ct l yX3_has cX3_has 2 (some .boolean) 1 0 0 21 (fun S av => av = [.ref h, .int (nI t)] ∧ is S h 3 ∧ (lnV S h rw pl L) ∧ (t < 20)) (fun S _ r S' => ∃ v : Bool, r = some (.int (bI v)) ∧ v = decide (t ∈ L) ∧ S' = S) := by
  refine ct_of (by decide) (fun S av h => by obtain ⟨rfl, i_h, hL, ht⟩ := h; exact Nat.le_of_ble_eq_true rfl) ?_
  intro p e s m args below meth c D G bs S av C hr hin hpre
  obtain ⟨rfl, i_h, hL, ht⟩ := hpre
  obtain ⟨_, o_rw, o_pl, i_rw, i_pl, npl, elen, hnd, h20, hat, hno⟩ := id hL
  have hl20 := lnV_len hL
  obtain ⟨q, eq⟩ : ∃ q, q = posO L t := ⟨_, rfl⟩
  have b_q : ∀ k, q = some k → k < 20 := fun k z => by have := (List.getElem?_eq_some_iff.mp (posO_some (eq.symm.trans z))).1; omega
  refine v_iload_n C dX3_has_0 rfl ?_
  refine v_bipush (v := nI 20) C dX3_has_1 (by decide) ?_
  refine v_callSN (As := [_, _]) (n := 2) C (sb_isBelow l _ _) rfl ⟨(by decide +kernel), wd141, wd2, wd142⟩ hy_X9_isBelow rfl ⟨Nat.le_of_ble_eq_true rfl, Nat.le_of_ble_eq_true rfl⟩ (Nat.le_of_ble_eq_true rfl) ⟨Nat.le_of_ble_eq_true rfl, Nat.le_of_ble_eq_true rfl⟩ dX3_has_3 rfl (fun r_3 S2_3 h_3 => ?_)
  obtain ⟨v3, rfl, p_v3, q_v3⟩ := h_3
  obtain rfl := q_v3.symm
  rw [isB_nI (by omega) (by decide)] at p_v3
  refine b_if_eq (tgt := 23) C dX3_has_6 (by decide) (fun c_6 => ?_) (fun c_6 => ?_)
  · skip
    exact absurd ht (of_decide_eq_false (p_v3.symm.trans c_6))
  · skip
    refine v_aload_n C dX3_has_9 rfl ?_
    refine r3_15 (b := pl) C i_h o_pl dX3_has_10 ?_
    refine v_iload_n C dX3_has_13 rfl ?_
    refine v_iald C i_pl (vp_in_nI (by omega) (by omega)) dX3_has_14 ?_
    rw [nI_clamp (by omega)]
    refine v_val (y := oI q) (by rw [eq]; exact lnV_pl hL ht) ?_
    refine v_iconst (v := -1) C dX3_has_15 (by decide) ?_
    refine o_icmp_eq (tgt := 23) C (fun k z => by have := b_q k z; omega) dX3_has_16 (by decide) (fun c_16 => ?_) (fun k16 c_16 => ?_)
    · skip
      subst c_16
      refine v_iconst (v := nI 0) C dX3_has_23 (by decide) ?_
      refine v_zret C hr (by first | rfl | exact bI_nar _) (Nat.le_of_ble_eq_true rfl) (Nat.le_of_ble_eq_true rfl) dX3_has_24 ?_
      exact ⟨false, rfl, (decide_eq_false (posO_none eq.symm)).symm, rfl⟩
    · skip
      have b_k16 := b_q k16 c_16
      subst c_16
      refine v_iconst (v := nI 1) C dX3_has_19 (by decide) ?_
      refine v_goto (tgt := 24) C dX3_has_20 (by decide) ?_
      refine v_zret C hr (by first | rfl | exact bI_nar _) (Nat.le_of_ble_eq_true rfl) (Nat.le_of_ble_eq_true rfl) dX3_has_24 ?_
      exact ⟨true, rfl, (decide_eq_true (List.mem_of_getElem? (posO_some eq.symm))).symm, rfl⟩
set_option maxRecDepth 100000 in
set_option maxHeartbeats 4000000 in
theorem ft_X8_bodyFor (l : Launch) (h : Nat) (j : Nat) (bo : Nat) : Ct l yX8_bodyFor cX8_bodyFor 2 (some (.object "PuppetCast$Part")) 1 0 0 21 (fun S av => av = [.ref h, .int (nI j)] ∧ is S h 8 ∧ (j < 12) ∧ (mO S 513 h = some bo ∧ isA S bo 16 12)) (fun S _ r S' => ∃ v : Option Nat, r = some (va_rf v) ∧ v = mP S bo j ∧ S' = S) := by
  refine ct_of (by decide) (fun S av h => by obtain ⟨rfl, i_h, hj, hb⟩ := h; exact Nat.le_of_ble_eq_true rfl) ?_
  intro p e s m args below meth c D G bs S av C hr hin hpre
  obtain ⟨rfl, i_h, hj, hb⟩ := hpre
  obtain ⟨o_bo, i_bo⟩ := hb
  refine v_iload_n C dX8_bodyFor_0 rfl ?_
  refine v_bipush (v := nI 12) C dX8_bodyFor_1 (by decide) ?_
  refine v_callSN (As := [_, _]) (n := 2) C (sb_isBelow l _ _) rfl ⟨(by decide +kernel), wd141, wd2, wd142⟩ hy_X9_isBelow rfl ⟨Nat.le_of_ble_eq_true rfl, Nat.le_of_ble_eq_true rfl⟩ (Nat.le_of_ble_eq_true rfl) ⟨Nat.le_of_ble_eq_true rfl, Nat.le_of_ble_eq_true rfl⟩ dX8_bodyFor_3 rfl (fun r_3 S2_3 h_3 => ?_)
  obtain ⟨v3, rfl, p_v3, q_v3⟩ := h_3
  obtain rfl := q_v3.symm
  rw [isB_nI (by omega) (by decide)] at p_v3
  refine b_if_eq (tgt := 18) C dX8_bodyFor_6 (by decide) (fun c_6 => ?_) (fun c_6 => ?_)
  · skip
    exact absurd hj (of_decide_eq_false (p_v3.symm.trans c_6))
  · skip
    refine v_aload_n C dX8_bodyFor_9 rfl ?_
    refine r8_20 (b := bo) C i_h o_bo dX8_bodyFor_10 ?_
    refine v_iload_n C dX8_bodyFor_13 rfl ?_
    refine v_aald (t0 := 5) C i_bo (by decide) rfl (vp_in_nI (by omega) (by omega)) dX8_bodyFor_14 ?_
    rw [nI_clamp (by omega)]
    obtain ⟨q14, e_q14⟩ : ∃ z, z = mP S bo j := ⟨_, rfl⟩
    rw [← e_q14]
    refine v_goto (tgt := 19) C dX8_bodyFor_15 (by decide) ?_
    refine v_aret C hr (Nat.le_of_ble_eq_true rfl) (Nat.le_of_ble_eq_true rfl) dX8_bodyFor_19 ?_
    exact ⟨_, rfl, (e_q14), rfl⟩
set_option maxRecDepth 100000 in
set_option maxHeartbeats 4000000 in
theorem ft_X8_guardFor (l : Launch) (h : Nat) (j : Nat) (bo : Nat) : Ct l yX8_guardFor cX8_guardFor 2 (some (.object "PuppetCast$Part")) 1 0 0 21 (fun S av => av = [.ref h, .int (nI j)] ∧ is S h 8 ∧ (j < 12) ∧ (mO S 514 h = some bo ∧ isA S bo 16 12)) (fun S _ r S' => ∃ v : Option Nat, r = some (va_rf v) ∧ v = mP S bo j ∧ S' = S) := by
  refine ct_of (by decide) (fun S av h => by obtain ⟨rfl, i_h, hj, hb⟩ := h; exact Nat.le_of_ble_eq_true rfl) ?_
  intro p e s m args below meth c D G bs S av C hr hin hpre
  obtain ⟨rfl, i_h, hj, hb⟩ := hpre
  obtain ⟨o_bo, i_bo⟩ := hb
  refine v_iload_n C dX8_guardFor_0 rfl ?_
  refine v_bipush (v := nI 12) C dX8_guardFor_1 (by decide) ?_
  refine v_callSN (As := [_, _]) (n := 2) C (sb_isBelow l _ _) rfl ⟨(by decide +kernel), wd141, wd2, wd142⟩ hy_X9_isBelow rfl ⟨Nat.le_of_ble_eq_true rfl, Nat.le_of_ble_eq_true rfl⟩ (Nat.le_of_ble_eq_true rfl) ⟨Nat.le_of_ble_eq_true rfl, Nat.le_of_ble_eq_true rfl⟩ dX8_guardFor_3 rfl (fun r_3 S2_3 h_3 => ?_)
  obtain ⟨v3, rfl, p_v3, q_v3⟩ := h_3
  obtain rfl := q_v3.symm
  rw [isB_nI (by omega) (by decide)] at p_v3
  refine b_if_eq (tgt := 18) C dX8_guardFor_6 (by decide) (fun c_6 => ?_) (fun c_6 => ?_)
  · skip
    exact absurd hj (of_decide_eq_false (p_v3.symm.trans c_6))
  · skip
    refine v_aload_n C dX8_guardFor_9 rfl ?_
    refine r8_24 (b := bo) C i_h o_bo dX8_guardFor_10 ?_
    refine v_iload_n C dX8_guardFor_13 rfl ?_
    refine v_aald (t0 := 5) C i_bo (by decide) rfl (vp_in_nI (by omega) (by omega)) dX8_guardFor_14 ?_
    rw [nI_clamp (by omega)]
    obtain ⟨q14, e_q14⟩ : ∃ z, z = mP S bo j := ⟨_, rfl⟩
    rw [← e_q14]
    refine v_goto (tgt := 19) C dX8_guardFor_15 (by decide) ?_
    refine v_aret C hr (Nat.le_of_ble_eq_true rfl) (Nat.le_of_ble_eq_true rfl) dX8_guardFor_19 ?_
    exact ⟨_, rfl, (e_q14), rfl⟩
set_option maxRecDepth 100000 in
set_option maxHeartbeats 4000000 in
theorem ft_X2_ownBody (l : Launch) (h : Nat) (j : Nat) (bo : Nat) : Ct l yX2_ownBody cX2_ownBody 2 (some (.object "PuppetCast$Part")) 1 0 0 21 (fun S av => av = [.ref h, .int (nI j)] ∧ is S h 2 ∧ (j < 12) ∧ (mO S 133 h = some bo ∧ isA S bo 16 12)) (fun S _ r S' => ∃ v : Option Nat, r = some (va_rf v) ∧ v = mP S bo j ∧ S' = S) := by
  refine ct_of (by decide) (fun S av h => by obtain ⟨rfl, i_h, hj, hb⟩ := h; exact Nat.le_of_ble_eq_true rfl) ?_
  intro p e s m args below meth c D G bs S av C hr hin hpre
  obtain ⟨rfl, i_h, hj, hb⟩ := hpre
  obtain ⟨o_bo, i_bo⟩ := hb
  refine v_iload_n C dX2_ownBody_0 rfl ?_
  refine v_bipush (v := nI 12) C dX2_ownBody_1 (by decide) ?_
  refine v_callSN (As := [_, _]) (n := 2) C (sb_isBelow l _ _) rfl ⟨(by decide +kernel), wd141, wd2, wd142⟩ hy_X9_isBelow rfl ⟨Nat.le_of_ble_eq_true rfl, Nat.le_of_ble_eq_true rfl⟩ (Nat.le_of_ble_eq_true rfl) ⟨Nat.le_of_ble_eq_true rfl, Nat.le_of_ble_eq_true rfl⟩ dX2_ownBody_3 rfl (fun r_3 S2_3 h_3 => ?_)
  obtain ⟨v3, rfl, p_v3, q_v3⟩ := h_3
  obtain rfl := q_v3.symm
  rw [isB_nI (by omega) (by decide)] at p_v3
  refine b_if_eq (tgt := 18) C dX2_ownBody_6 (by decide) (fun c_6 => ?_) (fun c_6 => ?_)
  · skip
    exact absurd hj (of_decide_eq_false (p_v3.symm.trans c_6))
  · skip
    refine v_aload_n C dX2_ownBody_9 rfl ?_
    refine r2_24 (b := bo) C i_h o_bo dX2_ownBody_10 ?_
    refine v_iload_n C dX2_ownBody_13 rfl ?_
    refine v_aald (t0 := 5) C i_bo (by decide) rfl (vp_in_nI (by omega) (by omega)) dX2_ownBody_14 ?_
    rw [nI_clamp (by omega)]
    obtain ⟨q14, e_q14⟩ : ∃ z, z = mP S bo j := ⟨_, rfl⟩
    rw [← e_q14]
    refine v_goto (tgt := 19) C dX2_ownBody_15 (by decide) ?_
    refine v_aret C hr (Nat.le_of_ble_eq_true rfl) (Nat.le_of_ble_eq_true rfl) dX2_ownBody_19 ?_
    exact ⟨_, rfl, (e_q14), rfl⟩
set_option maxRecDepth 100000 in
set_option maxHeartbeats 4000000 in
theorem ft_X0_empty (l : Launch) (M : Nat → Prop) (h : Nat) : Ct l yX0_empty cX0_empty 1 none 0 0 0 0 (fun S av => av = [.ref h] ∧ INV M [] S ∧ is S h 0) (fun S _ r S' => r = none ∧ INV M [] S' ∧ chg S S' [] [] [(7, h), (8, h), (9, h)] [(4, h), (5, h), (6, h)] ∧ (chS S' h none none none false false 0)) := by
  refine ct_of (by decide) (fun S av h => by obtain ⟨rfl, iv, i_h⟩ := h; exact Nat.le_of_ble_eq_true rfl) ?_
  intro p e s m args below meth c D G bs S av C hr hin hpre
  obtain ⟨rfl, iv, i_h⟩ := hpre
  have ch : chg S S [] [] [(7, h), (8, h), (9, h)] [(4, h), (5, h), (6, h)] := ch_rfl
  refine v_aload_n C dX0_empty_0 rfl ?_
  refine v_null C dX0_empty_1 ?_
  refine p0_9 C i_h dX0_empty_2 ?_
  refine V.gen (fun S2_2 e_2 => ?_)
  have x_2 := x_sO e_2
  have iv := inv_sO e_2 iv (Or.inr (F4 nOK_none))
  have ch := ch_sO e_2 ch (by simp)
  have i_h := is_ext x_2 i_h
  refine v_aload_n C dX0_empty_5 rfl ?_
  refine v_null C dX0_empty_6 ?_
  refine p0_15 C i_h dX0_empty_7 ?_
  refine V.gen (fun S2_7 e_7 => ?_)
  have x_7 := x_sO e_7
  have iv := inv_sO e_7 iv (Or.inr (F5 nOK_none))
  have ch := ch_sO e_7 ch (by simp)
  have i_h := is_ext x_7 i_h
  refine v_aload_n C dX0_empty_10 rfl ?_
  refine v_null C dX0_empty_11 ?_
  refine p0_18 C i_h dX0_empty_12 ?_
  refine V.gen (fun S2_12 e_12 => ?_)
  have x_12 := x_sO e_12
  have iv := inv_sO e_12 iv (Or.inr (F6 nOK_none))
  have ch := ch_sO e_12 ch (by simp)
  have i_h := is_ext x_12 i_h
  refine v_aload_n C dX0_empty_15 rfl ?_
  refine v_iconst (v := nI 0) C dX0_empty_16 (by decide) ?_
  refine p0_22 C i_h (by decide) dX0_empty_17 ?_
  refine V.gen (fun S2_17 e_17 => ?_)
  have x_17 := x_sI e_17
  have iv := inv_sI e_17 iv (by decide) (by decide)
  have ch := ch_sI e_17 ch (by simp)
  have i_h := is_ext x_17 i_h
  refine v_aload_n C dX0_empty_20 rfl ?_
  refine v_iconst (v := nI 0) C dX0_empty_21 (by decide) ?_
  refine p0_26 C i_h (by decide) dX0_empty_22 ?_
  refine V.gen (fun S2_22 e_22 => ?_)
  have x_22 := x_sI e_22
  have iv := inv_sI e_22 iv (by decide) (by decide)
  have ch := ch_sI e_22 ch (by simp)
  have i_h := is_ext x_22 i_h
  refine v_aload_n C dX0_empty_25 rfl ?_
  refine v_iconst (v := nI 0) C dX0_empty_26 (by decide) ?_
  refine p0_29 C i_h dX0_empty_27 ?_
  refine V.gen (fun S2_27 e_27 => ?_)
  have x_27 := x_sI e_27
  have iv := inv_sI e_27 iv (by decide) (by decide)
  have ch := ch_sI e_27 ch (by simp)
  have i_h := is_ext x_27 i_h
  refine v_vret C hr (Nat.le_of_ble_eq_true rfl) (Nat.le_of_ble_eq_true rfl) dX0_empty_30 ?_
  exact ⟨rfl, iv, ch, (⟨by rw [e_27, mO_sI, e_22, mO_sI, e_17, mO_sI, e_12, mO_sO, if_neg (fun z => by omega), e_7, mO_sO, if_neg (fun z => by omega), e_2, mO_sO, if_pos ⟨rfl, rfl⟩], by rw [e_27, mO_sI, e_22, mO_sI, e_17, mO_sI, e_12, mO_sO, if_neg (fun z => by omega), e_7, mO_sO, if_pos ⟨rfl, rfl⟩], by rw [e_27, mO_sI, e_22, mO_sI, e_17, mO_sI, e_12, mO_sO, if_pos ⟨rfl, rfl⟩], by rw [e_27, mI_sI, if_neg (fun z => by omega), e_22, mI_sI, if_neg (fun z => by omega), e_17, mI_sI, if_pos ⟨rfl, rfl⟩]; rfl, by rw [e_27, mI_sI, if_neg (fun z => by omega), e_22, mI_sI, if_pos ⟨rfl, rfl⟩]; rfl, by rw [e_27, mI_sI, if_pos ⟨rfl, rfl⟩]⟩)⟩
set_option maxRecDepth 100000 in
set_option maxHeartbeats 4000000 in
theorem ft_X0_hear (l : Launch) (M : Nat → Prop) (h : Nat) (ln : Nat) (pa : Nat) (ip : Bool) (pf fs lf : Option Nat) (rv nd need : Bool) (nv : Int32) (ms rs gv rw0 pl0 : Nat) (L0 : List Nat) : Ct l yX0_hear cX0_hear 4 none 2 0 0 42 (fun S av => av = [.ref h, .ref ln, .ref pa, .int (bI ip)] ∧ INV M [] S ∧ is S h 0 ∧ is S ln 3 ∧ is S pa 5 ∧ (chS S h pf fs lf rv nd ms) ∧ (ms < 16) ∧ (mI S 323 pa = nI rs ∧ rs < 4 ∧ (mI S 324 pa = nv ∧ need = !decide (nv = 0)) ∧ mI S 320 pa = nI gv ∧ gv < 20) ∧ (∀ l0, lf = some l0 → lnV S l0 rw0 pl0 L0)) (fun S _ r S' => r = none ∧ INV M [] S' ∧ chg S S' [] [] [(7, h), (8, h), (9, h)] [(4, h), (5, h), (6, h)] ∧ ((need = true ∧ chS S' h pf fs lf rv true (ms ||| (1 <<< rs))) ∨ (need = false ∧ lf = none ∧ chS S' h (bif ip then some pa else pf) (some pa) (some ln) rv nd (ms ||| (1 <<< rs))) ∨ (need = false ∧ lf.isSome = true ∧ chS S' h (bif ip then some pa else pf) fs lf (rv || !decide (gv ∈ L0)) nd (ms ||| (1 <<< rs))))) := by
  refine ct_of (by decide) (fun S av h => by obtain ⟨rfl, iv, i_h, i_ln, i_pa, hS, hms, hp, hlf⟩ := h; exact Nat.le_of_ble_eq_true rfl) ?_
  intro p e s m args below meth c D G bs S av C hr hin hpre
  obtain ⟨rfl, iv, i_h, i_ln, i_pa, hS, hms, hp, hlf⟩ := hpre
  have ch : chg S S [] [] [(7, h), (8, h), (9, h)] [(4, h), (5, h), (6, h)] := ch_rfl
  obtain ⟨p1, p2, p3, p4, p5⟩ := hp
  have i_pa0 := i_pa
  obtain ⟨or1, or2⟩ := or_ok ms (List.mem_range.mpr hms) rs (List.mem_range.mpr p2)
  refine v_aload_n C dX0_hear_0 rfl ?_
  refine v_dup C dX0_hear_1 rfl ?_
  refine g0_29 C i_h dX0_hear_2 ?_
  refine v_val hS.2.2.2.2.2 ?_
  refine v_iconst (v := nI 1) C dX0_hear_5 (by decide) ?_
  refine v_aload_n C dX0_hear_6 rfl ?_
  refine g0_33 C i_pa dX0_hear_7 ?_
  refine v_val p1 ?_
  refine v_ishl C dX0_hear_10 ?_
  refine v_ior C dX0_hear_11 ?_
  refine v_val (y := nI (ms ||| (1 <<< rs))) or1 ?_
  refine p0_29 C i_h dX0_hear_12 ?_
  refine V.gen (fun S2_12 e_12 => ?_)
  have x_12 := x_sI e_12
  have iv := inv_sI e_12 iv (by decide) (by decide)
  have ch := ch_sI e_12 ch (by simp)
  have i_h := is_ext x_12 i_h
  have i_ln := is_ext x_12 i_ln
  have i_pa := is_ext x_12 i_pa
  have hS := chS_9 e_12 rfl hS
  refine v_aload_n C dX0_hear_15 rfl ?_
  refine g0_38 C i_pa dX0_hear_16 ?_
  refine v_val (y := nv) (mi_ch ch i_pa0 (by simp) p3.1) ?_
  refine v_if_eq (tgt := 28) C dX0_hear_19 (by decide) (fun c_19 => ?_) (fun c_19 => ?_)
  · skip
    have hne : need = false := by rw [p3.2, decide_eq_true c_19]; rfl
    refine v_iload_n C dX0_hear_28 rfl ?_
    refine b_if_eq (tgt := 37) C dX0_hear_29 (by decide) (fun c_29 => ?_) (fun c_29 => ?_)
    · skip
      have hip : ip = false := c_29
      have hS : chS S2_12 h (bif ip then some pa else pf) fs lf rv nd (ms ||| (1 <<< rs)) := by rw [hip]; exact hS
      refine v_aload_n C dX0_hear_37 rfl ?_
      refine g0_18 C i_h dX0_hear_38 ?_
      rw [hS.2.2.1]
      refine v_ifnonnull (tgt := 57) C dX0_hear_41 (by decide) (fun b41 c_41 => ?_) (fun c_41 => ?_)
      · skip
        subst c_41
        have hl0 := lnV_ch ch (hlf b41 rfl) (by simp) (by simp) (by simp) (by simp) (by simp)
        have i_l0 := hl0.1
        refine v_aload_n C dX0_hear_57 rfl ?_
        refine g0_18 C i_h dX0_hear_58 ?_
        rw [hS.2.2.1]
        refine v_aload_n C dX0_hear_61 rfl ?_
        refine g0_41 C i_pa dX0_hear_62 ?_
        refine v_val (mi_ch ch i_pa0 (by simp) p4) ?_
        refine v_callV (As := [_]) (n := 1) C (ft_X3_has l _ _ rw0 pl0 L0) rfl i_l0 (by decide) rfl ⟨wd558, wd559, wd560, wd45, wd561⟩ ⟨rfl, hy_X3_has⟩ rfl ⟨Nat.le_of_ble_eq_true rfl, Nat.le_of_ble_eq_true rfl⟩ (Nat.le_of_ble_eq_true rfl) ⟨Nat.le_of_ble_eq_true rfl, Nat.le_of_ble_eq_true rfl⟩ dX0_hear_65 ⟨rfl, i_l0, hl0, p5⟩ (fun r_65 S8_65 h_65 => ?_)
        obtain ⟨v65, rfl, p_v65, q_v65⟩ := h_65
        obtain rfl := q_v65.symm
        refine b_if_ne (tgt := 76) C dX0_hear_68 (by decide) (fun c_68 => ?_) (fun c_68 => ?_)
        · skip
          have hin_ : decide (gv ∈ L0) = true := p_v65.symm.trans c_68
          refine v_vret C hr (Nat.le_of_ble_eq_true rfl) (Nat.le_of_ble_eq_true rfl) dX0_hear_76 ?_
          exact ⟨rfl, iv, ch, (Or.inr (Or.inr ⟨hne, rfl, by rw [hin_]; simpa using hS⟩))⟩
        · skip
          have hin_ : decide (gv ∈ L0) = false := p_v65.symm.trans c_68
          refine v_aload_n C dX0_hear_71 rfl ?_
          refine v_iconst (v := nI 1) C dX0_hear_72 (by decide) ?_
          refine p0_22 C i_h (by decide) dX0_hear_73 ?_
          refine V.gen (fun S10_73 e_73 => ?_)
          have x_73 := x_sI e_73
          have iv := inv_sI e_73 iv (by decide) (by decide)
          have ch := ch_sI e_73 ch (by simp)
          have i_h := is_ext x_73 i_h
          have i_ln := is_ext x_73 i_ln
          have i_pa := is_ext x_73 i_pa
          have hS := chS_7 (b := true) e_73 rfl hS
          refine v_vret C hr (Nat.le_of_ble_eq_true rfl) (Nat.le_of_ble_eq_true rfl) dX0_hear_76 ?_
          exact ⟨rfl, iv, ch, (Or.inr (Or.inr ⟨hne, rfl, by rw [hin_]; simpa using hS⟩))⟩
      · skip
        subst c_41
        refine v_aload_n C dX0_hear_44 rfl ?_
        refine v_aload_n C dX0_hear_45 rfl ?_
        refine p0_15 (v := some _) C i_h dX0_hear_46 ?_
        refine V.gen (fun S8_46 e_46 => ?_)
        have x_46 := x_sO e_46
        have iv := inv_sO e_46 iv (Or.inr (F5 (nOK_is i_pa)))
        have ch := ch_sO e_46 ch (by simp)
        have i_h := is_ext x_46 i_h
        have i_ln := is_ext x_46 i_ln
        have i_pa := is_ext x_46 i_pa
        have hS := chS_5 e_46 hS
        refine v_aload_n C dX0_hear_49 rfl ?_
        refine v_aload_n C dX0_hear_50 rfl ?_
        refine p0_18 (v := some _) C i_h dX0_hear_51 ?_
        refine V.gen (fun S8_51 e_51 => ?_)
        have x_51 := x_sO e_51
        have iv := inv_sO e_51 iv (Or.inr (F6 (nOK_is i_ln)))
        have ch := ch_sO e_51 ch (by simp)
        have i_h := is_ext x_51 i_h
        have i_ln := is_ext x_51 i_ln
        have i_pa := is_ext x_51 i_pa
        have hS := chS_6 e_51 hS
        refine v_goto (tgt := 76) C dX0_hear_54 (by decide) ?_
        refine v_vret C hr (Nat.le_of_ble_eq_true rfl) (Nat.le_of_ble_eq_true rfl) dX0_hear_76 ?_
        exact ⟨rfl, iv, ch, (Or.inr (Or.inl ⟨hne, rfl, hS⟩))⟩
    · skip
      have hip : ip = true := c_29
      refine v_aload_n C dX0_hear_32 rfl ?_
      refine v_aload_n C dX0_hear_33 rfl ?_
      refine p0_9 (v := some _) C i_h dX0_hear_34 ?_
      refine V.gen (fun S6_34 e_34 => ?_)
      have x_34 := x_sO e_34
      have iv := inv_sO e_34 iv (Or.inr (F4 (nOK_is i_pa)))
      have ch := ch_sO e_34 ch (by simp)
      have i_h := is_ext x_34 i_h
      have i_ln := is_ext x_34 i_ln
      have i_pa := is_ext x_34 i_pa
      have hS := chS_4 e_34 hS
      have hS : chS S6_34 h (bif ip then some pa else pf) fs lf rv nd (ms ||| (1 <<< rs)) := by rw [hip]; exact hS
      refine v_aload_n C dX0_hear_37 rfl ?_
      refine g0_18 C i_h dX0_hear_38 ?_
      rw [hS.2.2.1]
      refine v_ifnonnull (tgt := 57) C dX0_hear_41 (by decide) (fun b41 c_41 => ?_) (fun c_41 => ?_)
      · skip
        subst c_41
        have hl0 := lnV_ch ch (hlf b41 rfl) (by simp) (by simp) (by simp) (by simp) (by simp)
        have i_l0 := hl0.1
        refine v_aload_n C dX0_hear_57 rfl ?_
        refine g0_18 C i_h dX0_hear_58 ?_
        rw [hS.2.2.1]
        refine v_aload_n C dX0_hear_61 rfl ?_
        refine g0_41 C i_pa dX0_hear_62 ?_
        refine v_val (mi_ch ch i_pa0 (by simp) p4) ?_
        refine v_callV (As := [_]) (n := 1) C (ft_X3_has l _ _ rw0 pl0 L0) rfl i_l0 (by decide) rfl ⟨wd558, wd559, wd560, wd45, wd561⟩ ⟨rfl, hy_X3_has⟩ rfl ⟨Nat.le_of_ble_eq_true rfl, Nat.le_of_ble_eq_true rfl⟩ (Nat.le_of_ble_eq_true rfl) ⟨Nat.le_of_ble_eq_true rfl, Nat.le_of_ble_eq_true rfl⟩ dX0_hear_65 ⟨rfl, i_l0, hl0, p5⟩ (fun r_65 S8_65 h_65 => ?_)
        obtain ⟨v65, rfl, p_v65, q_v65⟩ := h_65
        obtain rfl := q_v65.symm
        refine b_if_ne (tgt := 76) C dX0_hear_68 (by decide) (fun c_68 => ?_) (fun c_68 => ?_)
        · skip
          have hin_ : decide (gv ∈ L0) = true := p_v65.symm.trans c_68
          refine v_vret C hr (Nat.le_of_ble_eq_true rfl) (Nat.le_of_ble_eq_true rfl) dX0_hear_76 ?_
          exact ⟨rfl, iv, ch, (Or.inr (Or.inr ⟨hne, rfl, by rw [hin_]; simpa using hS⟩))⟩
        · skip
          have hin_ : decide (gv ∈ L0) = false := p_v65.symm.trans c_68
          refine v_aload_n C dX0_hear_71 rfl ?_
          refine v_iconst (v := nI 1) C dX0_hear_72 (by decide) ?_
          refine p0_22 C i_h (by decide) dX0_hear_73 ?_
          refine V.gen (fun S10_73 e_73 => ?_)
          have x_73 := x_sI e_73
          have iv := inv_sI e_73 iv (by decide) (by decide)
          have ch := ch_sI e_73 ch (by simp)
          have i_h := is_ext x_73 i_h
          have i_ln := is_ext x_73 i_ln
          have i_pa := is_ext x_73 i_pa
          have hS := chS_7 (b := true) e_73 rfl hS
          refine v_vret C hr (Nat.le_of_ble_eq_true rfl) (Nat.le_of_ble_eq_true rfl) dX0_hear_76 ?_
          exact ⟨rfl, iv, ch, (Or.inr (Or.inr ⟨hne, rfl, by rw [hin_]; simpa using hS⟩))⟩
      · skip
        subst c_41
        refine v_aload_n C dX0_hear_44 rfl ?_
        refine v_aload_n C dX0_hear_45 rfl ?_
        refine p0_15 (v := some _) C i_h dX0_hear_46 ?_
        refine V.gen (fun S8_46 e_46 => ?_)
        have x_46 := x_sO e_46
        have iv := inv_sO e_46 iv (Or.inr (F5 (nOK_is i_pa)))
        have ch := ch_sO e_46 ch (by simp)
        have i_h := is_ext x_46 i_h
        have i_ln := is_ext x_46 i_ln
        have i_pa := is_ext x_46 i_pa
        have hS := chS_5 e_46 hS
        refine v_aload_n C dX0_hear_49 rfl ?_
        refine v_aload_n C dX0_hear_50 rfl ?_
        refine p0_18 (v := some _) C i_h dX0_hear_51 ?_
        refine V.gen (fun S8_51 e_51 => ?_)
        have x_51 := x_sO e_51
        have iv := inv_sO e_51 iv (Or.inr (F6 (nOK_is i_ln)))
        have ch := ch_sO e_51 ch (by simp)
        have i_h := is_ext x_51 i_h
        have i_ln := is_ext x_51 i_ln
        have i_pa := is_ext x_51 i_pa
        have hS := chS_6 e_51 hS
        refine v_goto (tgt := 76) C dX0_hear_54 (by decide) ?_
        refine v_vret C hr (Nat.le_of_ble_eq_true rfl) (Nat.le_of_ble_eq_true rfl) dX0_hear_76 ?_
        exact ⟨rfl, iv, ch, (Or.inr (Or.inl ⟨hne, rfl, hS⟩))⟩
  · skip
    have hne : need = true := by rw [p3.2, decide_eq_false c_19]; rfl
    refine v_aload_n C dX0_hear_22 rfl ?_
    refine v_iconst (v := nI 1) C dX0_hear_23 (by decide) ?_
    refine p0_26 C i_h (by decide) dX0_hear_24 ?_
    refine V.gen (fun S4_24 e_24 => ?_)
    have x_24 := x_sI e_24
    have iv := inv_sI e_24 iv (by decide) (by decide)
    have ch := ch_sI e_24 ch (by simp)
    have i_h := is_ext x_24 i_h
    have i_ln := is_ext x_24 i_ln
    have i_pa := is_ext x_24 i_pa
    have hS := chS_8 (b := true) e_24 rfl hS
    refine v_vret C hr (Nat.le_of_ble_eq_true rfl) (Nat.le_of_ble_eq_true rfl) dX0_hear_27 ?_
    exact ⟨rfl, iv, ch, (Or.inl ⟨hne, hS⟩)⟩
/-- the first that is there -/
def orO : Option Nat → Option Nat → Option Nat
  | some x, _ => some x
  | none, b => b
def stC (ow pf : Option Nat) (rv : Bool) (ms r : Nat) : Nat := if ow = none ∧ pf = none ∧ rv = true then 1 else if 1 < ms >>> r then 2 else 0
def stR (S' : Mem) (h : Nat) (ow pf fs : Option Nat) (rv nd : Bool) (ms : Nat) (gvf : Nat → Int32) (rsf : Nat → Nat) : Prop := mO S' 1 h = orO ow (orO pf fs) ∧ (orO ow (orO pf fs) = none → mI S' 0 h = (bif nd then -5 else -6) ∧ mI S' 2 h = nI 0 ∧ mI S' 3 h = -1) ∧ ∀ a, orO ow (orO pf fs) = some a → mI S' 0 h = (if ow.isSome then nI 100 else gvf a) ∧ mI S' 2 h = nI (stC ow pf rv ms (rsf a)) ∧ mI S' 3 h = nI (pc4 (ms &&& ((1 <<< rsf a) - 1)))
theorem put_i {S S' : Mem} {g a : Nat} {v : Int32} (e : S' = sI S g a v) : mI S' g a = v := by rw [e, mI_sI, if_pos ⟨rfl, rfl⟩]
set_option maxRecDepth 100000 in
set_option maxHeartbeats 4000000 in
theorem ft_X0_settle (l : Launch) (M : Nat → Prop) (h : Nat) (ow : Option Nat) (pf fs lf : Option Nat) (rv nd : Bool) (ms : Nat) (gvf : Nat → Int32) (rsf : Nat → Nat) : Ct l yX0_settle cX0_settle 3 none 1 0 0 20 (fun S av => av = [.ref h, va_rf ow] ∧ INV M [] S ∧ is S h 0 ∧ (chS S h pf fs lf rv nd ms) ∧ (ms < 16) ∧ (nOK S 5 ow ∧ nOK S 5 pf ∧ nOK S 5 fs) ∧ (∀ a, (ow = some a ∨ pf = some a ∨ fs = some a) → mI S 320 a = gvf a ∧ mI S 323 a = nI (rsf a) ∧ rsf a < 4)) (fun S _ r S' => r = none ∧ INV M [] S' ∧ chg S S' [] [] [(0, h), (2, h), (3, h)] [(1, h)] ∧ (stR S' h ow pf fs rv nd ms gvf rsf)) := by
  refine ct_of (by decide) (fun S av h => by obtain ⟨rfl, iv, i_h, hS, hms, hno, hp⟩ := h; exact by simp only [lg_sl, List.flatMap_cons, List.flatMap_nil, cat_rf]; exact Nat.le_of_ble_eq_true rfl) ?_
  intro p e s m args below meth c D G bs S av C hr hin hpre
  obtain ⟨rfl, iv, i_h, hS, hms, hno, hp⟩ := hpre
  have ch : chg S S [] [] [(0, h), (2, h), (3, h)] [(1, h)] := ch_rfl
  obtain ⟨no1, no2, no3⟩ := hno
  refine v_aload_n C dX0_settle_0 rfl ?_
  refine v_qload_n C dX0_settle_1 rfl ?_
  refine v_ifnull (tgt := 9) C dX0_settle_2 (by decide) (fun c_2 => ?_) (fun b2 c_2 => ?_)
  · skip
    subst c_2
    refine v_aload_n C dX0_settle_9 rfl ?_
    refine g0_9 C i_h dX0_settle_10 ?_
    rw [hS.1]
    refine v_ifnull (tgt := 23) C dX0_settle_13 (by decide) (fun c_13 => ?_) (fun b13 c_13 => ?_)
    · skip
      subst c_13
      refine v_aload_n C dX0_settle_23 rfl ?_
      obtain sp24 | ⟨b24, sp24⟩ : fs = none ∨ ∃ z, fs = some z := (by cases fs; exact Or.inl rfl; exact Or.inr ⟨_, rfl⟩)
      · skip
        subst sp24
        refine g0_15 C i_h dX0_settle_24 ?_
        rw [hS.2.1]
        refine p0_50 C i_h dX0_settle_27 ?_
        refine V.gen (fun S8_27 e_27 => ?_)
        have x_27 := x_sO e_27
        have iv := inv_sO e_27 iv (Or.inr (F1 nOK_none))
        have ch := ch_sO e_27 ch (by simp)
        have i_h := is_ext x_27 i_h
        have hS := chS_o e_27 (by decide) hS
        have o_1 := mo_put e_27
        refine v_aload_n C dX0_settle_30 rfl ?_
        refine g0_50 C i_h dX0_settle_31 ?_
        rw [o_1]
        refine v_ifnonnull (tgt := 66) C dX0_settle_34 (by decide) (fun b34 c_34 => ?_) (fun c_34 => ?_)
        · skip
          cases c_34
        · skip
          refine v_aload_n C dX0_settle_37 rfl ?_
          refine v_aload_n C dX0_settle_38 rfl ?_
          refine g0_26 C i_h dX0_settle_39 ?_
          refine v_val hS.2.2.2.2.1 ?_
          refine b_if_eq (tgt := 50) C dX0_settle_42 (by decide) (fun c_42 => ?_) (fun c_42 => ?_)
          · skip
            refine v_bipush (v := -6) C dX0_settle_50 (by decide) ?_
            refine p0_53 C i_h dX0_settle_52 ?_
            refine V.gen (fun S12_52 e_52 => ?_)
            have x_52 := x_sI e_52
            have iv := inv_sI e_52 iv (by decide) (by decide)
            have ch := ch_sI e_52 ch (by simp)
            have i_h := is_ext x_52 i_h
            have k_0 := put_i e_52
            have o_1 := mo_sIy e_52 o_1
            refine v_aload_n C dX0_settle_55 rfl ?_
            refine v_iconst (v := nI 0) C dX0_settle_56 (by decide) ?_
            refine p0_54 C i_h dX0_settle_57 ?_
            refine V.gen (fun S12_57 e_57 => ?_)
            have x_57 := x_sI e_57
            have iv := inv_sI e_57 iv (by decide) (by decide)
            have ch := ch_sI e_57 ch (by simp)
            have i_h := is_ext x_57 i_h
            have k_0 := mi_sIx e_57 (Or.inl (by decide)) k_0
            have k_2 := put_i e_57
            have o_1 := mo_sIy e_57 o_1
            refine v_aload_n C dX0_settle_60 rfl ?_
            refine v_iconst (v := -1) C dX0_settle_61 (by decide) ?_
            refine p0_57 C i_h dX0_settle_62 ?_
            refine V.gen (fun S12_62 e_62 => ?_)
            have x_62 := x_sI e_62
            have iv := inv_sI e_62 iv (by decide) (by decide)
            have ch := ch_sI e_62 ch (by simp)
            have i_h := is_ext x_62 i_h
            have k_0 := mi_sIx e_62 (Or.inl (by decide)) k_0
            have k_2 := mi_sIx e_62 (Or.inl (by decide)) k_2
            have k_3 := put_i e_62
            have o_1 := mo_sIy e_62 o_1
            refine v_vret C hr (Nat.le_of_ble_eq_true rfl) (Nat.le_of_ble_eq_true rfl) dX0_settle_65 ?_
            exact ⟨rfl, iv, ch, (⟨o_1, fun _ => ⟨by rw [k_0, c_42]; rfl, k_2, k_3⟩, fun a z => by cases z⟩)⟩
          · skip
            refine v_bipush (v := -5) C dX0_settle_45 (by decide) ?_
            refine v_goto (tgt := 52) C dX0_settle_47 (by decide) ?_
            refine p0_53 C i_h dX0_settle_52 ?_
            refine V.gen (fun S12_52 e_52 => ?_)
            have x_52 := x_sI e_52
            have iv := inv_sI e_52 iv (by decide) (by decide)
            have ch := ch_sI e_52 ch (by simp)
            have i_h := is_ext x_52 i_h
            have k_0 := put_i e_52
            have o_1 := mo_sIy e_52 o_1
            refine v_aload_n C dX0_settle_55 rfl ?_
            refine v_iconst (v := nI 0) C dX0_settle_56 (by decide) ?_
            refine p0_54 C i_h dX0_settle_57 ?_
            refine V.gen (fun S12_57 e_57 => ?_)
            have x_57 := x_sI e_57
            have iv := inv_sI e_57 iv (by decide) (by decide)
            have ch := ch_sI e_57 ch (by simp)
            have i_h := is_ext x_57 i_h
            have k_0 := mi_sIx e_57 (Or.inl (by decide)) k_0
            have k_2 := put_i e_57
            have o_1 := mo_sIy e_57 o_1
            refine v_aload_n C dX0_settle_60 rfl ?_
            refine v_iconst (v := -1) C dX0_settle_61 (by decide) ?_
            refine p0_57 C i_h dX0_settle_62 ?_
            refine V.gen (fun S12_62 e_62 => ?_)
            have x_62 := x_sI e_62
            have iv := inv_sI e_62 iv (by decide) (by decide)
            have ch := ch_sI e_62 ch (by simp)
            have i_h := is_ext x_62 i_h
            have k_0 := mi_sIx e_62 (Or.inl (by decide)) k_0
            have k_2 := mi_sIx e_62 (Or.inl (by decide)) k_2
            have k_3 := put_i e_62
            have o_1 := mo_sIy e_62 o_1
            refine v_vret C hr (Nat.le_of_ble_eq_true rfl) (Nat.le_of_ble_eq_true rfl) dX0_settle_65 ?_
            exact ⟨rfl, iv, ch, (⟨o_1, fun _ => ⟨by rw [k_0, c_42]; rfl, k_2, k_3⟩, fun a z => by cases z⟩)⟩
      · skip
        subst sp24
        obtain ⟨g1, g2, g3⟩ := hp b24 (Or.inr (Or.inr rfl))
        have i_b24 : is S b24 5 := nOK_some no3 rfl
        have i_b240 := i_b24
        obtain ⟨sr1, sr2⟩ := sr_ok ms (List.mem_range.mpr hms) (rsf b24) (List.mem_range.mpr g3)
        obtain ⟨sl1, sl2, sl3⟩ := sl_ok (rsf b24) (List.mem_range.mpr g3)
        obtain ⟨an1, an2⟩ := an_ok ms (List.mem_range.mpr hms) (rsf b24) (List.mem_range.mpr g3)
        refine g0_15 C i_h dX0_settle_24 ?_
        rw [hS.2.1]
        refine p0_50 (v := some _) C i_h dX0_settle_27 ?_
        refine V.gen (fun S8_27 e_27 => ?_)
        have x_27 := x_sO e_27
        have iv := inv_sO e_27 iv (Or.inr (F1 (nOK_is i_b24)))
        have ch := ch_sO e_27 ch (by simp)
        have i_h := is_ext x_27 i_h
        have i_b24 := is_ext x_27 i_b24
        have hS := chS_o e_27 (by decide) hS
        have o_1 := mo_put e_27
        refine v_aload_n C dX0_settle_30 rfl ?_
        refine r0_50 (b := b24) C i_h o_1 dX0_settle_31 ?_
        refine v_ifnonnull (o := some _) (tgt := 66) C dX0_settle_34 (by decide) (fun _ _ => ?_) (fun c => by cases c)
        refine v_aload_n C dX0_settle_66 rfl ?_
        refine v_qload_n C dX0_settle_67 rfl ?_
        refine v_ifnull (tgt := 76) C dX0_settle_68 (by decide) (fun c_68 => ?_) (fun b68 c_68 => ?_)
        · skip
          refine v_aload_n C dX0_settle_76 rfl ?_
          refine r0_50 (b := b24) C i_h o_1 dX0_settle_77 ?_
          refine g0_41 C i_b24 dX0_settle_80 ?_
          refine v_val (y := gvf b24) (mi_ch ch i_b240 (by simp) g1) ?_
          refine p0_53 C i_h dX0_settle_83 ?_
          refine V.gen (fun S10_83 e_83 => ?_)
          have x_83 := x_sI e_83
          have iv := inv_sI e_83 iv (by decide) (by decide)
          have ch := ch_sI e_83 ch (by simp)
          have o_1 := mo_sIy e_83 o_1
          have i_h := is_ext x_83 i_h
          have i_b24 := is_ext x_83 i_b24
          have k_0 := put_i e_83
          have hS := chS_i e_83 (by decide) hS
          refine v_aload_n C dX0_settle_86 rfl ?_
          refine v_aload_n C dX0_settle_87 rfl ?_
          refine g0_29 C i_h dX0_settle_88 ?_
          refine v_val hS.2.2.2.2.2 ?_
          refine v_aload_n C dX0_settle_91 rfl ?_
          refine r0_50 (b := b24) C i_h o_1 dX0_settle_92 ?_
          refine g0_33 C i_b24 dX0_settle_95 ?_
          refine v_val (mi_ch ch i_b240 (by simp) g2) ?_
          refine v_ishr C dX0_settle_98 ?_
          refine v_val (y := nI (ms >>> rsf b24)) sr1 ?_
          refine v_iconst (v := nI 1) C dX0_settle_99 (by decide) ?_
          refine n_icmp_le (tgt := 107) C (by omega) (by omega) dX0_settle_100 (by decide) (fun c_100 => ?_) (fun c_100 => ?_)
          · skip
            refine v_iconst (v := nI 0) C dX0_settle_107 (by decide) ?_
            refine p0_54 C i_h dX0_settle_108 ?_
            refine V.gen (fun S12_108 e_108 => ?_)
            have x_108 := x_sI e_108
            have iv := inv_sI e_108 iv (by decide) (by decide)
            have ch := ch_sI e_108 ch (by simp)
            have o_1 := mo_sIy e_108 o_1
            have i_h := is_ext x_108 i_h
            have i_b24 := is_ext x_108 i_b24
            have k_0 := mi_sIx e_108 (Or.inl (by decide)) k_0
            have k_2 := put_i e_108
            have hS := chS_i e_108 (by decide) hS
            refine v_qload_n C dX0_settle_111 rfl ?_
            refine v_ifnonnull (tgt := 134) C dX0_settle_112 (by decide) (fun b112 c_112 => ?_) (fun c_112 => ?_)
            · skip
              cases c_112
            · skip
              refine v_aload_n C dX0_settle_115 rfl ?_
              refine g0_9 C i_h dX0_settle_116 ?_
              rw [hS.1]
              refine v_ifnonnull (tgt := 134) C dX0_settle_119 (by decide) (fun b119 c_119 => ?_) (fun c_119 => ?_)
              · skip
                cases c_119
              · skip
                refine v_aload_n C dX0_settle_122 rfl ?_
                refine g0_22 C i_h dX0_settle_123 ?_
                refine v_val hS.2.2.2.1 ?_
                refine b_if_eq (tgt := 134) C dX0_settle_126 (by decide) (fun c_126 => ?_) (fun c_126 => ?_)
                · skip
                  refine v_iconst (v := nI 1) C dX0_settle_134 (by decide) ?_
                  refine v_aload_n C dX0_settle_135 rfl ?_
                  refine r0_50 (b := b24) C i_h o_1 dX0_settle_136 ?_
                  refine g0_33 C i_b24 dX0_settle_139 ?_
                  refine v_val (mi_ch ch i_b240 (by simp) g2) ?_
                  refine v_ishl C dX0_settle_142 ?_
                  refine v_val (y := nI (1 <<< rsf b24)) sl1 ?_
                  refine v_iconst (v := nI 1) C dX0_settle_143 (by decide) ?_
                  refine n_isub C (by omega) dX0_settle_144 ?_
                  refine v_istore_n C dX0_settle_145 (by decide) (by first | rfl | exact cat_ok _ | simp [okS, cat_rf]) ?_
                  refine v_aload_n C dX0_settle_146 rfl ?_
                  refine v_aload_n C dX0_settle_147 rfl ?_
                  refine g0_29 C i_h dX0_settle_148 ?_
                  refine v_val hS.2.2.2.2.2 ?_
                  refine v_iload_n C dX0_settle_151 rfl ?_
                  refine v_iand C dX0_settle_152 ?_
                  refine v_val (y := nI (ms &&& ((1 <<< rsf b24) - 1))) an1 ?_
                  refine v_callS (As := [_]) (n := 1) C (ft_J6_bitCount_0f7a4 l _) rfl ⟨wd574, wd575, wd576, wd577⟩ hy_J6_bitCount_0f7a4 rfl ⟨Nat.le_of_ble_eq_true rfl, Nat.le_of_ble_eq_true rfl⟩ (Nat.le_of_ble_eq_true rfl) ⟨Nat.le_of_ble_eq_true rfl, Nat.le_of_ble_eq_true rfl⟩ dX0_settle_153 rfl (fun r_153 S18_153 h_153 => ?_)
                  obtain ⟨v153, rfl, p_v153, q_v153⟩ := h_153
                  obtain rfl := q_v153.symm
                  refine p0_57 C i_h dX0_settle_156 ?_
                  refine V.gen (fun S18_156 e_156 => ?_)
                  have x_156 := x_sI e_156
                  have iv := inv_sI e_156 iv (by decide) (by decide)
                  have ch := ch_sI e_156 ch (by simp)
                  have o_1 := mo_sIy e_156 o_1
                  have i_h := is_ext x_156 i_h
                  have i_b24 := is_ext x_156 i_b24
                  have k_0 := mi_sIx e_156 (Or.inl (by decide)) k_0
                  have k_2 := mi_sIx e_156 (Or.inl (by decide)) k_2
                  have k_3 := put_i e_156
                  refine v_vret C hr (Nat.le_of_ble_eq_true rfl) (Nat.le_of_ble_eq_true rfl) dX0_settle_159 ?_
                  exact ⟨rfl, iv, ch, (⟨o_1, fun z => (by cases z), fun a z => (by cases z; exact ⟨k_0, (by rw [k_2]; unfold stC; rw [if_neg (fun z => by rw [c_126] at z; cases z.2.2), if_neg (by omega)]), (by rw [k_3, p_v153]; exact bcx_ok _ (List.mem_range.mpr an2))⟩)⟩)⟩
                · skip
                  refine v_aload_n C dX0_settle_129 rfl ?_
                  refine v_iconst (v := nI 1) C dX0_settle_130 (by decide) ?_
                  refine p0_54 C i_h dX0_settle_131 ?_
                  refine V.gen (fun S18_131 e_131 => ?_)
                  have x_131 := x_sI e_131
                  have iv := inv_sI e_131 iv (by decide) (by decide)
                  have ch := ch_sI e_131 ch (by simp)
                  have o_1 := mo_sIy e_131 o_1
                  have i_h := is_ext x_131 i_h
                  have i_b24 := is_ext x_131 i_b24
                  have k_0 := mi_sIx e_131 (Or.inl (by decide)) k_0
                  have k_2 := put_i e_131
                  have hS := chS_i e_131 (by decide) hS
                  refine v_iconst (v := nI 1) C dX0_settle_134 (by decide) ?_
                  refine v_aload_n C dX0_settle_135 rfl ?_
                  refine r0_50 (b := b24) C i_h o_1 dX0_settle_136 ?_
                  refine g0_33 C i_b24 dX0_settle_139 ?_
                  refine v_val (mi_ch ch i_b240 (by simp) g2) ?_
                  refine v_ishl C dX0_settle_142 ?_
                  refine v_val (y := nI (1 <<< rsf b24)) sl1 ?_
                  refine v_iconst (v := nI 1) C dX0_settle_143 (by decide) ?_
                  refine n_isub C (by omega) dX0_settle_144 ?_
                  refine v_istore_n C dX0_settle_145 (by decide) (by first | rfl | exact cat_ok _ | simp [okS, cat_rf]) ?_
                  refine v_aload_n C dX0_settle_146 rfl ?_
                  refine v_aload_n C dX0_settle_147 rfl ?_
                  refine g0_29 C i_h dX0_settle_148 ?_
                  refine v_val hS.2.2.2.2.2 ?_
                  refine v_iload_n C dX0_settle_151 rfl ?_
                  refine v_iand C dX0_settle_152 ?_
                  refine v_val (y := nI (ms &&& ((1 <<< rsf b24) - 1))) an1 ?_
                  refine v_callS (As := [_]) (n := 1) C (ft_J6_bitCount_0f7a4 l _) rfl ⟨wd574, wd575, wd576, wd577⟩ hy_J6_bitCount_0f7a4 rfl ⟨Nat.le_of_ble_eq_true rfl, Nat.le_of_ble_eq_true rfl⟩ (Nat.le_of_ble_eq_true rfl) ⟨Nat.le_of_ble_eq_true rfl, Nat.le_of_ble_eq_true rfl⟩ dX0_settle_153 rfl (fun r_153 S18_153 h_153 => ?_)
                  obtain ⟨v153, rfl, p_v153, q_v153⟩ := h_153
                  obtain rfl := q_v153.symm
                  refine p0_57 C i_h dX0_settle_156 ?_
                  refine V.gen (fun S18_156 e_156 => ?_)
                  have x_156 := x_sI e_156
                  have iv := inv_sI e_156 iv (by decide) (by decide)
                  have ch := ch_sI e_156 ch (by simp)
                  have o_1 := mo_sIy e_156 o_1
                  have i_h := is_ext x_156 i_h
                  have i_b24 := is_ext x_156 i_b24
                  have k_0 := mi_sIx e_156 (Or.inl (by decide)) k_0
                  have k_2 := mi_sIx e_156 (Or.inl (by decide)) k_2
                  have k_3 := put_i e_156
                  refine v_vret C hr (Nat.le_of_ble_eq_true rfl) (Nat.le_of_ble_eq_true rfl) dX0_settle_159 ?_
                  exact ⟨rfl, iv, ch, (⟨o_1, fun z => (by cases z), fun a z => (by cases z; exact ⟨k_0, (by rw [k_2]; unfold stC; rw [if_pos ⟨rfl, rfl, c_126⟩]), (by rw [k_3, p_v153]; exact bcx_ok _ (List.mem_range.mpr an2))⟩)⟩)⟩
          · skip
            refine v_iconst (v := nI 2) C dX0_settle_103 (by decide) ?_
            refine v_goto (tgt := 108) C dX0_settle_104 (by decide) ?_
            refine p0_54 C i_h dX0_settle_108 ?_
            refine V.gen (fun S12_108 e_108 => ?_)
            have x_108 := x_sI e_108
            have iv := inv_sI e_108 iv (by decide) (by decide)
            have ch := ch_sI e_108 ch (by simp)
            have o_1 := mo_sIy e_108 o_1
            have i_h := is_ext x_108 i_h
            have i_b24 := is_ext x_108 i_b24
            have k_0 := mi_sIx e_108 (Or.inl (by decide)) k_0
            have k_2 := put_i e_108
            have hS := chS_i e_108 (by decide) hS
            refine v_qload_n C dX0_settle_111 rfl ?_
            refine v_ifnonnull (tgt := 134) C dX0_settle_112 (by decide) (fun b112 c_112 => ?_) (fun c_112 => ?_)
            · skip
              cases c_112
            · skip
              refine v_aload_n C dX0_settle_115 rfl ?_
              refine g0_9 C i_h dX0_settle_116 ?_
              rw [hS.1]
              refine v_ifnonnull (tgt := 134) C dX0_settle_119 (by decide) (fun b119 c_119 => ?_) (fun c_119 => ?_)
              · skip
                cases c_119
              · skip
                refine v_aload_n C dX0_settle_122 rfl ?_
                refine g0_22 C i_h dX0_settle_123 ?_
                refine v_val hS.2.2.2.1 ?_
                refine b_if_eq (tgt := 134) C dX0_settle_126 (by decide) (fun c_126 => ?_) (fun c_126 => ?_)
                · skip
                  refine v_iconst (v := nI 1) C dX0_settle_134 (by decide) ?_
                  refine v_aload_n C dX0_settle_135 rfl ?_
                  refine r0_50 (b := b24) C i_h o_1 dX0_settle_136 ?_
                  refine g0_33 C i_b24 dX0_settle_139 ?_
                  refine v_val (mi_ch ch i_b240 (by simp) g2) ?_
                  refine v_ishl C dX0_settle_142 ?_
                  refine v_val (y := nI (1 <<< rsf b24)) sl1 ?_
                  refine v_iconst (v := nI 1) C dX0_settle_143 (by decide) ?_
                  refine n_isub C (by omega) dX0_settle_144 ?_
                  refine v_istore_n C dX0_settle_145 (by decide) (by first | rfl | exact cat_ok _ | simp [okS, cat_rf]) ?_
                  refine v_aload_n C dX0_settle_146 rfl ?_
                  refine v_aload_n C dX0_settle_147 rfl ?_
                  refine g0_29 C i_h dX0_settle_148 ?_
                  refine v_val hS.2.2.2.2.2 ?_
                  refine v_iload_n C dX0_settle_151 rfl ?_
                  refine v_iand C dX0_settle_152 ?_
                  refine v_val (y := nI (ms &&& ((1 <<< rsf b24) - 1))) an1 ?_
                  refine v_callS (As := [_]) (n := 1) C (ft_J6_bitCount_0f7a4 l _) rfl ⟨wd574, wd575, wd576, wd577⟩ hy_J6_bitCount_0f7a4 rfl ⟨Nat.le_of_ble_eq_true rfl, Nat.le_of_ble_eq_true rfl⟩ (Nat.le_of_ble_eq_true rfl) ⟨Nat.le_of_ble_eq_true rfl, Nat.le_of_ble_eq_true rfl⟩ dX0_settle_153 rfl (fun r_153 S18_153 h_153 => ?_)
                  obtain ⟨v153, rfl, p_v153, q_v153⟩ := h_153
                  obtain rfl := q_v153.symm
                  refine p0_57 C i_h dX0_settle_156 ?_
                  refine V.gen (fun S18_156 e_156 => ?_)
                  have x_156 := x_sI e_156
                  have iv := inv_sI e_156 iv (by decide) (by decide)
                  have ch := ch_sI e_156 ch (by simp)
                  have o_1 := mo_sIy e_156 o_1
                  have i_h := is_ext x_156 i_h
                  have i_b24 := is_ext x_156 i_b24
                  have k_0 := mi_sIx e_156 (Or.inl (by decide)) k_0
                  have k_2 := mi_sIx e_156 (Or.inl (by decide)) k_2
                  have k_3 := put_i e_156
                  refine v_vret C hr (Nat.le_of_ble_eq_true rfl) (Nat.le_of_ble_eq_true rfl) dX0_settle_159 ?_
                  exact ⟨rfl, iv, ch, (⟨o_1, fun z => (by cases z), fun a z => (by cases z; exact ⟨k_0, (by rw [k_2]; unfold stC; rw [if_neg (fun z => by rw [c_126] at z; cases z.2.2), if_pos (by omega)]), (by rw [k_3, p_v153]; exact bcx_ok _ (List.mem_range.mpr an2))⟩)⟩)⟩
                · skip
                  refine v_aload_n C dX0_settle_129 rfl ?_
                  refine v_iconst (v := nI 1) C dX0_settle_130 (by decide) ?_
                  refine p0_54 C i_h dX0_settle_131 ?_
                  refine V.gen (fun S18_131 e_131 => ?_)
                  have x_131 := x_sI e_131
                  have iv := inv_sI e_131 iv (by decide) (by decide)
                  have ch := ch_sI e_131 ch (by simp)
                  have o_1 := mo_sIy e_131 o_1
                  have i_h := is_ext x_131 i_h
                  have i_b24 := is_ext x_131 i_b24
                  have k_0 := mi_sIx e_131 (Or.inl (by decide)) k_0
                  have k_2 := put_i e_131
                  have hS := chS_i e_131 (by decide) hS
                  refine v_iconst (v := nI 1) C dX0_settle_134 (by decide) ?_
                  refine v_aload_n C dX0_settle_135 rfl ?_
                  refine r0_50 (b := b24) C i_h o_1 dX0_settle_136 ?_
                  refine g0_33 C i_b24 dX0_settle_139 ?_
                  refine v_val (mi_ch ch i_b240 (by simp) g2) ?_
                  refine v_ishl C dX0_settle_142 ?_
                  refine v_val (y := nI (1 <<< rsf b24)) sl1 ?_
                  refine v_iconst (v := nI 1) C dX0_settle_143 (by decide) ?_
                  refine n_isub C (by omega) dX0_settle_144 ?_
                  refine v_istore_n C dX0_settle_145 (by decide) (by first | rfl | exact cat_ok _ | simp [okS, cat_rf]) ?_
                  refine v_aload_n C dX0_settle_146 rfl ?_
                  refine v_aload_n C dX0_settle_147 rfl ?_
                  refine g0_29 C i_h dX0_settle_148 ?_
                  refine v_val hS.2.2.2.2.2 ?_
                  refine v_iload_n C dX0_settle_151 rfl ?_
                  refine v_iand C dX0_settle_152 ?_
                  refine v_val (y := nI (ms &&& ((1 <<< rsf b24) - 1))) an1 ?_
                  refine v_callS (As := [_]) (n := 1) C (ft_J6_bitCount_0f7a4 l _) rfl ⟨wd574, wd575, wd576, wd577⟩ hy_J6_bitCount_0f7a4 rfl ⟨Nat.le_of_ble_eq_true rfl, Nat.le_of_ble_eq_true rfl⟩ (Nat.le_of_ble_eq_true rfl) ⟨Nat.le_of_ble_eq_true rfl, Nat.le_of_ble_eq_true rfl⟩ dX0_settle_153 rfl (fun r_153 S18_153 h_153 => ?_)
                  obtain ⟨v153, rfl, p_v153, q_v153⟩ := h_153
                  obtain rfl := q_v153.symm
                  refine p0_57 C i_h dX0_settle_156 ?_
                  refine V.gen (fun S18_156 e_156 => ?_)
                  have x_156 := x_sI e_156
                  have iv := inv_sI e_156 iv (by decide) (by decide)
                  have ch := ch_sI e_156 ch (by simp)
                  have o_1 := mo_sIy e_156 o_1
                  have i_h := is_ext x_156 i_h
                  have i_b24 := is_ext x_156 i_b24
                  have k_0 := mi_sIx e_156 (Or.inl (by decide)) k_0
                  have k_2 := mi_sIx e_156 (Or.inl (by decide)) k_2
                  have k_3 := put_i e_156
                  refine v_vret C hr (Nat.le_of_ble_eq_true rfl) (Nat.le_of_ble_eq_true rfl) dX0_settle_159 ?_
                  exact ⟨rfl, iv, ch, (⟨o_1, fun z => (by cases z), fun a z => (by cases z; exact ⟨k_0, (by rw [k_2]; unfold stC; rw [if_pos ⟨rfl, rfl, c_126⟩]), (by rw [k_3, p_v153]; exact bcx_ok _ (List.mem_range.mpr an2))⟩)⟩)⟩
        · skip
          cases c_68
    · skip
      subst c_13
      obtain ⟨g1, g2, g3⟩ := hp b13 (Or.inr (Or.inl rfl))
      have i_b13 : is S b13 5 := nOK_some no2 rfl
      have i_b130 := i_b13
      obtain ⟨sr1, sr2⟩ := sr_ok ms (List.mem_range.mpr hms) (rsf b13) (List.mem_range.mpr g3)
      obtain ⟨sl1, sl2, sl3⟩ := sl_ok (rsf b13) (List.mem_range.mpr g3)
      obtain ⟨an1, an2⟩ := an_ok ms (List.mem_range.mpr hms) (rsf b13) (List.mem_range.mpr g3)
      refine v_aload_n C dX0_settle_16 rfl ?_
      refine g0_9 C i_h dX0_settle_17 ?_
      rw [hS.1]
      refine v_goto (tgt := 27) C dX0_settle_20 (by decide) ?_
      refine p0_50 (v := some _) C i_h dX0_settle_27 ?_
      refine V.gen (fun S6_27 e_27 => ?_)
      have x_27 := x_sO e_27
      have iv := inv_sO e_27 iv (Or.inr (F1 (nOK_is i_b13)))
      have ch := ch_sO e_27 ch (by simp)
      have i_h := is_ext x_27 i_h
      have i_b13 := is_ext x_27 i_b13
      have hS := chS_o e_27 (by decide) hS
      have o_1 := mo_put e_27
      refine v_aload_n C dX0_settle_30 rfl ?_
      refine r0_50 (b := b13) C i_h o_1 dX0_settle_31 ?_
      refine v_ifnonnull (o := some _) (tgt := 66) C dX0_settle_34 (by decide) (fun _ _ => ?_) (fun c => by cases c)
      refine v_aload_n C dX0_settle_66 rfl ?_
      refine v_qload_n C dX0_settle_67 rfl ?_
      refine v_ifnull (tgt := 76) C dX0_settle_68 (by decide) (fun c_68 => ?_) (fun b68 c_68 => ?_)
      · skip
        refine v_aload_n C dX0_settle_76 rfl ?_
        refine r0_50 (b := b13) C i_h o_1 dX0_settle_77 ?_
        refine g0_41 C i_b13 dX0_settle_80 ?_
        refine v_val (y := gvf b13) (mi_ch ch i_b130 (by simp) g1) ?_
        refine p0_53 C i_h dX0_settle_83 ?_
        refine V.gen (fun S8_83 e_83 => ?_)
        have x_83 := x_sI e_83
        have iv := inv_sI e_83 iv (by decide) (by decide)
        have ch := ch_sI e_83 ch (by simp)
        have o_1 := mo_sIy e_83 o_1
        have i_h := is_ext x_83 i_h
        have i_b13 := is_ext x_83 i_b13
        have k_0 := put_i e_83
        have hS := chS_i e_83 (by decide) hS
        refine v_aload_n C dX0_settle_86 rfl ?_
        refine v_aload_n C dX0_settle_87 rfl ?_
        refine g0_29 C i_h dX0_settle_88 ?_
        refine v_val hS.2.2.2.2.2 ?_
        refine v_aload_n C dX0_settle_91 rfl ?_
        refine r0_50 (b := b13) C i_h o_1 dX0_settle_92 ?_
        refine g0_33 C i_b13 dX0_settle_95 ?_
        refine v_val (mi_ch ch i_b130 (by simp) g2) ?_
        refine v_ishr C dX0_settle_98 ?_
        refine v_val (y := nI (ms >>> rsf b13)) sr1 ?_
        refine v_iconst (v := nI 1) C dX0_settle_99 (by decide) ?_
        refine n_icmp_le (tgt := 107) C (by omega) (by omega) dX0_settle_100 (by decide) (fun c_100 => ?_) (fun c_100 => ?_)
        · skip
          refine v_iconst (v := nI 0) C dX0_settle_107 (by decide) ?_
          refine p0_54 C i_h dX0_settle_108 ?_
          refine V.gen (fun S10_108 e_108 => ?_)
          have x_108 := x_sI e_108
          have iv := inv_sI e_108 iv (by decide) (by decide)
          have ch := ch_sI e_108 ch (by simp)
          have o_1 := mo_sIy e_108 o_1
          have i_h := is_ext x_108 i_h
          have i_b13 := is_ext x_108 i_b13
          have k_0 := mi_sIx e_108 (Or.inl (by decide)) k_0
          have k_2 := put_i e_108
          have hS := chS_i e_108 (by decide) hS
          refine v_qload_n C dX0_settle_111 rfl ?_
          refine v_ifnonnull (tgt := 134) C dX0_settle_112 (by decide) (fun b112 c_112 => ?_) (fun c_112 => ?_)
          · skip
            cases c_112
          · skip
            refine v_aload_n C dX0_settle_115 rfl ?_
            refine g0_9 C i_h dX0_settle_116 ?_
            rw [hS.1]
            refine v_ifnonnull (o := some _) (tgt := 134) C dX0_settle_119 (by decide) (fun _ _ => ?_) (fun c => by cases c)
            refine v_iconst (v := nI 1) C dX0_settle_134 (by decide) ?_
            refine v_aload_n C dX0_settle_135 rfl ?_
            refine r0_50 (b := b13) C i_h o_1 dX0_settle_136 ?_
            refine g0_33 C i_b13 dX0_settle_139 ?_
            refine v_val (mi_ch ch i_b130 (by simp) g2) ?_
            refine v_ishl C dX0_settle_142 ?_
            refine v_val (y := nI (1 <<< rsf b13)) sl1 ?_
            refine v_iconst (v := nI 1) C dX0_settle_143 (by decide) ?_
            refine n_isub C (by omega) dX0_settle_144 ?_
            refine v_istore_n C dX0_settle_145 (by decide) (by first | rfl | exact cat_ok _ | simp [okS, cat_rf]) ?_
            refine v_aload_n C dX0_settle_146 rfl ?_
            refine v_aload_n C dX0_settle_147 rfl ?_
            refine g0_29 C i_h dX0_settle_148 ?_
            refine v_val hS.2.2.2.2.2 ?_
            refine v_iload_n C dX0_settle_151 rfl ?_
            refine v_iand C dX0_settle_152 ?_
            refine v_val (y := nI (ms &&& ((1 <<< rsf b13) - 1))) an1 ?_
            refine v_callS (As := [_]) (n := 1) C (ft_J6_bitCount_0f7a4 l _) rfl ⟨wd574, wd575, wd576, wd577⟩ hy_J6_bitCount_0f7a4 rfl ⟨Nat.le_of_ble_eq_true rfl, Nat.le_of_ble_eq_true rfl⟩ (Nat.le_of_ble_eq_true rfl) ⟨Nat.le_of_ble_eq_true rfl, Nat.le_of_ble_eq_true rfl⟩ dX0_settle_153 rfl (fun r_153 S12_153 h_153 => ?_)
            obtain ⟨v153, rfl, p_v153, q_v153⟩ := h_153
            obtain rfl := q_v153.symm
            refine p0_57 C i_h dX0_settle_156 ?_
            refine V.gen (fun S12_156 e_156 => ?_)
            have x_156 := x_sI e_156
            have iv := inv_sI e_156 iv (by decide) (by decide)
            have ch := ch_sI e_156 ch (by simp)
            have o_1 := mo_sIy e_156 o_1
            have i_h := is_ext x_156 i_h
            have i_b13 := is_ext x_156 i_b13
            have k_0 := mi_sIx e_156 (Or.inl (by decide)) k_0
            have k_2 := mi_sIx e_156 (Or.inl (by decide)) k_2
            have k_3 := put_i e_156
            refine v_vret C hr (Nat.le_of_ble_eq_true rfl) (Nat.le_of_ble_eq_true rfl) dX0_settle_159 ?_
            exact ⟨rfl, iv, ch, (⟨o_1, fun z => (by cases z), fun a z => (by cases z; exact ⟨k_0, (by rw [k_2]; unfold stC; rw [if_neg (fun z => by cases z.2.1), if_neg (by omega)]), (by rw [k_3, p_v153]; exact bcx_ok _ (List.mem_range.mpr an2))⟩)⟩)⟩
        · skip
          refine v_iconst (v := nI 2) C dX0_settle_103 (by decide) ?_
          refine v_goto (tgt := 108) C dX0_settle_104 (by decide) ?_
          refine p0_54 C i_h dX0_settle_108 ?_
          refine V.gen (fun S10_108 e_108 => ?_)
          have x_108 := x_sI e_108
          have iv := inv_sI e_108 iv (by decide) (by decide)
          have ch := ch_sI e_108 ch (by simp)
          have o_1 := mo_sIy e_108 o_1
          have i_h := is_ext x_108 i_h
          have i_b13 := is_ext x_108 i_b13
          have k_0 := mi_sIx e_108 (Or.inl (by decide)) k_0
          have k_2 := put_i e_108
          have hS := chS_i e_108 (by decide) hS
          refine v_qload_n C dX0_settle_111 rfl ?_
          refine v_ifnonnull (tgt := 134) C dX0_settle_112 (by decide) (fun b112 c_112 => ?_) (fun c_112 => ?_)
          · skip
            cases c_112
          · skip
            refine v_aload_n C dX0_settle_115 rfl ?_
            refine g0_9 C i_h dX0_settle_116 ?_
            rw [hS.1]
            refine v_ifnonnull (o := some _) (tgt := 134) C dX0_settle_119 (by decide) (fun _ _ => ?_) (fun c => by cases c)
            refine v_iconst (v := nI 1) C dX0_settle_134 (by decide) ?_
            refine v_aload_n C dX0_settle_135 rfl ?_
            refine r0_50 (b := b13) C i_h o_1 dX0_settle_136 ?_
            refine g0_33 C i_b13 dX0_settle_139 ?_
            refine v_val (mi_ch ch i_b130 (by simp) g2) ?_
            refine v_ishl C dX0_settle_142 ?_
            refine v_val (y := nI (1 <<< rsf b13)) sl1 ?_
            refine v_iconst (v := nI 1) C dX0_settle_143 (by decide) ?_
            refine n_isub C (by omega) dX0_settle_144 ?_
            refine v_istore_n C dX0_settle_145 (by decide) (by first | rfl | exact cat_ok _ | simp [okS, cat_rf]) ?_
            refine v_aload_n C dX0_settle_146 rfl ?_
            refine v_aload_n C dX0_settle_147 rfl ?_
            refine g0_29 C i_h dX0_settle_148 ?_
            refine v_val hS.2.2.2.2.2 ?_
            refine v_iload_n C dX0_settle_151 rfl ?_
            refine v_iand C dX0_settle_152 ?_
            refine v_val (y := nI (ms &&& ((1 <<< rsf b13) - 1))) an1 ?_
            refine v_callS (As := [_]) (n := 1) C (ft_J6_bitCount_0f7a4 l _) rfl ⟨wd574, wd575, wd576, wd577⟩ hy_J6_bitCount_0f7a4 rfl ⟨Nat.le_of_ble_eq_true rfl, Nat.le_of_ble_eq_true rfl⟩ (Nat.le_of_ble_eq_true rfl) ⟨Nat.le_of_ble_eq_true rfl, Nat.le_of_ble_eq_true rfl⟩ dX0_settle_153 rfl (fun r_153 S12_153 h_153 => ?_)
            obtain ⟨v153, rfl, p_v153, q_v153⟩ := h_153
            obtain rfl := q_v153.symm
            refine p0_57 C i_h dX0_settle_156 ?_
            refine V.gen (fun S12_156 e_156 => ?_)
            have x_156 := x_sI e_156
            have iv := inv_sI e_156 iv (by decide) (by decide)
            have ch := ch_sI e_156 ch (by simp)
            have o_1 := mo_sIy e_156 o_1
            have i_h := is_ext x_156 i_h
            have i_b13 := is_ext x_156 i_b13
            have k_0 := mi_sIx e_156 (Or.inl (by decide)) k_0
            have k_2 := mi_sIx e_156 (Or.inl (by decide)) k_2
            have k_3 := put_i e_156
            refine v_vret C hr (Nat.le_of_ble_eq_true rfl) (Nat.le_of_ble_eq_true rfl) dX0_settle_159 ?_
            exact ⟨rfl, iv, ch, (⟨o_1, fun z => (by cases z), fun a z => (by cases z; exact ⟨k_0, (by rw [k_2]; unfold stC; rw [if_neg (fun z => by cases z.2.1), if_pos (by omega)]), (by rw [k_3, p_v153]; exact bcx_ok _ (List.mem_range.mpr an2))⟩)⟩)⟩
      · skip
        cases c_68
  · skip
    subst c_2
    obtain ⟨g1, g2, g3⟩ := hp b2 (Or.inl rfl)
    have i_b2 : is S b2 5 := nOK_some no1 rfl
    have i_b20 := i_b2
    obtain ⟨sr1, sr2⟩ := sr_ok ms (List.mem_range.mpr hms) (rsf b2) (List.mem_range.mpr g3)
    obtain ⟨sl1, sl2, sl3⟩ := sl_ok (rsf b2) (List.mem_range.mpr g3)
    obtain ⟨an1, an2⟩ := an_ok ms (List.mem_range.mpr hms) (rsf b2) (List.mem_range.mpr g3)
    refine v_aload_n C dX0_settle_5 rfl ?_
    refine v_goto (tgt := 27) C dX0_settle_6 (by decide) ?_
    refine p0_50 (v := some _) C i_h dX0_settle_27 ?_
    refine V.gen (fun S4_27 e_27 => ?_)
    have x_27 := x_sO e_27
    have iv := inv_sO e_27 iv (Or.inr (F1 (nOK_is i_b2)))
    have ch := ch_sO e_27 ch (by simp)
    have i_h := is_ext x_27 i_h
    have i_b2 := is_ext x_27 i_b2
    have hS := chS_o e_27 (by decide) hS
    have o_1 := mo_put e_27
    refine v_aload_n C dX0_settle_30 rfl ?_
    refine r0_50 (b := b2) C i_h o_1 dX0_settle_31 ?_
    refine v_ifnonnull (o := some _) (tgt := 66) C dX0_settle_34 (by decide) (fun _ _ => ?_) (fun c => by cases c)
    refine v_aload_n C dX0_settle_66 rfl ?_
    refine v_aload_n C dX0_settle_67 rfl ?_
    refine v_ifnull (o := some _) (tgt := 76) C dX0_settle_68 (by decide) (fun c => by cases c) (fun _ _ => ?_)
    refine v_bipush (v := nI 100) C dX0_settle_71 (by decide) ?_
    refine v_goto (tgt := 83) C dX0_settle_73 (by decide) ?_
    refine p0_53 C i_h dX0_settle_83 ?_
    refine V.gen (fun S4_83 e_83 => ?_)
    have x_83 := x_sI e_83
    have iv := inv_sI e_83 iv (by decide) (by decide)
    have ch := ch_sI e_83 ch (by simp)
    have o_1 := mo_sIy e_83 o_1
    have i_h := is_ext x_83 i_h
    have i_b2 := is_ext x_83 i_b2
    have k_0 := put_i e_83
    have hS := chS_i e_83 (by decide) hS
    refine v_aload_n C dX0_settle_86 rfl ?_
    refine v_aload_n C dX0_settle_87 rfl ?_
    refine g0_29 C i_h dX0_settle_88 ?_
    refine v_val hS.2.2.2.2.2 ?_
    refine v_aload_n C dX0_settle_91 rfl ?_
    refine r0_50 (b := b2) C i_h o_1 dX0_settle_92 ?_
    refine g0_33 C i_b2 dX0_settle_95 ?_
    refine v_val (mi_ch ch i_b20 (by simp) g2) ?_
    refine v_ishr C dX0_settle_98 ?_
    refine v_val (y := nI (ms >>> rsf b2)) sr1 ?_
    refine v_iconst (v := nI 1) C dX0_settle_99 (by decide) ?_
    refine n_icmp_le (tgt := 107) C (by omega) (by omega) dX0_settle_100 (by decide) (fun c_100 => ?_) (fun c_100 => ?_)
    · skip
      refine v_iconst (v := nI 0) C dX0_settle_107 (by decide) ?_
      refine p0_54 C i_h dX0_settle_108 ?_
      refine V.gen (fun S6_108 e_108 => ?_)
      have x_108 := x_sI e_108
      have iv := inv_sI e_108 iv (by decide) (by decide)
      have ch := ch_sI e_108 ch (by simp)
      have o_1 := mo_sIy e_108 o_1
      have i_h := is_ext x_108 i_h
      have i_b2 := is_ext x_108 i_b2
      have k_0 := mi_sIx e_108 (Or.inl (by decide)) k_0
      have k_2 := put_i e_108
      have hS := chS_i e_108 (by decide) hS
      refine v_aload_n C dX0_settle_111 rfl ?_
      refine v_ifnonnull (o := some _) (tgt := 134) C dX0_settle_112 (by decide) (fun _ _ => ?_) (fun c => by cases c)
      refine v_iconst (v := nI 1) C dX0_settle_134 (by decide) ?_
      refine v_aload_n C dX0_settle_135 rfl ?_
      refine r0_50 (b := b2) C i_h o_1 dX0_settle_136 ?_
      refine g0_33 C i_b2 dX0_settle_139 ?_
      refine v_val (mi_ch ch i_b20 (by simp) g2) ?_
      refine v_ishl C dX0_settle_142 ?_
      refine v_val (y := nI (1 <<< rsf b2)) sl1 ?_
      refine v_iconst (v := nI 1) C dX0_settle_143 (by decide) ?_
      refine n_isub C (by omega) dX0_settle_144 ?_
      refine v_istore_n C dX0_settle_145 (by decide) (by first | rfl | exact cat_ok _ | simp [okS, cat_rf]) ?_
      refine v_aload_n C dX0_settle_146 rfl ?_
      refine v_aload_n C dX0_settle_147 rfl ?_
      refine g0_29 C i_h dX0_settle_148 ?_
      refine v_val hS.2.2.2.2.2 ?_
      refine v_iload_n C dX0_settle_151 rfl ?_
      refine v_iand C dX0_settle_152 ?_
      refine v_val (y := nI (ms &&& ((1 <<< rsf b2) - 1))) an1 ?_
      refine v_callS (As := [_]) (n := 1) C (ft_J6_bitCount_0f7a4 l _) rfl ⟨wd574, wd575, wd576, wd577⟩ hy_J6_bitCount_0f7a4 rfl ⟨Nat.le_of_ble_eq_true rfl, Nat.le_of_ble_eq_true rfl⟩ (Nat.le_of_ble_eq_true rfl) ⟨Nat.le_of_ble_eq_true rfl, Nat.le_of_ble_eq_true rfl⟩ dX0_settle_153 rfl (fun r_153 S6_153 h_153 => ?_)
      obtain ⟨v153, rfl, p_v153, q_v153⟩ := h_153
      obtain rfl := q_v153.symm
      refine p0_57 C i_h dX0_settle_156 ?_
      refine V.gen (fun S6_156 e_156 => ?_)
      have x_156 := x_sI e_156
      have iv := inv_sI e_156 iv (by decide) (by decide)
      have ch := ch_sI e_156 ch (by simp)
      have o_1 := mo_sIy e_156 o_1
      have i_h := is_ext x_156 i_h
      have i_b2 := is_ext x_156 i_b2
      have k_0 := mi_sIx e_156 (Or.inl (by decide)) k_0
      have k_2 := mi_sIx e_156 (Or.inl (by decide)) k_2
      have k_3 := put_i e_156
      refine v_vret C hr (Nat.le_of_ble_eq_true rfl) (Nat.le_of_ble_eq_true rfl) dX0_settle_159 ?_
      exact ⟨rfl, iv, ch, (⟨o_1, fun z => (by cases z), fun a z => (by cases z; exact ⟨k_0, (by rw [k_2]; unfold stC; rw [if_neg (fun z => by cases z.1), if_neg (by omega)]), (by rw [k_3, p_v153]; exact bcx_ok _ (List.mem_range.mpr an2))⟩)⟩)⟩
    · skip
      refine v_iconst (v := nI 2) C dX0_settle_103 (by decide) ?_
      refine v_goto (tgt := 108) C dX0_settle_104 (by decide) ?_
      refine p0_54 C i_h dX0_settle_108 ?_
      refine V.gen (fun S6_108 e_108 => ?_)
      have x_108 := x_sI e_108
      have iv := inv_sI e_108 iv (by decide) (by decide)
      have ch := ch_sI e_108 ch (by simp)
      have o_1 := mo_sIy e_108 o_1
      have i_h := is_ext x_108 i_h
      have i_b2 := is_ext x_108 i_b2
      have k_0 := mi_sIx e_108 (Or.inl (by decide)) k_0
      have k_2 := put_i e_108
      have hS := chS_i e_108 (by decide) hS
      refine v_aload_n C dX0_settle_111 rfl ?_
      refine v_ifnonnull (o := some _) (tgt := 134) C dX0_settle_112 (by decide) (fun _ _ => ?_) (fun c => by cases c)
      refine v_iconst (v := nI 1) C dX0_settle_134 (by decide) ?_
      refine v_aload_n C dX0_settle_135 rfl ?_
      refine r0_50 (b := b2) C i_h o_1 dX0_settle_136 ?_
      refine g0_33 C i_b2 dX0_settle_139 ?_
      refine v_val (mi_ch ch i_b20 (by simp) g2) ?_
      refine v_ishl C dX0_settle_142 ?_
      refine v_val (y := nI (1 <<< rsf b2)) sl1 ?_
      refine v_iconst (v := nI 1) C dX0_settle_143 (by decide) ?_
      refine n_isub C (by omega) dX0_settle_144 ?_
      refine v_istore_n C dX0_settle_145 (by decide) (by first | rfl | exact cat_ok _ | simp [okS, cat_rf]) ?_
      refine v_aload_n C dX0_settle_146 rfl ?_
      refine v_aload_n C dX0_settle_147 rfl ?_
      refine g0_29 C i_h dX0_settle_148 ?_
      refine v_val hS.2.2.2.2.2 ?_
      refine v_iload_n C dX0_settle_151 rfl ?_
      refine v_iand C dX0_settle_152 ?_
      refine v_val (y := nI (ms &&& ((1 <<< rsf b2) - 1))) an1 ?_
      refine v_callS (As := [_]) (n := 1) C (ft_J6_bitCount_0f7a4 l _) rfl ⟨wd574, wd575, wd576, wd577⟩ hy_J6_bitCount_0f7a4 rfl ⟨Nat.le_of_ble_eq_true rfl, Nat.le_of_ble_eq_true rfl⟩ (Nat.le_of_ble_eq_true rfl) ⟨Nat.le_of_ble_eq_true rfl, Nat.le_of_ble_eq_true rfl⟩ dX0_settle_153 rfl (fun r_153 S6_153 h_153 => ?_)
      obtain ⟨v153, rfl, p_v153, q_v153⟩ := h_153
      obtain rfl := q_v153.symm
      refine p0_57 C i_h dX0_settle_156 ?_
      refine V.gen (fun S6_156 e_156 => ?_)
      have x_156 := x_sI e_156
      have iv := inv_sI e_156 iv (by decide) (by decide)
      have ch := ch_sI e_156 ch (by simp)
      have o_1 := mo_sIy e_156 o_1
      have i_h := is_ext x_156 i_h
      have i_b2 := is_ext x_156 i_b2
      have k_0 := mi_sIx e_156 (Or.inl (by decide)) k_0
      have k_2 := mi_sIx e_156 (Or.inl (by decide)) k_2
      have k_3 := put_i e_156
      refine v_vret C hr (Nat.le_of_ble_eq_true rfl) (Nat.le_of_ble_eq_true rfl) dX0_settle_159 ?_
      exact ⟨rfl, iv, ch, (⟨o_1, fun z => (by cases z), fun a z => (by cases z; exact ⟨k_0, (by rw [k_2]; unfold stC; rw [if_neg (fun z => by cases z.1), if_pos (by omega)]), (by rw [k_3, p_v153]; exact bcx_ok _ (List.mem_range.mpr an2))⟩)⟩)⟩
set_option maxRecDepth 100000 in
set_option maxHeartbeats 4000000 in
theorem ft_X2_sourceOf (l : Launch) (h : Nat) (tt : Nat) (ac : Nat) (lf nr og : Nat) (lv : Bool) (rn nm : Option Nat) : Ct l yX2_sourceOf cX2_sourceOf 4 (some .int) 1 0 0 22 (fun S av => av = [.ref h, .int (nI tt), .int (nI ac)] ∧ is S h 2 ∧ (tt < 20) ∧ (ac < 12) ∧ (mO S 134 h = some lf ∧ isA S lf 13 240 ∧ mA S lf (12 * tt + ac) = bI lv ∧ mO S 136 h = some nr ∧ isA S nr 11 240 ∧ mA S nr (12 * tt + ac) = oI rn ∧ mO S 137 h = some og ∧ isA S og 11 240 ∧ mA S og (12 * tt + ac) = oI nm) ∧ ((∀ k, rn = some k → k < 12) ∧ ∀ k, nm = some k → k < 12)) (fun S _ r S' => ∃ v : Option Nat, r = some (.int (oI v)) ∧ v = (match nm with | some q => some q | none => bif lv || rn.isSome then none else some ac) ∧ (∀ k, v = some k → k < 12) ∧ S' = S) := by
  refine ct_of (by decide) (fun S av h => by obtain ⟨rfl, i_h, ht, ha, hb, hq⟩ := h; exact Nat.le_of_ble_eq_true rfl) ?_
  intro p e s m args below meth c D G bs S av C hr hin hpre
  obtain ⟨rfl, i_h, ht, ha, hb, hq⟩ := hpre
  obtain ⟨o_lf, i_lf, elv, o_nr, i_nr, ern, o_og, i_og, enm⟩ := hb
  obtain ⟨b_rn, b_nm⟩ := hq
  refine v_iload_n C dX2_sourceOf_0 rfl ?_
  refine v_iload_n C dX2_sourceOf_1 rfl ?_
  refine v_callS (As := [_, _]) (n := 2) C (ft_X2_slot l _ _) rfl ⟨wd436, wd437, wd271, wd438⟩ hy_X2_slot rfl ⟨Nat.le_of_ble_eq_true rfl, Nat.le_of_ble_eq_true rfl⟩ (Nat.le_of_ble_eq_true rfl) ⟨Nat.le_of_ble_eq_true rfl, Nat.le_of_ble_eq_true rfl⟩ dX2_sourceOf_2 ⟨rfl, ht, ha⟩ (fun r_2 S2_2 h_2 => ?_)
  obtain ⟨v2, rfl, p_v2, q_v2⟩ := h_2
  obtain rfl := q_v2.symm
  obtain rfl := p_v2
  refine v_istore_n C dX2_sourceOf_5 (by decide) (by first | rfl | exact cat_ok _ | simp [okS, cat_rf]) ?_
  refine v_iload_n C dX2_sourceOf_6 rfl ?_
  refine v_iconst (v := -1) C dX2_sourceOf_7 (by decide) ?_
  refine v_icmp_ne (tgt := 13) C dX2_sourceOf_8 (by decide) (fun c_8 => ?_) (fun c_8 => ?_)
  · skip
    refine v_aload_n C dX2_sourceOf_13 rfl ?_
    refine r2_35 (b := og) C i_h o_og dX2_sourceOf_14 ?_
    refine v_iload_n C dX2_sourceOf_17 rfl ?_
    refine v_iald C i_og (vp_in_nI (by omega) (by omega)) dX2_sourceOf_18 ?_
    rw [nI_clamp (by omega)]
    refine v_val (y := oI nm) enm ?_
    refine v_iconst (v := -1) C dX2_sourceOf_19 (by decide) ?_
    refine o_icmp_eq (tgt := 30) C (fun k z => by have := b_nm k z; omega) dX2_sourceOf_20 (by decide) (fun c_20 => ?_) (fun k20 c_20 => ?_)
    · skip
      subst c_20
      refine v_aload_n C dX2_sourceOf_30 rfl ?_
      refine r2_28 (b := lf) C i_h o_lf dX2_sourceOf_31 ?_
      refine v_iload_n C dX2_sourceOf_34 rfl ?_
      refine v_zald C i_lf (vp_in_nI (by omega) (by omega)) dX2_sourceOf_35 ?_
      rw [nI_clamp (by omega)]
      refine v_val (y := bI lv) elv ?_
      refine b_if_ne (tgt := 49) C dX2_sourceOf_36 (by decide) (fun c_36 => ?_) (fun c_36 => ?_)
      · skip
        refine v_iconst (v := -1) C dX2_sourceOf_49 (by decide) ?_
        refine v_goto (tgt := 54) C dX2_sourceOf_50 (by decide) ?_
        refine v_iret C hr (Nat.le_of_ble_eq_true rfl) (Nat.le_of_ble_eq_true rfl) dX2_sourceOf_54 ?_
        exact ⟨none, rfl, (by rw [c_36]; rfl), (fun k z => by cases z), rfl⟩
      · skip
        refine v_aload_n C dX2_sourceOf_39 rfl ?_
        refine r2_32 (b := nr) C i_h o_nr dX2_sourceOf_40 ?_
        refine v_iload_n C dX2_sourceOf_43 rfl ?_
        refine v_iald C i_nr (vp_in_nI (by omega) (by omega)) dX2_sourceOf_44 ?_
        rw [nI_clamp (by omega)]
        refine v_val (y := oI rn) ern ?_
        refine v_iconst (v := -1) C dX2_sourceOf_45 (by decide) ?_
        refine o_icmp_eq (tgt := 53) C (fun k z => by have := b_rn k z; omega) dX2_sourceOf_46 (by decide) (fun c_46 => ?_) (fun k46 c_46 => ?_)
        · skip
          subst c_46
          refine v_iload_n C dX2_sourceOf_53 rfl ?_
          refine v_iret C hr (Nat.le_of_ble_eq_true rfl) (Nat.le_of_ble_eq_true rfl) dX2_sourceOf_54 ?_
          exact ⟨some _, rfl, (by rw [c_36]; rfl), (fun k z => by cases z; exact ha), rfl⟩
        · skip
          have b_k46 := b_rn k46 c_46
          subst c_46
          refine v_iconst (v := -1) C dX2_sourceOf_49 (by decide) ?_
          refine v_goto (tgt := 54) C dX2_sourceOf_50 (by decide) ?_
          refine v_iret C hr (Nat.le_of_ble_eq_true rfl) (Nat.le_of_ble_eq_true rfl) dX2_sourceOf_54 ?_
          exact ⟨none, rfl, (by rw [c_36]; rfl), (fun k z => by cases z), rfl⟩
    · skip
      have b_k20 := b_nm k20 c_20
      subst c_20
      refine v_aload_n C dX2_sourceOf_23 rfl ?_
      refine r2_35 (b := og) C i_h o_og dX2_sourceOf_24 ?_
      refine v_iload_n C dX2_sourceOf_27 rfl ?_
      refine v_iald C i_og (vp_in_nI (by omega) (by omega)) dX2_sourceOf_28 ?_
      rw [nI_clamp (by omega)]
      refine v_val enm ?_
      refine v_iret C hr (Nat.le_of_ble_eq_true rfl) (Nat.le_of_ble_eq_true rfl) dX2_sourceOf_29 ?_
      exact ⟨some _, rfl, (rfl), (b_nm), rfl⟩
  · skip
    exact absurd c_8 (nI_m1 (by omega))
