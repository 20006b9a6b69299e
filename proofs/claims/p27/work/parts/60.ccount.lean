/-! COUNTING -/
theorem cn_add {p : Nat → Bool} : ∀ (a b i : Nat), cn p (a + b) i = cn p a i + cn p b (i + a) := by
  intro a
  induction a with
  | zero => intro b i; rw [Nat.zero_add, cn, Nat.zero_add, Nat.add_zero]
  | succ a ih => intro b i; rw [show a + 1 + b = (a + b) + 1 by omega, cn, cn, ih b (i + 1), show i + 1 + a = i + (a + 1) by omega, Nat.add_assoc]
theorem cn_shift {p : Nat → Bool} {i : Nat} : ∀ (n j : Nat), cn (fun a => p (i + a)) n j = cn p n (i + j) := by
  intro n
  induction n with
  | zero => intro j; rfl
  | succ n ih => intro j; rw [cn, cn, ih (j + 1)]; rfl
theorem cn_zero {p : Nat → Bool} : ∀ (n i : Nat), (∀ j, i ≤ j → j < i + n → p j = false) → cn p n i = 0 := by
  intro n
  induction n with
  | zero => intro i _; rfl
  | succ n ih => intro i h; rw [cn, h i (Nat.le_refl _) (by omega), ih (i + 1) (fun j h1 h2 => h j (by omega) (by omega))]; rfl
theorem dv_ok : ∀ i ∈ List.range 144, nI i / nI 12 = nI (i / 12) ∧ nI i - nI i / nI 12 * nI 12 = nI (i % 12) := by decide +kernel
def pkI (K : RS) (w i : Nat) : Bool := pickP K w (i / 12) (i % 12)
theorem sm_cn {K : RS} {w : Nat} : ∀ (n k : Nat), sm (rowN K w) n k = cn (pkI K w) (12 * n) (12 * k) := by
  intro n
  induction n with
  | zero => intro k; rfl
  | succ n ih =>
    intro k
    rw [sm, ih (k + 1), show 12 * (n + 1) = 12 + 12 * n by omega, cn_add, show 12 * k + 12 = 12 * (k + 1) by omega]
    congr 1
    rw [← Nat.add_zero (12 * k), ← cn_shift]
    unfold rowN
    refine cn_cg _ _ (fun a _ ha => ?_)
    unfold pkI
    rw [show (12 * k + a) / 12 = k by omega, show (12 * k + a) % 12 = a by omega]
theorem has_pt {pt : Nat → Option Nat} {S : Mem} {K : RS} (ps : prtS S pt K) {k : Nat} (hk : k < 624) : (pt k).isSome = !decide (rA K 10 k = 0) := by
  have q := ps.1 k hk
  cases e : (pt k).isSome with
  | true => rw [decide_eq_false (q.mp e)]; rfl
  | false =>
    have : rA K 10 k = 0 := by
      by_cases z : rA K 10 k = 0
      · exact z
      · rw [q.mpr z] at e; cases e
    rw [decide_eq_true this]; rfl
set_option maxRecDepth 100000 in
set_option maxHeartbeats 4000000 in
theorem ft_X8_countBodies (l : Launch) (h : Nat) (bo : Nat) : Ct l yX8_countBodies cX8_countBodies 3 (some .int) 2 0 0 42 (fun S av => av = [.ref h] ∧ is S h 8 ∧ (mO S 513 h = some bo ∧ isA S bo 16 12)) (fun S _ r S' => ∃ v : Nat, r = some (.int (nI v)) ∧ v = cn (fun a => (mP S bo a).isSome) 12 0 ∧ S' = S) := by
  refine ct_of (by decide) (fun S av h => by obtain ⟨rfl, i_h, hb⟩ := h; exact Nat.le_of_ble_eq_true rfl) ?_
  intro p e s m args below meth c D G bs S av C hr hin hpre
  obtain ⟨rfl, i_h, hb⟩ := hpre
  refine v_iconst (v := nI 0) C dX8_countBodies_0 (by decide) ?_
  refine v_istore_n C dX8_countBodies_1 (by decide) (by first | rfl | exact cat_ok _ | simp [okS, cat_rf]) ?_
  refine v_iconst (v := nI 0) C dX8_countBodies_2 (by decide) ?_
  refine v_istore_n C dX8_countBodies_3 (by decide) (by first | rfl | exact cat_ok _ | simp [okS, cat_rf]) ?_
  refine V.lits (lv' := [_, _, _]) rfl ?_
  refine v_loop (fun (tt : (Nat) × (Nat)) lv0 => ((lv0.set 1 (some (.int (nI tt.1)))).set 2 (some (.int (nI tt.2))))) (fun (S1 : Mem) (tt : (Nat) × (Nat)) => S1 = S ∧ (tt.2 ≤ 12 ∧ tt.1 ≤ tt.2) ∧ (cn (fun a => (mP S1 bo a).isSome) 12 0 = tt.1 + cn (fun a => (mP S1 bo a).isSome) (12 - tt.2) tt.2)) (fun (S1 : Mem) (tt : (Nat) × (Nat)) => 12 - tt.2) (t := (0, 0)) rfl ⟨rfl, ⟨Nat.zero_le _, Nat.le_refl _⟩, (Nat.zero_add _).symm⟩ ?_
  intro L4 tt h_4 ih_4
  obtain ⟨cc, i⟩ := tt
  obtain ⟨e_S, hri, hcc⟩ := h_4
  subst e_S
  try dsimp only at *
  refine v_iload_n C dX8_countBodies_4 rfl ?_
  refine v_bipush (v := nI 12) C dX8_countBodies_5 (by decide) ?_
  refine n_icmp_ge (tgt := 32) C (by omega) (by omega) dX8_countBodies_7 (by decide) (fun c_7 => ?_) (fun c_7 => ?_)
  · skip
    refine v_iload_n C dX8_countBodies_32 rfl ?_
    refine v_iret C hr (Nat.le_of_ble_eq_true rfl) (Nat.le_of_ble_eq_true rfl) dX8_countBodies_33 ?_
    exact ⟨_, rfl, (by rw [hcc, show 12 - i = 0 by omega, cn, Nat.add_zero]), rfl⟩
  · skip
    have c_7 : i < 12 := by omega
    refine v_iload_n C dX8_countBodies_10 rfl ?_
    refine v_aload_n C dX8_countBodies_11 rfl ?_
    refine v_iload_n C dX8_countBodies_12 rfl ?_
    refine v_callV (As := [_]) (n := 1) C (fo_X8_bodyFor l _ (some i) bo) rfl i_h (by decide) rfl ⟨wd943, wd548, wd549, wd212, wd550⟩ ⟨rfl, hy_X8_bodyFor⟩ rfl ⟨Nat.le_of_ble_eq_true rfl, Nat.le_of_ble_eq_true rfl⟩ (Nat.le_of_ble_eq_true rfl) ⟨Nat.le_of_ble_eq_true rfl, Nat.le_of_ble_eq_true rfl⟩ dX8_countBodies_13 ⟨rfl, i_h, (fun q z => by cases z; exact c_7), hb⟩ (fun r_13 S2_13 h_13 => ?_)
    obtain ⟨v13, rfl, p_v13, q_v13⟩ := h_13
    obtain rfl := q_v13.symm
    refine v_ifnonnull (tgt := 23) C dX8_countBodies_16 (by decide) (fun b16 c_16 => ?_) (fun c_16 => ?_)
    · skip
      subst c_16
      have hg : (mP L4 bo i).isSome = true := by rw [show mP L4 bo i = some b16 from p_v13.symm]; rfl
      refine v_iconst (v := nI 1) C dX8_countBodies_23 (by decide) ?_
      refine n_iadd C dX8_countBodies_24 ?_
      refine v_istore_n C dX8_countBodies_25 (by decide) (by first | rfl | exact cat_ok _ | simp [okS, cat_rf]) ?_
      refine v_iinc C dX8_countBodies_26 rfl (nI_inc _) (by decide) (by first | rfl | exact cat_ok _ | simp [okS, cat_rf]) ?_
      refine v_goto (tgt := 4) C dX8_countBodies_29 (by decide) ?_
      refine V.lits (lv' := [_, _, _]) rfl ?_
      exact ih_4 _ ((cc + 1), (i + 1)) (by first | omega | (dsimp only; omega)) ⟨rfl, (by omega), (by rw [hcc, show 12 - i = (12 - (i + 1)) + 1 by omega, cn, hg]; simp only [cond_true, cond_false]; omega)⟩
    · skip
      subst c_16
      have hg : (mP L4 bo i).isSome = false := by rw [show mP L4 bo i = none from p_v13.symm]; rfl
      refine v_iconst (v := nI 0) C dX8_countBodies_19 (by decide) ?_
      refine v_goto (tgt := 24) C dX8_countBodies_20 (by decide) ?_
      refine n_iadd C dX8_countBodies_24 ?_
      refine v_istore_n C dX8_countBodies_25 (by decide) (by first | rfl | exact cat_ok _ | simp [okS, cat_rf]) ?_
      refine v_iinc C dX8_countBodies_26 rfl (nI_inc _) (by decide) (by first | rfl | exact cat_ok _ | simp [okS, cat_rf]) ?_
      refine v_goto (tgt := 4) C dX8_countBodies_29 (by decide) ?_
      refine V.lits (lv' := [_, _, _]) rfl ?_
      exact ih_4 _ ((cc + 0), (i + 1)) (by first | omega | (dsimp only; omega)) ⟨rfl, (by omega), (by rw [hcc, show 12 - i = (12 - (i + 1)) + 1 by omega, cn, hg]; simp only [cond_true, cond_false]; omega)⟩
set_option maxRecDepth 100000 in
set_option maxHeartbeats 4000000 in
theorem ft_X8_countGuards (l : Launch) (h : Nat) (bo : Nat) : Ct l yX8_countGuards cX8_countGuards 3 (some .int) 2 0 0 42 (fun S av => av = [.ref h] ∧ is S h 8 ∧ (mO S 514 h = some bo ∧ isA S bo 16 12)) (fun S _ r S' => ∃ v : Nat, r = some (.int (nI v)) ∧ v = cn (fun a => (mP S bo a).isSome) 12 0 ∧ S' = S) := by
  refine ct_of (by decide) (fun S av h => by obtain ⟨rfl, i_h, hb⟩ := h; exact Nat.le_of_ble_eq_true rfl) ?_
  intro p e s m args below meth c D G bs S av C hr hin hpre
  obtain ⟨rfl, i_h, hb⟩ := hpre
  refine v_iconst (v := nI 0) C dX8_countGuards_0 (by decide) ?_
  refine v_istore_n C dX8_countGuards_1 (by decide) (by first | rfl | exact cat_ok _ | simp [okS, cat_rf]) ?_
  refine v_iconst (v := nI 0) C dX8_countGuards_2 (by decide) ?_
  refine v_istore_n C dX8_countGuards_3 (by decide) (by first | rfl | exact cat_ok _ | simp [okS, cat_rf]) ?_
  refine V.lits (lv' := [_, _, _]) rfl ?_
  refine v_loop (fun (tt : (Nat) × (Nat)) lv0 => ((lv0.set 1 (some (.int (nI tt.1)))).set 2 (some (.int (nI tt.2))))) (fun (S1 : Mem) (tt : (Nat) × (Nat)) => S1 = S ∧ (tt.2 ≤ 12 ∧ tt.1 ≤ tt.2) ∧ (cn (fun a => (mP S1 bo a).isSome) 12 0 = tt.1 + cn (fun a => (mP S1 bo a).isSome) (12 - tt.2) tt.2)) (fun (S1 : Mem) (tt : (Nat) × (Nat)) => 12 - tt.2) (t := (0, 0)) rfl ⟨rfl, ⟨Nat.zero_le _, Nat.le_refl _⟩, (Nat.zero_add _).symm⟩ ?_
  intro L4 tt h_4 ih_4
  obtain ⟨cc, i⟩ := tt
  obtain ⟨e_S, hri, hcc⟩ := h_4
  subst e_S
  try dsimp only at *
  refine v_iload_n C dX8_countGuards_4 rfl ?_
  refine v_bipush (v := nI 12) C dX8_countGuards_5 (by decide) ?_
  refine n_icmp_ge (tgt := 32) C (by omega) (by omega) dX8_countGuards_7 (by decide) (fun c_7 => ?_) (fun c_7 => ?_)
  · skip
    refine v_iload_n C dX8_countGuards_32 rfl ?_
    refine v_iret C hr (Nat.le_of_ble_eq_true rfl) (Nat.le_of_ble_eq_true rfl) dX8_countGuards_33 ?_
    exact ⟨_, rfl, (by rw [hcc, show 12 - i = 0 by omega, cn, Nat.add_zero]), rfl⟩
  · skip
    have c_7 : i < 12 := by omega
    refine v_iload_n C dX8_countGuards_10 rfl ?_
    refine v_aload_n C dX8_countGuards_11 rfl ?_
    refine v_iload_n C dX8_countGuards_12 rfl ?_
    refine v_callV (As := [_]) (n := 1) C (ft_X8_guardFor l _ i bo) rfl i_h (by decide) rfl ⟨wd952, wd643, wd644, wd212, wd645⟩ ⟨rfl, hy_X8_guardFor⟩ rfl ⟨Nat.le_of_ble_eq_true rfl, Nat.le_of_ble_eq_true rfl⟩ (Nat.le_of_ble_eq_true rfl) ⟨Nat.le_of_ble_eq_true rfl, Nat.le_of_ble_eq_true rfl⟩ dX8_countGuards_13 ⟨rfl, i_h, c_7, hb⟩ (fun r_13 S2_13 h_13 => ?_)
    obtain ⟨v13, rfl, p_v13, q_v13⟩ := h_13
    obtain rfl := q_v13.symm
    refine v_ifnonnull (tgt := 23) C dX8_countGuards_16 (by decide) (fun b16 c_16 => ?_) (fun c_16 => ?_)
    · skip
      subst c_16
      have hg : (mP L4 bo i).isSome = true := by rw [show mP L4 bo i = some b16 from p_v13.symm]; rfl
      refine v_iconst (v := nI 1) C dX8_countGuards_23 (by decide) ?_
      refine n_iadd C dX8_countGuards_24 ?_
      refine v_istore_n C dX8_countGuards_25 (by decide) (by first | rfl | exact cat_ok _ | simp [okS, cat_rf]) ?_
      refine v_iinc C dX8_countGuards_26 rfl (nI_inc _) (by decide) (by first | rfl | exact cat_ok _ | simp [okS, cat_rf]) ?_
      refine v_goto (tgt := 4) C dX8_countGuards_29 (by decide) ?_
      refine V.lits (lv' := [_, _, _]) rfl ?_
      exact ih_4 _ ((cc + 1), (i + 1)) (by first | omega | (dsimp only; omega)) ⟨rfl, (by omega), (by rw [hcc, show 12 - i = (12 - (i + 1)) + 1 by omega, cn, hg]; simp only [cond_true, cond_false]; omega)⟩
    · skip
      subst c_16
      have hg : (mP L4 bo i).isSome = false := by rw [show mP L4 bo i = none from p_v13.symm]; rfl
      refine v_iconst (v := nI 0) C dX8_countGuards_19 (by decide) ?_
      refine v_goto (tgt := 24) C dX8_countGuards_20 (by decide) ?_
      refine n_iadd C dX8_countGuards_24 ?_
      refine v_istore_n C dX8_countGuards_25 (by decide) (by first | rfl | exact cat_ok _ | simp [okS, cat_rf]) ?_
      refine v_iinc C dX8_countGuards_26 rfl (nI_inc _) (by decide) (by first | rfl | exact cat_ok _ | simp [okS, cat_rf]) ?_
      refine v_goto (tgt := 4) C dX8_countGuards_29 (by decide) ?_
      refine V.lits (lv' := [_, _, _]) rfl ?_
      exact ih_4 _ ((cc + 0), (i + 1)) (by first | omega | (dsimp only; omega)) ⟨rfl, (by omega), (by rw [hcc, show 12 - i = (12 - (i + 1)) + 1 by omega, cn, hg]; simp only [cond_true, cond_false]; omega)⟩
set_option maxRecDepth 100000 in
set_option maxHeartbeats 4000000 in
theorem ft_X1_countBodies (l : Launch) (M : Nat → Prop) (h : Nat) (x : Nat) (W : Nat → Nat) (pt : Nat → Option Nat) (K : RS) : Ct l yX1_countBodies cX1_countBodies 4 (some .int) 3 0 0 64 (fun S av => av = [.ref h] ∧ INV M [] S ∧ is S h 1 ∧ (rep S x M W pt K) ∧ (RV K) ∧ (h = W 0)) (fun S _ r S' => ∃ v : Nat, r = some (.int (nI v)) ∧ v = cn (hasP K 0) 240 0 ∧ S' = S) := by
  refine ct_of (by decide) (fun S av h => by obtain ⟨rfl, iv, i_h, hrp, rv, hh⟩ := h; exact Nat.le_of_ble_eq_true rfl) ?_
  intro p e s m args below meth c D G bs S av C hr hin hpre
  obtain ⟨rfl, iv, i_h, hrp, rv, hh⟩ := hpre
  obtain ⟨r1, r2, r3, r4, r5, r6, ⟨k1, k2, k3, k4, k5, k6, k7, k8⟩, r8, r9, r10⟩ := id hrp
  have hT20 := r4.2.2.2.2.1
  have hC12 := k1.2.2.2.1
  have hT : trS S h (fN K 0) (aA W) (tlist K) := by rw [hh]; exact r4
  have eT := hT.2.2.2.1
  refine v_iconst (v := nI 0) C dX1_countBodies_0 (by decide) ?_
  refine v_istore_n C dX1_countBodies_1 (by decide) (by first | rfl | exact cat_ok _ | simp [okS, cat_rf]) ?_
  refine v_iconst (v := nI 0) C dX1_countBodies_2 (by decide) ?_
  refine v_istore_n C dX1_countBodies_3 (by decide) (by first | rfl | exact cat_ok _ | simp [okS, cat_rf]) ?_
  refine V.lits (lv' := [_, _, _, _]) rfl ?_
  refine v_loop (fun (tt : (Nat) × (Nat)) lv0 => ((lv0.set 1 (some (.int (nI tt.1)))).set 2 (some (.int (nI tt.2))))) (fun (S1 : Mem) (tt : (Nat) × (Nat)) => S1 = S ∧ (tt.2 ≤ fN K 0 ∧ tt.1 ≤ 12 * tt.2) ∧ (cn (hasP K 0) 240 0 = tt.1 + cn (hasP K 0) (240 - 12 * tt.2) (12 * tt.2))) (fun (S1 : Mem) (tt : (Nat) × (Nat)) => fN K 0 - tt.2) (t := (0, 0)) rfl ⟨rfl, ⟨Nat.zero_le _, Nat.le_refl _⟩, (Nat.zero_add _).symm⟩ ?_
  intro L4 tt h_4 ih_4
  obtain ⟨cc, i⟩ := tt
  obtain ⟨e_S, hri, hcc⟩ := h_4
  subst e_S
  try dsimp only at *
  refine v_iload_n C dX1_countBodies_4 rfl ?_
  refine v_aload_n C dX1_countBodies_5 rfl ?_
  refine g1_76 C i_h dX1_countBodies_6 ?_
  refine v_val eT ?_
  refine n_icmp_ge (tgt := 39) C (by omega) (by omega) dX1_countBodies_9 (by decide) (fun c_9 => ?_) (fun c_9 => ?_)
  · skip
    refine v_iload_n C dX1_countBodies_39 rfl ?_
    refine v_iret C hr (Nat.le_of_ble_eq_true rfl) (Nat.le_of_ble_eq_true rfl) dX1_countBodies_40 ?_
    exact ⟨_, rfl, (by rw [hcc, cn_zero (240 - 12 * i) (12 * i) (fun q h1 h2 => by unfold hasP; have := (r10.1 (q / 12) (q % 12) (by omega) (by omega) (by omega)).1; rw [show 12 * (q / 12) + q % 12 = q + 0 by omega] at this; rw [decide_eq_true this]; rfl), Nat.add_zero]), rfl⟩
  · skip
    have hi : i < fN K 0 := by omega
    refine v_aload_n C dX1_countBodies_12 rfl ?_
    refine v_iload_n C dX1_countBodies_13 rfl ?_
    refine v_callV (As := [_]) (n := 1) C (ft_X1_traitAt l _ _ (fN K 0) (aA W) (tlist K)) rfl i_h (by decide) rfl ⟨wd137, wd138, wd139, wd15, wd140⟩ ⟨rfl, hy_X1_traitAt⟩ rfl ⟨Nat.le_of_ble_eq_true rfl, Nat.le_of_ble_eq_true rfl⟩ (Nat.le_of_ble_eq_true rfl) ⟨Nat.le_of_ble_eq_true rfl, Nat.le_of_ble_eq_true rfl⟩ dX1_countBodies_14 ⟨rfl, i_h, hT⟩ (fun r_14 S2_14 h_14 => ?_)
    obtain ⟨v14, rfl, p_v14, q_v14⟩ := h_14
    obtain rfl := q_v14.symm
    have p_w := p_v14.trans ((trO_nI hT20 (by omega)).trans (if_pos hi))
    refine v_qstore_n C dX1_countBodies_17 (by decide) (by first | rfl | exact cat_ok _ | simp [okS, cat_rf]) ?_
    refine v_iload_n C dX1_countBodies_18 rfl ?_
    refine v_qload_n C dX1_countBodies_19 rfl ?_
    refine v_ifnonnull (tgt := 27) C dX1_countBodies_20 (by decide) (fun b20 c_20 => ?_) (fun c_20 => ?_)
    · skip
      subst c_20
      obtain rfl : b20 = W (6 * i + 100) := Option.some.inj p_w
      have i_tr : is L4 (W (6 * i + 100)) 8 := trs_is r4 hi
      obtain ⟨b1, b2, b3, b4, b5⟩ := r6 i hi
      refine v_aload_n C dX1_countBodies_27 rfl ?_
      refine v_callV (As := []) (n := 0) C (ft_X8_countBodies l _ (W (6 * i + 104))) rfl i_tr (by decide) rfl ⟨wd939, wd940, wd941, wd212, wd942⟩ ⟨rfl, hy_X8_countBodies⟩ rfl ⟨Nat.le_of_ble_eq_true rfl, Nat.le_of_ble_eq_true rfl⟩ (Nat.le_of_ble_eq_true rfl) ⟨Nat.le_of_ble_eq_true rfl, Nat.le_of_ble_eq_true rfl⟩ dX1_countBodies_28 ⟨rfl, i_tr, ⟨b1, b3⟩⟩ (fun r_28 S4_28 h_28 => ?_)
      obtain ⟨v28, rfl, p_v28, q_v28⟩ := h_28
      obtain rfl := q_v28.symm
      have hv : v28 = cn (hasP K 0) 12 (12 * i) := by
        rw [p_v28]
        rw [← Nat.add_zero (12 * i), ← cn_shift]
        refine cn_cg _ _ (fun a _ ha => ?_)
        rw [(b5 a (by omega)).1, has_pt r8 (by omega)]
        unfold hasP
        rw [show 12 * i + a + 0 = 12 * i + a by omega]
      have hv12 := cn_le (p := hasP K 0) 12 (12 * i)
      refine n_iadd C dX1_countBodies_31 ?_
      refine v_istore_n C dX1_countBodies_32 (by decide) (by first | rfl | exact cat_ok _ | simp [okS, cat_rf]) ?_
      refine v_iinc C dX1_countBodies_33 rfl (nI_inc _) (by decide) (by first | rfl | exact cat_ok _ | simp [okS, cat_rf]) ?_
      refine v_goto (tgt := 4) C dX1_countBodies_36 (by decide) ?_
      refine V.drop 3 ?_
      refine V.lits (lv' := [_, _, _, _]) rfl ?_
      exact ih_4 _ ((cc + v28), (i + 1)) (by first | omega | (dsimp only; omega)) ⟨rfl, (by omega), (by show cn (hasP K 0) 240 0 = (cc + v28) + cn (hasP K 0) (240 - 12 * (i + 1)) (12 * (i + 1)); rw [hcc, show 240 - 12 * i = 12 + (240 - 12 * (i + 1)) by omega, cn_add, ← hv, show 12 * i + 12 = 12 * (i + 1) by omega]; omega)⟩
    · skip
      rw [c_20] at p_w; cases p_w
set_option maxRecDepth 100000 in
set_option maxHeartbeats 4000000 in
theorem ft_X1_countGuards (l : Launch) (M : Nat → Prop) (h : Nat) (x : Nat) (W : Nat → Nat) (pt : Nat → Option Nat) (K : RS) : Ct l yX1_countGuards cX1_countGuards 4 (some .int) 3 0 0 64 (fun S av => av = [.ref h] ∧ INV M [] S ∧ is S h 1 ∧ (rep S x M W pt K) ∧ (RV K) ∧ (h = W 0)) (fun S _ r S' => ∃ v : Nat, r = some (.int (nI v)) ∧ v = cn (hasP K 240) 240 0 ∧ S' = S) := by
  refine ct_of (by decide) (fun S av h => by obtain ⟨rfl, iv, i_h, hrp, rv, hh⟩ := h; exact Nat.le_of_ble_eq_true rfl) ?_
  intro p e s m args below meth c D G bs S av C hr hin hpre
  obtain ⟨rfl, iv, i_h, hrp, rv, hh⟩ := hpre
  obtain ⟨r1, r2, r3, r4, r5, r6, ⟨k1, k2, k3, k4, k5, k6, k7, k8⟩, r8, r9, r10⟩ := id hrp
  have hT20 := r4.2.2.2.2.1
  have hC12 := k1.2.2.2.1
  have hT : trS S h (fN K 0) (aA W) (tlist K) := by rw [hh]; exact r4
  have eT := hT.2.2.2.1
  refine v_iconst (v := nI 0) C dX1_countGuards_0 (by decide) ?_
  refine v_istore_n C dX1_countGuards_1 (by decide) (by first | rfl | exact cat_ok _ | simp [okS, cat_rf]) ?_
  refine v_iconst (v := nI 0) C dX1_countGuards_2 (by decide) ?_
  refine v_istore_n C dX1_countGuards_3 (by decide) (by first | rfl | exact cat_ok _ | simp [okS, cat_rf]) ?_
  refine V.lits (lv' := [_, _, _, _]) rfl ?_
  refine v_loop (fun (tt : (Nat) × (Nat)) lv0 => ((lv0.set 1 (some (.int (nI tt.1)))).set 2 (some (.int (nI tt.2))))) (fun (S1 : Mem) (tt : (Nat) × (Nat)) => S1 = S ∧ (tt.2 ≤ fN K 0 ∧ tt.1 ≤ 12 * tt.2) ∧ (cn (hasP K 240) 240 0 = tt.1 + cn (hasP K 240) (240 - 12 * tt.2) (12 * tt.2))) (fun (S1 : Mem) (tt : (Nat) × (Nat)) => fN K 0 - tt.2) (t := (0, 0)) rfl ⟨rfl, ⟨Nat.zero_le _, Nat.le_refl _⟩, (Nat.zero_add _).symm⟩ ?_
  intro L4 tt h_4 ih_4
  obtain ⟨cc, i⟩ := tt
  obtain ⟨e_S, hri, hcc⟩ := h_4
  subst e_S
  try dsimp only at *
  refine v_iload_n C dX1_countGuards_4 rfl ?_
  refine v_aload_n C dX1_countGuards_5 rfl ?_
  refine g1_76 C i_h dX1_countGuards_6 ?_
  refine v_val eT ?_
  refine n_icmp_ge (tgt := 39) C (by omega) (by omega) dX1_countGuards_9 (by decide) (fun c_9 => ?_) (fun c_9 => ?_)
  · skip
    refine v_iload_n C dX1_countGuards_39 rfl ?_
    refine v_iret C hr (Nat.le_of_ble_eq_true rfl) (Nat.le_of_ble_eq_true rfl) dX1_countGuards_40 ?_
    exact ⟨_, rfl, (by rw [hcc, cn_zero (240 - 12 * i) (12 * i) (fun q h1 h2 => by unfold hasP; have := (r10.1 (q / 12) (q % 12) (by omega) (by omega) (by omega)).2; rw [show 240 + 12 * (q / 12) + q % 12 = q + 240 by omega] at this; rw [decide_eq_true this]; rfl), Nat.add_zero]), rfl⟩
  · skip
    have hi : i < fN K 0 := by omega
    refine v_aload_n C dX1_countGuards_12 rfl ?_
    refine v_iload_n C dX1_countGuards_13 rfl ?_
    refine v_callV (As := [_]) (n := 1) C (ft_X1_traitAt l _ _ (fN K 0) (aA W) (tlist K)) rfl i_h (by decide) rfl ⟨wd137, wd138, wd139, wd15, wd140⟩ ⟨rfl, hy_X1_traitAt⟩ rfl ⟨Nat.le_of_ble_eq_true rfl, Nat.le_of_ble_eq_true rfl⟩ (Nat.le_of_ble_eq_true rfl) ⟨Nat.le_of_ble_eq_true rfl, Nat.le_of_ble_eq_true rfl⟩ dX1_countGuards_14 ⟨rfl, i_h, hT⟩ (fun r_14 S2_14 h_14 => ?_)
    obtain ⟨v14, rfl, p_v14, q_v14⟩ := h_14
    obtain rfl := q_v14.symm
    have p_w := p_v14.trans ((trO_nI hT20 (by omega)).trans (if_pos hi))
    refine v_qstore_n C dX1_countGuards_17 (by decide) (by first | rfl | exact cat_ok _ | simp [okS, cat_rf]) ?_
    refine v_iload_n C dX1_countGuards_18 rfl ?_
    refine v_qload_n C dX1_countGuards_19 rfl ?_
    refine v_ifnonnull (tgt := 27) C dX1_countGuards_20 (by decide) (fun b20 c_20 => ?_) (fun c_20 => ?_)
    · skip
      subst c_20
      obtain rfl : b20 = W (6 * i + 100) := Option.some.inj p_w
      have i_tr : is L4 (W (6 * i + 100)) 8 := trs_is r4 hi
      obtain ⟨b1, b2, b3, b4, b5⟩ := r6 i hi
      refine v_aload_n C dX1_countGuards_27 rfl ?_
      refine v_callV (As := []) (n := 0) C (ft_X8_countGuards l _ (W (6 * i + 105))) rfl i_tr (by decide) rfl ⟨wd948, wd949, wd950, wd212, wd951⟩ ⟨rfl, hy_X8_countGuards⟩ rfl ⟨Nat.le_of_ble_eq_true rfl, Nat.le_of_ble_eq_true rfl⟩ (Nat.le_of_ble_eq_true rfl) ⟨Nat.le_of_ble_eq_true rfl, Nat.le_of_ble_eq_true rfl⟩ dX1_countGuards_28 ⟨rfl, i_tr, ⟨b2, b4⟩⟩ (fun r_28 S4_28 h_28 => ?_)
      obtain ⟨v28, rfl, p_v28, q_v28⟩ := h_28
      obtain rfl := q_v28.symm
      have hv : v28 = cn (hasP K 240) 12 (12 * i) := by
        rw [p_v28]
        rw [← Nat.add_zero (12 * i), ← cn_shift]
        refine cn_cg _ _ (fun a _ ha => ?_)
        rw [(b5 a (by omega)).2, has_pt r8 (by omega)]
        unfold hasP
        rw [show 12 * i + a + 240 = 240 + 12 * i + a by omega]
      have hv12 := cn_le (p := hasP K 240) 12 (12 * i)
      refine n_iadd C dX1_countGuards_31 ?_
      refine v_istore_n C dX1_countGuards_32 (by decide) (by first | rfl | exact cat_ok _ | simp [okS, cat_rf]) ?_
      refine v_iinc C dX1_countGuards_33 rfl (nI_inc _) (by decide) (by first | rfl | exact cat_ok _ | simp [okS, cat_rf]) ?_
      refine v_goto (tgt := 4) C dX1_countGuards_36 (by decide) ?_
      refine V.drop 3 ?_
      refine V.lits (lv' := [_, _, _, _]) rfl ?_
      exact ih_4 _ ((cc + v28), (i + 1)) (by first | omega | (dsimp only; omega)) ⟨rfl, (by omega), (by show cn (hasP K 240) 240 0 = (cc + v28) + cn (hasP K 240) (240 - 12 * (i + 1)) (12 * (i + 1)); rw [hcc, show 240 - 12 * i = 12 + (240 - 12 * (i + 1)) by omega, cn_add, ← hv, show 12 * i + 12 = 12 * (i + 1) by omega]; omega)⟩
    · skip
      rw [c_20] at p_w; cases p_w
set_option maxRecDepth 100000 in
set_option maxHeartbeats 4000000 in
theorem ft_X1_countClashes (l : Launch) (M : Nat → Prop) (h : Nat) (cq : Nat) (x : Nat) (W : Nat → Nat) (pt : Nat → Option Nat) (K : RS) : Ct l yX1_countClashes cX1_countClashes 4 (some .int) 4 0 0 96 (fun S av => av = [.ref h] ∧ INV M [] S ∧ is S h 1 ∧ (mO S 69 h = some cq ∧ is S cq 0) ∧ (rep S x M W pt K) ∧ (RV K) ∧ (h = W 0)) (fun S _ r S' => ∃ v : Nat, r = some (.int (nI v)) ∧ v = sm (rowN K 4) (fN K 3) 0 ∧ INV M [] S' ∧ chg S S' [] [] [(0, cq), (2, cq), (3, cq), (7, cq), (8, cq), (9, cq)] [(1, cq), (4, cq), (5, cq), (6, cq)] ∧ (rep S' x M W pt K)) := by
  refine ct_of (by decide) (fun S av h => by obtain ⟨rfl, iv, i_h, hch, hrp, rv, hh⟩ := h; exact Nat.le_of_ble_eq_true rfl) ?_
  intro p e s m args below meth c D G bs S av C hr hin hpre
  obtain ⟨rfl, iv, i_h, hch, hrp, rv, hh⟩ := hpre
  have ch : chg S S [] [] [(0, cq), (2, cq), (3, cq), (7, cq), (8, cq), (9, cq)] [(1, cq), (4, cq), (5, cq), (6, cq)] := ch_rfl
  obtain ⟨o_ch, i_ch⟩ := hch
  have hC12 := hrp.2.2.2.2.2.2.1.1.2.2.2.1
  refine v_iconst (v := nI 0) C dX1_countClashes_0 (by decide) ?_
  refine v_istore_n C dX1_countClashes_1 (by decide) (by first | rfl | exact cat_ok _ | simp [okS, cat_rf]) ?_
  refine v_iconst (v := nI 0) C dX1_countClashes_2 (by decide) ?_
  refine v_istore_n C dX1_countClashes_3 (by decide) (by first | rfl | exact cat_ok _ | simp [okS, cat_rf]) ?_
  refine V.lits (lv' := [_, _, _, _]) rfl ?_
  refine v_loop (fun (tt : (Nat) × (Nat)) lv0 => ((lv0.set 1 (some (.int (nI tt.1)))).set 2 (some (.int (nI tt.2))))) (fun (S1 : Mem) (tt : (Nat) × (Nat)) => INV M [] S1 ∧ chg S S1 [] [] [(0, cq), (2, cq), (3, cq), (7, cq), (8, cq), (9, cq)] [(1, cq), (4, cq), (5, cq), (6, cq)] ∧ is S1 h 1 ∧ is S1 cq 0 ∧ mO S1 69 h = some cq ∧ (tt.2 ≤ 12 * fN K 3 ∧ tt.1 ≤ tt.2) ∧ (rep S1 x M W pt K) ∧ (sm (rowN K 4) (fN K 3) 0 = tt.1 + cn (pkI K 4) (12 * fN K 3 - tt.2) tt.2)) (fun (S1 : Mem) (tt : (Nat) × (Nat)) => 12 * fN K 3 - tt.2) (t := (0, 0)) rfl ⟨iv, ch, i_h, i_ch, o_ch, ⟨Nat.zero_le _, Nat.le_refl _⟩, hrp, (by rw [sm_cn, Nat.zero_add]; rfl)⟩ ?_
  intro L4 tt h_4 ih_4
  obtain ⟨cc, i⟩ := tt
  obtain ⟨iv, ch, i_h, i_ch, o_ch, hri, rp2, hcc⟩ := h_4
  try dsimp only at *
  have k1 := rp2.2.2.2.2.2.2.1.1
  have k2 := rp2.2.2.2.2.2.2.1.2.1
  have eC : mI L4 67 h = nI (fN K 3) := by rw [hh]; exact k1.2.2.1
  refine v_iload_n C dX1_countClashes_4 rfl ?_
  refine v_aload_n C dX1_countClashes_5 rfl ?_
  refine g1_92 C i_h dX1_countClashes_6 ?_
  refine v_val eC ?_
  refine v_bipush (v := nI 12) C dX1_countClashes_9 (by decide) ?_
  refine n_imul C dX1_countClashes_11 ?_
  refine n_icmp_ge (tgt := 57) C (by omega) (by omega) dX1_countClashes_12 (by decide) (fun c_12 => ?_) (fun c_12 => ?_)
  · skip
    refine v_iload_n C dX1_countClashes_57 rfl ?_
    refine v_iret C hr (Nat.le_of_ble_eq_true rfl) (Nat.le_of_ble_eq_true rfl) dX1_countClashes_58 ?_
    exact ⟨_, rfl, (by rw [hcc, show 12 * fN K 3 - i = 0 by omega, cn, Nat.add_zero]), iv, ch, (rp2)⟩
  · skip
    have hi : i < 12 * fN K 3 := by omega
    obtain ⟨dv1, dv2⟩ := dv_ok i (List.mem_range.mpr (by omega))
    have hk : i / 12 < fN K 3 := by omega
    have ha : i % 12 < 12 := by omega
    refine v_aload_n C dX1_countClashes_15 rfl ?_
    refine v_iload_n C dX1_countClashes_16 rfl ?_
    refine v_bipush (v := nI 12) C dX1_countClashes_17 (by decide) ?_
    refine v_idiv C dX1_countClashes_19 (by decide) ?_
    refine v_val (y := nI (i / 12)) dv1 ?_
    refine v_callV (As := [_]) (n := 1) C (ft_X1_figureAt l _ _ W (fN K 3)) rfl i_h (by decide) rfl ⟨wd958, wd301, wd302, wd15, wd303⟩ ⟨rfl, hy_X1_figureAt⟩ rfl ⟨Nat.le_of_ble_eq_true rfl, Nat.le_of_ble_eq_true rfl⟩ (Nat.le_of_ble_eq_true rfl) ⟨Nat.le_of_ble_eq_true rfl, Nat.le_of_ble_eq_true rfl⟩ dX1_countClashes_20 ⟨rfl, i_h, hh, k1⟩ (fun r_20 S2_20 h_20 => ?_)
    obtain ⟨v20, rfl, p_v20, q_v20⟩ := h_20
    obtain rfl := q_v20.symm
    have p_w := p_v20.trans ((fgO_nI hC12 (by omega)).trans (if_pos hk))
    refine v_qstore_n C dX1_countClashes_23 (by decide) (by first | rfl | exact cat_ok _ | simp [okS, cat_rf]) ?_
    refine v_iload_n C dX1_countClashes_24 rfl ?_
    refine v_qload_n C dX1_countClashes_25 rfl ?_
    refine v_ifnull (tgt := 48) C dX1_countClashes_26 (by decide) (fun c_26 => ?_) (fun b26 c_26 => ?_)
    · skip
      rw [c_26] at p_w; cases p_w
    · skip
      subst c_26
      obtain rfl : b26 = W (10 * (i / 12) + 300) := Option.some.inj p_w
      have i_gv := (k2 (i / 12) hk).1
      refine v_aload_n C dX1_countClashes_29 rfl ?_
      refine v_aload_n C dX1_countClashes_30 rfl ?_
      refine v_iload_n C dX1_countClashes_31 rfl ?_
      refine v_bipush (v := nI 12) C dX1_countClashes_32 (by decide) ?_
      refine v_irem C dX1_countClashes_34 (by decide) ?_
      refine v_val (y := nI (i % 12)) dv2 ?_
      refine v_callV (As := [_, _]) (n := 2) C (ft_X1_weigh l M _ _ _ cq x W pt K (i / 12)) rfl i_h (by decide) rfl ⟨wd655, wd523, wd524, wd15, wd525⟩ ⟨rfl, hy_X1_weigh⟩ rfl ⟨Nat.le_of_ble_eq_true rfl, Nat.le_of_ble_eq_true rfl⟩ (Nat.le_of_ble_eq_true rfl) ⟨Nat.le_of_ble_eq_true rfl, Nat.le_of_ble_eq_true rfl⟩ dX1_countClashes_35 ⟨rfl, iv, i_h, i_gv, ⟨o_ch, i_ch⟩, rp2, rv, hh, rfl, hk, ha⟩ (fun r_35 S4_35 h_35 => ?_)
      obtain ⟨v35, rfl, p_v35, iv', ch_35, r_v35⟩ := h_35
      have iv := iv'
      clear iv'
      have ch := ch_tr ch ch_35 (by simp)
      have o_ch := mo_ch ch_35 i_h (by first | decide | simp) o_ch
      have i_h := is_ch ch_35 i_h
      have i_ch := is_ch ch_35 i_ch
      have i_gv := is_ch ch_35 i_gv
      rw [p_v35]
      obtain ⟨rp3, cr2⟩ := r_v35
      have hcl2 := clashF_le K (i / 12) (i % 12)
      refine g1_196 C i_ch dX1_countClashes_38 ?_
      refine v_val cr2.2.1 ?_
      refine n_if_eq (tgt := 48) C (by omega) dX1_countClashes_41 (by decide) (fun c_41 => ?_) (fun c_41 => ?_)
      · skip
        have hg : pkI K 4 i = false := decide_eq_false (by omega)
        refine v_iconst (v := nI 0) C dX1_countClashes_48 (by decide) ?_
        refine n_iadd C dX1_countClashes_49 ?_
        refine v_istore_n C dX1_countClashes_50 (by decide) (by first | rfl | exact cat_ok _ | simp [okS, cat_rf]) ?_
        refine v_iinc C dX1_countClashes_51 rfl (nI_inc _) (by decide) (by first | rfl | exact cat_ok _ | simp [okS, cat_rf]) ?_
        refine v_goto (tgt := 4) C dX1_countClashes_54 (by decide) ?_
        refine V.drop 3 ?_
        refine V.lits (lv' := [_, _, _, _]) rfl ?_
        exact ih_4 _ ((cc + 0), (i + 1)) (by first | omega | (dsimp only; omega)) ⟨iv, ch, i_h, i_ch, o_ch, (by omega), rp3, (by rw [hcc, show 12 * fN K 3 - i = (12 * fN K 3 - (i + 1)) + 1 by omega, cn, hg]; simp only [cond_true, cond_false]; omega)⟩
      · skip
        have hg : pkI K 4 i = true := decide_eq_true c_41
        refine v_iconst (v := nI 1) C dX1_countClashes_44 (by decide) ?_
        refine v_goto (tgt := 49) C dX1_countClashes_45 (by decide) ?_
        refine n_iadd C dX1_countClashes_49 ?_
        refine v_istore_n C dX1_countClashes_50 (by decide) (by first | rfl | exact cat_ok _ | simp [okS, cat_rf]) ?_
        refine v_iinc C dX1_countClashes_51 rfl (nI_inc _) (by decide) (by first | rfl | exact cat_ok _ | simp [okS, cat_rf]) ?_
        refine v_goto (tgt := 4) C dX1_countClashes_54 (by decide) ?_
        refine V.drop 3 ?_
        refine V.lits (lv' := [_, _, _, _]) rfl ?_
        exact ih_4 _ ((cc + 1), (i + 1)) (by first | omega | (dsimp only; omega)) ⟨iv, ch, i_h, i_ch, o_ch, (by omega), rp3, (by rw [hcc, show 12 * fN K 3 - i = (12 * fN K 3 - (i + 1)) + 1 by omega, cn, hg]; simp only [cond_true, cond_false]; omega)⟩
set_option maxRecDepth 100000 in
set_option maxHeartbeats 4000000 in
theorem ft_X1_countMissing (l : Launch) (M : Nat → Prop) (h : Nat) (cq : Nat) (x : Nat) (W : Nat → Nat) (pt : Nat → Option Nat) (K : RS) : Ct l yX1_countMissing cX1_countMissing 4 (some .int) 4 0 0 96 (fun S av => av = [.ref h] ∧ INV M [] S ∧ is S h 1 ∧ (mO S 69 h = some cq ∧ is S cq 0) ∧ (rep S x M W pt K) ∧ (RV K) ∧ (h = W 0)) (fun S _ r S' => ∃ v : Nat, r = some (.int (nI v)) ∧ v = sm (rowN K 5) (fN K 3) 0 ∧ INV M [] S' ∧ chg S S' [] [] [(0, cq), (2, cq), (3, cq), (7, cq), (8, cq), (9, cq)] [(1, cq), (4, cq), (5, cq), (6, cq)] ∧ (rep S' x M W pt K)) := by
  refine ct_of (by decide) (fun S av h => by obtain ⟨rfl, iv, i_h, hch, hrp, rv, hh⟩ := h; exact Nat.le_of_ble_eq_true rfl) ?_
  intro p e s m args below meth c D G bs S av C hr hin hpre
  obtain ⟨rfl, iv, i_h, hch, hrp, rv, hh⟩ := hpre
  have ch : chg S S [] [] [(0, cq), (2, cq), (3, cq), (7, cq), (8, cq), (9, cq)] [(1, cq), (4, cq), (5, cq), (6, cq)] := ch_rfl
  obtain ⟨o_ch, i_ch⟩ := hch
  have hC12 := hrp.2.2.2.2.2.2.1.1.2.2.2.1
  refine v_iconst (v := nI 0) C dX1_countMissing_0 (by decide) ?_
  refine v_istore_n C dX1_countMissing_1 (by decide) (by first | rfl | exact cat_ok _ | simp [okS, cat_rf]) ?_
  refine v_iconst (v := nI 0) C dX1_countMissing_2 (by decide) ?_
  refine v_istore_n C dX1_countMissing_3 (by decide) (by first | rfl | exact cat_ok _ | simp [okS, cat_rf]) ?_
  refine V.lits (lv' := [_, _, _, _]) rfl ?_
  refine v_loop (fun (tt : (Nat) × (Nat)) lv0 => ((lv0.set 1 (some (.int (nI tt.1)))).set 2 (some (.int (nI tt.2))))) (fun (S1 : Mem) (tt : (Nat) × (Nat)) => INV M [] S1 ∧ chg S S1 [] [] [(0, cq), (2, cq), (3, cq), (7, cq), (8, cq), (9, cq)] [(1, cq), (4, cq), (5, cq), (6, cq)] ∧ is S1 h 1 ∧ is S1 cq 0 ∧ mO S1 69 h = some cq ∧ (tt.2 ≤ 12 * fN K 3 ∧ tt.1 ≤ tt.2) ∧ (rep S1 x M W pt K) ∧ (sm (rowN K 5) (fN K 3) 0 = tt.1 + cn (pkI K 5) (12 * fN K 3 - tt.2) tt.2)) (fun (S1 : Mem) (tt : (Nat) × (Nat)) => 12 * fN K 3 - tt.2) (t := (0, 0)) rfl ⟨iv, ch, i_h, i_ch, o_ch, ⟨Nat.zero_le _, Nat.le_refl _⟩, hrp, (by rw [sm_cn, Nat.zero_add]; rfl)⟩ ?_
  intro L4 tt h_4 ih_4
  obtain ⟨cc, i⟩ := tt
  obtain ⟨iv, ch, i_h, i_ch, o_ch, hri, rp2, hcc⟩ := h_4
  try dsimp only at *
  have k1 := rp2.2.2.2.2.2.2.1.1
  have k2 := rp2.2.2.2.2.2.2.1.2.1
  have eC : mI L4 67 h = nI (fN K 3) := by rw [hh]; exact k1.2.2.1
  refine v_iload_n C dX1_countMissing_4 rfl ?_
  refine v_aload_n C dX1_countMissing_5 rfl ?_
  refine g1_92 C i_h dX1_countMissing_6 ?_
  refine v_val eC ?_
  refine v_bipush (v := nI 12) C dX1_countMissing_9 (by decide) ?_
  refine n_imul C dX1_countMissing_11 ?_
  refine n_icmp_ge (tgt := 59) C (by omega) (by omega) dX1_countMissing_12 (by decide) (fun c_12 => ?_) (fun c_12 => ?_)
  · skip
    refine v_iload_n C dX1_countMissing_59 rfl ?_
    refine v_iret C hr (Nat.le_of_ble_eq_true rfl) (Nat.le_of_ble_eq_true rfl) dX1_countMissing_60 ?_
    exact ⟨_, rfl, (by rw [hcc, show 12 * fN K 3 - i = 0 by omega, cn, Nat.add_zero]), iv, ch, (rp2)⟩
  · skip
    have hi : i < 12 * fN K 3 := by omega
    obtain ⟨dv1, dv2⟩ := dv_ok i (List.mem_range.mpr (by omega))
    have hk : i / 12 < fN K 3 := by omega
    have ha : i % 12 < 12 := by omega
    refine v_aload_n C dX1_countMissing_15 rfl ?_
    refine v_iload_n C dX1_countMissing_16 rfl ?_
    refine v_bipush (v := nI 12) C dX1_countMissing_17 (by decide) ?_
    refine v_idiv C dX1_countMissing_19 (by decide) ?_
    refine v_val (y := nI (i / 12)) dv1 ?_
    refine v_callV (As := [_]) (n := 1) C (ft_X1_figureAt l _ _ W (fN K 3)) rfl i_h (by decide) rfl ⟨wd958, wd301, wd302, wd15, wd303⟩ ⟨rfl, hy_X1_figureAt⟩ rfl ⟨Nat.le_of_ble_eq_true rfl, Nat.le_of_ble_eq_true rfl⟩ (Nat.le_of_ble_eq_true rfl) ⟨Nat.le_of_ble_eq_true rfl, Nat.le_of_ble_eq_true rfl⟩ dX1_countMissing_20 ⟨rfl, i_h, hh, k1⟩ (fun r_20 S2_20 h_20 => ?_)
    obtain ⟨v20, rfl, p_v20, q_v20⟩ := h_20
    obtain rfl := q_v20.symm
    have p_w := p_v20.trans ((fgO_nI hC12 (by omega)).trans (if_pos hk))
    refine v_qstore_n C dX1_countMissing_23 (by decide) (by first | rfl | exact cat_ok _ | simp [okS, cat_rf]) ?_
    refine v_iload_n C dX1_countMissing_24 rfl ?_
    refine v_qload_n C dX1_countMissing_25 rfl ?_
    refine v_ifnull (tgt := 50) C dX1_countMissing_26 (by decide) (fun c_26 => ?_) (fun b26 c_26 => ?_)
    · skip
      rw [c_26] at p_w; cases p_w
    · skip
      subst c_26
      obtain rfl : b26 = W (10 * (i / 12) + 300) := Option.some.inj p_w
      have i_gv := (k2 (i / 12) hk).1
      refine v_aload_n C dX1_countMissing_29 rfl ?_
      refine v_aload_n C dX1_countMissing_30 rfl ?_
      refine v_iload_n C dX1_countMissing_31 rfl ?_
      refine v_bipush (v := nI 12) C dX1_countMissing_32 (by decide) ?_
      refine v_irem C dX1_countMissing_34 (by decide) ?_
      refine v_val (y := nI (i % 12)) dv2 ?_
      refine v_callV (As := [_, _]) (n := 2) C (ft_X1_weigh l M _ _ _ cq x W pt K (i / 12)) rfl i_h (by decide) rfl ⟨wd655, wd523, wd524, wd15, wd525⟩ ⟨rfl, hy_X1_weigh⟩ rfl ⟨Nat.le_of_ble_eq_true rfl, Nat.le_of_ble_eq_true rfl⟩ (Nat.le_of_ble_eq_true rfl) ⟨Nat.le_of_ble_eq_true rfl, Nat.le_of_ble_eq_true rfl⟩ dX1_countMissing_35 ⟨rfl, iv, i_h, i_gv, ⟨o_ch, i_ch⟩, rp2, rv, hh, rfl, hk, ha⟩ (fun r_35 S4_35 h_35 => ?_)
      obtain ⟨v35, rfl, p_v35, iv', ch_35, r_v35⟩ := h_35
      have iv := iv'
      clear iv'
      have ch := ch_tr ch ch_35 (by simp)
      have o_ch := mo_ch ch_35 i_h (by first | decide | simp) o_ch
      have i_h := is_ch ch_35 i_h
      have i_ch := is_ch ch_35 i_ch
      have i_gv := is_ch ch_35 i_gv
      rw [p_v35]
      obtain ⟨rp3, cr2⟩ := r_v35
      have hcl2 := clashF_le K (i / 12) (i % 12)
      refine g1_199 C i_ch dX1_countMissing_38 ?_
      refine v_val (y := chosenF K (i / 12) (i % 12)) cr2.1 ?_
      refine v_bipush (v := -5) C dX1_countMissing_41 (by decide) ?_
      refine v_icmp_ne (tgt := 50) C dX1_countMissing_43 (by decide) (fun c_43 => ?_) (fun c_43 => ?_)
      · skip
        have hg : pkI K 5 i = false := decide_eq_false c_43
        refine v_iconst (v := nI 0) C dX1_countMissing_50 (by decide) ?_
        refine n_iadd C dX1_countMissing_51 ?_
        refine v_istore_n C dX1_countMissing_52 (by decide) (by first | rfl | exact cat_ok _ | simp [okS, cat_rf]) ?_
        refine v_iinc C dX1_countMissing_53 rfl (nI_inc _) (by decide) (by first | rfl | exact cat_ok _ | simp [okS, cat_rf]) ?_
        refine v_goto (tgt := 4) C dX1_countMissing_56 (by decide) ?_
        refine V.drop 3 ?_
        refine V.lits (lv' := [_, _, _, _]) rfl ?_
        exact ih_4 _ ((cc + 0), (i + 1)) (by first | omega | (dsimp only; omega)) ⟨iv, ch, i_h, i_ch, o_ch, (by omega), rp3, (by rw [hcc, show 12 * fN K 3 - i = (12 * fN K 3 - (i + 1)) + 1 by omega, cn, hg]; simp only [cond_true, cond_false]; omega)⟩
      · skip
        have hg : pkI K 5 i = true := decide_eq_true c_43
        refine v_iconst (v := nI 1) C dX1_countMissing_46 (by decide) ?_
        refine v_goto (tgt := 51) C dX1_countMissing_47 (by decide) ?_
        refine n_iadd C dX1_countMissing_51 ?_
        refine v_istore_n C dX1_countMissing_52 (by decide) (by first | rfl | exact cat_ok _ | simp [okS, cat_rf]) ?_
        refine v_iinc C dX1_countMissing_53 rfl (nI_inc _) (by decide) (by first | rfl | exact cat_ok _ | simp [okS, cat_rf]) ?_
        refine v_goto (tgt := 4) C dX1_countMissing_56 (by decide) ?_
        refine V.drop 3 ?_
        refine V.lits (lv' := [_, _, _, _]) rfl ?_
        exact ih_4 _ ((cc + 1), (i + 1)) (by first | omega | (dsimp only; omega)) ⟨iv, ch, i_h, i_ch, o_ch, (by omega), rp3, (by rw [hcc, show 12 * fN K 3 - i = (12 * fN K 3 - (i + 1)) + 1 by omega, cn, hg]; simp only [cond_true, cond_false]; omega)⟩
theorem countP_no {K : RS} {w : Int32} (h : blw w 6 = false) : -2 = countP K w := by unfold countP; rw [show below w 6 = false from h]; rfl
theorem countP_at {K : RS} {w : Nat} (hw : w < 6) : countP K (nI w) = countF K w := by unfold countP; rw [below_nI hw (by decide), nIN (by omega)]; rfl
theorem below_6 {w : Int32} (h0 : w ≠ 0) (h1 : w ≠ 1) (h2 : w ≠ 2) (h3 : w ≠ 3) (h4 : w ≠ 4) (h5 : w ≠ 5) : blw w 6 = false := by
  cases e : blw w 6 with
  | false => rfl
  | true =>
    obtain ⟨k, hk, rfl⟩ := below_some e
    have : k = 0 ∨ k = 1 ∨ k = 2 ∨ k = 3 ∨ k = 4 ∨ k = 5 := by omega
    rcases this with rfl | rfl | rfl | rfl | rfl | rfl
    · exact absurd rfl h0
    · exact absurd rfl h1
    · exact absurd rfl h2
    · exact absurd rfl h3
    · exact absurd rfl h4
    · exact absurd rfl h5
set_option maxRecDepth 100000 in
set_option maxHeartbeats 4000000 in
theorem ft_X9_count (l : Launch) (M : Nat → Prop) (h : Nat) (wh : Int32) (W : Nat → Nat) (pt : Nat → Option Nat) (K : RS) (cq : Nat) : Ct l yX9_count cX9_count 2 (some .int) 5 0 0 119 (fun S av => av = [.ref h, .int wh] ∧ INV M [] S ∧ is S h 9 ∧ (rep S h M W pt K) ∧ (RV K) ∧ (mO S 69 (W 0) = some cq ∧ is S cq 0)) (fun S _ r S' => ∃ v : Int32, r = some (.int v) ∧ v = countP K wh ∧ INV M [] S' ∧ chg S S' [] [] [(0, cq), (2, cq), (3, cq), (7, cq), (8, cq), (9, cq)] [(1, cq), (4, cq), (5, cq), (6, cq)] ∧ (rep S' h M W pt K)) := by
  refine ct_of (by decide) (fun S av h => by obtain ⟨rfl, iv, i_h, hrp, rv, hch⟩ := h; exact Nat.le_of_ble_eq_true rfl) ?_
  intro p e s m args below meth c D G bs S av C hr hin hpre
  obtain ⟨rfl, iv, i_h, hrp, rv, hch⟩ := hpre
  have ch : chg S S [] [] [(0, cq), (2, cq), (3, cq), (7, cq), (8, cq), (9, cq)] [(1, cq), (4, cq), (5, cq), (6, cq)] := ch_rfl
  obtain ⟨r1, r2, r3, r4, r5, r6, ⟨kk1, k2, k3, k4, k5, k6, k7, k8⟩, r8, r9, r10⟩ := id hrp
  have i_cm := r4.1
  have hc := r1.2
  have hT20 := r4.2.2.2.2.1
  have hC12 := kk1.2.2.2.1
  obtain ⟨o_ch, i_ch⟩ := hch
  refine v_iload_n C dX9_count_0 rfl ?_
  refine v_topi (fun k1 ek1 => ?_)
  by_cases k_0 : k1 = 0
  · skip
    refine v_tableIn (off := 39) (tgt := 40) C dX9_count_1 (by rw [k_0]; decide) (by rw [k_0]; decide) (by rw [k_0]; rfl) (by decide) ?_
    refine v_aload_n C dX9_count_40 rfl ?_
    refine r9_10 (b := (W 0)) C i_h hc dX9_count_41 ?_
    refine g9_36 C i_cm dX9_count_44 ?_
    refine v_val r4.2.2.2.1 ?_
    refine v_iret C hr (Nat.le_of_ble_eq_true rfl) (Nat.le_of_ble_eq_true rfl) dX9_count_47 ?_
    exact ⟨_, rfl, (by rw [show wh = nI 0 from ek1.symm.trans k_0, countP_at (by decide)]; unfold countF; exact rv.p1.1.symm), iv, ch, (hrp)⟩
  by_cases k_1 : k1 = 1
  · skip
    refine v_tableIn (off := 47) (tgt := 48) C dX9_count_1 (by rw [k_1]; decide) (by rw [k_1]; decide) (by rw [k_1]; rfl) (by decide) ?_
    refine v_aload_n C dX9_count_48 rfl ?_
    refine r9_10 (b := (W 0)) C i_h hc dX9_count_49 ?_
    refine g9_48 C i_cm dX9_count_52 ?_
    refine v_val kk1.2.2.1 ?_
    refine v_iret C hr (Nat.le_of_ble_eq_true rfl) (Nat.le_of_ble_eq_true rfl) dX9_count_55 ?_
    exact ⟨_, rfl, (by rw [show wh = nI 1 from ek1.symm.trans k_1, countP_at (by decide)]; unfold countF; exact rv.p2.1.symm), iv, ch, (hrp)⟩
  by_cases k_2 : k1 = 2
  · skip
    refine v_tableIn (off := 55) (tgt := 56) C dX9_count_1 (by rw [k_2]; decide) (by rw [k_2]; decide) (by rw [k_2]; rfl) (by decide) ?_
    refine v_aload_n C dX9_count_56 rfl ?_
    refine r9_10 (b := (W 0)) C i_h hc dX9_count_57 ?_
    refine v_callV (As := []) (n := 0) C (ft_X1_countBodies l M _ h W pt K) rfl i_cm (by decide) rfl ⟨wd935, wd936, wd937, wd15, wd938⟩ ⟨rfl, hy_X1_countBodies⟩ rfl ⟨Nat.le_of_ble_eq_true rfl, Nat.le_of_ble_eq_true rfl⟩ (Nat.le_of_ble_eq_true rfl) ⟨Nat.le_of_ble_eq_true rfl, Nat.le_of_ble_eq_true rfl⟩ dX9_count_60 ⟨rfl, iv, i_cm, hrp, rv, rfl⟩ (fun r_60 S4_60 h_60 => ?_)
    obtain ⟨v60, rfl, p_v60, q_v60⟩ := h_60
    obtain rfl := q_v60.symm
    refine v_iret C hr (Nat.le_of_ble_eq_true rfl) (Nat.le_of_ble_eq_true rfl) dX9_count_63 ?_
    exact ⟨_, rfl, (by rw [show wh = nI 2 from ek1.symm.trans k_2, countP_at (by decide)]; unfold countF; rw [p_v60]; rfl), iv, ch, (hrp)⟩
  by_cases k_3 : k1 = 3
  · skip
    refine v_tableIn (off := 63) (tgt := 64) C dX9_count_1 (by rw [k_3]; decide) (by rw [k_3]; decide) (by rw [k_3]; rfl) (by decide) ?_
    refine v_aload_n C dX9_count_64 rfl ?_
    refine r9_10 (b := (W 0)) C i_h hc dX9_count_65 ?_
    refine v_callV (As := []) (n := 0) C (ft_X1_countGuards l M _ h W pt K) rfl i_cm (by decide) rfl ⟨wd944, wd945, wd946, wd15, wd947⟩ ⟨rfl, hy_X1_countGuards⟩ rfl ⟨Nat.le_of_ble_eq_true rfl, Nat.le_of_ble_eq_true rfl⟩ (Nat.le_of_ble_eq_true rfl) ⟨Nat.le_of_ble_eq_true rfl, Nat.le_of_ble_eq_true rfl⟩ dX9_count_68 ⟨rfl, iv, i_cm, hrp, rv, rfl⟩ (fun r_68 S4_68 h_68 => ?_)
    obtain ⟨v68, rfl, p_v68, q_v68⟩ := h_68
    obtain rfl := q_v68.symm
    refine v_iret C hr (Nat.le_of_ble_eq_true rfl) (Nat.le_of_ble_eq_true rfl) dX9_count_71 ?_
    exact ⟨_, rfl, (by rw [show wh = nI 3 from ek1.symm.trans k_3, countP_at (by decide)]; unfold countF; rw [p_v68]; rfl), iv, ch, (hrp)⟩
  by_cases k_4 : k1 = 4
  · skip
    refine v_tableIn (off := 71) (tgt := 72) C dX9_count_1 (by rw [k_4]; decide) (by rw [k_4]; decide) (by rw [k_4]; rfl) (by decide) ?_
    refine v_aload_n C dX9_count_72 rfl ?_
    refine r9_10 (b := (W 0)) C i_h hc dX9_count_73 ?_
    refine v_callV (As := []) (n := 0) C (ft_X1_countClashes l M _ cq h W pt K) rfl i_cm (by decide) rfl ⟨wd953, wd954, wd955, wd15, wd956⟩ ⟨rfl, hy_X1_countClashes⟩ rfl ⟨Nat.le_of_ble_eq_true rfl, Nat.le_of_ble_eq_true rfl⟩ (Nat.le_of_ble_eq_true rfl) ⟨Nat.le_of_ble_eq_true rfl, Nat.le_of_ble_eq_true rfl⟩ dX9_count_76 ⟨rfl, iv, i_cm, ⟨o_ch, i_ch⟩, hrp, rv, rfl⟩ (fun r_76 S4_76 h_76 => ?_)
    obtain ⟨v76, rfl, p_v76, iv', ch_76, r_v76⟩ := h_76
    have iv := iv'
    clear iv'
    have ch := ch_tr ch ch_76 (by simp)
    have hc := mo_ch ch_76 i_h (by first | decide | simp) hc
    have i_h := is_ch ch_76 i_h
    have i_cm := is_ch ch_76 i_cm
    have i_ch := is_ch ch_76 i_ch
    refine v_iret C hr (Nat.le_of_ble_eq_true rfl) (Nat.le_of_ble_eq_true rfl) dX9_count_79 ?_
    exact ⟨_, rfl, (by rw [show wh = nI 4 from ek1.symm.trans k_4, countP_at (by decide)]; unfold countF; rw [p_v76]; rfl), iv, ch, (r_v76)⟩
  by_cases k_5 : k1 = 5
  · skip
    refine v_tableIn (off := 79) (tgt := 80) C dX9_count_1 (by rw [k_5]; decide) (by rw [k_5]; decide) (by rw [k_5]; rfl) (by decide) ?_
    refine v_aload_n C dX9_count_80 rfl ?_
    refine r9_10 (b := (W 0)) C i_h hc dX9_count_81 ?_
    refine v_callV (As := []) (n := 0) C (ft_X1_countMissing l M _ cq h W pt K) rfl i_cm (by decide) rfl ⟨wd959, wd960, wd961, wd15, wd962⟩ ⟨rfl, hy_X1_countMissing⟩ rfl ⟨Nat.le_of_ble_eq_true rfl, Nat.le_of_ble_eq_true rfl⟩ (Nat.le_of_ble_eq_true rfl) ⟨Nat.le_of_ble_eq_true rfl, Nat.le_of_ble_eq_true rfl⟩ dX9_count_84 ⟨rfl, iv, i_cm, ⟨o_ch, i_ch⟩, hrp, rv, rfl⟩ (fun r_84 S4_84 h_84 => ?_)
    obtain ⟨v84, rfl, p_v84, iv', ch_84, r_v84⟩ := h_84
    have iv := iv'
    clear iv'
    have ch := ch_tr ch ch_84 (by simp)
    have hc := mo_ch ch_84 i_h (by first | decide | simp) hc
    have i_h := is_ch ch_84 i_h
    have i_cm := is_ch ch_84 i_cm
    have i_ch := is_ch ch_84 i_ch
    refine v_iret C hr (Nat.le_of_ble_eq_true rfl) (Nat.le_of_ble_eq_true rfl) dX9_count_87 ?_
    exact ⟨_, rfl, (by rw [show wh = nI 5 from ek1.symm.trans k_5, countP_at (by decide)]; unfold countF; rw [p_v84]; rfl), iv, ch, (r_v84)⟩
  refine v_tableOut (tgt := 88) C dX9_count_1 (by have q0 := lv_neT k_0 (a := 0) rfl ; have q1 := lv_neT k_1 (a := 1) rfl ; have q2 := lv_neT k_2 (a := 2) rfl ; have q3 := lv_neT k_3 (a := 3) rfl ; have q4 := lv_neT k_4 (a := 4) rfl ; have q5 := lv_neT k_5 (a := 5) rfl ; omega) (by decide) ?_
  refine v_bipush (v := -2) C dX9_count_88 (by decide) ?_
  refine v_iret C hr (Nat.le_of_ble_eq_true rfl) (Nat.le_of_ble_eq_true rfl) dX9_count_90 ?_
  exact ⟨_, rfl, (countP_no (below_6 (fun z => k_0 (ek1.trans z)) (fun z => k_1 (ek1.trans z)) (fun z => k_2 (ek1.trans z)) (fun z => k_3 (ek1.trans z)) (fun z => k_4 (ek1.trans z)) (fun z => k_5 (ek1.trans z)))), iv, ch, (hrp)⟩
