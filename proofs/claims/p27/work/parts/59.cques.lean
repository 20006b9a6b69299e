/-! THE QUESTIONS' ANSWERS, refused and given -/
theorem chosenP_no {K : RS} {t a : Int32} (h : (blw t (fN K 3) && blw a 12) = false) : -2 = chosenP K t a := by unfold chosenP; rw [show (below t (fN K 3) && below a 12) = false from h]; rfl
theorem chosenP_at {K : RS} {k j : Nat} (hC : fN K 3 ≤ 12) (hk : k < fN K 3) (hj : j < 12) : chosenP K (nI k) (nI j) = chosenF K k j := by unfold chosenP; rw [below_nI hk (by omega), below_nI hj (by decide), nIN (by omega), nIN (by omega)]; rfl
theorem clashP_no {K : RS} {t a : Int32} (h : (blw t (fN K 3) && blw a 12) = false) : -2 = clashP K t a := by unfold clashP; rw [show (below t (fN K 3) && below a 12) = false from h]; rfl
theorem clashP_at {K : RS} {k j : Nat} (hC : fN K 3 ≤ 12) (hk : k < fN K 3) (hj : j < 12) : clashP K (nI k) (nI j) = nI (clashF K k j) := by unfold clashP; rw [below_nI hk (by omega), below_nI hj (by decide), nIN (by omega), nIN (by omega)]; rfl
theorem aboutP_no {K : RS} {t a w : Int32} (h : (blw t (fN K 3) && blw a 12 && blw w 5) = false) : -2 = aboutP K t a w := by unfold aboutP; rw [show (below t (fN K 3) && below a 12 && below w 5) = false from h]; rfl
theorem aboutP_at {K : RS} {k j w : Nat} (hC : fN K 3 ≤ 12) (hk : k < fN K 3) (hj : j < 12) (hw : w < 5) : aboutP K (nI k) (nI j) (nI w) = aboutF K k j w := by unfold aboutP; rw [below_nI hk (by omega), below_nI hj (by decide), below_nI hw (by decide), nIN (by omega), nIN (by omega), nIN (by omega)]; rfl
theorem aboveP_no {K : RS} {t a w : Int32} (h : (blw t (fN K 3) && blw a 12 && blw w 31) = false) : -2 = aboveP K t a w := by unfold aboveP; rw [show (below t (fN K 3) && below a 12 && below w 31) = false from h]; rfl
theorem aboveP_at {K : RS} {k j w : Nat} (hC : fN K 3 ≤ 12) (hk : k < fN K 3) (hj : j < 12) (hw : w < 31) : aboveP K (nI k) (nI j) (nI w) = tellO K k (climbF K k j w (chooseF K k j)) := by unfold aboveP; rw [below_nI hk (by omega), below_nI hj (by decide), below_nI hw (by decide), nIN (by omega), nIN (by omega), nIN (by omega)]; rfl
theorem isAP_no {K : RS} {t u : Int32} (h : (blw t (fN K 3) && blw u (fN K 0)) = false) : -2 = isAP K t u := by unfold isAP; rw [show (below t (fN K 3) && below u (fN K 0)) = false from h]; rfl
theorem isAP_at {K : RS} {k w : Nat} (rv : RV K) (hk : k < fN K 3) (hw : w < fN K 0) : isAP K (nI k) (nI w) = if w ∈ flist K k then nI 1 else nI 0 := by
  have hC := rv.p2.2
  have hT := rv.p1.2
  have l8 := (rv.p5 k (by omega)).2
  unfold isAP
  rw [below_nI hk (by omega), below_nI hw (by omega), nIN (by omega)]
  show (if 0 < placeInF K k (nI w) then nI 1 else nI 0) = _
  unfold placeInF
  cases e : sc (piP K k (nI w)) (rN K 8 k) 0 with
  | none =>
    rw [if_neg (Nat.lt_irrefl 0), if_neg (fun z => ?_)]
    obtain ⟨i, hi⟩ := List.getElem?_of_mem z
    obtain ⟨h1, h2⟩ := fll_at hi
    have := sc_none e i (Nat.zero_le _) (by omega)
    unfold piP at this
    rw [decide_eq_true (by rw [(rv.p6 k (by omega) i h1).1, ← h2])] at this; cases this
  | some i =>
    obtain ⟨_, h2, h3, _⟩ := sc_some e
    rw [if_pos (Nat.succ_pos i), if_pos]
    unfold piP at h3
    have e2 := rv.p6 k (by omega) i (by omega)
    have e3 := (nI_eq (by omega) (by omega)).mp (e2.1.symm.trans (of_decide_eq_true h3))
    exact e3 ▸ List.mem_of_getElem? (fll_get (show i < rN K 8 k by omega))
theorem po_ch {K : RS} {pt : Nat → Option Nat} {S : Mem} {x : Nat} {M : Nat → Prop} {W : Nat → Nat} {c n : Nat} (rv : RV K) (r : rep S x M W pt K) (hc : c < 12) (hn : n < 12) {p : Nat} (hp : p ≤ rN K 8 c) {q : Nat} (h : offersF K c p n = some q) : q < 624 ∧ (q < 240 ∨ 480 ≤ q) ∧ (∃ a, pt q = some a) ∧ gvI q = (match p with | 0 => -1 | p + 1 => nI (rN K 7 (20 * c + p))) := by
  have ps := r.2.2.2.2.2.2.2.1
  cases p with
  | zero =>
    rw [off0] at h
    split at h
    · cases h
    · rename_i z
      cases h
      refine ⟨by omega, Or.inr (by omega), Option.isSome_iff_exists.mp ((ps.1 _ (by omega)).mpr z), ?_⟩
      unfold gvI; rw [if_neg (by omega)]
  | succ i =>
    obtain ⟨a1, a2, a3⟩ := off_cd rv hc hn (by omega) h
    refine ⟨by omega, Or.inl a1, Option.isSome_iff_exists.mp ((ps.1 _ (by omega)).mpr a3), ?_⟩
    unfold gvI; rw [if_pos a1, a2]
set_option maxRecDepth 100000 in
set_option maxHeartbeats 4000000 in
theorem ft_X9_isA (l : Launch) (M : Nat → Prop) (h : Nat) (t : Int32) (u : Int32) (W : Nat → Nat) (pt : Nat → Option Nat) (K : RS) : Ct l yX9_isA cX9_isA 4 (some .int) 2 0 0 42 (fun S av => av = [.ref h, .int t, .int u] ∧ INV M [] S ∧ is S h 9 ∧ (rep S h M W pt K) ∧ (RV K)) (fun S _ r S' => ∃ v : Int32, r = some (.int v) ∧ v = isAP K t u ∧ S' = S) := by
  refine ct_of (by decide) (fun S av h => by obtain ⟨rfl, iv, i_h, hrp, rv⟩ := h; exact Nat.le_of_ble_eq_true rfl) ?_
  intro p e s m args below meth c D G bs S av C hr hin hpre
  obtain ⟨rfl, iv, i_h, hrp, rv⟩ := hpre
  obtain ⟨r1, r2, r3, r4, r5, r6, ⟨k1, k2, k3, k4, k5, k6, k7, k8⟩, r8, r9, r10⟩ := id hrp
  have i_cm := r4.1
  have hc := r1.2
  have hT20 := r4.2.2.2.2.1
  have hC12 := k1.2.2.2.1
  refine v_aload_n C dX9_isA_0 rfl ?_
  refine r9_10 (b := (W 0)) C i_h hc dX9_isA_1 ?_
  refine v_iload_n C dX9_isA_4 rfl ?_
  refine v_callV (As := [_]) (n := 1) C (ft_X1_figureAt l _ _ W (fN K 3)) rfl i_cm (by decide) rfl ⟨wd300, wd301, wd302, wd15, wd303⟩ ⟨rfl, hy_X1_figureAt⟩ rfl ⟨Nat.le_of_ble_eq_true rfl, Nat.le_of_ble_eq_true rfl⟩ (Nat.le_of_ble_eq_true rfl) ⟨Nat.le_of_ble_eq_true rfl, Nat.le_of_ble_eq_true rfl⟩ dX9_isA_5 ⟨rfl, i_cm, rfl, k1⟩ (fun r_5 S2_5 h_5 => ?_)
  obtain ⟨v5, rfl, p_v5, q_v5⟩ := h_5
  obtain rfl := q_v5.symm
  refine v_qstore_n C dX9_isA_8 (by decide) (by first | rfl | exact cat_ok _ | simp [okS, cat_rf]) ?_
  refine v_qload_n C dX9_isA_9 rfl ?_
  refine v_ifnull (tgt := 24) C dX9_isA_10 (by decide) (fun c_10 => ?_) (fun b10 c_10 => ?_)
  · skip
    subst c_10
    have hq : blw t (fN K 3) = false := fgO_no p_v5.symm
    refine v_bipush (v := -2) C dX9_isA_24 (by decide) ?_
    refine v_iret C hr (Nat.le_of_ble_eq_true rfl) (Nat.le_of_ble_eq_true rfl) dX9_isA_26 ?_
    exact ⟨_, rfl, (isAP_no (by simp [hq])), rfl⟩
  · skip
    subst c_10
    obtain ⟨k, hk, ek⟩ := below_some (fgO_yes p_v5.symm)
    subst ek
    obtain rfl : b10 = W (10 * k + 300) := Option.some.inj (p_v5.trans ((fgO_nI hC12 (by omega)).trans (if_pos hk)))
    have i_gv := (k2 k hk).1
    refine v_aload_n C dX9_isA_13 rfl ?_
    refine r9_10 (b := (W 0)) C i_h hc dX9_isA_14 ?_
    refine v_iload_n C dX9_isA_17 rfl ?_
    refine v_callV (As := [_]) (n := 1) C (ft_X1_traitAt l _ _ (fN K 0) (aA W) (tlist K)) rfl i_cm (by decide) rfl ⟨wd304, wd138, wd139, wd15, wd140⟩ ⟨rfl, hy_X1_traitAt⟩ rfl ⟨Nat.le_of_ble_eq_true rfl, Nat.le_of_ble_eq_true rfl⟩ (Nat.le_of_ble_eq_true rfl) ⟨Nat.le_of_ble_eq_true rfl, Nat.le_of_ble_eq_true rfl⟩ dX9_isA_18 ⟨rfl, i_cm, r4⟩ (fun r_18 S4_18 h_18 => ?_)
    obtain ⟨v18, rfl, p_v18, q_v18⟩ := h_18
    obtain rfl := q_v18.symm
    refine v_ifnonnull (tgt := 27) C dX9_isA_21 (by decide) (fun b21 c_21 => ?_) (fun c_21 => ?_)
    · skip
      subst c_21
      obtain ⟨w, hw, ew⟩ := below_some (trO_yes p_v18.symm)
      subst ew
      have l_ln := k3 k hk
      have i_ln := l_ln.1
      have o_ln := (k2 k hk).2.1
      refine v_aload_n C dX9_isA_27 rfl ?_
      refine g9_144 C i_gv dX9_isA_28 ?_
      rw [o_ln]
      refine v_iload_n C dX9_isA_31 rfl ?_
      refine v_callV (As := [_]) (n := 1) C (ft_X3_has l _ _ (W (10 * k + 302)) (W (10 * k + 303)) (flist K k)) rfl i_ln (by decide) rfl ⟨wd707, wd559, wd560, wd45, wd561⟩ ⟨rfl, hy_X3_has⟩ rfl ⟨Nat.le_of_ble_eq_true rfl, Nat.le_of_ble_eq_true rfl⟩ (Nat.le_of_ble_eq_true rfl) ⟨Nat.le_of_ble_eq_true rfl, Nat.le_of_ble_eq_true rfl⟩ dX9_isA_32 ⟨rfl, i_ln, l_ln, (by omega)⟩ (fun r_32 S6_32 h_32 => ?_)
      obtain ⟨v32, rfl, p_v32, q_v32⟩ := h_32
      obtain rfl := q_v32.symm
      refine b_if_eq (tgt := 42) C dX9_isA_35 (by decide) (fun c_35 => ?_) (fun c_35 => ?_)
      · skip
        refine v_iconst (v := nI 0) C dX9_isA_42 (by decide) ?_
        refine v_iret C hr (Nat.le_of_ble_eq_true rfl) (Nat.le_of_ble_eq_true rfl) dX9_isA_43 ?_
        exact ⟨_, rfl, (by rw [isAP_at rv hk hw, if_neg (of_decide_eq_false (p_v32.symm.trans c_35))]), rfl⟩
      · skip
        refine v_iconst (v := nI 1) C dX9_isA_38 (by decide) ?_
        refine v_goto (tgt := 43) C dX9_isA_39 (by decide) ?_
        refine v_iret C hr (Nat.le_of_ble_eq_true rfl) (Nat.le_of_ble_eq_true rfl) dX9_isA_43 ?_
        exact ⟨_, rfl, (by rw [isAP_at rv hk hw, if_pos (of_decide_eq_true (p_v32.symm.trans c_35))]), rfl⟩
    · skip
      subst c_21
      have hq : blw u (fN K 0) = false := trO_no p_v18.symm
      refine v_bipush (v := -2) C dX9_isA_24 (by decide) ?_
      refine v_iret C hr (Nat.le_of_ble_eq_true rfl) (Nat.le_of_ble_eq_true rfl) dX9_isA_26 ?_
      exact ⟨_, rfl, (isAP_no (by simp [hq])), rfl⟩
set_option maxRecDepth 100000 in
set_option maxHeartbeats 4000000 in
theorem ft_X9_chosen (l : Launch) (M : Nat → Prop) (h : Nat) (t : Int32) (ac : Int32) (W : Nat → Nat) (pt : Nat → Option Nat) (K : RS) (cq : Nat) : Ct l yX9_chosen cX9_chosen 4 (some .int) 4 0 0 96 (fun S av => av = [.ref h, .int t, .int ac] ∧ INV M [] S ∧ is S h 9 ∧ (rep S h M W pt K) ∧ (RV K) ∧ (mO S 69 (W 0) = some cq ∧ is S cq 0)) (fun S _ r S' => ∃ v : Int32, r = some (.int v) ∧ v = chosenP K t ac ∧ INV M [] S' ∧ chg S S' [] [] [(0, cq), (2, cq), (3, cq), (7, cq), (8, cq), (9, cq)] [(1, cq), (4, cq), (5, cq), (6, cq)] ∧ (rep S' h M W pt K)) := by
  refine ct_of (by decide) (fun S av h => by obtain ⟨rfl, iv, i_h, hrp, rv, hch⟩ := h; exact Nat.le_of_ble_eq_true rfl) ?_
  intro p e s m args below meth c D G bs S av C hr hin hpre
  obtain ⟨rfl, iv, i_h, hrp, rv, hch⟩ := hpre
  have ch : chg S S [] [] [(0, cq), (2, cq), (3, cq), (7, cq), (8, cq), (9, cq)] [(1, cq), (4, cq), (5, cq), (6, cq)] := ch_rfl
  obtain ⟨r1, r2, r3, r4, r5, r6, ⟨k1, k2, k3, k4, k5, k6, k7, k8⟩, r8, r9, r10⟩ := id hrp
  have i_cm := r4.1
  have hc := r1.2
  have hT20 := r4.2.2.2.2.1
  have hC12 := k1.2.2.2.1
  obtain ⟨o_ch, i_ch⟩ := hch
  refine v_aload_n C dX9_chosen_0 rfl ?_
  refine r9_10 (b := (W 0)) C i_h hc dX9_chosen_1 ?_
  refine v_iload_n C dX9_chosen_4 rfl ?_
  refine v_callV (As := [_]) (n := 1) C (ft_X1_figureAt l _ _ W (fN K 3)) rfl i_cm (by decide) rfl ⟨wd300, wd301, wd302, wd15, wd303⟩ ⟨rfl, hy_X1_figureAt⟩ rfl ⟨Nat.le_of_ble_eq_true rfl, Nat.le_of_ble_eq_true rfl⟩ (Nat.le_of_ble_eq_true rfl) ⟨Nat.le_of_ble_eq_true rfl, Nat.le_of_ble_eq_true rfl⟩ dX9_chosen_5 ⟨rfl, i_cm, rfl, k1⟩ (fun r_5 S2_5 h_5 => ?_)
  obtain ⟨v5, rfl, p_v5, q_v5⟩ := h_5
  obtain rfl := q_v5.symm
  refine v_qstore_n C dX9_chosen_8 (by decide) (by first | rfl | exact cat_ok _ | simp [okS, cat_rf]) ?_
  refine v_qload_n C dX9_chosen_9 rfl ?_
  refine v_ifnull (tgt := 20) C dX9_chosen_10 (by decide) (fun c_10 => ?_) (fun b10 c_10 => ?_)
  · skip
    subst c_10
    have hq : blw t (fN K 3) = false := fgO_no p_v5.symm
    refine v_bipush (v := -2) C dX9_chosen_20 (by decide) ?_
    refine v_goto (tgt := 37) C dX9_chosen_22 (by decide) ?_
    refine v_iret C hr (Nat.le_of_ble_eq_true rfl) (Nat.le_of_ble_eq_true rfl) dX9_chosen_37 ?_
    exact ⟨_, rfl, (chosenP_no (by simp [hq])), iv, ch, (hrp)⟩
  · skip
    subst c_10
    obtain ⟨k, hk, ek⟩ := below_some (fgO_yes p_v5.symm)
    subst ek
    obtain rfl : b10 = W (10 * k + 300) := Option.some.inj (p_v5.trans ((fgO_nI hC12 (by omega)).trans (if_pos hk)))
    have i_gv := (k2 k hk).1
    refine v_iload_n C dX9_chosen_13 rfl ?_
    refine v_callS (As := [_]) (n := 1) C (sb_isAct l _) rfl ⟨wd345, wd346, wd2, wd347⟩ hy_X9_isAct rfl ⟨Nat.le_of_ble_eq_true rfl, Nat.le_of_ble_eq_true rfl⟩ (Nat.le_of_ble_eq_true rfl) ⟨Nat.le_of_ble_eq_true rfl, Nat.le_of_ble_eq_true rfl⟩ dX9_chosen_14 rfl (fun r_14 S4_14 h_14 => ?_)
    obtain ⟨v14, rfl, p_v14, q_v14⟩ := h_14
    obtain rfl := q_v14.symm
    rw [isB_below (n := 12) (by decide)] at p_v14
    refine b_if_ne (tgt := 25) C dX9_chosen_17 (by decide) (fun c_17 => ?_) (fun c_17 => ?_)
    · skip
      obtain ⟨j, hj, ej⟩ := below_some (n := 12) (show blw ac 12 = true from p_v14.symm.trans c_17)
      subst ej
      refine v_aload_n C dX9_chosen_25 rfl ?_
      refine r9_10 (b := (W 0)) C i_h hc dX9_chosen_26 ?_
      refine v_aload_n C dX9_chosen_29 rfl ?_
      refine v_iload_n C dX9_chosen_30 rfl ?_
      refine v_callV (As := [_, _]) (n := 2) C (ft_X1_weigh l M _ _ _ cq h W pt K k) rfl i_cm (by decide) rfl ⟨wd522, wd523, wd524, wd15, wd525⟩ ⟨rfl, hy_X1_weigh⟩ rfl ⟨Nat.le_of_ble_eq_true rfl, Nat.le_of_ble_eq_true rfl⟩ (Nat.le_of_ble_eq_true rfl) ⟨Nat.le_of_ble_eq_true rfl, Nat.le_of_ble_eq_true rfl⟩ dX9_chosen_31 ⟨rfl, iv, i_cm, i_gv, ⟨o_ch, i_ch⟩, hrp, rv, rfl, rfl, hk, hj⟩ (fun r_31 S6_31 h_31 => ?_)
      obtain ⟨v31, rfl, p_v31, iv', ch_31, r_v31⟩ := h_31
      have iv := iv'
      clear iv'
      have ch := ch_tr ch ch_31 (by simp)
      have hc := mo_ch ch_31 i_h (by first | decide | simp) hc
      have i_h := is_ch ch_31 i_h
      have i_cm := is_ch ch_31 i_cm
      have i_ch := is_ch ch_31 i_ch
      have i_gv := is_ch ch_31 i_gv
      rw [p_v31]
      obtain ⟨rp2, cr2⟩ := r_v31
      refine g9_149 C i_ch dX9_chosen_34 ?_
      refine v_val (y := chosenF K k j) cr2.1 ?_
      refine v_iret C hr (Nat.le_of_ble_eq_true rfl) (Nat.le_of_ble_eq_true rfl) dX9_chosen_37 ?_
      exact ⟨_, rfl, (chosenP_at hC12 hk hj).symm, iv, ch, (rp2)⟩
    · skip
      have hq : blw ac 12 = false := p_v14.symm.trans c_17
      refine v_bipush (v := -2) C dX9_chosen_20 (by decide) ?_
      refine v_goto (tgt := 37) C dX9_chosen_22 (by decide) ?_
      refine v_iret C hr (Nat.le_of_ble_eq_true rfl) (Nat.le_of_ble_eq_true rfl) dX9_chosen_37 ?_
      exact ⟨_, rfl, (chosenP_no (by simp [hq])), iv, ch, (hrp)⟩
set_option maxRecDepth 100000 in
set_option maxHeartbeats 4000000 in
theorem ft_X9_clash (l : Launch) (M : Nat → Prop) (h : Nat) (t : Int32) (ac : Int32) (W : Nat → Nat) (pt : Nat → Option Nat) (K : RS) (cq : Nat) : Ct l yX9_clash cX9_clash 4 (some .int) 4 0 0 96 (fun S av => av = [.ref h, .int t, .int ac] ∧ INV M [] S ∧ is S h 9 ∧ (rep S h M W pt K) ∧ (RV K) ∧ (mO S 69 (W 0) = some cq ∧ is S cq 0)) (fun S _ r S' => ∃ v : Int32, r = some (.int v) ∧ v = clashP K t ac ∧ INV M [] S' ∧ chg S S' [] [] [(0, cq), (2, cq), (3, cq), (7, cq), (8, cq), (9, cq)] [(1, cq), (4, cq), (5, cq), (6, cq)] ∧ (rep S' h M W pt K)) := by
  refine ct_of (by decide) (fun S av h => by obtain ⟨rfl, iv, i_h, hrp, rv, hch⟩ := h; exact Nat.le_of_ble_eq_true rfl) ?_
  intro p e s m args below meth c D G bs S av C hr hin hpre
  obtain ⟨rfl, iv, i_h, hrp, rv, hch⟩ := hpre
  have ch : chg S S [] [] [(0, cq), (2, cq), (3, cq), (7, cq), (8, cq), (9, cq)] [(1, cq), (4, cq), (5, cq), (6, cq)] := ch_rfl
  obtain ⟨r1, r2, r3, r4, r5, r6, ⟨k1, k2, k3, k4, k5, k6, k7, k8⟩, r8, r9, r10⟩ := id hrp
  have i_cm := r4.1
  have hc := r1.2
  have hT20 := r4.2.2.2.2.1
  have hC12 := k1.2.2.2.1
  obtain ⟨o_ch, i_ch⟩ := hch
  refine v_aload_n C dX9_clash_0 rfl ?_
  refine r9_10 (b := (W 0)) C i_h hc dX9_clash_1 ?_
  refine v_iload_n C dX9_clash_4 rfl ?_
  refine v_callV (As := [_]) (n := 1) C (ft_X1_figureAt l _ _ W (fN K 3)) rfl i_cm (by decide) rfl ⟨wd300, wd301, wd302, wd15, wd303⟩ ⟨rfl, hy_X1_figureAt⟩ rfl ⟨Nat.le_of_ble_eq_true rfl, Nat.le_of_ble_eq_true rfl⟩ (Nat.le_of_ble_eq_true rfl) ⟨Nat.le_of_ble_eq_true rfl, Nat.le_of_ble_eq_true rfl⟩ dX9_clash_5 ⟨rfl, i_cm, rfl, k1⟩ (fun r_5 S2_5 h_5 => ?_)
  obtain ⟨v5, rfl, p_v5, q_v5⟩ := h_5
  obtain rfl := q_v5.symm
  refine v_qstore_n C dX9_clash_8 (by decide) (by first | rfl | exact cat_ok _ | simp [okS, cat_rf]) ?_
  refine v_qload_n C dX9_clash_9 rfl ?_
  refine v_ifnull (tgt := 20) C dX9_clash_10 (by decide) (fun c_10 => ?_) (fun b10 c_10 => ?_)
  · skip
    subst c_10
    have hq : blw t (fN K 3) = false := fgO_no p_v5.symm
    refine v_bipush (v := -2) C dX9_clash_20 (by decide) ?_
    refine v_goto (tgt := 37) C dX9_clash_22 (by decide) ?_
    refine v_iret C hr (Nat.le_of_ble_eq_true rfl) (Nat.le_of_ble_eq_true rfl) dX9_clash_37 ?_
    exact ⟨_, rfl, (clashP_no (by simp [hq])), iv, ch, (hrp)⟩
  · skip
    subst c_10
    obtain ⟨k, hk, ek⟩ := below_some (fgO_yes p_v5.symm)
    subst ek
    obtain rfl : b10 = W (10 * k + 300) := Option.some.inj (p_v5.trans ((fgO_nI hC12 (by omega)).trans (if_pos hk)))
    have i_gv := (k2 k hk).1
    refine v_iload_n C dX9_clash_13 rfl ?_
    refine v_callS (As := [_]) (n := 1) C (sb_isAct l _) rfl ⟨wd345, wd346, wd2, wd347⟩ hy_X9_isAct rfl ⟨Nat.le_of_ble_eq_true rfl, Nat.le_of_ble_eq_true rfl⟩ (Nat.le_of_ble_eq_true rfl) ⟨Nat.le_of_ble_eq_true rfl, Nat.le_of_ble_eq_true rfl⟩ dX9_clash_14 rfl (fun r_14 S4_14 h_14 => ?_)
    obtain ⟨v14, rfl, p_v14, q_v14⟩ := h_14
    obtain rfl := q_v14.symm
    rw [isB_below (n := 12) (by decide)] at p_v14
    refine b_if_ne (tgt := 25) C dX9_clash_17 (by decide) (fun c_17 => ?_) (fun c_17 => ?_)
    · skip
      obtain ⟨j, hj, ej⟩ := below_some (n := 12) (show blw ac 12 = true from p_v14.symm.trans c_17)
      subst ej
      refine v_aload_n C dX9_clash_25 rfl ?_
      refine r9_10 (b := (W 0)) C i_h hc dX9_clash_26 ?_
      refine v_aload_n C dX9_clash_29 rfl ?_
      refine v_iload_n C dX9_clash_30 rfl ?_
      refine v_callV (As := [_, _]) (n := 2) C (ft_X1_weigh l M _ _ _ cq h W pt K k) rfl i_cm (by decide) rfl ⟨wd522, wd523, wd524, wd15, wd525⟩ ⟨rfl, hy_X1_weigh⟩ rfl ⟨Nat.le_of_ble_eq_true rfl, Nat.le_of_ble_eq_true rfl⟩ (Nat.le_of_ble_eq_true rfl) ⟨Nat.le_of_ble_eq_true rfl, Nat.le_of_ble_eq_true rfl⟩ dX9_clash_31 ⟨rfl, iv, i_cm, i_gv, ⟨o_ch, i_ch⟩, hrp, rv, rfl, rfl, hk, hj⟩ (fun r_31 S6_31 h_31 => ?_)
      obtain ⟨v31, rfl, p_v31, iv', ch_31, r_v31⟩ := h_31
      have iv := iv'
      clear iv'
      have ch := ch_tr ch ch_31 (by simp)
      have hc := mo_ch ch_31 i_h (by first | decide | simp) hc
      have i_h := is_ch ch_31 i_h
      have i_cm := is_ch ch_31 i_cm
      have i_ch := is_ch ch_31 i_ch
      have i_gv := is_ch ch_31 i_gv
      rw [p_v31]
      obtain ⟨rp2, cr2⟩ := r_v31
      refine g9_154 C i_ch dX9_clash_34 ?_
      refine v_val (y := nI (clashF K k j)) cr2.2.1 ?_
      refine v_iret C hr (Nat.le_of_ble_eq_true rfl) (Nat.le_of_ble_eq_true rfl) dX9_clash_37 ?_
      exact ⟨_, rfl, (clashP_at hC12 hk hj).symm, iv, ch, (rp2)⟩
    · skip
      have hq : blw ac 12 = false := p_v14.symm.trans c_17
      refine v_bipush (v := -2) C dX9_clash_20 (by decide) ?_
      refine v_goto (tgt := 37) C dX9_clash_22 (by decide) ?_
      refine v_iret C hr (Nat.le_of_ble_eq_true rfl) (Nat.le_of_ble_eq_true rfl) dX9_clash_37 ?_
      exact ⟨_, rfl, (clashP_no (by simp [hq])), iv, ch, (hrp)⟩
set_option maxRecDepth 100000 in
set_option maxHeartbeats 4000000 in
theorem ft_X1_guardAt (l : Launch) (M : Nat → Prop) (h : Nat) (fi : Nat) (pl : Nat) (ac : Nat) (x : Nat) (W : Nat → Nat) (pt : Nat → Option Nat) (K : RS) (k : Nat) : Ct l yX1_guardAt cX1_guardAt 5 (some (.object "PuppetCast$Part")) 2 0 0 42 (fun S av => av = [.ref h, .ref fi, .int (nI pl), .int (nI ac)] ∧ INV M [] S ∧ is S h 1 ∧ is S fi 2 ∧ (rep S x M W pt K) ∧ (RV K) ∧ (h = W 0) ∧ (fi = W (10 * k + 300)) ∧ (k < fN K 3) ∧ (ac < 12) ∧ (pl < rN K 8 k)) (fun S _ r S' => ∃ v : Option Nat, r = some (va_rf v) ∧ v = pt (240 + 12 * rN K 7 (20 * k + pl) + ac) ∧ S' = S) := by
  refine ct_of (by decide) (fun S av h => by obtain ⟨rfl, iv, i_h, i_fi, hrp, rv, hh, hf, hk, ha, hi8⟩ := h; exact Nat.le_of_ble_eq_true rfl) ?_
  intro p e s m args below meth c D G bs S av C hr hin hpre
  obtain ⟨rfl, iv, i_h, i_fi, hrp, rv, hh, hf, hk, ha, hi8⟩ := hpre
  obtain ⟨r1, r2, r3, r4, r5, r6, ⟨k1, k2, k3, k4, k5, k6, k7, k8⟩, r8, r9, r10⟩ := id hrp
  have hT20 := r4.2.2.2.2.1
  have hC12 := k1.2.2.2.1
  have hrp1 := hrp
  obtain ⟨r1, r2, r3, r4, r5, r6, ⟨k1, k2, k3, k4, k5, k6, k7, k8⟩, r8, r9, r10⟩ := id hrp1
  have fa := k2 k hk
  have l_ln := k3 k hk
  have o_ln : mO S 130 fi = some (W (10 * k + 301)) := by rw [hf]; exact fa.2.1
  have i_ln := l_ln.1
  have e_len := l_ln.2.2.2.2.2.2.1
  have l20 := lnV_len l_ln
  have hT : trS S h (fN K 0) (aA W) (tlist K) := by rw [hh]; exact r4
  have hnd := fig_nd l_ln
  have hT20 := r4.2.2.2.2.1
  have l8 := fll_len (K := K) (c := k)
  refine v_aload_n C dX1_guardAt_0 rfl ?_
  refine v_aload_n C dX1_guardAt_1 rfl ?_
  refine g1_101 C i_fi dX1_guardAt_2 ?_
  rw [o_ln]
  refine v_iload_n C dX1_guardAt_5 rfl ?_
  refine v_callV (As := [_]) (n := 1) C (ft_X3_at l _ _ (W (10 * k + 302)) (W (10 * k + 303)) (flist K k)) rfl i_ln (by decide) rfl ⟨wd538, wd187, wd188, wd45, wd189⟩ ⟨rfl, hy_X3_at⟩ rfl ⟨Nat.le_of_ble_eq_true rfl, Nat.le_of_ble_eq_true rfl⟩ (Nat.le_of_ble_eq_true rfl) ⟨Nat.le_of_ble_eq_true rfl, Nat.le_of_ble_eq_true rfl⟩ dX1_guardAt_6 ⟨rfl, i_ln, l_ln, (by omega)⟩ (fun r_6 S2_6 h_6 => ?_)
  obtain ⟨v6, rfl, p_v6, b_v6, q_v6⟩ := h_6
  obtain rfl := q_v6.symm
  rw [fll_get hi8] at p_v6
  obtain ⟨u, hu_⟩ : ∃ u, u = rN K 7 (20 * k + pl) := ⟨_, rfl⟩
  rw [← hu_] at p_v6
  obtain rfl : v6 = some u := p_v6
  have hu : u < fN K 0 := by rw [hu_]; exact (rv.p6 k (by omega) pl hi8).2
  refine v_callV (As := [_]) (n := 1) C (ft_X1_traitAt l _ _ (fN K 0) (aA W) (tlist K)) rfl i_h (by decide) rfl ⟨wd137, wd138, wd139, wd15, wd140⟩ ⟨rfl, hy_X1_traitAt⟩ rfl ⟨Nat.le_of_ble_eq_true rfl, Nat.le_of_ble_eq_true rfl⟩ (Nat.le_of_ble_eq_true rfl) ⟨Nat.le_of_ble_eq_true rfl, Nat.le_of_ble_eq_true rfl⟩ dX1_guardAt_9 ⟨rfl, i_h, hT⟩ (fun r_9 S2_9 h_9 => ?_)
  obtain ⟨v9, rfl, p_v9, q_v9⟩ := h_9
  obtain rfl := q_v9.symm
  have p_w := p_v9.trans ((trO_nI hT20 (by omega)).trans (if_pos hu))
  refine v_qstore C dX1_guardAt_12 (by decide) (by first | rfl | exact cat_ok _ | simp [okS, cat_rf]) ?_
  refine v_qload C dX1_guardAt_14 rfl ?_
  refine v_ifnonnull (tgt := 23) C dX1_guardAt_16 (by decide) (fun b16 c_16 => ?_) (fun c_16 => ?_)
  · skip
    subst c_16
    obtain rfl : b16 = W (6 * u + 100) := Option.some.inj p_w
    have i_tr : is S (W (6 * u + 100)) 8 := trs_is r4 hu
    obtain ⟨_, o_gu, _, i_gu, b5⟩ := r6 u hu
    refine v_aload C dX1_guardAt_23 rfl ?_
    refine v_iload_n C dX1_guardAt_25 rfl ?_
    refine v_callV (As := [_]) (n := 1) C (ft_X8_guardFor l _ _ (W (6 * u + 105))) rfl i_tr (by decide) rfl ⟨wd642, wd643, wd644, wd212, wd645⟩ ⟨rfl, hy_X8_guardFor⟩ rfl ⟨Nat.le_of_ble_eq_true rfl, Nat.le_of_ble_eq_true rfl⟩ (Nat.le_of_ble_eq_true rfl) ⟨Nat.le_of_ble_eq_true rfl, Nat.le_of_ble_eq_true rfl⟩ dX1_guardAt_26 ⟨rfl, i_tr, ha, ⟨o_gu, i_gu⟩⟩ (fun r_26 S4_26 h_26 => ?_)
    obtain ⟨v26, rfl, p_v26, q_v26⟩ := h_26
    obtain rfl := q_v26.symm
    refine v_aret C hr (Nat.le_of_ble_eq_true rfl) (Nat.le_of_ble_eq_true rfl) dX1_guardAt_29 ?_
    exact ⟨_, rfl, (by rw [p_v26, ← hu_]; exact (b5 ac ha).2), rfl⟩
  · skip
    rw [c_16] at p_w; cases p_w
theorem hasG_pt {S : Mem} {pt : Nat → Option Nat} {K : RS} {c n i : Nat} (rv : RV K) (ps : prtS S pt K) (hc : c < 12) (hn : n < 12) (hi : i < rN K 8 c) : hasG K c n (i + 1) = (pt (240 + 12 * rN K 7 (20 * c + i) + n)).isSome := by
  have h20 := rv.p1.2
  have tr := (rv.p6 c hc i hi).2
  unfold hasG
  rw [show 20 * c + (i + 1) - 1 = 20 * c + i by omega]
  have q := ps.1 (240 + 12 * rN K 7 (20 * c + i) + n) (by omega)
  cases e : (pt (240 + 12 * rN K 7 (20 * c + i) + n)).isSome with
  | true => rw [decide_eq_false (q.mp e)]; rfl
  | false =>
    have : rA K 10 (240 + 12 * rN K 7 (20 * c + i) + n) = 0 := by
      by_cases z : rA K 10 (240 + 12 * rN K 7 (20 * c + i) + n) = 0
      · exact z
      · rw [q.mpr z] at e; cases e
    rw [decide_eq_true this]; rfl
set_option maxRecDepth 100000 in
set_option maxHeartbeats 4000000 in
theorem ft_X1_guardCount (l : Launch) (M : Nat → Prop) (h : Nat) (fi : Nat) (ac : Nat) (x : Nat) (W : Nat → Nat) (pt : Nat → Option Nat) (K : RS) (k : Nat) : Ct l yX1_guardCount cX1_guardCount 5 (some .int) 3 0 0 66 (fun S av => av = [.ref h, .ref fi, .int (nI ac)] ∧ INV M [] S ∧ is S h 1 ∧ is S fi 2 ∧ (rep S x M W pt K) ∧ (RV K) ∧ (h = W 0) ∧ (fi = W (10 * k + 300)) ∧ (k < fN K 3) ∧ (ac < 12)) (fun S _ r S' => ∃ v : Nat, r = some (.int (nI v)) ∧ v = guardsN K k ac ∧ S' = S) := by
  refine ct_of (by decide) (fun S av h => by obtain ⟨rfl, iv, i_h, i_fi, hrp, rv, hh, hf, hk, ha⟩ := h; exact Nat.le_of_ble_eq_true rfl) ?_
  intro p e s m args below meth c D G bs S av C hr hin hpre
  obtain ⟨rfl, iv, i_h, i_fi, hrp, rv, hh, hf, hk, ha⟩ := hpre
  obtain ⟨r1, r2, r3, r4, r5, r6, ⟨k1, k2, k3, k4, k5, k6, k7, k8⟩, r8, r9, r10⟩ := id hrp
  have hT20 := r4.2.2.2.2.1
  have hC12 := k1.2.2.2.1
  have hrp1 := hrp
  obtain ⟨r1, r2, r3, r4, r5, r6, ⟨k1, k2, k3, k4, k5, k6, k7, k8⟩, r8, r9, r10⟩ := id hrp1
  have fa := k2 k hk
  have l_ln := k3 k hk
  have o_ln : mO S 130 fi = some (W (10 * k + 301)) := by rw [hf]; exact fa.2.1
  have i_ln := l_ln.1
  have e_len := l_ln.2.2.2.2.2.2.1
  have l20 := lnV_len l_ln
  have hT : trS S h (fN K 0) (aA W) (tlist K) := by rw [hh]; exact r4
  have hnd := fig_nd l_ln
  have hT20 := r4.2.2.2.2.1
  have l8 := fll_len (K := K) (c := k)
  refine v_iconst (v := nI 0) C dX1_guardCount_0 (by decide) ?_
  refine v_istore_n C dX1_guardCount_1 (by decide) (by first | rfl | exact cat_ok _ | simp [okS, cat_rf]) ?_
  refine v_iconst (v := nI 0) C dX1_guardCount_2 (by decide) ?_
  refine v_istore C dX1_guardCount_3 (by decide) (by first | rfl | exact cat_ok _ | simp [okS, cat_rf]) ?_
  refine V.lits (lv' := [_, _, _, _, _]) rfl ?_
  refine v_loop (fun (tt : (Nat) × (Nat)) lv0 => ((lv0.set 3 (some (.int (nI tt.1)))).set 4 (some (.int (nI tt.2))))) (fun (S1 : Mem) (tt : (Nat) × (Nat)) => S1 = S ∧ (tt.2 ≤ (flist K k).length ∧ tt.1 ≤ tt.2) ∧ (guardsN K k ac = tt.1 + cn (hasG K k ac) (rN K 8 k - tt.2) (tt.2 + 1))) (fun (S1 : Mem) (tt : (Nat) × (Nat)) => (flist K k).length - tt.2) (t := (0, 0)) rfl ⟨rfl, ⟨Nat.zero_le _, Nat.le_refl _⟩, (by rw [Nat.zero_add]; rfl)⟩ ?_
  intro L5 tt h_5 ih_5
  obtain ⟨cc, i⟩ := tt
  obtain ⟨e_S, hri, hcc⟩ := h_5
  subst e_S
  try dsimp only at *
  refine v_iload C dX1_guardCount_5 rfl ?_
  refine v_aload_n C dX1_guardCount_7 rfl ?_
  refine g1_101 C i_fi dX1_guardCount_8 ?_
  rw [o_ln]
  refine g1_129 C i_ln dX1_guardCount_11 ?_
  refine v_val e_len ?_
  refine n_icmp_ge (tgt := 42) C (by omega) (by omega) dX1_guardCount_14 (by decide) (fun c_14 => ?_) (fun c_14 => ?_)
  · skip
    refine v_iload_n C dX1_guardCount_42 rfl ?_
    refine v_iret C hr (Nat.le_of_ble_eq_true rfl) (Nat.le_of_ble_eq_true rfl) dX1_guardCount_43 ?_
    exact ⟨_, rfl, (by rw [hcc, show rN K 8 k - i = 0 by omega, cn, Nat.add_zero]), rfl⟩
  · skip
    refine v_iload_n C dX1_guardCount_17 rfl ?_
    refine v_aload_n C dX1_guardCount_18 rfl ?_
    refine v_aload_n C dX1_guardCount_19 rfl ?_
    refine v_iload C dX1_guardCount_20 rfl ?_
    refine v_iload_n C dX1_guardCount_22 rfl ?_
    refine v_callV (As := [_, _, _]) (n := 3) C (ft_X1_guardAt l M _ _ _ _ x W pt K k) rfl i_h (by decide) rfl ⟨wd638, wd639, wd640, wd15, wd641⟩ ⟨rfl, hy_X1_guardAt⟩ rfl ⟨Nat.le_of_ble_eq_true rfl, Nat.le_of_ble_eq_true rfl⟩ (Nat.le_of_ble_eq_true rfl) ⟨Nat.le_of_ble_eq_true rfl, Nat.le_of_ble_eq_true rfl⟩ dX1_guardCount_23 ⟨rfl, iv, i_h, i_fi, hrp, rv, hh, hf, hk, ha, (by omega)⟩ (fun r_23 S2_23 h_23 => ?_)
    obtain ⟨v23, rfl, p_v23, q_v23⟩ := h_23
    obtain rfl := q_v23.symm
    refine v_ifnonnull (tgt := 33) C dX1_guardCount_26 (by decide) (fun b26 c_26 => ?_) (fun c_26 => ?_)
    · skip
      subst c_26
      have hg : hasG K k ac (i + 1) = true := by rw [hasG_pt rv r8 (by omega) ha (by omega), ← p_v23]; rfl
      refine v_iconst (v := nI 1) C dX1_guardCount_33 (by decide) ?_
      refine n_iadd C dX1_guardCount_34 ?_
      refine v_istore_n C dX1_guardCount_35 (by decide) (by first | rfl | exact cat_ok _ | simp [okS, cat_rf]) ?_
      refine v_iinc C dX1_guardCount_36 rfl (nI_inc _) (by decide) (by first | rfl | exact cat_ok _ | simp [okS, cat_rf]) ?_
      refine v_goto (tgt := 5) C dX1_guardCount_39 (by decide) ?_
      refine V.lits (lv' := [_, _, _, _, _]) rfl ?_
      exact ih_5 _ ((cc + 1), (i + 1)) (by first | omega | (dsimp only; omega)) ⟨rfl, (by omega), (by rw [hcc, show rN K 8 k - i = (rN K 8 k - (i + 1)) + 1 by omega, cn, hg]; simp only [cond_true, cond_false]; omega)⟩
    · skip
      subst c_26
      have hg : hasG K k ac (i + 1) = false := by rw [hasG_pt rv r8 (by omega) ha (by omega), ← p_v23]; rfl
      refine v_iconst (v := nI 0) C dX1_guardCount_29 (by decide) ?_
      refine v_goto (tgt := 34) C dX1_guardCount_30 (by decide) ?_
      refine n_iadd C dX1_guardCount_34 ?_
      refine v_istore_n C dX1_guardCount_35 (by decide) (by first | rfl | exact cat_ok _ | simp [okS, cat_rf]) ?_
      refine v_iinc C dX1_guardCount_36 rfl (nI_inc _) (by decide) (by first | rfl | exact cat_ok _ | simp [okS, cat_rf]) ?_
      refine v_goto (tgt := 5) C dX1_guardCount_39 (by decide) ?_
      refine V.lits (lv' := [_, _, _, _, _]) rfl ?_
      exact ih_5 _ ((cc + 0), (i + 1)) (by first | omega | (dsimp only; omega)) ⟨rfl, (by omega), (by rw [hcc, show rN K 8 k - i = (rN K 8 k - (i + 1)) + 1 by omega, cn, hg]; simp only [cond_true, cond_false]; omega)⟩
set_option maxRecDepth 100000 in
set_option maxHeartbeats 4000000 in
theorem ft_X1_aboutChosen (l : Launch) (M : Nat → Prop) (h : Nat) (fi : Nat) (ac : Nat) (wh : Nat) (cq : Nat) (x : Nat) (W : Nat → Nat) (pt : Nat → Option Nat) (K : RS) (k : Nat) : Ct l yX1_aboutChosen cX1_aboutChosen 5 (some .int) 4 0 0 96 (fun S av => av = [.ref h, .ref fi, .int (nI ac), .int (nI wh)] ∧ INV M [] S ∧ is S h 1 ∧ is S fi 2 ∧ (mO S 69 h = some cq ∧ is S cq 0) ∧ (rep S x M W pt K) ∧ (RV K) ∧ (h = W 0) ∧ (fi = W (10 * k + 300)) ∧ (k < fN K 3) ∧ (ac < 12) ∧ (wh < 4)) (fun S _ r S' => ∃ v : Int32, r = some (.int v) ∧ v = aboutF K k ac wh ∧ INV M [] S' ∧ chg S S' [] [] [(0, cq), (2, cq), (3, cq), (7, cq), (8, cq), (9, cq)] [(1, cq), (4, cq), (5, cq), (6, cq)] ∧ (rep S' x M W pt K)) := by
  refine ct_of (by decide) (fun S av h => by obtain ⟨rfl, iv, i_h, i_fi, hch, hrp, rv, hh, hf, hk, ha, hw⟩ := h; exact Nat.le_of_ble_eq_true rfl) ?_
  intro p e s m args below meth c D G bs S av C hr hin hpre
  obtain ⟨rfl, iv, i_h, i_fi, hch, hrp, rv, hh, hf, hk, ha, hw⟩ := hpre
  have ch : chg S S [] [] [(0, cq), (2, cq), (3, cq), (7, cq), (8, cq), (9, cq)] [(1, cq), (4, cq), (5, cq), (6, cq)] := ch_rfl
  obtain ⟨o_ch, i_ch⟩ := hch
  obtain ⟨r1, r2, r3, r4, r5, r6, ⟨k1, k2, k3, k4, k5, k6, k7, k8⟩, r8, r9, r10⟩ := id hrp
  have hT20 := r4.2.2.2.2.1
  have hC12 := k1.2.2.2.1
  refine v_aload_n C dX1_aboutChosen_0 rfl ?_
  refine v_aload_n C dX1_aboutChosen_1 rfl ?_
  refine v_iload_n C dX1_aboutChosen_2 rfl ?_
  refine v_callV (As := [_, _]) (n := 2) C (ft_X1_weigh l M _ _ _ cq x W pt K k) rfl i_h (by decide) rfl ⟨wd655, wd523, wd524, wd15, wd525⟩ ⟨rfl, hy_X1_weigh⟩ rfl ⟨Nat.le_of_ble_eq_true rfl, Nat.le_of_ble_eq_true rfl⟩ (Nat.le_of_ble_eq_true rfl) ⟨Nat.le_of_ble_eq_true rfl, Nat.le_of_ble_eq_true rfl⟩ dX1_aboutChosen_3 ⟨rfl, iv, i_h, i_fi, ⟨o_ch, i_ch⟩, hrp, rv, hh, hf, hk, ha⟩ (fun r_3 S2_3 h_3 => ?_)
  obtain ⟨v3, rfl, p_v3, iv', ch_3, r_v3⟩ := h_3
  have iv := iv'
  clear iv'
  have ch := ch_tr ch ch_3 (by simp)
  have i_h := is_ch ch_3 i_h
  have i_fi := is_ch ch_3 i_fi
  have i_ch := is_ch ch_3 i_ch
  rw [p_v3]
  obtain ⟨rp2, cr2⟩ := r_v3
  obtain ⟨po, epo⟩ : ∃ z, z = (chooseF K k ac).bind (fun p => (offersF K k p ac).bind pt) := ⟨_, rfl⟩
  have hpo : mO S2_3 1 cq = po := cr2.2.2.1.trans epo.symm
  refine v_astore C dX1_aboutChosen_6 (by decide) (by first | rfl | exact cat_ok _ | simp [okS, cat_rf]) ?_
  refine v_aload C dX1_aboutChosen_8 rfl ?_
  refine g1_154 C i_ch dX1_aboutChosen_10 ?_
  rw [hpo]
  refine v_ifnonnull (tgt := 18) C dX1_aboutChosen_13 (by decide) (fun b13 c_13 => ?_) (fun c_13 => ?_)
  · skip
    subst c_13
    obtain ⟨p_, q, g1, g2, g3⟩ : ∃ p_ q, chooseF K k ac = some p_ ∧ offersF K k p_ ac = some q ∧ pt q = some b13 := by
      obtain ⟨p_, g1, g2⟩ := Option.bind_eq_some_iff.mp epo.symm
      obtain ⟨q, g3, g4⟩ := Option.bind_eq_some_iff.mp g2
      exact ⟨p_, q, g1, g3, g4⟩
    obtain ⟨g4, _⟩ := choose_some g1
    obtain ⟨g5, g6, _, _⟩ := po_ch rv hrp (by omega) ha g4 g2
    obtain ⟨i_pa, w4, w5⟩ := part_ok rv rp2 g5 g3
    obtain ⟨v1_, v2_, v3_, v4_, v5_⟩ := w5 g6
    have hpo2 := hpo
    refine v_iload_n C dX1_aboutChosen_18 rfl ?_
    refine v_topi (fun k19 ek19 => ?_)
    by_cases k_0 : k19 = 0
    · skip
      refine v_tableIn (off := 25) (tgt := 44) C dX1_aboutChosen_19 (by rw [k_0]; decide) (by rw [k_0]; decide) (by rw [k_0]; rfl) (by decide) ?_
      refine v_aload C dX1_aboutChosen_44 rfl ?_
      refine g1_154 C i_ch dX1_aboutChosen_46 ?_
      rw [hpo2]
      have hwh : wh = 0 := (nI_eq (by omega) (by decide)).mp (ek19.symm.trans k_0)
      refine g1_158 C i_pa dX1_aboutChosen_49 ?_
      refine v_val (y := rA K 13 q) (v3_.trans (rv.p13 q g5).1.symm) ?_
      refine v_iret C hr (Nat.le_of_ble_eq_true rfl) (Nat.le_of_ble_eq_true rfl) dX1_aboutChosen_52 ?_
      exact ⟨_, rfl, (by subst hwh; unfold aboutF; rw [if_neg (by omega), g1]; simp only [g2]; rfl), iv, ch, (rp2)⟩
    by_cases k_1 : k19 = 1
    · skip
      refine v_tableIn (off := 34) (tgt := 53) C dX1_aboutChosen_19 (by rw [k_1]; decide) (by rw [k_1]; decide) (by rw [k_1]; rfl) (by decide) ?_
      refine v_aload C dX1_aboutChosen_53 rfl ?_
      refine g1_154 C i_ch dX1_aboutChosen_55 ?_
      rw [hpo2]
      have hwh : wh = 1 := (nI_eq (by omega) (by decide)).mp (ek19.symm.trans k_1)
      refine g1_161 C i_pa dX1_aboutChosen_58 ?_
      refine v_val (y := rA K 12 q) v2_ ?_
      refine v_iret C hr (Nat.le_of_ble_eq_true rfl) (Nat.le_of_ble_eq_true rfl) dX1_aboutChosen_61 ?_
      exact ⟨_, rfl, (by subst hwh; unfold aboutF; rw [if_neg (by omega), g1]; simp only [g2]; rfl), iv, ch, (rp2)⟩
    by_cases k_2 : k19 = 2
    · skip
      refine v_tableIn (off := 43) (tgt := 62) C dX1_aboutChosen_19 (by rw [k_2]; decide) (by rw [k_2]; decide) (by rw [k_2]; rfl) (by decide) ?_
      refine v_aload C dX1_aboutChosen_62 rfl ?_
      refine g1_154 C i_ch dX1_aboutChosen_64 ?_
      rw [hpo2]
      have hwh : wh = 2 := (nI_eq (by omega) (by decide)).mp (ek19.symm.trans k_2)
      refine g1_164 C i_pa dX1_aboutChosen_67 ?_
      refine v_val (y := rA K 15 q) (w4.trans (rv.p12 q g5).1.symm) ?_
      refine v_iret C hr (Nat.le_of_ble_eq_true rfl) (Nat.le_of_ble_eq_true rfl) dX1_aboutChosen_70 ?_
      exact ⟨_, rfl, (by subst hwh; unfold aboutF; rw [if_neg (by omega), g1]; simp only [g2]; rfl), iv, ch, (rp2)⟩
    refine v_tableOut (tgt := 71) C dX1_aboutChosen_19 (by have q0 := lv_neT k_0 (a := 0) rfl ; have q1 := lv_neT k_1 (a := 1) rfl ; have q2 := lv_neT k_2 (a := 2) rfl ; omega) (by decide) ?_
    refine v_aload C dX1_aboutChosen_71 rfl ?_
    refine g1_167 C i_ch dX1_aboutChosen_73 ?_
    refine v_val (y := brF K k ac) cr2.2.2.2 ?_
    refine v_iret C hr (Nat.le_of_ble_eq_true rfl) (Nat.le_of_ble_eq_true rfl) dX1_aboutChosen_76 ?_
    exact ⟨_, rfl, (by have h3 : wh = 3 := (by have n0 : wh ≠ 0 := (fun z => k_0 (by rw [ek19, z]; rfl)); have n1 : wh ≠ 1 := (fun z => k_1 (by rw [ek19, z]; rfl)); have n2 : wh ≠ 2 := (fun z => k_2 (by rw [ek19, z]; rfl)); omega); subst h3; unfold aboutF brF; rw [if_neg (by omega), g1]; simp only [g2]; rfl), iv, ch, (rp2)⟩
  · skip
    subst c_13
    have hno : chooseF K k ac = none := by
      cases e_ : chooseF K k ac with
      | none => rfl
      | some p_ =>
        obtain ⟨g4, q, g2⟩ := choose_some e_
        obtain ⟨g5, g6, ⟨a_, g7⟩, _⟩ := po_ch rv hrp (by omega) ha g4 g2
        rw [e_] at epo
        rw [show (some p_).bind (fun p => (offersF K k p ac).bind pt) = (offersF K k p_ ac).bind pt from rfl, g2, show (some q).bind pt = pt q from rfl, g7] at epo; cases epo
    refine v_iconst (v := -1) C dX1_aboutChosen_16 (by decide) ?_
    refine v_iret C hr (Nat.le_of_ble_eq_true rfl) (Nat.le_of_ble_eq_true rfl) dX1_aboutChosen_17 ?_
    exact ⟨_, rfl, (by unfold aboutF; rw [if_neg (by omega), hno]), iv, ch, (rp2)⟩
set_option maxRecDepth 100000 in
set_option maxHeartbeats 4000000 in
theorem ft_X9_about (l : Launch) (M : Nat → Prop) (h : Nat) (t : Int32) (ac : Int32) (wh : Int32) (W : Nat → Nat) (pt : Nat → Option Nat) (K : RS) (cq : Nat) : Ct l yX9_about cX9_about 5 (some .int) 5 0 0 120 (fun S av => av = [.ref h, .int t, .int ac, .int wh] ∧ INV M [] S ∧ is S h 9 ∧ (rep S h M W pt K) ∧ (RV K) ∧ (mO S 69 (W 0) = some cq ∧ is S cq 0)) (fun S _ r S' => ∃ v : Int32, r = some (.int v) ∧ v = aboutP K t ac wh ∧ INV M [] S' ∧ chg S S' [] [] [(0, cq), (2, cq), (3, cq), (7, cq), (8, cq), (9, cq)] [(1, cq), (4, cq), (5, cq), (6, cq)] ∧ (rep S' h M W pt K)) := by
  refine ct_of (by decide) (fun S av h => by obtain ⟨rfl, iv, i_h, hrp, rv, hch⟩ := h; exact Nat.le_of_ble_eq_true rfl) ?_
  intro p e s m args below meth c D G bs S av C hr hin hpre
  obtain ⟨rfl, iv, i_h, hrp, rv, hch⟩ := hpre
  have ch : chg S S [] [] [(0, cq), (2, cq), (3, cq), (7, cq), (8, cq), (9, cq)] [(1, cq), (4, cq), (5, cq), (6, cq)] := ch_rfl
  obtain ⟨r1, r2, r3, r4, r5, r6, ⟨k1, k2, k3, k4, k5, k6, k7, k8⟩, r8, r9, r10⟩ := id hrp
  have i_cm := r4.1
  have hc := r1.2
  have hT20 := r4.2.2.2.2.1
  have hC12 := k1.2.2.2.1
  obtain ⟨o_ch, i_ch⟩ := hch
  refine v_aload_n C dX9_about_0 rfl ?_
  refine r9_10 (b := (W 0)) C i_h hc dX9_about_1 ?_
  refine v_iload_n C dX9_about_4 rfl ?_
  refine v_callV (As := [_]) (n := 1) C (ft_X1_figureAt l _ _ W (fN K 3)) rfl i_cm (by decide) rfl ⟨wd300, wd301, wd302, wd15, wd303⟩ ⟨rfl, hy_X1_figureAt⟩ rfl ⟨Nat.le_of_ble_eq_true rfl, Nat.le_of_ble_eq_true rfl⟩ (Nat.le_of_ble_eq_true rfl) ⟨Nat.le_of_ble_eq_true rfl, Nat.le_of_ble_eq_true rfl⟩ dX9_about_5 ⟨rfl, i_cm, rfl, k1⟩ (fun r_5 S2_5 h_5 => ?_)
  obtain ⟨v5, rfl, p_v5, q_v5⟩ := h_5
  obtain rfl := q_v5.symm
  refine v_qstore C dX9_about_8 (by decide) (by first | rfl | exact cat_ok _ | simp [okS, cat_rf]) ?_
  refine v_qload C dX9_about_10 rfl ?_
  refine v_ifnull (tgt := 30) C dX9_about_12 (by decide) (fun c_12 => ?_) (fun b12 c_12 => ?_)
  · skip
    subst c_12
    have hq : blw t (fN K 3) = false := fgO_no p_v5.symm
    refine v_bipush (v := -2) C dX9_about_30 (by decide) ?_
    refine v_iret C hr (Nat.le_of_ble_eq_true rfl) (Nat.le_of_ble_eq_true rfl) dX9_about_32 ?_
    exact ⟨_, rfl, (aboutP_no (by simp [hq])), iv, ch, (hrp)⟩
  · skip
    subst c_12
    obtain ⟨k, hk, ek⟩ := below_some (fgO_yes p_v5.symm)
    subst ek
    obtain rfl : b12 = W (10 * k + 300) := Option.some.inj (p_v5.trans ((fgO_nI hC12 (by omega)).trans (if_pos hk)))
    have i_gv := (k2 k hk).1
    refine v_iload_n C dX9_about_15 rfl ?_
    refine v_callS (As := [_]) (n := 1) C (sb_isAct l _) rfl ⟨wd345, wd346, wd2, wd347⟩ hy_X9_isAct rfl ⟨Nat.le_of_ble_eq_true rfl, Nat.le_of_ble_eq_true rfl⟩ (Nat.le_of_ble_eq_true rfl) ⟨Nat.le_of_ble_eq_true rfl, Nat.le_of_ble_eq_true rfl⟩ dX9_about_16 rfl (fun r_16 S4_16 h_16 => ?_)
    obtain ⟨v16, rfl, p_v16, q_v16⟩ := h_16
    obtain rfl := q_v16.symm
    rw [isB_below (n := 12) (by decide)] at p_v16
    refine b_if_eq (tgt := 30) C dX9_about_19 (by decide) (fun c_19 => ?_) (fun c_19 => ?_)
    · skip
      have hq : blw ac 12 = false := p_v16.symm.trans c_19
      refine v_bipush (v := -2) C dX9_about_30 (by decide) ?_
      refine v_iret C hr (Nat.le_of_ble_eq_true rfl) (Nat.le_of_ble_eq_true rfl) dX9_about_32 ?_
      exact ⟨_, rfl, (aboutP_no (by simp [hq])), iv, ch, (hrp)⟩
    · skip
      obtain ⟨j, hj, ej⟩ := below_some (n := 12) (show blw ac 12 = true from p_v16.symm.trans c_19)
      subst ej
      refine v_iload_n C dX9_about_22 rfl ?_
      refine v_iconst (v := nI 5) C dX9_about_23 (by decide) ?_
      refine v_callS (As := [_, _]) (n := 2) C (sb_isBelow l _ _) rfl ⟨wd264, wd141, wd2, wd142⟩ hy_X9_isBelow rfl ⟨Nat.le_of_ble_eq_true rfl, Nat.le_of_ble_eq_true rfl⟩ (Nat.le_of_ble_eq_true rfl) ⟨Nat.le_of_ble_eq_true rfl, Nat.le_of_ble_eq_true rfl⟩ dX9_about_24 rfl (fun r_24 S6_24 h_24 => ?_)
      obtain ⟨v24, rfl, p_v24, q_v24⟩ := h_24
      obtain rfl := q_v24.symm
      rw [isB_below (n := 5) (by decide)] at p_v24
      refine b_if_ne (tgt := 33) C dX9_about_27 (by decide) (fun c_27 => ?_) (fun c_27 => ?_)
      · skip
        obtain ⟨w, hw, ew⟩ := below_some (n := 5) (show blw wh 5 = true from p_v24.symm.trans c_27)
        subst ew
        refine v_iload_n C dX9_about_33 rfl ?_
        refine v_iconst (v := nI 4) C dX9_about_34 (by decide) ?_
        refine n_icmp_ne (tgt := 51) C (by omega) (by omega) dX9_about_35 (by decide) (fun c_35 => ?_) (fun c_35 => ?_)
        · skip
          refine v_aload_n C dX9_about_51 rfl ?_
          refine r9_10 (b := (W 0)) C i_h hc dX9_about_52 ?_
          refine v_aload C dX9_about_55 rfl ?_
          refine v_iload_n C dX9_about_57 rfl ?_
          refine v_iload_n C dX9_about_58 rfl ?_
          refine v_callV (As := [_, _, _]) (n := 3) C (ft_X1_aboutChosen l M _ _ _ _ cq h W pt K k) rfl i_cm (by decide) rfl ⟨wd646, wd647, wd648, wd15, wd649⟩ ⟨rfl, hy_X1_aboutChosen⟩ rfl ⟨Nat.le_of_ble_eq_true rfl, Nat.le_of_ble_eq_true rfl⟩ (Nat.le_of_ble_eq_true rfl) ⟨Nat.le_of_ble_eq_true rfl, Nat.le_of_ble_eq_true rfl⟩ dX9_about_59 ⟨rfl, iv, i_cm, i_gv, ⟨o_ch, i_ch⟩, hrp, rv, rfl, rfl, hk, hj, (by omega)⟩ (fun r_59 S10_59 h_59 => ?_)
          obtain ⟨v59, rfl, p_v59, iv', ch_59, r_v59⟩ := h_59
          have iv := iv'
          clear iv'
          have ch := ch_tr ch ch_59 (by simp)
          have hc := mo_ch ch_59 i_h (by first | decide | simp) hc
          have i_h := is_ch ch_59 i_h
          have i_cm := is_ch ch_59 i_cm
          have i_ch := is_ch ch_59 i_ch
          have i_gv := is_ch ch_59 i_gv
          refine v_iret C hr (Nat.le_of_ble_eq_true rfl) (Nat.le_of_ble_eq_true rfl) dX9_about_62 ?_
          exact ⟨_, rfl, (p_v59.trans (aboutP_at hC12 hk hj hw).symm), iv, ch, (r_v59)⟩
        · skip
          refine v_aload_n C dX9_about_38 rfl ?_
          refine r9_10 (b := (W 0)) C i_h hc dX9_about_39 ?_
          refine v_aload C dX9_about_42 rfl ?_
          refine v_iload_n C dX9_about_44 rfl ?_
          refine v_callV (As := [_, _]) (n := 2) C (ft_X1_guardCount l M _ _ _ h W pt K k) rfl i_cm (by decide) rfl ⟨wd634, wd635, wd636, wd15, wd637⟩ ⟨rfl, hy_X1_guardCount⟩ rfl ⟨Nat.le_of_ble_eq_true rfl, Nat.le_of_ble_eq_true rfl⟩ (Nat.le_of_ble_eq_true rfl) ⟨Nat.le_of_ble_eq_true rfl, Nat.le_of_ble_eq_true rfl⟩ dX9_about_45 ⟨rfl, iv, i_cm, i_gv, hrp, rv, rfl, rfl, hk, hj⟩ (fun r_45 S10_45 h_45 => ?_)
          obtain ⟨v45, rfl, p_v45, q_v45⟩ := h_45
          obtain rfl := q_v45.symm
          refine v_goto (tgt := 62) C dX9_about_48 (by decide) ?_
          refine v_iret C hr (Nat.le_of_ble_eq_true rfl) (Nat.le_of_ble_eq_true rfl) dX9_about_62 ?_
          exact ⟨_, rfl, (by rw [aboutP_at hC12 hk hj hw, p_v45]; unfold aboutF; rw [if_pos (by omega)]), iv, ch, (hrp)⟩
      · skip
        have hq : blw wh 5 = false := p_v24.symm.trans c_27
        refine v_bipush (v := -2) C dX9_about_30 (by decide) ?_
        refine v_iret C hr (Nat.le_of_ble_eq_true rfl) (Nat.le_of_ble_eq_true rfl) dX9_about_32 ?_
        exact ⟨_, rfl, (aboutP_no (by simp [hq])), iv, ch, (hrp)⟩
set_option maxRecDepth 100000 in
set_option maxHeartbeats 4000000 in
theorem ft_X1_bodyAbove (l : Launch) (M : Nat → Prop) (h : Nat) (fi : Nat) (gv : Int32) (ac : Nat) (x : Nat) (W : Nat → Nat) (pt : Nat → Option Nat) (K : RS) (k fp : Nat) : Ct l yX1_bodyAbove cX1_bodyAbove 7 (some (.object "PuppetCast$Part")) 3 0 0 69 (fun S av => av = [.ref h, .ref fi, .int gv, .int (nI ac)] ∧ INV M [] S ∧ is S h 1 ∧ is S fi 2 ∧ (rep S x M W pt K) ∧ (RV K) ∧ (h = W 0) ∧ (fi = W (10 * k + 300)) ∧ (k < fN K 3) ∧ (ac < 12) ∧ ((gv = -1 ∧ fp = 0) ∨ ∃ p, gv = nI (rN K 7 (20 * k + p)) ∧ p < rN K 8 k ∧ fp = p + 1)) (fun S _ r S' => ∃ v : Option Nat, r = some (va_rf v) ∧ v = ((firstF K k (fp + 1) ac).bind (fun p => offersF K k p ac)).bind pt ∧ S' = S) := by
  refine ct_of (by decide) (fun S av h => by obtain ⟨rfl, iv, i_h, i_fi, hrp, rv, hh, hf, hk, ha, hgv⟩ := h; exact Nat.le_of_ble_eq_true rfl) ?_
  intro p e s m args below meth c D G bs S av C hr hin hpre
  obtain ⟨rfl, iv, i_h, i_fi, hrp, rv, hh, hf, hk, ha, hgv⟩ := hpre
  obtain ⟨r1, r2, r3, r4, r5, r6, ⟨k1, k2, k3, k4, k5, k6, k7, k8⟩, r8, r9, r10⟩ := id hrp
  have hT20 := r4.2.2.2.2.1
  have hC12 := k1.2.2.2.1
  have hrp1 := hrp
  obtain ⟨r1, r2, r3, r4, r5, r6, ⟨k1, k2, k3, k4, k5, k6, k7, k8⟩, r8, r9, r10⟩ := id hrp1
  have fa := k2 k hk
  have l_ln := k3 k hk
  have o_ln : mO S 130 fi = some (W (10 * k + 301)) := by rw [hf]; exact fa.2.1
  have i_ln := l_ln.1
  have e_len := l_ln.2.2.2.2.2.2.1
  have l20 := lnV_len l_ln
  have hT : trS S h (fN K 0) (aA W) (tlist K) := by rw [hh]; exact r4
  have hnd := fig_nd l_ln
  have hT20 := r4.2.2.2.2.1
  have l8 := fll_len (K := K) (c := k)
  have hfp : fp ≤ rN K 8 k := by rcases hgv with ⟨_, z⟩ | ⟨p, _, h1, h2⟩ <;> omega
  refine v_iload_n C dX1_bodyAbove_0 rfl ?_
  refine v_iconst (v := -1) C dX1_bodyAbove_1 (by decide) ?_
  refine v_icmp_ne (tgt := 9) C dX1_bodyAbove_2 (by decide) (fun c_2 => ?_) (fun c_2 => ?_)
  · skip
    obtain ⟨p0, hgp, hp0, hfp0⟩ : ∃ p, gv = nI (rN K 7 (20 * k + p)) ∧ p < rN K 8 k ∧ fp = p + 1 := by
      rcases hgv with ⟨z, _⟩ | z
      · exact absurd z c_2
      · exact z
    subst hgp
    have ht0 := (rv.p6 k (by omega) p0 hp0).2
    have hpo0 : posO (flist K k) (rN K 7 (20 * k + p0)) = some p0 := posO_of hnd (fll_get hp0)
    refine v_aload_n C dX1_bodyAbove_9 rfl ?_
    refine g1_101 C i_fi dX1_bodyAbove_10 ?_
    rw [o_ln]
    refine v_iload_n C dX1_bodyAbove_13 rfl ?_
    refine v_callV (As := [_]) (n := 1) C (ft_X3_placeOf l _ _ (W (10 * k + 302)) (W (10 * k + 303)) (flist K k)) rfl i_ln (by decide) rfl ⟨wd686, wd195, wd196, wd45, wd197⟩ ⟨rfl, hy_X3_placeOf⟩ rfl ⟨Nat.le_of_ble_eq_true rfl, Nat.le_of_ble_eq_true rfl⟩ (Nat.le_of_ble_eq_true rfl) ⟨Nat.le_of_ble_eq_true rfl, Nat.le_of_ble_eq_true rfl⟩ dX1_bodyAbove_14 ⟨rfl, i_ln, l_ln, (by omega)⟩ (fun r_14 S4_14 h_14 => ?_)
    obtain ⟨v14, rfl, p_v14, b_v14, q_v14⟩ := h_14
    obtain rfl := q_v14.symm
    obtain rfl : v14 = some p0 := p_v14.trans hpo0
    refine v_iconst (v := nI 1) C dX1_bodyAbove_17 (by decide) ?_
    refine n_iadd C dX1_bodyAbove_18 ?_
    refine v_istore C dX1_bodyAbove_19 (by decide) (by first | rfl | exact cat_ok _ | simp [okS, cat_rf]) ?_
    refine v_iload C dX1_bodyAbove_21 rfl ?_
    refine v_istore C dX1_bodyAbove_23 (by decide) (by first | rfl | exact cat_ok _ | simp [okS, cat_rf]) ?_
    refine V.lits (lv' := [_, _, _, _, _, _, _]) rfl ?_
    refine v_loop (fun (tt : (Nat)) lv0 => (lv0.set 5 (some (.int (nI tt))))) (fun (S1 : Mem) (tt : (Nat)) => S1 = S ∧ (tt ≤ rN K 8 k) ∧ (firstF K k (fp + 1) ac = sc (offQ K k ac) (rN K 8 k - tt) (tt + 1))) (fun (S1 : Mem) (tt : (Nat)) => rN K 8 k - tt) (t := ((p0 + 1))) rfl ⟨rfl, (by omega), (by rw [hfp0]; unfold firstF; rw [show rN K 8 k + 1 - (p0 + 1 + 1) = rN K 8 k - (p0 + 1) by omega])⟩ ?_
    intro L25 tt h_25 ih_25
    revert h_25 ih_25
    revert tt
    intro i h_25 ih_25
    obtain ⟨e_S, hri, ho⟩ := h_25
    subst e_S
    try dsimp only at *
    refine v_iload C dX1_bodyAbove_25 rfl ?_
    refine v_aload_n C dX1_bodyAbove_27 rfl ?_
    refine g1_101 C i_fi dX1_bodyAbove_28 ?_
    rw [o_ln]
    refine g1_129 C i_ln dX1_bodyAbove_31 ?_
    refine v_val e_len ?_
    refine n_icmp_ge (tgt := 76) C (by omega) (by omega) dX1_bodyAbove_34 (by decide) (fun c_34 => ?_) (fun c_34 => ?_)
    · skip
      refine v_null C dX1_bodyAbove_76 ?_
      refine v_aret C hr (Nat.le_of_ble_eq_true rfl) (Nat.le_of_ble_eq_true rfl) dX1_bodyAbove_77 ?_
      exact ⟨_, rfl, (by rw [ho, show rN K 8 k - i = 0 by omega, sc]; rfl), rfl⟩
    · skip
      have hi8 : i < rN K 8 k := by omega
      refine v_aload_n C dX1_bodyAbove_37 rfl ?_
      refine v_aload_n C dX1_bodyAbove_38 rfl ?_
      refine v_aload_n C dX1_bodyAbove_39 rfl ?_
      refine g1_101 C i_fi dX1_bodyAbove_40 ?_
      rw [o_ln]
      refine v_iload C dX1_bodyAbove_43 rfl ?_
      refine v_callV (As := [_]) (n := 1) C (ft_X3_at l _ _ (W (10 * k + 302)) (W (10 * k + 303)) (flist K k)) rfl i_ln (by decide) rfl ⟨wd538, wd187, wd188, wd45, wd189⟩ ⟨rfl, hy_X3_at⟩ rfl ⟨Nat.le_of_ble_eq_true rfl, Nat.le_of_ble_eq_true rfl⟩ (Nat.le_of_ble_eq_true rfl) ⟨Nat.le_of_ble_eq_true rfl, Nat.le_of_ble_eq_true rfl⟩ dX1_bodyAbove_45 ⟨rfl, i_ln, l_ln, (by omega)⟩ (fun r_45 S2_45 h_45 => ?_)
      obtain ⟨v45, rfl, p_v45, b_v45, q_v45⟩ := h_45
      obtain rfl := q_v45.symm
      rw [fll_get hi8] at p_v45
      obtain ⟨u, hu_⟩ : ∃ u, u = rN K 7 (20 * k + i) := ⟨_, rfl⟩
      rw [← hu_] at p_v45
      obtain rfl : v45 = some u := p_v45
      have hu : u < fN K 0 := by rw [hu_]; exact (rv.p6 k (by omega) i hi8).2
      refine v_iload_n C dX1_bodyAbove_48 rfl ?_
      refine v_callV (As := [_, _, _]) (n := 3) C (ft_X1_offered l M _ _ _ _ x W pt K k) rfl i_h (by decide) rfl ⟨wd539, wd540, wd541, wd15, wd542⟩ ⟨rfl, hy_X1_offered⟩ rfl ⟨Nat.le_of_ble_eq_true rfl, Nat.le_of_ble_eq_true rfl⟩ (Nat.le_of_ble_eq_true rfl) ⟨Nat.le_of_ble_eq_true rfl, Nat.le_of_ble_eq_true rfl⟩ dX1_bodyAbove_49 ⟨rfl, iv, i_h, i_fi, hrp, rv, hh, hf, hk, ha, hu⟩ (fun r_49 S2_49 h_49 => ?_)
      obtain ⟨v49, rfl, p_v49, q_v49⟩ := h_49
      obtain rfl := q_v49.symm
      have p_o : v49 = (offersF K k (i + 1) ac).bind pt := by rw [offU_eq, ← hu_]; exact p_v49
      refine v_qstore C dX1_bodyAbove_52 (by decide) (by first | rfl | exact cat_ok _ | simp [okS, cat_rf]) ?_
      refine v_qload C dX1_bodyAbove_54 rfl ?_
      refine v_ifnull (tgt := 70) C dX1_bodyAbove_56 (by decide) (fun c_56 => ?_) (fun b56 c_56 => ?_)
      · skip
        subst c_56
        have hP : offQ K k ac (i + 1) = false := by
          unfold offQ offP
          cases e_ : offersF K k (i + 1) ac with
          | none => rfl
          | some q =>
            obtain ⟨w1, w2, w3⟩ := off_cd rv (by omega) ha hi8 e_
            obtain ⟨a_, ea_⟩ := Option.isSome_iff_exists.mp ((r8.1 q (by omega)).mpr w3)
            rw [e_] at p_o
            rw [show (some q).bind pt = pt q from rfl, ea_] at p_o; cases p_o
        refine v_iinc C dX1_bodyAbove_70 rfl (nI_inc _) (by decide) (by first | rfl | exact cat_ok _ | simp [okS, cat_rf]) ?_
        refine v_goto (tgt := 25) C dX1_bodyAbove_73 (by decide) ?_
        refine V.drop 6 ?_
        refine V.lits (lv' := [_, _, _, _, _, _, _]) rfl ?_
        exact ih_25 _ ((i + 1)) (by first | omega | (dsimp only; omega)) ⟨rfl, (by omega), (ho.trans (by rw [show rN K 8 k - i = (rN K 8 k - (i + 1)) + 1 by omega, sc, hP]; rfl))⟩
      · skip
        subst c_56
        obtain ⟨q, e_of, e_pt⟩ : ∃ q, offersF K k (i + 1) ac = some q ∧ pt q = some b56 := by
          cases e_ : offersF K k (i + 1) ac with
          | none => rw [e_] at p_o; cases p_o
          | some q => rw [e_] at p_o; exact ⟨q, rfl, p_o.symm⟩
        obtain ⟨w1, w2, w3⟩ := off_cd rv (by omega) ha hi8 e_of
        obtain ⟨i_pa, w4, w5⟩ := part_ok rv hrp (by omega) e_pt
        obtain ⟨v1_, v2_, v3_, v4_, v5_⟩ := w5 (Or.inl w1)
        refine v_aload C dX1_bodyAbove_59 rfl ?_
        refine g1_120 C i_pa dX1_bodyAbove_61 ?_
        refine v_val (y := rA K 11 q) v5_ ?_
        refine v_if_ne (tgt := 70) C dX1_bodyAbove_64 (by decide) (fun c_64 => ?_) (fun c_64 => ?_)
        · skip
          have hP : offQ K k ac (i + 1) = false := by unfold offQ offP; rw [e_of]; exact decide_eq_false c_64
          refine v_iinc C dX1_bodyAbove_70 rfl (nI_inc _) (by decide) (by first | rfl | exact cat_ok _ | simp [okS, cat_rf]) ?_
          refine v_goto (tgt := 25) C dX1_bodyAbove_73 (by decide) ?_
          refine V.drop 6 ?_
          refine V.lits (lv' := [_, _, _, _, _, _, _]) rfl ?_
          exact ih_25 _ ((i + 1)) (by first | omega | (dsimp only; omega)) ⟨rfl, (by omega), (ho.trans (by rw [show rN K 8 k - i = (rN K 8 k - (i + 1)) + 1 by omega, sc, hP]; rfl))⟩
        · skip
          have hP : offQ K k ac (i + 1) = true := by unfold offQ offP; rw [e_of]; exact decide_eq_true c_64
          refine v_aload C dX1_bodyAbove_67 rfl ?_
          refine v_aret (o := some _) C hr (Nat.le_of_ble_eq_true rfl) (Nat.le_of_ble_eq_true rfl) dX1_bodyAbove_69 ?_
          exact ⟨_, rfl, (by rw [ho, show rN K 8 k - i = (rN K 8 k - (i + 1)) + 1 by omega, sc, hP]; show some b56 = ((offersF K k (i + 1) ac)).bind pt; rw [e_of]; exact e_pt.symm), rfl⟩
  · skip
    have hf0 : fp = 0 := by
      rcases hgv with ⟨_, z⟩ | ⟨p, h1, h2, h3⟩
      · exact z
      · exact absurd (h1.symm.trans c_2) (nI_m1 (by have := (rv.p6 k (by omega) p h2).2; omega))
    refine v_iconst (v := nI 0) C dX1_bodyAbove_5 (by decide) ?_
    refine v_goto (tgt := 19) C dX1_bodyAbove_6 (by decide) ?_
    refine v_istore C dX1_bodyAbove_19 (by decide) (by first | rfl | exact cat_ok _ | simp [okS, cat_rf]) ?_
    refine v_iload C dX1_bodyAbove_21 rfl ?_
    refine v_istore C dX1_bodyAbove_23 (by decide) (by first | rfl | exact cat_ok _ | simp [okS, cat_rf]) ?_
    refine V.lits (lv' := [_, _, _, _, _, _, _]) rfl ?_
    refine v_loop (fun (tt : (Nat)) lv0 => (lv0.set 5 (some (.int (nI tt))))) (fun (S1 : Mem) (tt : (Nat)) => S1 = S ∧ (tt ≤ rN K 8 k) ∧ (firstF K k (fp + 1) ac = sc (offQ K k ac) (rN K 8 k - tt) (tt + 1))) (fun (S1 : Mem) (tt : (Nat)) => rN K 8 k - tt) (t := (0)) rfl ⟨rfl, (Nat.zero_le _), (by rw [hf0]; unfold firstF; rw [Nat.add_sub_cancel]; rfl)⟩ ?_
    intro L25 tt h_25 ih_25
    revert h_25 ih_25
    revert tt
    intro i h_25 ih_25
    obtain ⟨e_S, hri, ho⟩ := h_25
    subst e_S
    try dsimp only at *
    refine v_iload C dX1_bodyAbove_25 rfl ?_
    refine v_aload_n C dX1_bodyAbove_27 rfl ?_
    refine g1_101 C i_fi dX1_bodyAbove_28 ?_
    rw [o_ln]
    refine g1_129 C i_ln dX1_bodyAbove_31 ?_
    refine v_val e_len ?_
    refine n_icmp_ge (tgt := 76) C (by omega) (by omega) dX1_bodyAbove_34 (by decide) (fun c_34 => ?_) (fun c_34 => ?_)
    · skip
      refine v_null C dX1_bodyAbove_76 ?_
      refine v_aret C hr (Nat.le_of_ble_eq_true rfl) (Nat.le_of_ble_eq_true rfl) dX1_bodyAbove_77 ?_
      exact ⟨_, rfl, (by rw [ho, show rN K 8 k - i = 0 by omega, sc]; rfl), rfl⟩
    · skip
      have hi8 : i < rN K 8 k := by omega
      refine v_aload_n C dX1_bodyAbove_37 rfl ?_
      refine v_aload_n C dX1_bodyAbove_38 rfl ?_
      refine v_aload_n C dX1_bodyAbove_39 rfl ?_
      refine g1_101 C i_fi dX1_bodyAbove_40 ?_
      rw [o_ln]
      refine v_iload C dX1_bodyAbove_43 rfl ?_
      refine v_callV (As := [_]) (n := 1) C (ft_X3_at l _ _ (W (10 * k + 302)) (W (10 * k + 303)) (flist K k)) rfl i_ln (by decide) rfl ⟨wd538, wd187, wd188, wd45, wd189⟩ ⟨rfl, hy_X3_at⟩ rfl ⟨Nat.le_of_ble_eq_true rfl, Nat.le_of_ble_eq_true rfl⟩ (Nat.le_of_ble_eq_true rfl) ⟨Nat.le_of_ble_eq_true rfl, Nat.le_of_ble_eq_true rfl⟩ dX1_bodyAbove_45 ⟨rfl, i_ln, l_ln, (by omega)⟩ (fun r_45 S2_45 h_45 => ?_)
      obtain ⟨v45, rfl, p_v45, b_v45, q_v45⟩ := h_45
      obtain rfl := q_v45.symm
      rw [fll_get hi8] at p_v45
      obtain ⟨u, hu_⟩ : ∃ u, u = rN K 7 (20 * k + i) := ⟨_, rfl⟩
      rw [← hu_] at p_v45
      obtain rfl : v45 = some u := p_v45
      have hu : u < fN K 0 := by rw [hu_]; exact (rv.p6 k (by omega) i hi8).2
      refine v_iload_n C dX1_bodyAbove_48 rfl ?_
      refine v_callV (As := [_, _, _]) (n := 3) C (ft_X1_offered l M _ _ _ _ x W pt K k) rfl i_h (by decide) rfl ⟨wd539, wd540, wd541, wd15, wd542⟩ ⟨rfl, hy_X1_offered⟩ rfl ⟨Nat.le_of_ble_eq_true rfl, Nat.le_of_ble_eq_true rfl⟩ (Nat.le_of_ble_eq_true rfl) ⟨Nat.le_of_ble_eq_true rfl, Nat.le_of_ble_eq_true rfl⟩ dX1_bodyAbove_49 ⟨rfl, iv, i_h, i_fi, hrp, rv, hh, hf, hk, ha, hu⟩ (fun r_49 S2_49 h_49 => ?_)
      obtain ⟨v49, rfl, p_v49, q_v49⟩ := h_49
      obtain rfl := q_v49.symm
      have p_o : v49 = (offersF K k (i + 1) ac).bind pt := by rw [offU_eq, ← hu_]; exact p_v49
      refine v_qstore C dX1_bodyAbove_52 (by decide) (by first | rfl | exact cat_ok _ | simp [okS, cat_rf]) ?_
      refine v_qload C dX1_bodyAbove_54 rfl ?_
      refine v_ifnull (tgt := 70) C dX1_bodyAbove_56 (by decide) (fun c_56 => ?_) (fun b56 c_56 => ?_)
      · skip
        subst c_56
        have hP : offQ K k ac (i + 1) = false := by
          unfold offQ offP
          cases e_ : offersF K k (i + 1) ac with
          | none => rfl
          | some q =>
            obtain ⟨w1, w2, w3⟩ := off_cd rv (by omega) ha hi8 e_
            obtain ⟨a_, ea_⟩ := Option.isSome_iff_exists.mp ((r8.1 q (by omega)).mpr w3)
            rw [e_] at p_o
            rw [show (some q).bind pt = pt q from rfl, ea_] at p_o; cases p_o
        refine v_iinc C dX1_bodyAbove_70 rfl (nI_inc _) (by decide) (by first | rfl | exact cat_ok _ | simp [okS, cat_rf]) ?_
        refine v_goto (tgt := 25) C dX1_bodyAbove_73 (by decide) ?_
        refine V.drop 6 ?_
        refine V.lits (lv' := [_, _, _, _, _, _, _]) rfl ?_
        exact ih_25 _ ((i + 1)) (by first | omega | (dsimp only; omega)) ⟨rfl, (by omega), (ho.trans (by rw [show rN K 8 k - i = (rN K 8 k - (i + 1)) + 1 by omega, sc, hP]; rfl))⟩
      · skip
        subst c_56
        obtain ⟨q, e_of, e_pt⟩ : ∃ q, offersF K k (i + 1) ac = some q ∧ pt q = some b56 := by
          cases e_ : offersF K k (i + 1) ac with
          | none => rw [e_] at p_o; cases p_o
          | some q => rw [e_] at p_o; exact ⟨q, rfl, p_o.symm⟩
        obtain ⟨w1, w2, w3⟩ := off_cd rv (by omega) ha hi8 e_of
        obtain ⟨i_pa, w4, w5⟩ := part_ok rv hrp (by omega) e_pt
        obtain ⟨v1_, v2_, v3_, v4_, v5_⟩ := w5 (Or.inl w1)
        refine v_aload C dX1_bodyAbove_59 rfl ?_
        refine g1_120 C i_pa dX1_bodyAbove_61 ?_
        refine v_val (y := rA K 11 q) v5_ ?_
        refine v_if_ne (tgt := 70) C dX1_bodyAbove_64 (by decide) (fun c_64 => ?_) (fun c_64 => ?_)
        · skip
          have hP : offQ K k ac (i + 1) = false := by unfold offQ offP; rw [e_of]; exact decide_eq_false c_64
          refine v_iinc C dX1_bodyAbove_70 rfl (nI_inc _) (by decide) (by first | rfl | exact cat_ok _ | simp [okS, cat_rf]) ?_
          refine v_goto (tgt := 25) C dX1_bodyAbove_73 (by decide) ?_
          refine V.drop 6 ?_
          refine V.lits (lv' := [_, _, _, _, _, _, _]) rfl ?_
          exact ih_25 _ ((i + 1)) (by first | omega | (dsimp only; omega)) ⟨rfl, (by omega), (ho.trans (by rw [show rN K 8 k - i = (rN K 8 k - (i + 1)) + 1 by omega, sc, hP]; rfl))⟩
        · skip
          have hP : offQ K k ac (i + 1) = true := by unfold offQ offP; rw [e_of]; exact decide_eq_true c_64
          refine v_aload C dX1_bodyAbove_67 rfl ?_
          refine v_aret (o := some _) C hr (Nat.le_of_ble_eq_true rfl) (Nat.le_of_ble_eq_true rfl) dX1_bodyAbove_69 ?_
          exact ⟨_, rfl, (by rw [ho, show rN K 8 k - i = (rN K 8 k - (i + 1)) + 1 by omega, sc, hP]; show some b56 = ((offersF K k (i + 1) ac)).bind pt; rw [e_of]; exact e_pt.symm), rfl⟩
set_option maxRecDepth 100000 in
set_option maxHeartbeats 4000000 in
theorem ft_X1_climb (l : Launch) (M : Nat → Prop) (h : Nat) (fi : Nat) (ac : Nat) (sp : Nat) (cq : Nat) (x : Nat) (W : Nat → Nat) (pt : Nat → Option Nat) (K : RS) (k : Nat) : Ct l yX1_climb cX1_climb 6 (some .int) 4 0 0 96 (fun S av => av = [.ref h, .ref fi, .int (nI ac), .int (nI sp)] ∧ INV M [] S ∧ is S h 1 ∧ is S fi 2 ∧ (mO S 69 h = some cq ∧ is S cq 0) ∧ (rep S x M W pt K) ∧ (RV K) ∧ (h = W 0) ∧ (fi = W (10 * k + 300)) ∧ (k < fN K 3) ∧ (ac < 12) ∧ (sp < 31)) (fun S _ r S' => ∃ v : Int32, r = some (.int v) ∧ v = tellO K k (climbF K k ac sp (chooseF K k ac)) ∧ INV M [] S' ∧ chg S S' [] [] [(0, cq), (2, cq), (3, cq), (7, cq), (8, cq), (9, cq)] [(1, cq), (4, cq), (5, cq), (6, cq)] ∧ (rep S' x M W pt K)) := by
  refine ct_of (by decide) (fun S av h => by obtain ⟨rfl, iv, i_h, i_fi, hch, hrp, rv, hh, hf, hk, ha, hw⟩ := h; exact Nat.le_of_ble_eq_true rfl) ?_
  intro p e s m args below meth c D G bs S av C hr hin hpre
  obtain ⟨rfl, iv, i_h, i_fi, hch, hrp, rv, hh, hf, hk, ha, hw⟩ := hpre
  have ch : chg S S [] [] [(0, cq), (2, cq), (3, cq), (7, cq), (8, cq), (9, cq)] [(1, cq), (4, cq), (5, cq), (6, cq)] := ch_rfl
  obtain ⟨o_ch, i_ch⟩ := hch
  obtain ⟨r1, r2, r3, r4, r5, r6, ⟨k1, k2, k3, k4, k5, k6, k7, k8⟩, r8, r9, r10⟩ := id hrp
  have hT20 := r4.2.2.2.2.1
  have hC12 := k1.2.2.2.1
  refine v_aload_n C dX1_climb_0 rfl ?_
  refine v_aload_n C dX1_climb_1 rfl ?_
  refine v_iload_n C dX1_climb_2 rfl ?_
  refine v_callV (As := [_, _]) (n := 2) C (ft_X1_weigh l M _ _ _ cq x W pt K k) rfl i_h (by decide) rfl ⟨wd655, wd523, wd524, wd15, wd525⟩ ⟨rfl, hy_X1_weigh⟩ rfl ⟨Nat.le_of_ble_eq_true rfl, Nat.le_of_ble_eq_true rfl⟩ (Nat.le_of_ble_eq_true rfl) ⟨Nat.le_of_ble_eq_true rfl, Nat.le_of_ble_eq_true rfl⟩ dX1_climb_3 ⟨rfl, iv, i_h, i_fi, ⟨o_ch, i_ch⟩, hrp, rv, hh, hf, hk, ha⟩ (fun r_3 S2_3 h_3 => ?_)
  obtain ⟨v3, rfl, p_v3, iv', ch_3, r_v3⟩ := h_3
  have iv := iv'
  clear iv'
  have ch := ch_tr ch ch_3 (by simp)
  have i_h := is_ch ch_3 i_h
  have i_fi := is_ch ch_3 i_fi
  have i_ch := is_ch ch_3 i_ch
  rw [p_v3]
  obtain ⟨rp2, cr2⟩ := r_v3
  have hpo := cr2.2.2.1
  refine g1_154 C i_ch dX1_climb_6 ?_
  rw [hpo]
  refine v_qstore C dX1_climb_9 (by decide) (by first | rfl | exact cat_ok _ | simp [okS, cat_rf]) ?_
  refine v_iconst (v := nI 0) C dX1_climb_11 (by decide) ?_
  refine v_istore C dX1_climb_12 (by decide) (by first | rfl | exact cat_ok _ | simp [okS, cat_rf]) ?_
  refine V.lits (lv' := [_, _, _, _, _, _]) rfl ?_
  refine v_loop (fun (tt : (Nat) × (Option Nat) × (Option Nat)) lv0 => ((lv0.set 5 (some (.int (nI tt.1)))).set 4 (some (va_rf tt.2.1)))) (fun (S1 : Mem) (tt : (Nat) × (Option Nat) × (Option Nat)) => INV M [] S1 ∧ chg S S1 [] [] [(0, cq), (2, cq), (3, cq), (7, cq), (8, cq), (9, cq)] [(1, cq), (4, cq), (5, cq), (6, cq)] ∧ is S1 h 1 ∧ is S1 fi 2 ∧ is S1 cq 0 ∧ (tt.1 ≤ sp) ∧ (rep S1 x M W pt K) ∧ (tt.2.1 = tt.2.2.bind (fun p => (offersF K k p ac).bind pt)) ∧ (∀ p, tt.2.2 = some p → p ≤ rN K 8 k ∧ ∃ q, offersF K k p ac = some q) ∧ (climbF K k ac sp (chooseF K k ac) = climbF K k ac (sp - tt.1) tt.2.2)) (fun (S1 : Mem) (tt : (Nat) × (Option Nat) × (Option Nat)) => sp - tt.1) (t := (0, ((chooseF K k ac).bind (fun p => (offersF K k p ac).bind pt)), (chooseF K k ac))) rfl ⟨iv, ch, i_h, i_fi, i_ch, (Nat.zero_le _), rp2, rfl, (fun p z => choose_some z), rfl⟩ ?_
  intro L14 tt h_14 ih_14
  obtain ⟨i, po, cu⟩ := tt
  obtain ⟨iv, ch, i_h, i_fi, i_ch, hri, rp2, epo, hcu, hcl⟩ := h_14
  try dsimp only at *
  refine v_iload C dX1_climb_14 rfl ?_
  refine v_iload_n C dX1_climb_16 rfl ?_
  refine n_icmp_ge (tgt := 44) C (by omega) (by omega) dX1_climb_17 (by decide) (fun c_17 => ?_) (fun c_17 => ?_)
  · skip
    refine v_qload C dX1_climb_44 rfl ?_
    refine v_ifnonnull (tgt := 51) C dX1_climb_46 (by decide) (fun b46 c_46 => ?_) (fun c_46 => ?_)
    · skip
      subst c_46
      obtain ⟨p_, q, g1, g2, g3⟩ : ∃ p_ q, cu = some p_ ∧ offersF K k p_ ac = some q ∧ pt q = some b46 := by
        obtain ⟨p_, g1, g2⟩ := Option.bind_eq_some_iff.mp epo.symm
        obtain ⟨q, g3, g4⟩ := Option.bind_eq_some_iff.mp g2
        exact ⟨p_, q, g1, g3, g4⟩
      obtain ⟨g4, _⟩ := hcu p_ g1
      obtain ⟨g5, g6, _, g8⟩ := po_ch rv hrp (by omega) ha g4 g2
      obtain ⟨i_pa, w4, w5⟩ := part_ok rv rp2 g5 g3
      obtain ⟨v1_, v2_, v3_, v4_, v5_⟩ := w5 g6
      have l8 := (rv.p5 k (by omega)).2
      refine v_aload C dX1_climb_51 rfl ?_
      refine g1_170 C i_pa dX1_climb_53 ?_
      refine v_val (y := gvI q) v1_ ?_
      refine v_iconst (v := -1) C dX1_climb_56 (by decide) ?_
      refine v_icmp_ne (tgt := 65) C dX1_climb_57 (by decide) (fun c_57 => ?_) (fun c_57 => ?_)
      · skip
        obtain ⟨p1, hp1⟩ : ∃ p1, p_ = p1 + 1 := by
          cases p_ with
          | zero => exact absurd g8 c_57
          | succ p1 => exact ⟨p1, rfl⟩
        refine v_aload C dX1_climb_65 rfl ?_
        refine g1_170 C i_pa dX1_climb_67 ?_
        refine v_val (y := gvI q) v1_ ?_
        refine v_iret C hr (Nat.le_of_ble_eq_true rfl) (Nat.le_of_ble_eq_true rfl) dX1_climb_70 ?_
        exact ⟨_, rfl, (by subst hp1; rw [hcl, g1, climb_end (by omega), g8]; rfl), iv, ch, (rp2)⟩
      · skip
        have hp0 : p_ = 0 := by
          cases p_ with
          | zero => rfl
          | succ p1 => exact absurd (g8.symm.trans c_57) (nI_m1 (by have := (rv.p6 k (by omega) p1 (by omega)).2; omega))
        refine v_bipush (v := nI 100) C dX1_climb_60 (by decide) ?_
        refine v_goto (tgt := 70) C dX1_climb_62 (by decide) ?_
        refine v_iret C hr (Nat.le_of_ble_eq_true rfl) (Nat.le_of_ble_eq_true rfl) dX1_climb_70 ?_
        exact ⟨_, rfl, (by rw [hcl, g1, climb_end (by omega), hp0]; rfl), iv, ch, (rp2)⟩
    · skip
      subst c_46
      have hno : cu = none := by
        cases e_ : cu with
        | none => rfl
        | some p_ =>
          obtain ⟨g4, q, g2⟩ := hcu p_ e_
          obtain ⟨g5, g6, ⟨a_, g7⟩, _⟩ := po_ch rv hrp (by omega) ha g4 g2
          rw [e_] at epo
          rw [show (some p_).bind (fun p => (offersF K k p ac).bind pt) = (offersF K k p_ ac).bind pt from rfl, g2, show (some q).bind pt = pt q from rfl, g7] at epo; cases epo
      refine v_iconst (v := -1) C dX1_climb_49 (by decide) ?_
      refine v_iret C hr (Nat.le_of_ble_eq_true rfl) (Nat.le_of_ble_eq_true rfl) dX1_climb_50 ?_
      exact ⟨_, rfl, (by rw [hcl, hno, climb_none]; rfl), iv, ch, (rp2)⟩
  · skip
    refine v_qload C dX1_climb_20 rfl ?_
    refine v_ifnull (tgt := 44) C dX1_climb_22 (by decide) (fun c_22 => ?_) (fun b22 c_22 => ?_)
    · skip
      subst c_22
      have hno : cu = none := by
        cases e_ : cu with
        | none => rfl
        | some p_ =>
          obtain ⟨g4, q, g2⟩ := hcu p_ e_
          obtain ⟨g5, g6, ⟨a_, g7⟩, _⟩ := po_ch rv hrp (by omega) ha g4 g2
          rw [e_] at epo
          rw [show (some p_).bind (fun p => (offersF K k p ac).bind pt) = (offersF K k p_ ac).bind pt from rfl, g2, show (some q).bind pt = pt q from rfl, g7] at epo; cases epo
      refine v_qload C dX1_climb_44 rfl ?_
      refine v_ifnonnull (tgt := 51) C dX1_climb_46 (by decide) (fun b46 c_46 => ?_) (fun c_46 => ?_)
      · skip
        cases c_46
      · skip
        refine v_iconst (v := -1) C dX1_climb_49 (by decide) ?_
        refine v_iret C hr (Nat.le_of_ble_eq_true rfl) (Nat.le_of_ble_eq_true rfl) dX1_climb_50 ?_
        exact ⟨_, rfl, (by rw [hcl, hno, climb_none]; rfl), iv, ch, (rp2)⟩
    · skip
      subst c_22
      obtain ⟨p_, q, g1, g2, g3⟩ : ∃ p_ q, cu = some p_ ∧ offersF K k p_ ac = some q ∧ pt q = some b22 := by
        obtain ⟨p_, g1, g2⟩ := Option.bind_eq_some_iff.mp epo.symm
        obtain ⟨q, g3, g4⟩ := Option.bind_eq_some_iff.mp g2
        exact ⟨p_, q, g1, g3, g4⟩
      obtain ⟨g4, _⟩ := hcu p_ g1
      obtain ⟨g5, g6, _, g8⟩ := po_ch rv hrp (by omega) ha g4 g2
      obtain ⟨i_pa, w4, w5⟩ := part_ok rv rp2 g5 g3
      obtain ⟨v1_, v2_, v3_, v4_, v5_⟩ := w5 g6
      have l8 := (rv.p5 k (by omega)).2
      refine v_aload_n C dX1_climb_25 rfl ?_
      refine v_aload_n C dX1_climb_26 rfl ?_
      refine v_aload C dX1_climb_27 rfl ?_
      refine g1_170 C i_pa dX1_climb_29 ?_
      refine v_val (y := gvI q) v1_ ?_
      refine v_iload_n C dX1_climb_32 rfl ?_
      refine v_callV (As := [_, _, _]) (n := 3) C (ft_X1_bodyAbove l M _ _ _ _ x W pt K k p_) rfl i_h (by decide) rfl ⟨wd681, wd682, wd683, wd15, wd684⟩ ⟨rfl, hy_X1_bodyAbove⟩ rfl ⟨Nat.le_of_ble_eq_true rfl, Nat.le_of_ble_eq_true rfl⟩ (Nat.le_of_ble_eq_true rfl) ⟨Nat.le_of_ble_eq_true rfl, Nat.le_of_ble_eq_true rfl⟩ dX1_climb_33 ⟨rfl, iv, i_h, i_fi, rp2, rv, hh, hf, hk, ha, (by rw [g8]; cases p_ with | zero => exact Or.inl ⟨rfl, rfl⟩ | succ p1 => exact Or.inr ⟨p1, rfl, by omega, rfl⟩)⟩ (fun r_33 S4_33 h_33 => ?_)
      obtain ⟨v33, rfl, p_v33, q_v33⟩ := h_33
      obtain rfl := q_v33.symm
      refine v_qstore C dX1_climb_36 (by decide) (by first | rfl | exact cat_ok _ | simp [okS, cat_rf]) ?_
      refine v_iinc C dX1_climb_38 rfl (nI_inc _) (by decide) (by first | rfl | exact cat_ok _ | simp [okS, cat_rf]) ?_
      refine v_goto (tgt := 14) C dX1_climb_41 (by decide) ?_
      refine V.lits (lv' := [_, _, _, _, _, _]) rfl ?_
      exact ih_14 _ ((i + 1), v33, (firstF K k (p_ + 1) ac)) (by first | omega | (dsimp only; omega)) ⟨iv, ch, i_h, i_fi, i_ch, (by omega), rp2, (by rw [p_v33]; cases firstF K k (p_ + 1) ac <;> rfl), (fun p z => by obtain ⟨y1, y2, y3⟩ := firstF_some z; obtain ⟨q_, y4, _⟩ := offP_some y3; exact ⟨y2, q_, y4⟩), (hcl.trans (by rw [g1]; exact climb_step (by omega)))⟩
set_option maxRecDepth 100000 in
set_option maxHeartbeats 4000000 in
theorem ft_X9_above (l : Launch) (M : Nat → Prop) (h : Nat) (t : Int32) (ac : Int32) (wh : Int32) (W : Nat → Nat) (pt : Nat → Option Nat) (K : RS) (cq : Nat) : Ct l yX9_above cX9_above 5 (some .int) 5 0 0 121 (fun S av => av = [.ref h, .int t, .int ac, .int wh] ∧ INV M [] S ∧ is S h 9 ∧ (rep S h M W pt K) ∧ (RV K) ∧ (mO S 69 (W 0) = some cq ∧ is S cq 0)) (fun S _ r S' => ∃ v : Int32, r = some (.int v) ∧ v = aboveP K t ac wh ∧ INV M [] S' ∧ chg S S' [] [] [(0, cq), (2, cq), (3, cq), (7, cq), (8, cq), (9, cq)] [(1, cq), (4, cq), (5, cq), (6, cq)] ∧ (rep S' h M W pt K)) := by
  refine ct_of (by decide) (fun S av h => by obtain ⟨rfl, iv, i_h, hrp, rv, hch⟩ := h; exact Nat.le_of_ble_eq_true rfl) ?_
  intro p e s m args below meth c D G bs S av C hr hin hpre
  obtain ⟨rfl, iv, i_h, hrp, rv, hch⟩ := hpre
  have ch : chg S S [] [] [(0, cq), (2, cq), (3, cq), (7, cq), (8, cq), (9, cq)] [(1, cq), (4, cq), (5, cq), (6, cq)] := ch_rfl
  obtain ⟨r1, r2, r3, r4, r5, r6, ⟨k1, k2, k3, k4, k5, k6, k7, k8⟩, r8, r9, r10⟩ := id hrp
  have i_cm := r4.1
  have hc := r1.2
  have hT20 := r4.2.2.2.2.1
  have hC12 := k1.2.2.2.1
  obtain ⟨o_ch, i_ch⟩ := hch
  refine v_aload_n C dX9_above_0 rfl ?_
  refine r9_10 (b := (W 0)) C i_h hc dX9_above_1 ?_
  refine v_iload_n C dX9_above_4 rfl ?_
  refine v_callV (As := [_]) (n := 1) C (ft_X1_figureAt l _ _ W (fN K 3)) rfl i_cm (by decide) rfl ⟨wd300, wd301, wd302, wd15, wd303⟩ ⟨rfl, hy_X1_figureAt⟩ rfl ⟨Nat.le_of_ble_eq_true rfl, Nat.le_of_ble_eq_true rfl⟩ (Nat.le_of_ble_eq_true rfl) ⟨Nat.le_of_ble_eq_true rfl, Nat.le_of_ble_eq_true rfl⟩ dX9_above_5 ⟨rfl, i_cm, rfl, k1⟩ (fun r_5 S2_5 h_5 => ?_)
  obtain ⟨v5, rfl, p_v5, q_v5⟩ := h_5
  obtain rfl := q_v5.symm
  refine v_qstore C dX9_above_8 (by decide) (by first | rfl | exact cat_ok _ | simp [okS, cat_rf]) ?_
  refine v_qload C dX9_above_10 rfl ?_
  refine v_ifnull (tgt := 31) C dX9_above_12 (by decide) (fun c_12 => ?_) (fun b12 c_12 => ?_)
  · skip
    subst c_12
    have hq : blw t (fN K 3) = false := fgO_no p_v5.symm
    refine v_bipush (v := -2) C dX9_above_31 (by decide) ?_
    refine v_iret C hr (Nat.le_of_ble_eq_true rfl) (Nat.le_of_ble_eq_true rfl) dX9_above_33 ?_
    exact ⟨_, rfl, (aboveP_no (by simp [hq])), iv, ch, (hrp)⟩
  · skip
    subst c_12
    obtain ⟨k, hk, ek⟩ := below_some (fgO_yes p_v5.symm)
    subst ek
    obtain rfl : b12 = W (10 * k + 300) := Option.some.inj (p_v5.trans ((fgO_nI hC12 (by omega)).trans (if_pos hk)))
    have i_gv := (k2 k hk).1
    refine v_iload_n C dX9_above_15 rfl ?_
    refine v_callS (As := [_]) (n := 1) C (sb_isAct l _) rfl ⟨wd345, wd346, wd2, wd347⟩ hy_X9_isAct rfl ⟨Nat.le_of_ble_eq_true rfl, Nat.le_of_ble_eq_true rfl⟩ (Nat.le_of_ble_eq_true rfl) ⟨Nat.le_of_ble_eq_true rfl, Nat.le_of_ble_eq_true rfl⟩ dX9_above_16 rfl (fun r_16 S4_16 h_16 => ?_)
    obtain ⟨v16, rfl, p_v16, q_v16⟩ := h_16
    obtain rfl := q_v16.symm
    rw [isB_below (n := 12) (by decide)] at p_v16
    refine b_if_eq (tgt := 31) C dX9_above_19 (by decide) (fun c_19 => ?_) (fun c_19 => ?_)
    · skip
      have hq : blw ac 12 = false := p_v16.symm.trans c_19
      refine v_bipush (v := -2) C dX9_above_31 (by decide) ?_
      refine v_iret C hr (Nat.le_of_ble_eq_true rfl) (Nat.le_of_ble_eq_true rfl) dX9_above_33 ?_
      exact ⟨_, rfl, (aboveP_no (by simp [hq])), iv, ch, (hrp)⟩
    · skip
      obtain ⟨j, hj, ej⟩ := below_some (n := 12) (show blw ac 12 = true from p_v16.symm.trans c_19)
      subst ej
      refine v_iload_n C dX9_above_22 rfl ?_
      refine v_bipush (v := nI 31) C dX9_above_23 (by decide) ?_
      refine v_callS (As := [_, _]) (n := 2) C (sb_isBelow l _ _) rfl ⟨wd264, wd141, wd2, wd142⟩ hy_X9_isBelow rfl ⟨Nat.le_of_ble_eq_true rfl, Nat.le_of_ble_eq_true rfl⟩ (Nat.le_of_ble_eq_true rfl) ⟨Nat.le_of_ble_eq_true rfl, Nat.le_of_ble_eq_true rfl⟩ dX9_above_25 rfl (fun r_25 S6_25 h_25 => ?_)
      obtain ⟨v25, rfl, p_v25, q_v25⟩ := h_25
      obtain rfl := q_v25.symm
      rw [isB_below (n := 31) (by decide)] at p_v25
      refine b_if_ne (tgt := 34) C dX9_above_28 (by decide) (fun c_28 => ?_) (fun c_28 => ?_)
      · skip
        obtain ⟨w, hw, ew⟩ := below_some (n := 31) (show blw wh 31 = true from p_v25.symm.trans c_28)
        subst ew
        refine v_aload_n C dX9_above_34 rfl ?_
        refine r9_10 (b := (W 0)) C i_h hc dX9_above_35 ?_
        refine v_aload C dX9_above_38 rfl ?_
        refine v_iload_n C dX9_above_40 rfl ?_
        refine v_iload_n C dX9_above_41 rfl ?_
        refine v_callV (As := [_, _, _]) (n := 3) C (ft_X1_climb l M _ _ _ _ cq h W pt K k) rfl i_cm (by decide) rfl ⟨wd676, wd677, wd678, wd15, wd679⟩ ⟨rfl, hy_X1_climb⟩ rfl ⟨Nat.le_of_ble_eq_true rfl, Nat.le_of_ble_eq_true rfl⟩ (Nat.le_of_ble_eq_true rfl) ⟨Nat.le_of_ble_eq_true rfl, Nat.le_of_ble_eq_true rfl⟩ dX9_above_42 ⟨rfl, iv, i_cm, i_gv, ⟨o_ch, i_ch⟩, hrp, rv, rfl, rfl, hk, hj, hw⟩ (fun r_42 S8_42 h_42 => ?_)
        obtain ⟨v42, rfl, p_v42, iv', ch_42, r_v42⟩ := h_42
        have iv := iv'
        clear iv'
        have ch := ch_tr ch ch_42 (by simp)
        have hc := mo_ch ch_42 i_h (by first | decide | simp) hc
        have i_h := is_ch ch_42 i_h
        have i_cm := is_ch ch_42 i_cm
        have i_ch := is_ch ch_42 i_ch
        have i_gv := is_ch ch_42 i_gv
        refine v_iret C hr (Nat.le_of_ble_eq_true rfl) (Nat.le_of_ble_eq_true rfl) dX9_above_45 ?_
        exact ⟨_, rfl, (p_v42.trans (aboveP_at hC12 hk hj hw).symm), iv, ch, (r_v42)⟩
      · skip
        have hq : blw wh 31 = false := p_v25.symm.trans c_28
        refine v_bipush (v := -2) C dX9_above_31 (by decide) ?_
        refine v_iret C hr (Nat.le_of_ble_eq_true rfl) (Nat.le_of_ble_eq_true rfl) dX9_above_33 ?_
        exact ⟨_, rfl, (aboveP_no (by simp [hq])), iv, ch, (hrp)⟩
