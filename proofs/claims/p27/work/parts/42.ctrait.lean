/-! THE CALL trait -/
theorem mgZ_ch {S S' : Mem} {a cm m : Nat} {x : MA} (c : chg S S' [] [a] [(65, cm)] []) (h : mgZ S m x) : mgZ S' m x := by
  obtain ⟨h1, h2, h3, h4, h5, h6, h7, ⟨G, h8⟩, ⟨D, h9⟩⟩ := h
  exact ⟨is_ch c h1, mo_ch c h1 (by simp) h2, mo_ch c h1 (by simp) h3, isA_ch c h4, isA_ch c h5, mo_ch c h1 (by simp) h6, mo_ch c h1 (by simp) h7, ⟨G, lnV_ch c h8 (by simp) (by simp) (by simp) (by simp) (by simp)⟩, ⟨D, lnV_ch c h9 (by simp) (by simp) (by simp) (by simp) (by simp)⟩⟩
theorem alF_some {LT : Nat → List Nat} {T : Nat} {gs L : List Nat} (hL : ∀ t, t < T → (LT t).length ≤ 20 ∧ ∀ u ∈ LT t, u < T) (hg : gs.length ≤ 20 ∧ ∀ u ∈ gs, u < T) (h : alF LT gs = some L) : L.Nodup ∧ ∀ u ∈ L, u < T := by
  have key : ∀ r, r < gs.length + 1 → (up (gvL LT gs) gs.length gs r).length ≤ 20 ∧ ∀ u ∈ up (gvL LT gs) gs.length gs r, u < T := fun r hr => by
    by_cases z : r = gs.length
    · rw [z, up_eq]; exact hg
    · rw [up_ne z]; exact hL _ (hg.2 _ (getD_mem (by omega)))
  refine mg_some (T := T) (fun r hr => ?_) (fun r hr i t ht => ?_) _ _ _ _ DI_0 h
  · have l := (key r hr).1
    refine ⟨fun i j hij hn => ?_, fun i t ht => ?_⟩
    · unfold rowC at *
      rw [List.getElem?_eq_none_iff] at *
      omega
    · have := (List.getElem?_eq_some_iff.mp ht).1
      omega
  · exact (key r hr).2 t (List.mem_of_getElem? ht)
def aG (T : Nat) (ta tb tc : Int32) : List Nat := tN T ta ++ tN T tb ++ tN T tc
theorem aG_ok {T : Nat} {ta tb tc : Int32} : (aG T ta tb tc).length ≤ 20 ∧ ∀ u ∈ aG T ta tb tc, u < T := by
  have la := tN_len (T := T) (t := ta)
  have lb := tN_len (T := T) (t := tb)
  have lc := tN_len (T := T) (t := tc)
  unfold aG
  refine ⟨by rw [List.length_append, List.length_append]; omega, fun u z => ?_⟩
  exact (List.mem_append.mp z).elim (fun w => (List.mem_append.mp w).elim (fun y => (tN_mem y).2.2) (fun y => (tN_mem y).2.2)) (fun y => (tN_mem y).2.2)
theorem nod_T {T : Nat} {L : List Nat} (h : L.Nodup ∧ ∀ u ∈ L, u < T) : ([T] ++ L).Nodup := by
  rw [List.nodup_append]
  refine ⟨by simp, h.1, fun a ha b hb z => ?_⟩
  have h1 := List.mem_singleton.mp ha
  have h2 := h.2 b hb
  omega
/-- what trait answers, and what becomes of the traits -/
def ctR (S S' : Mem) (cm T : Nat) (A : CA) (LT : Nat → List Nat) (ta tb tc v : Int32) : Prop := (canT T ta tb tc = false ∧ v = -2 ∧ trS S' cm T A LT) ∨ (canT T ta tb tc = true ∧ ((alF LT (aG T ta tb tc) = none ∧ v = -3 ∧ trS S' cm T A LT) ∨ ∃ L, alF LT (aG T ta tb tc) = some L ∧ ((T = 20 ∧ v = -4 ∧ trS S' cm T A LT) ∨ (T < 20 ∧ v = nI T ∧ ∃ a ln rw pl bo gu, (a ∉ mL S ∧ ln ∉ mL S ∧ rw ∉ mL S ∧ pl ∉ mL S ∧ bo ∉ mL S ∧ gu ∉ mL S) ∧ newTB S' a bo gu ∧ trS S' cm (T + 1) (cup A T a ln rw pl) (up LT T ([T] ++ L))))))
set_option maxRecDepth 100000 in
set_option maxHeartbeats 4000000 in
theorem ft_X9_trait (l : Launch) (M : Nat → Prop) (h : Nat) (ta : Int32) (tb : Int32) (tc : Int32) (cm T : Nat) (x : MA) (A : CA) (LT : Nat → List Nat) : Ct l yX9_trait cX9_trait 4 (some .int) 6 6 80 132 (fun S av => av = [.ref h, .int ta, .int tb, .int tc] ∧ INV M [] S ∧ is S h 9 ∧ (mO S 576 h = some cm) ∧ (trS S cm T A LT) ∧ (mgZ S A.mg x) ∧ (mdj x) ∧ (tdj A x T) ∧ (∀ t, t < T → (LT t).length ≤ 20 ∧ ∀ u ∈ LT t, u < T)) (fun S _ r S' => ∃ v : Int32, r = some (.int v) ∧ INV M [] S' ∧ chg S S' [x.ft, x.gr, x.gp, x.mr, x.mp] [x.rows, A.ta] [(260, A.mg), (194, x.gv), (194, x.md), (65, cm)] [] ∧ (ctR S S' cm T A LT ta tb tc v ∧ mgZ S' A.mg x)) := by
  refine ct_of (by decide) (fun S av h => by obtain ⟨rfl, iv, i_h, hc, hT, hZ, hj, hdj, hLT⟩ := h; exact Nat.le_of_ble_eq_true rfl) ?_
  intro p e s m args below meth c D G bs S av C hr hin hpre
  obtain ⟨rfl, iv, i_h, hc, hT, hZ, hj, hdj, hLT⟩ := hpre
  have ch : chg S S [x.ft, x.gr, x.gp, x.mr, x.mp] [x.rows, A.ta] [(260, A.mg), (194, x.gv), (194, x.md), (65, cm)] [] := ch_rfl
  have i_cm := hT.1
  have o_mg := hT.2.2.2.2.2.1
  obtain ⟨i_mg, _, _, i_rows, i_ft, _, _, _, _⟩ := id hZ
  have hT20 := hT.2.2.2.2.1
  refine v_aload_n C dX9_trait_0 rfl ?_
  refine r9_10 (b := cm) C i_h hc dX9_trait_1 ?_
  refine v_iload_n C dX9_trait_4 rfl ?_
  refine v_iload_n C dX9_trait_5 rfl ?_
  refine v_iload_n C dX9_trait_6 rfl ?_
  refine v_callV (As := [_, _, _]) (n := 3) C (ft_X1_canStandUnder l _ _ _ _ T A LT) rfl i_cm (by decide) rfl ⟨wd129, wd130, wd131, wd15, wd132⟩ ⟨rfl, hy_X1_canStandUnder⟩ rfl ⟨Nat.le_of_ble_eq_true rfl, Nat.le_of_ble_eq_true rfl⟩ (Nat.le_of_ble_eq_true rfl) ⟨Nat.le_of_ble_eq_true rfl, Nat.le_of_ble_eq_true rfl⟩ dX9_trait_7 ⟨rfl, i_cm, hT⟩ (fun r_7 S2_7 h_7 => ?_)
  obtain ⟨v7, rfl, p_v7, q_v7⟩ := h_7
  obtain rfl := q_v7.symm
  refine b_if_ne (tgt := 16) C dX9_trait_10 (by decide) (fun c_10 => ?_) (fun c_10 => ?_)
  · skip
    have hcan : canT T ta tb tc = true := p_v7.symm.trans c_10
    refine v_aload_n C dX9_trait_16 rfl ?_
    refine r9_10 (b := cm) C i_h hc dX9_trait_17 ?_
    refine v_iload_n C dX9_trait_20 rfl ?_
    refine v_iload_n C dX9_trait_21 rfl ?_
    refine v_iload_n C dX9_trait_22 rfl ?_
    refine v_callV (As := [_, _, _]) (n := 3) C (ft_X1_alignsUnder l M _ _ _ _ T x A LT) rfl i_cm (by decide) rfl ⟨wd143, wd144, wd145, wd15, wd146⟩ ⟨rfl, hy_X1_alignsUnder⟩ rfl ⟨Nat.le_of_ble_eq_true rfl, Nat.le_of_ble_eq_true rfl⟩ (Nat.le_of_ble_eq_true rfl) ⟨Nat.le_of_ble_eq_true rfl, Nat.le_of_ble_eq_true rfl⟩ dX9_trait_23 ⟨rfl, iv, i_cm, hT, hZ, hj, hdj, hcan⟩ (fun r_23 S4_23 h_23 => ?_)
    obtain ⟨v23, rfl, p_v23, iv', ch_23, r_v23⟩ := h_23
    have hT1 : trS S4_23 cm T A LT := trS_mg (x := x) (ch_tr ch_rfl ch_23 (by simp)) hT hdj i_rows i_ft
    have iv := iv'
    clear iv'
    have ch := ch_tr ch ch_23 (by simp)
    have hc := mo_ch ch_23 i_h (by first | decide | simp) hc
    have i_h := is_ch ch_23 i_h
    have i_cm := is_ch ch_23 i_cm
    have i_rows := isA_ch ch_23 i_rows
    have i_ft := isA_ch ch_23 i_ft
    obtain ⟨L1, y1, y2, y3⟩ := r_v23
    obtain ⟨_, _, _, eT1, _, _, _, _⟩ := id hT1
    refine b_if_ne (tgt := 32) C dX9_trait_26 (by decide) (fun c_26 => ?_) (fun c_26 => ?_)
    · skip
      obtain ⟨L, hal⟩ : ∃ L, alF LT (aG T ta tb tc) = some L := Option.isSome_iff_exists.mp (p_v23.symm.trans c_26)
      obtain rfl := y2 L hal
      have hok := alF_some hLT aG_ok hal
      refine v_aload_n C dX9_trait_32 rfl ?_
      refine r9_10 (b := cm) C i_h hc dX9_trait_33 ?_
      refine g9_36 C i_cm dX9_trait_36 ?_
      refine v_val eT1 ?_
      refine v_bipush (v := nI 20) C dX9_trait_39 (by decide) ?_
      refine n_icmp_lt (tgt := 49) C (by omega) (by omega) dX9_trait_41 (by decide) (fun c_41 => ?_) (fun c_41 => ?_)
      · skip
        refine v_aload_n C dX9_trait_49 rfl ?_
        refine r9_10 (b := cm) C i_h hc dX9_trait_50 ?_
        refine v_callV (As := []) (n := 0) C (ft_X1_addTrait l M _ T x.md x.mr x.mp A LT L1) rfl i_cm (by decide) rfl ⟨wd206, wd207, wd208, wd15, wd209⟩ ⟨rfl, hy_X1_addTrait⟩ rfl ⟨Nat.le_of_ble_eq_true rfl, Nat.le_of_ble_eq_true rfl⟩ (Nat.le_of_ble_eq_true rfl) ⟨Nat.le_of_ble_eq_true rfl, Nat.le_of_ble_eq_true rfl⟩ dX9_trait_53 ⟨rfl, iv, i_cm, hT1, c_41, ⟨y3.1, y3.2.2.2.2.2.2.1⟩, y1, (nod_T hok)⟩ (fun r_53 S8_53 h_53 => ?_)
        obtain ⟨v53, rfl, p_v53, iv', ch_53, r_v53⟩ := h_53
        have y4 := mgZ_ch ch_53 y3
        have fr : ∀ z, z ∉ mL S4_23 → z ∉ mL S := fun z hz w => hz (ch.1 z w).1
        have iv := iv'
        clear iv'
        have ch := ch_tr ch ch_53 (by simp)
        have hc := mo_ch ch_53 i_h (by first | decide | simp) hc
        have i_h := is_ch ch_53 i_h
        have i_cm := is_ch ch_53 i_cm
        have i_rows := isA_ch ch_53 i_rows
        have i_ft := isA_ch ch_53 i_ft
        refine v_iret C hr (Nat.le_of_ble_eq_true rfl) (Nat.le_of_ble_eq_true rfl) dX9_trait_56 ?_
        exact ⟨_, rfl, iv, ch, ((by
           obtain ⟨a, ln, rw, pl, bo, gu, ⟨f1, f2, f3, f4, f5, f6⟩, nb, w⟩ := r_v53
           exact ⟨Or.inr ⟨hcan, Or.inr ⟨_, hal, Or.inr ⟨c_41, by rw [p_v53], a, ln, rw, pl, bo, gu, ⟨fr _ f1, fr _ f2, fr _ f3, fr _ f4, fr _ f5, fr _ f6⟩, nb, w⟩⟩⟩, y4⟩))⟩
      · skip
        refine v_bipush (v := -4) C dX9_trait_44 (by decide) ?_
        refine v_goto (tgt := 56) C dX9_trait_46 (by decide) ?_
        refine v_iret C hr (Nat.le_of_ble_eq_true rfl) (Nat.le_of_ble_eq_true rfl) dX9_trait_56 ?_
        exact ⟨_, rfl, iv, ch, (⟨Or.inr ⟨hcan, Or.inr ⟨_, hal, Or.inl ⟨by omega, rfl, hT1⟩⟩⟩, y3⟩)⟩
    · skip
      have hal : alF LT (aG T ta tb tc) = none := Option.isSome_eq_false_iff.mp (p_v23.symm.trans c_26) |> Option.isNone_iff_eq_none.mp
      refine v_bipush (v := -3) C dX9_trait_29 (by decide) ?_
      refine v_iret C hr (Nat.le_of_ble_eq_true rfl) (Nat.le_of_ble_eq_true rfl) dX9_trait_31 ?_
      exact ⟨_, rfl, iv, ch, (⟨Or.inr ⟨hcan, Or.inl ⟨hal, rfl, hT1⟩⟩, y3⟩)⟩
  · skip
    have hcan : canT T ta tb tc = false := p_v7.symm.trans c_10
    refine v_bipush (v := -2) C dX9_trait_13 (by decide) ?_
    refine v_iret C hr (Nat.le_of_ble_eq_true rfl) (Nat.le_of_ble_eq_true rfl) dX9_trait_15 ?_
    exact ⟨_, rfl, iv, ch, (⟨Or.inl ⟨hcan, rfl, hT⟩, hZ⟩)⟩
