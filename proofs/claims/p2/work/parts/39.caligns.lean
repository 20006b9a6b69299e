/-! ADDING A GIVER -/
theorem getD_mem {G : List Nat} {r : Nat} (h : r < G.length) : G.getD r 0 ∈ G := by
  rw [List.getD_eq_getElem?_getD, List.getElem?_eq_getElem h]; exact List.getElem_mem h
theorem gv_up {B : Type} {f : Nat → B} {G : List Nat} {t r : Nat} (h : r < G.length + 1) : f ((G ++ [t]).getD r 0) = up (fun q => f (G.getD q 0)) G.length (f t) r := by
  by_cases z : r = G.length
  · rw [z, up_eq]; congr 1; simp [List.getD_eq_getElem?_getD]
  · rw [up_ne z]; congr 1
    rw [List.getD_eq_getElem?_getD, List.getD_eq_getElem?_getD, List.getElem?_append_left (by omega)]
theorem mgR_ext {S : Mem} {mg rows ft cnt : Nat} {ln rw pl fr ln' rw' pl' fr' : Nat → Nat} {LL LL' : Nat → List Nat} (h : mgR S mg rows ft cnt ln rw pl LL fr) (e : ∀ r, r < cnt → ln' r = ln r ∧ rw' r = rw r ∧ pl' r = pl r ∧ LL' r = LL r ∧ fr' r = fr r) : mgR S mg rows ft cnt ln' rw' pl' LL' fr' :=
  ⟨h.1, h.2.1, h.2.2.1, h.2.2.2.1, h.2.2.2.2.1, h.2.2.2.2.2.1, h.2.2.2.2.2.2.1, fun r hr => by
    obtain ⟨e1, e2, e3, e4, e5⟩ := e r hr
    rw [e1, e2, e3, e4, e5]; exact h.2.2.2.2.2.2.2 r hr⟩
def ddj (A : CA) (x : MA) (t : Nat) : Prop := A.ln t ≠ x.gv ∧ A.ln t ≠ x.md ∧ A.rw t ≠ x.gr ∧ A.rw t ≠ x.gp ∧ A.rw t ≠ x.mr ∧ A.rw t ≠ x.mp ∧ A.pl t ≠ x.gr ∧ A.pl t ≠ x.gp ∧ A.pl t ≠ x.mr ∧ A.pl t ≠ x.mp
def tN (T : Nat) (t : Int32) : List Nat := bif below t T then [t.toNatClampNeg] else []
theorem tN_no {T : Nat} {t : Int32} (h : below t T = false) : tN T t = [] := by unfold tN; rw [h]; rfl
theorem tN_nI {T k : Nat} (h : k < T) (hT : T ≤ 20) : tN T (nI k) = [k] := by unfold tN; rw [below_nI h (by omega), nI_clamp (by omega)]; rfl
set_option maxRecDepth 100000 in
set_option maxHeartbeats 4000000 in
theorem ft_X4_addGiver (l : Launch) (M : Nat → Prop) (h : Nat) (t : Nat) (x0 : Nat) (x : MA) (A : CA) (LT : Nat → List Nat) (gs ds : List Nat) : Ct l yX4_addGiver cX4_addGiver 3 none 2 0 0 42 (fun S av => av = [.ref h, .int (nI t), .ref x0] ∧ INV M [] S ∧ is S h 4 ∧ is S x0 3 ∧ (mgS S h x A LT gs ds) ∧ (mdj x) ∧ (t < 20) ∧ (t ∉ gs) ∧ (gs.length < 7) ∧ (x0 = A.ln t ∧ lnV S x0 (A.rw t) (A.pl t) (LT t)) ∧ (∀ u, u ∈ gs ∨ u = t → ddj A x u)) (fun S _ r S' => r = none ∧ INV M [] S' ∧ chg S S' [x.ft, x.gr, x.gp] [x.rows] [(260, h), (194, x.gv)] [] ∧ (mgS S' h x A LT (gs ++ [t]) ds)) := by
  refine ct_of (by decide) (fun S av h => by obtain ⟨rfl, iv, i_h, i_x0, hM, hj, ht, hn, hc, hL, hd⟩ := h; exact Nat.le_of_ble_eq_true rfl) ?_
  intro p e s m args below meth c D G bs S av C hr hin hpre
  obtain ⟨rfl, iv, i_h, i_x0, hM, hj, ht, hn, hc, hL, hd⟩ := hpre
  have ch : chg S S [x.ft, x.gr, x.gp] [x.rows] [(260, h), (194, x.gv)] [] := ch_rfl
  obtain ⟨hR, o_gv, o_md, hGv, hMd⟩ := hM
  obtain ⟨_, o_rows, o_ft, i_rows, i_ft, _, _, _⟩ := id hR
  obtain ⟨j1, j2, j3, j4, j5⟩ := hj
  obtain ⟨e0, hL⟩ := hL
  have i_gv := hGv.1
  have i_md := hMd.1
  obtain ⟨k1, k2, k3, k4, k5, k6, k7, k8, k9, k10⟩ := hd t (Or.inr rfl)
  rw [← e0] at k1 k2
  refine v_aload_n C dX4_addGiver_0 rfl ?_
  refine r4_22 (b := x.gv) C i_h o_gv dX4_addGiver_1 ?_
  refine v_iload_n C dX4_addGiver_4 rfl ?_
  refine v_callV (As := [_]) (n := 1) C (ft_X3_add l M _ _ x.gr x.gp gs) rfl i_gv (by decide) rfl ⟨wd166, wd167, wd168, wd45, wd169⟩ ⟨rfl, hy_X3_add⟩ rfl ⟨Nat.le_of_ble_eq_true rfl, Nat.le_of_ble_eq_true rfl⟩ (Nat.le_of_ble_eq_true rfl) ⟨Nat.le_of_ble_eq_true rfl, Nat.le_of_ble_eq_true rfl⟩ dX4_addGiver_5 ⟨rfl, iv, i_gv, hGv, ht, hn⟩ (fun r_5 S2_5 h_5 => ?_)
  obtain ⟨rfl, iv', ch_5, r_v5⟩ := h_5
  have hR1 : mgR S2_5 h x.rows x.ft gs.length (gvr A.ln gs) (gvr A.rw gs) (gvr A.pl gs) (gvL LT gs) (fun _ => 0) := mgR_ch ch_5 hR (by simp) (by simp; exact ⟨fun z => isA_nn hGv.2.2.2.1 i_ft (by decide) z.symm, fun z => isA_nn hGv.2.2.2.2.1 i_ft (by decide) z.symm⟩) (by simp) (by simp) (by simp) (fun r hr => by obtain ⟨z1, z2, z3, z4, z5, z6, z7, z8, z9, z10⟩ := hd (gs.getD r 0) (Or.inl (getD_mem hr)); exact ⟨by simp; exact ⟨z3, z4⟩, by simp; exact ⟨z7, z8⟩, by simp; exact z1, by simp, by simp⟩)
  have hL1 : lnV S2_5 x0 (A.rw t) (A.pl t) (LT t) := lnV_ch ch_5 hL (by simp; exact ⟨k3, k4⟩) (by simp; exact ⟨k7, k8⟩) (by simp; exact k1) (by simp) (by simp)
  have hMd1 : lnV S2_5 x.md x.mr x.mp ds := lnV_ch ch_5 hMd (by simp; exact ⟨Ne.symm j2, Ne.symm j4⟩) (by simp; exact ⟨Ne.symm j3, Ne.symm j5⟩) (by simp; exact Ne.symm j1) (by simp) (by simp)
  have iv := iv'
  clear iv'
  have ch := ch_tr ch ch_5 (by simp)
  have o_rows := mo_ch ch_5 i_h (by first | decide | simp) o_rows
  have o_ft := mo_ch ch_5 i_h (by first | decide | simp) o_ft
  have o_gv := mo_ch ch_5 i_h (by first | decide | simp) o_gv
  have o_md := mo_ch ch_5 i_h (by first | decide | simp) o_md
  have i_h := is_ch ch_5 i_h
  have i_x0 := is_ch ch_5 i_x0
  have i_rows := isA_ch ch_5 i_rows
  have i_ft := isA_ch ch_5 i_ft
  have i_gv := is_ch ch_5 i_gv
  have i_md := is_ch ch_5 i_md
  refine v_aload_n C dX4_addGiver_8 rfl ?_
  refine v_aload_n C dX4_addGiver_9 rfl ?_
  refine v_callV (As := [_]) (n := 1) C (ft_X4_addRow l M _ _ x.rows x.ft gs.length (gvr A.ln gs) (gvr A.rw gs) (gvr A.pl gs) (fun _ => 0) (gvL LT gs) (A.rw t) (A.pl t) (LT t)) rfl i_h (by decide) rfl ⟨wd170, wd171, wd172, wd31, wd173⟩ ⟨rfl, hy_X4_addRow⟩ rfl ⟨Nat.le_of_ble_eq_true rfl, Nat.le_of_ble_eq_true rfl⟩ (Nat.le_of_ble_eq_true rfl) ⟨Nat.le_of_ble_eq_true rfl, Nat.le_of_ble_eq_true rfl⟩ dX4_addGiver_10 ⟨rfl, iv, i_h, i_x0, hR1, hc, hL1⟩ (fun r_10 S2_10 h_10 => ?_)
  obtain ⟨rfl, iv', ch_10, r_v10⟩ := h_10
  have hGv2 : lnV S2_10 x.gv x.gr x.gp (gs ++ [t]) := lnV_ch ch_10 r_v5 (by simp; exact isA_nn r_v5.2.2.2.1 i_ft (by decide)) (by simp; exact isA_nn r_v5.2.2.2.2.1 i_ft (by decide)) (by simp) (by simp) (by simp)
  have hMd2 : lnV S2_10 x.md x.mr x.mp ds := lnV_ch ch_10 hMd1 (by simp; exact isA_nn hMd1.2.2.2.1 i_ft (by decide)) (by simp; exact isA_nn hMd1.2.2.2.2.1 i_ft (by decide)) (by simp) (by simp) (by simp)
  have iv := iv'
  clear iv'
  have ch := ch_tr ch ch_10 (by simp)
  have o_rows := mo_ch ch_10 i_h (by first | decide | simp) o_rows
  have o_ft := mo_ch ch_10 i_h (by first | decide | simp) o_ft
  have o_gv := mo_ch ch_10 i_h (by first | decide | simp) o_gv
  have o_md := mo_ch ch_10 i_h (by first | decide | simp) o_md
  have i_h := is_ch ch_10 i_h
  have i_x0 := is_ch ch_10 i_x0
  have i_rows := isA_ch ch_10 i_rows
  have i_ft := isA_ch ch_10 i_ft
  have i_gv := is_ch ch_10 i_gv
  have i_md := is_ch ch_10 i_md
  refine v_vret C hr (Nat.le_of_ble_eq_true rfl) (Nat.le_of_ble_eq_true rfl) dX4_addGiver_13 ?_
  exact ⟨rfl, iv, ch, ((by
     refine ⟨?_, o_gv, o_md, hGv2, hMd2⟩
     rw [List.length_append]
     show mgR _ _ _ _ (gs.length + 1) _ _ _ _ _
     refine mgR_ext r_v10 (fun r hr => ⟨by rw [e0]; exact gv_up hr, gv_up hr, gv_up hr, gv_up hr, ?_⟩)
     by_cases z : r = gs.length
     · rw [z, up_eq]
     · rw [up_ne z]))⟩
set_option maxRecDepth 100000 in
set_option maxHeartbeats 4000000 in
theorem ft_X1_addToMerger (l : Launch) (M : Nat → Prop) (h : Nat) (t : Int32) (T : Nat) (x : MA) (A : CA) (LT : Nat → List Nat) (gs ds : List Nat) : Ct l yX1_addToMerger cX1_addToMerger 3 none 3 0 0 64 (fun S av => av = [.ref h, .int t] ∧ INV M [] S ∧ is S h 1 ∧ (trS S h T A LT) ∧ (mgS S A.mg x A LT gs ds) ∧ (mdj x) ∧ (tdj A x T) ∧ (∀ u ∈ gs, u < T) ∧ (∀ k, t = nI k → k < T → k ∉ gs) ∧ (gs.length < 7)) (fun S _ r S' => r = none ∧ INV M [] S' ∧ chg S S' [x.ft, x.gr, x.gp] [x.rows] [(260, A.mg), (194, x.gv)] [] ∧ (mgS S' A.mg x A LT (gs ++ tN T t) ds)) := by
  refine ct_of (by decide) (fun S av h => by obtain ⟨rfl, iv, i_h, hT, hM, hj, hdj, hG, hn, hc⟩ := h; exact Nat.le_of_ble_eq_true rfl) ?_
  intro p e s m args below meth c D G bs S av C hr hin hpre
  obtain ⟨rfl, iv, i_h, hT, hM, hj, hdj, hG, hn, hc⟩ := hpre
  have ch : chg S S [x.ft, x.gr, x.gp] [x.rows] [(260, A.mg), (194, x.gv)] [] := ch_rfl
  obtain ⟨_, o_ta, i_ta, eT, hT20, o_mg, hta, htr⟩ := id hT
  have i_mg := hM.1.1
  refine v_aload_n C dX1_addToMerger_0 rfl ?_
  refine v_iload_n C dX1_addToMerger_1 rfl ?_
  refine v_callV (As := [_]) (n := 1) C (ft_X1_traitAt l _ _ T A LT) rfl i_h (by decide) rfl ⟨wd137, wd138, wd139, wd15, wd140⟩ ⟨rfl, hy_X1_traitAt⟩ rfl ⟨Nat.le_of_ble_eq_true rfl, Nat.le_of_ble_eq_true rfl⟩ (Nat.le_of_ble_eq_true rfl) ⟨Nat.le_of_ble_eq_true rfl, Nat.le_of_ble_eq_true rfl⟩ dX1_addToMerger_2 ⟨rfl, i_h, hT⟩ (fun r_2 S2_2 h_2 => ?_)
  obtain ⟨v2, rfl, p_v2, q_v2⟩ := h_2
  obtain rfl := q_v2.symm
  refine v_qstore_n C dX1_addToMerger_5 (by decide) (by first | rfl | exact cat_ok _ | simp [okS, cat_rf]) ?_
  refine v_qload_n C dX1_addToMerger_6 rfl ?_
  refine v_ifnull (tgt := 22) C dX1_addToMerger_7 (by decide) (fun c_7 => ?_) (fun b7 c_7 => ?_)
  · skip
    subst c_7
    have hr0 : mgS S A.mg x A LT (gs ++ tN T t) ds := by rw [tN_no (trO_no p_v2.symm), List.append_nil]; exact hM
    refine v_vret C hr (Nat.le_of_ble_eq_true rfl) (Nat.le_of_ble_eq_true rfl) dX1_addToMerger_22 ?_
    exact ⟨rfl, iv, ch, (hr0)⟩
  · skip
    subst c_7
    obtain ⟨k, hk, ek⟩ := below_some (trO_yes p_v2.symm)
    subst ek
    obtain rfl : b7 = A.tr k := Option.some.inj (p_v2.trans ((trO_nI hT20 (by omega)).trans (if_pos hk)))
    obtain ⟨i_tr, o_lk, l_lk⟩ := htr k hk
    obtain ⟨lk, elk⟩ : ∃ z, z = A.ln k := ⟨_, rfl⟩
    rw [← elk] at o_lk l_lk
    have i_lk := l_lk.1
    refine v_aload_n C dX1_addToMerger_10 rfl ?_
    refine r1_26 (b := A.mg) C i_h o_mg dX1_addToMerger_11 ?_
    refine v_iload_n C dX1_addToMerger_14 rfl ?_
    refine v_aload_n C dX1_addToMerger_15 rfl ?_
    refine r1_68 (b := lk) C i_tr o_lk dX1_addToMerger_16 ?_
    refine v_callV (As := [_, _]) (n := 2) C (ft_X4_addGiver l M _ k _ x A LT gs ds) rfl i_mg (by decide) rfl ⟨wd162, wd163, wd164, wd31, wd165⟩ ⟨rfl, hy_X4_addGiver⟩ rfl ⟨Nat.le_of_ble_eq_true rfl, Nat.le_of_ble_eq_true rfl⟩ (Nat.le_of_ble_eq_true rfl) ⟨Nat.le_of_ble_eq_true rfl, Nat.le_of_ble_eq_true rfl⟩ dX1_addToMerger_19 ⟨rfl, iv, i_mg, i_lk, hM, hj, (by omega), (hn k rfl hk), hc, ⟨elk, l_lk⟩, (fun u hu => hdj u (hu.elim (hG u) (fun z => z ▸ hk)))⟩ (fun r_19 S4_19 h_19 => ?_)
    obtain ⟨rfl, iv', ch_19, r_v19⟩ := h_19
    have iv := iv'
    clear iv'
    have ch := ch_tr ch ch_19 (by simp)
    have o_ta := mo_ch ch_19 i_h (by first | decide | simp) o_ta
    have o_mg := mo_ch ch_19 i_h (by first | decide | simp) o_mg
    have i_h := is_ch ch_19 i_h
    have i_ta := isA_ch ch_19 i_ta
    have i_mg := is_ch ch_19 i_mg
    have i_tr := is_ch ch_19 i_tr
    refine v_vret C hr (Nat.le_of_ble_eq_true rfl) (Nat.le_of_ble_eq_true rfl) dX1_addToMerger_22 ?_
    exact ⟨rfl, iv, ch, ((by rw [tN_nI hk hT20]; exact r_v19))⟩
