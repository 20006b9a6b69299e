/-! ADDING A GIVER -/
theorem getD_mem {G : List Nat} {r : Nat} (h : r < G.length) : G.getD r 0 ∈ G := by
  rw [List.getD_eq_getElem?_getD, List.getElem?_eq_getElem h]; exact List.getElem_mem h
theorem gv_up {B : Type} {f : Nat → B} {G : List Nat} {t r : Nat} (h : r < G.length + 1) : f ((G ++ [t]).getD r 0) = up (fun q => f (G.getD q 0)) G.length (f t) r := by
  by_cases z : r = G.length
  · rw [z, up_eq]; congr 1; simp [List.getD_eq_getElem?_getD]
  · rw [up_ne z]; congr 1
    rw [List.getD_eq_getElem?_getD, List.getD_eq_getElem?_getD, List.getElem?_append_left (by omega)]
theorem mgR_ext {S : Mem} {mg rows ft cnt : Nat} {ln rw pl fr ln' rw' pl' fr' : Nat → Nat} {LL LL' : Nat → List Nat} (h : mgR S mg rows ft cnt ln rw pl LL fr) (e : ∀ r, r < cnt → ln' r = ln r ∧ rw' r = rw r ∧ pl' r = pl r ∧ LL' r = LL r ∧ fr' r = fr r) : mgR S mg rows ft cnt ln' rw' pl' LL' fr' :=
  ⟨h.1, h.2.1, h.2.2.1, h.2.2.2.1, h.2.2.2.2.1, h.2.2.2.2.2.1, h.2.2.2.2.2.2.1, fun r hr => by
    obtain ⟨e1, e2, e3, e4, e5⟩ := e r hr
    rw [e1, e2, e3, e4, e5]; exact h.2.2.2.2.2.2.2 r hr⟩
def ddj (A : CA) (x : MA) (t : Nat) : Prop := A.ln t ≠ x.gv ∧ A.ln t ≠ x.md ∧ A.rw t ≠ x.gr ∧ A.rw t ≠ x.gp ∧ A.rw t ≠ x.mr ∧ A.rw t ≠ x.mp ∧ A.pl t ≠ x.gr ∧ A.pl t ≠ x.gp ∧ A.pl t ≠ x.mr ∧ A.pl t ≠ x.mp
def tN (T : Nat) (t : Int32) : List Nat := bif below t T then [t.toNatClampNeg] else []
theorem tN_no {T : Nat} {t : Int32} (h : below t T = false) : tN T t = [] := by unfold tN; rw [h]; rfl
theorem tN_nI {T k : Nat} (h : k < T) (hT : T ≤ 20) : tN T (nI k) = [k] := by unfold tN; rw [below_nI h (by omega), nI_clamp (by omega)]; rfl
set_option maxRecDepth 100000 in
set_option maxHeartbeats 4000000 in
theorem ft_X4_addGiver (l : Launch) (M : Nat → Prop) (h : Nat) (t : Nat) (x0 : Nat) (x : MA) (A : CA) (LT : Nat → List Nat) (gs ds : List Nat) : Ct l yX4_addGiver cX4_addGiver 3 none 2 0 0 42 (fun S av => av = [.ref h, .int (nI t), .ref x0] ∧ INV M [] S ∧ is S h 4 ∧ is S x0 3 ∧ (mgS S h x A LT gs ds) ∧ (mdj x) ∧ (t < 20) ∧ (t ∉ gs) ∧ (gs.length < 7) ∧ (x0 = A.ln t ∧ lnV S x0 (A.rw t) (A.pl t) (LT t)) ∧ (∀ u, u ∈ gs ∨ u = t → ddj A x u)) (fun S _ r S' => r = none ∧ INV M [] S' ∧ chg S S' [x.ft, x.gr, x.gp] [x.rows] [(260, h), (194, x.gv)] [] ∧ (mgS S' h x A LT (gs ++ [t]) ds)) := by
  refine ct_of (by decide) (fun S av h => by obtain ⟨rfl, iv, i_h, i_x0, hM, hj, ht, hn, hc, hL, hd⟩ := h; exact Nat.le_of_ble_eq_true rfl) ?_
  intro p e s m args below meth c D G bs S av C hr hin hpre
  obtain ⟨rfl, iv, i_h, i_x0, hM, hj, ht, hn, hc, hL, hd⟩ := hpre
  have ch : chg S S [x.ft, x.gr, x.gp] [x.rows] [(260, h), (194, x.gv)] [] := ch_rfl
  obtain ⟨hR, o_gv, o_md, hGv, hMd⟩ := hM
  obtain ⟨_, o_rows, o_ft, i_rows, i_ft, _, _, _⟩ := id hR
  obtain ⟨j1, j2, j3, j4, j5⟩ := hj
  obtain ⟨e0, hL⟩ := hL
  have i_gv := hGv.1
  have i_md := hMd.1
  obtain ⟨k1, k2, k3, k4, k5, k6, k7, k8, k9, k10⟩ := hd t (Or.inr rfl)
  rw [← e0] at k1 k2
  refine v_aload_n C dX4_addGiver_0 rfl ?_
  refine r4_22 (b := x.gv) C i_h o_gv dX4_addGiver_1 ?_
  refine v_iload_n C dX4_addGiver_4 rfl ?_
  refine v_callV (As := [_]) (n := 1) C (ft_X3_add l M _ _ x.gr x.gp gs) rfl i_gv (by decide) rfl ⟨wd166, wd167, wd168, wd45, wd169⟩ ⟨rfl, hy_X3_add⟩ rfl ⟨Nat.le_of_ble_eq_true rfl, Nat.le_of_ble_eq_true rfl⟩ (Nat.le_of_ble_eq_true rfl) ⟨Nat.le_of_ble_eq_true rfl, Nat.le_of_ble_eq_true rfl⟩ dX4_addGiver_5 ⟨rfl, iv, i_gv, hGv, ht, hn⟩ (fun r_5 S2_5 h_5 => ?_)
  obtain ⟨rfl, iv', ch_5, r_v5⟩ := h_5
  have hR1 : mgR S2_5 h x.rows x.ft gs.length (gvr A.ln gs) (gvr A.rw gs) (gvr A.pl gs) (gvL LT gs) (fun _ => 0) := mgR_ch ch_5 hR (by simp) (by simp; exact ⟨fun z => isA_nn hGv.2.2.2.1 i_ft (by decide) z.symm, fun z => isA_nn hGv.2.2.2.2.1 i_ft (by decide) z.symm⟩) (by simp) (by simp) (by simp) (fun r hr => by obtain ⟨z1, z2, z3, z4, z5, z6, z7, z8, z9, z10⟩ := hd (gs.getD r 0) (Or.inl (getD_mem hr)); exact ⟨by simp; exact ⟨z3, z4⟩, by simp; exact ⟨z7, z8⟩, by simp; exact z1, by simp, by simp⟩)
  have hL1 : lnV S2_5 x0 (A.rw t) (A.pl t) (LT t) := lnV_ch ch_5 hL (by simp; exact ⟨k3, k4⟩) (by simp; exact ⟨k7, k8⟩) (by simp; exact k1) (by simp) (by simp)
  have hMd1 : lnV S2_5 x.md x.mr x.mp ds := lnV_ch ch_5 hMd (by simp; exact ⟨Ne.symm j2, Ne.symm j4⟩) (by simp; exact ⟨Ne.symm j3, Ne.symm j5⟩) (by simp; exact Ne.symm j1) (by simp) (by simp)
  have iv := iv'
  clear iv'
  have ch := ch_tr ch ch_5 (by simp)
  have o_rows := mo_ch ch_5 i_h (by first | decide | simp) o_rows
  have o_ft := mo_ch ch_5 i_h (by first | decide | simp) o_ft
  have o_gv := mo_ch ch_5 i_h (by first | decide | simp) o_gv
  have o_md := mo_ch ch_5 i_h (by first | decide | simp) o_md
  have i_h := is_ch ch_5 i_h
  have i_x0 := is_ch ch_5 i_x0
  have i_rows := isA_ch ch_5 i_rows
  have i_ft := isA_ch ch_5 i_ft
  have i_gv := is_ch ch_5 i_gv
  have i_md := is_ch ch_5 i_md
  refine v_aload_n C dX4_addGiver_8 rfl ?_
  refine v_aload_n C dX4_addGiver_9 rfl ?_
  refine v_callV (As := [_]) (n := 1) C (ft_X4_addRow l M _ _ x.rows x.ft gs.length (gvr A.ln gs) (gvr A.rw gs) (gvr A.pl gs) (fun _ => 0) (gvL LT gs) (A.rw t) (A.pl t) (LT t)) rfl i_h (by decide) rfl ⟨wd170, wd171, wd172, wd31, wd173⟩ ⟨rfl, hy_X4_addRow⟩ rfl ⟨Nat.le_of_ble_eq_true rfl, Nat.le_of_ble_eq_true rfl⟩ (Nat.le_of_ble_eq_true rfl) ⟨Nat.le_of_ble_eq_true rfl, Nat.le_of_ble_eq_true rfl⟩ dX4_addGiver_10 ⟨rfl, iv, i_h, i_x0, hR1, hc, hL1⟩ (fun r_10 S2_10 h_10 => ?_)
  obtain ⟨rfl, iv', ch_10, r_v10⟩ := h_10
  have hGv2 : lnV S2_10 x.gv x.gr x.gp (gs ++ [t]) := lnV_ch ch_10 r_v5 (by simp; exact isA_nn r_v5.2.2.2.1 i_ft (by decide)) (by simp; exact isA_nn r_v5.2.2.2.2.1 i_ft (by decide)) (by simp) (by simp) (by simp)
  have hMd2 : lnV S2_10 x.md x.mr x.mp ds := lnV_ch ch_10 hMd1 (by simp; exact isA_nn hMd1.2.2.2.1 i_ft (by decide)) (by simp; exact isA_nn hMd1.2.2.2.2.1 i_ft (by decide)) (by simp) (by simp) (by simp)
  have iv := iv'
  clear iv'
  have ch := ch_tr ch ch_10 (by simp)
  have o_rows := mo_ch ch_10 i_h (by first | decide | simp) o_rows
  have o_ft := mo_ch ch_10 i_h (by first | decide | simp) o_ft
  have o_gv := mo_ch ch_10 i_h (by first | decide | simp) o_gv
  have o_md := mo_ch ch_10 i_h (by first | decide | simp) o_md
  have i_h := is_ch ch_10 i_h
  have i_x0 := is_ch ch_10 i_x0
  have i_rows := isA_ch ch_10 i_rows
  have i_ft := isA_ch ch_10 i_ft
  have i_gv := is_ch ch_10 i_gv
  have i_md := is_ch ch_10 i_md
  refine v_vret C hr (Nat.le_of_ble_eq_true rfl) (Nat.le_of_ble_eq_true rfl) dX4_addGiver_13 ?_
  exact ⟨rfl, iv, ch, ((by
     refine ⟨?_, o_gv, o_md, hGv2, hMd2⟩
     rw [List.length_append]
     show mgR _ _ _ _ (gs.length + 1) _ _ _ _ _
     refine mgR_ext r_v10 (fun r hr => ⟨by rw [e0]; exact gv_up hr, gv_up hr, gv_up hr, gv_up hr, ?_⟩)
     by_cases z : r = gs.length
     · rw [z, up_eq]
     · rw [up_ne z]))⟩
set_option maxRecDepth 100000 in
set_option maxHeartbeats 4000000 in
theorem ft_X1_addToMerger (l : Launch) (M : Nat → Prop) (h : Nat) (t : Int32) (T : Nat) (x : MA) (A : CA) (LT : Nat → List Nat) (gs ds : List Nat) : Ct l yX1_addToMerger cX1_addToMerger 3 none 3 0 0 64 (fun S av => av = [.ref h, .int t] ∧ INV M [] S ∧ is S h 1 ∧ (trS S h T A LT) ∧ (mgS S A.mg x A LT gs ds) ∧ (mdj x) ∧ (tdj A x T) ∧ (∀ u ∈ gs, u < T) ∧ (∀ k, t = nI k → k < T → k ∉ gs) ∧ (gs.length < 7)) (fun S _ r S' => r = none ∧ INV M [] S' ∧ chg S S' [x.ft, x.gr, x.gp] [x.rows] [(260, A.mg), (194, x.gv)] [] ∧ (mgS S' A.mg x A LT (gs ++ tN T t) ds)) := by
  refine ct_of (by decide) (fun S av h => by obtain ⟨rfl, iv, i_h, hT, hM, hj, hdj, hG, hn, hc⟩ := h; exact Nat.le_of_ble_eq_true rfl) ?_
  intro p e s m args below meth c D G bs S av C hr hin hpre
  obtain ⟨rfl, iv, i_h, hT, hM, hj, hdj, hG, hn, hc⟩ := hpre
  have ch : chg S S [x.ft, x.gr, x.gp] [x.rows] [(260, A.mg), (194, x.gv)] [] := ch_rfl
  obtain ⟨_, o_ta, i_ta, eT, hT20, o_mg, hta, htr⟩ := id hT
  have i_mg := hM.1.1
  refine v_aload_n C dX1_addToMerger_0 rfl ?_
  refine v_iload_n C dX1_addToMerger_1 rfl ?_
  refine v_callV (As := [_]) (n := 1) C (ft_X1_traitAt l _ _ T A LT) rfl i_h (by decide) rfl ⟨wd137, wd138, wd139, wd15, wd140⟩ ⟨rfl, hy_X1_traitAt⟩ rfl ⟨Nat.le_of_ble_eq_true rfl, Nat.le_of_ble_eq_true rfl⟩ (Nat.le_of_ble_eq_true rfl) ⟨Nat.le_of_ble_eq_true rfl, Nat.le_of_ble_eq_true rfl⟩ dX1_addToMerger_2 ⟨rfl, i_h, hT⟩ (fun r_2 S2_2 h_2 => ?_)
  obtain ⟨v2, rfl, p_v2, q_v2⟩ := h_2
  obtain rfl := q_v2.symm
  refine v_qstore_n C dX1_addToMerger_5 (by decide) (by first | rfl | exact cat_ok _ | simp [okS, cat_rf]) ?_
  refine v_qload_n C dX1_addToMerger_6 rfl ?_
  refine v_ifnull (tgt := 22) C dX1_addToMerger_7 (by decide) (fun c_7 => ?_) (fun b7 c_7 => ?_)
  · skip
    subst c_7
    have hr0 : mgS S A.mg x A LT (gs ++ tN T t) ds := by rw [tN_no (trO_no p_v2.symm), List.append_nil]; exact hM
    refine v_vret C hr (Nat.le_of_ble_eq_true rfl) (Nat.le_of_ble_eq_true rfl) dX1_addToMerger_22 ?_
    exact ⟨rfl, iv, ch, (hr0)⟩
  · skip
    subst c_7
    obtain ⟨k, hk, ek⟩ := below_some (trO_yes p_v2.symm)
    subst ek
    obtain rfl : b7 = A.tr k := Option.some.inj (p_v2.trans ((trO_nI hT20 (by omega)).trans (if_pos hk)))
    obtain ⟨i_tr, o_lk, l_lk⟩ := htr k hk
    obtain ⟨lk, elk⟩ : ∃ z, z = A.ln k := ⟨_, rfl⟩
    rw [← elk] at o_lk l_lk
    have i_lk := l_lk.1
    refine v_aload_n C dX1_addToMerger_10 rfl ?_
    refine r1_26 (b := A.mg) C i_h o_mg dX1_addToMerger_11 ?_
    refine v_iload_n C dX1_addToMerger_14 rfl ?_
    refine v_aload_n C dX1_addToMerger_15 rfl ?_
    refine r1_68 (b := lk) C i_tr o_lk dX1_addToMerger_16 ?_
    refine v_callV (As := [_, _]) (n := 2) C (ft_X4_addGiver l M _ k _ x A LT gs ds) rfl i_mg (by decide) rfl ⟨wd162, wd163, wd164, wd31, wd165⟩ ⟨rfl, hy_X4_addGiver⟩ rfl ⟨Nat.le_of_ble_eq_true rfl, Nat.le_of_ble_eq_true rfl⟩ (Nat.le_of_ble_eq_true rfl) ⟨Nat.le_of_ble_eq_true rfl, Nat.le_of_ble_eq_true rfl⟩ dX1_addToMerger_19 ⟨rfl, iv, i_mg, i_lk, hM, hj, (by omega), (hn k rfl hk), hc, ⟨elk, l_lk⟩, (fun u hu => hdj u (hu.elim (hG u) (fun z => z ▸ hk)))⟩ (fun r_19 S4_19 h_19 => ?_)
    obtain ⟨rfl, iv', ch_19, r_v19⟩ := h_19
    have iv := iv'
    clear iv'
    have ch := ch_tr ch ch_19 (by simp)
    have o_ta := mo_ch ch_19 i_h (by first | decide | simp) o_ta
    have o_mg := mo_ch ch_19 i_h (by first | decide | simp) o_mg
    have i_h := is_ch ch_19 i_h
    have i_ta := isA_ch ch_19 i_ta
    have i_mg := is_ch ch_19 i_mg
    have i_tr := is_ch ch_19 i_tr
    refine v_vret C hr (Nat.le_of_ble_eq_true rfl) (Nat.le_of_ble_eq_true rfl) dX1_addToMerger_22 ?_
    exact ⟨rfl, iv, ch, ((by rw [tN_nI hk hT20]; exact r_v19))⟩
/-! ALIGNING -/
def alF (LT : Nat → List Nat) (gs : List Nat) : Option (List Nat) := mg (rowC (up (gvL LT gs) gs.length gs)) (gs.length + 1) 20 (fun _ => 0) []
theorem tN_mem {T k : Nat} {t : Int32} (h : k ∈ tN T t) : below t T = true ∧ t = nI k ∧ k < T := by
  unfold tN at h
  cases e : below t T with
  | false => rw [e] at h; exact absurd h List.not_mem_nil
  | true =>
    rw [e] at h
    obtain ⟨j, hj, ej⟩ := below_some e
    have hk : k = t.toNatClampNeg := List.mem_singleton.mp h
    by_cases z : j < 2 ^ 31
    · rw [ej, nI_clamp z] at hk
      rw [hk]; exact ⟨rfl, ej, hj⟩
    · unfold below at e
      rw [Bool.and_eq_true, decide_eq_true_eq, decide_eq_true_eq] at e
      have e2 : t.toNatClampNeg = t.toInt.toNat := rfl
      refine ⟨rfl, ?_, by omega⟩
      rw [hk, e2]
      refine Int32.toInt_inj.mp ?_
      have := t.toInt_lt
      rw [nI_toInt (by omega)]
      omega
theorem tN_len {T : Nat} {t : Int32} : (tN T t).length ≤ 1 := by
  unfold tN
  cases below t T with
  | false => exact Nat.zero_le _
  | true => exact Nat.le_refl _
theorem below_ne {T : Nat} {t : Int32} (h : below t T = true) : t ≠ -1 := fun z => by
  subst z; unfold below at h; rw [Bool.and_eq_true, decide_eq_true_eq] at h
  exact absurd h.1 (by decide)
theorem canT_ne {T : Nat} {ta tb tc : Int32} (h : canT T ta tb tc = true) : (below ta T = true → ta ≠ tb ∧ ta ≠ tc) ∧ (below tb T = true → tb ≠ tc) := by
  unfold canT at h
  refine ⟨fun b => ?_, fun b => ?_⟩
  · have n := below_ne b
    simp [n] at h
    exact ⟨h.1.2.1, h.1.2.2⟩
  · have n := below_ne b
    simp [n] at h
    exact h.2
theorem trS_mg {S S' : Mem} {cm T : Nat} {A : CA} {x : MA} {LT : Nat → List Nat} (c : chg S S' [x.ft, x.gr, x.gp, x.mr, x.mp] [x.rows] [(260, A.mg), (194, x.gv), (194, x.md)] []) (h : trS S cm T A LT) (d : tdj A x T) (i1 : isA S x.rows 15 7) (i2 : isA S x.ft 11 7) : trS S' cm T A LT :=
  trS_ch c h (by simp; exact isA_nn h.2.2.1 i1 (by decide)) (by simp) (by simp) (by simp) (fun t ht => by
    obtain ⟨k1, k2, k3, k4, k5, k6, k7, k8, k9, k10⟩ := d t ht
    have l := (h.2.2.2.2.2.2.2 t ht).2.2
    have n1 := isA_nn l.2.2.2.1 i2 (by decide)
    have n2 := isA_nn l.2.2.2.2.1 i2 (by decide)
    exact ⟨by simp, by simp; exact ⟨n1, k3, k4, k5, k6⟩, by simp; exact ⟨n2, k7, k8, k9, k10⟩, by simp; exact ⟨k1, k2⟩, by simp, by simp⟩)
theorem up_dj {A : CA} {x : MA} {T : Nat} {gs : List Nat} (d : tdj A x T) (j : mdj x) (hG : ∀ u ∈ gs, u < T) (r : Nat) (hr : r < gs.length + 1) : up (gvr A.ln gs) gs.length x.gv r ≠ x.md ∧ up (gvr A.rw gs) gs.length x.gr r ≠ x.mr ∧ up (gvr A.rw gs) gs.length x.gr r ≠ x.mp ∧ up (gvr A.pl gs) gs.length x.gp r ≠ x.mr ∧ up (gvr A.pl gs) gs.length x.gp r ≠ x.mp := by
  by_cases z : r = gs.length
  · rw [z, up_eq, up_eq, up_eq]; exact j
  · rw [up_ne z, up_ne z, up_ne z]
    obtain ⟨k1, k2, k3, k4, k5, k6, k7, k8, k9, k10⟩ := d (gs.getD r 0) (hG _ (getD_mem (by omega)))
    exact ⟨k2, k5, k6, k9, k10⟩
theorem tN_nin {T k : Nat} {s t : Int32} (h : t = nI k) (n : below s T = true → s ≠ t) : k ∉ tN T s := fun z => n (tN_mem z).1 ((tN_mem z).2.1.trans h.symm)
set_option maxRecDepth 100000 in
set_option maxHeartbeats 4000000 in
theorem ft_X1_alignsUnder (l : Launch) (M : Nat → Prop) (h : Nat) (ta : Int32) (tb : Int32) (tc : Int32) (T : Nat) (x : MA) (A : CA) (LT : Nat → List Nat) : Ct l yX1_alignsUnder cX1_alignsUnder 4 (some .boolean) 5 0 0 109 (fun S av => av = [.ref h, .int ta, .int tb, .int tc] ∧ INV M [] S ∧ is S h 1 ∧ (trS S h T A LT) ∧ (mgZ S A.mg x) ∧ (mdj x) ∧ (tdj A x T) ∧ (canT T ta tb tc = true)) (fun S _ r S' => ∃ v : Bool, r = some (.int (bI v)) ∧ v = (alF LT (tN T ta ++ tN T tb ++ tN T tc)).isSome ∧ INV M [] S' ∧ chg S S' [x.ft, x.gr, x.gp, x.mr, x.mp] [x.rows] [(260, A.mg), (194, x.gv), (194, x.md)] [] ∧ (∃ L1, lnV S' x.md x.mr x.mp L1 ∧ (∀ L, alF LT (tN T ta ++ tN T tb ++ tN T tc) = some L → L1 = L) ∧ mgZ S' A.mg x)) := by
  refine ct_of (by decide) (fun S av h => by obtain ⟨rfl, iv, i_h, hT, hZ, hj, hdj, hcan⟩ := h; exact Nat.le_of_ble_eq_true rfl) ?_
  intro p e s m args below meth c D G bs S av C hr hin hpre
  obtain ⟨rfl, iv, i_h, hT, hZ, hj, hdj, hcan⟩ := hpre
  have ch : chg S S [x.ft, x.gr, x.gp, x.mr, x.mp] [x.rows] [(260, A.mg), (194, x.gv), (194, x.md)] [] := ch_rfl
  have o_mg := hT.2.2.2.2.2.1
  obtain ⟨i_mg, o_rows, o_ft, i_rows, i_ft, o_gv, o_md, _, _⟩ := id hZ
  obtain ⟨cn1, cn2⟩ := canT_ne hcan
  have la := tN_len (T := T) (t := ta)
  have lb := tN_len (T := T) (t := tb)
  have lc := tN_len (T := T) (t := tc)
  refine v_aload_n C dX1_alignsUnder_0 rfl ?_
  refine r1_26 (b := A.mg) C i_h o_mg dX1_alignsUnder_1 ?_
  refine v_callV (As := []) (n := 0) C (ft_X4_begin l M _ x A LT) rfl i_mg (by decide) rfl ⟨wd147, wd148, wd149, wd31, wd150⟩ ⟨rfl, hy_X4_begin⟩ rfl ⟨Nat.le_of_ble_eq_true rfl, Nat.le_of_ble_eq_true rfl⟩ (Nat.le_of_ble_eq_true rfl) ⟨Nat.le_of_ble_eq_true rfl, Nat.le_of_ble_eq_true rfl⟩ dX1_alignsUnder_4 ⟨rfl, iv, i_mg, hZ, hj⟩ (fun r_4 S2_4 h_4 => ?_)
  obtain ⟨rfl, iv', ch_4, r_v4⟩ := h_4
  have hT1 : trS S2_4 h T A LT := trS_mg (x := x) (ch_tr ch_rfl ch_4 (by simp)) hT hdj i_rows i_ft
  have iv := iv'
  clear iv'
  have ch := ch_tr ch ch_4 (by simp)
  have o_mg := mo_ch ch_4 i_h (by first | decide | simp) o_mg
  have o_rows := mo_ch ch_4 i_mg (by first | decide | simp) o_rows
  have o_ft := mo_ch ch_4 i_mg (by first | decide | simp) o_ft
  have o_gv := mo_ch ch_4 i_mg (by first | decide | simp) o_gv
  have o_md := mo_ch ch_4 i_mg (by first | decide | simp) o_md
  have i_h := is_ch ch_4 i_h
  have i_mg := is_ch ch_4 i_mg
  have i_rows := isA_ch ch_4 i_rows
  have i_ft := isA_ch ch_4 i_ft
  refine v_aload_n C dX1_alignsUnder_7 rfl ?_
  refine v_iload_n C dX1_alignsUnder_8 rfl ?_
  refine v_callV (As := [_]) (n := 1) C (ft_X1_addToMerger l M _ _ T x A LT [] []) rfl i_h (by decide) rfl ⟨wd157, wd158, wd159, wd15, wd160⟩ ⟨rfl, hy_X1_addToMerger⟩ rfl ⟨Nat.le_of_ble_eq_true rfl, Nat.le_of_ble_eq_true rfl⟩ (Nat.le_of_ble_eq_true rfl) ⟨Nat.le_of_ble_eq_true rfl, Nat.le_of_ble_eq_true rfl⟩ dX1_alignsUnder_9 ⟨rfl, iv, i_h, hT1, r_v4, hj, hdj, (fun u z => absurd z List.not_mem_nil), (fun k _ _ => List.not_mem_nil), (by decide)⟩ (fun r_9 S2_9 h_9 => ?_)
  obtain ⟨rfl, iv', ch_9, r_v9⟩ := h_9
  have hT2 : trS S2_9 h T A LT := trS_mg (x := x) (ch_tr ch_rfl ch_9 (by simp)) hT1 hdj i_rows i_ft
  have iv := iv'
  clear iv'
  have ch := ch_tr ch ch_9 (by simp)
  have o_mg := mo_ch ch_9 i_h (by first | decide | simp) o_mg
  have o_rows := mo_ch ch_9 i_mg (by first | decide | simp) o_rows
  have o_ft := mo_ch ch_9 i_mg (by first | decide | simp) o_ft
  have o_gv := mo_ch ch_9 i_mg (by first | decide | simp) o_gv
  have o_md := mo_ch ch_9 i_mg (by first | decide | simp) o_md
  have i_h := is_ch ch_9 i_h
  have i_mg := is_ch ch_9 i_mg
  have i_rows := isA_ch ch_9 i_rows
  have i_ft := isA_ch ch_9 i_ft
  rw [List.nil_append] at r_v9
  refine v_aload_n C dX1_alignsUnder_12 rfl ?_
  refine v_iload_n C dX1_alignsUnder_13 rfl ?_
  refine v_callV (As := [_]) (n := 1) C (ft_X1_addToMerger l M _ _ T x A LT (tN T ta) []) rfl i_h (by decide) rfl ⟨wd157, wd158, wd159, wd15, wd160⟩ ⟨rfl, hy_X1_addToMerger⟩ rfl ⟨Nat.le_of_ble_eq_true rfl, Nat.le_of_ble_eq_true rfl⟩ (Nat.le_of_ble_eq_true rfl) ⟨Nat.le_of_ble_eq_true rfl, Nat.le_of_ble_eq_true rfl⟩ dX1_alignsUnder_14 ⟨rfl, iv, i_h, hT2, r_v9, hj, hdj, (fun u z => (tN_mem z).2.2), (fun k e _ => tN_nin e (fun b => (cn1 b).1)), (by omega)⟩ (fun r_14 S2_14 h_14 => ?_)
  obtain ⟨rfl, iv', ch_14, r_v14⟩ := h_14
  have hT3 : trS S2_14 h T A LT := trS_mg (x := x) (ch_tr ch_rfl ch_14 (by simp)) hT2 hdj i_rows i_ft
  have iv := iv'
  clear iv'
  have ch := ch_tr ch ch_14 (by simp)
  have o_mg := mo_ch ch_14 i_h (by first | decide | simp) o_mg
  have o_rows := mo_ch ch_14 i_mg (by first | decide | simp) o_rows
  have o_ft := mo_ch ch_14 i_mg (by first | decide | simp) o_ft
  have o_gv := mo_ch ch_14 i_mg (by first | decide | simp) o_gv
  have o_md := mo_ch ch_14 i_mg (by first | decide | simp) o_md
  have i_h := is_ch ch_14 i_h
  have i_mg := is_ch ch_14 i_mg
  have i_rows := isA_ch ch_14 i_rows
  have i_ft := isA_ch ch_14 i_ft
  refine v_aload_n C dX1_alignsUnder_17 rfl ?_
  refine v_iload_n C dX1_alignsUnder_18 rfl ?_
  refine v_callV (As := [_]) (n := 1) C (ft_X1_addToMerger l M _ _ T x A LT (tN T ta ++ tN T tb) []) rfl i_h (by decide) rfl ⟨wd157, wd158, wd159, wd15, wd160⟩ ⟨rfl, hy_X1_addToMerger⟩ rfl ⟨Nat.le_of_ble_eq_true rfl, Nat.le_of_ble_eq_true rfl⟩ (Nat.le_of_ble_eq_true rfl) ⟨Nat.le_of_ble_eq_true rfl, Nat.le_of_ble_eq_true rfl⟩ dX1_alignsUnder_19 ⟨rfl, iv, i_h, hT3, r_v14, hj, hdj, (fun u z => (List.mem_append.mp z).elim (fun y => (tN_mem y).2.2) (fun y => (tN_mem y).2.2)), (fun k e _ z => (List.mem_append.mp z).elim (tN_nin e (fun b => (cn1 b).2)) (tN_nin e (fun b => cn2 b))), (by rw [List.length_append]; omega)⟩ (fun r_19 S2_19 h_19 => ?_)
  obtain ⟨rfl, iv', ch_19, r_v19⟩ := h_19
  have iv := iv'
  clear iv'
  have ch := ch_tr ch ch_19 (by simp)
  have o_mg := mo_ch ch_19 i_h (by first | decide | simp) o_mg
  have o_rows := mo_ch ch_19 i_mg (by first | decide | simp) o_rows
  have o_ft := mo_ch ch_19 i_mg (by first | decide | simp) o_ft
  have o_gv := mo_ch ch_19 i_mg (by first | decide | simp) o_gv
  have o_md := mo_ch ch_19 i_mg (by first | decide | simp) o_md
  have i_h := is_ch ch_19 i_h
  have i_mg := is_ch ch_19 i_mg
  have i_rows := isA_ch ch_19 i_rows
  have i_ft := isA_ch ch_19 i_ft
  obtain ⟨gs, egs⟩ : ∃ z, z = tN T ta ++ tN T tb ++ tN T tc := ⟨_, rfl⟩
  have lgs : gs.length < 7 := by rw [egs, List.length_append, List.length_append]; omega
  have hgs : ∀ u ∈ gs, u < T := fun u z => by
    rw [egs] at z
    exact (List.mem_append.mp z).elim (fun w => (List.mem_append.mp w).elim (fun y => (tN_mem y).2.2) (fun y => (tN_mem y).2.2)) (fun y => (tN_mem y).2.2)
  rw [← egs]
  rw [← egs] at r_v19
  obtain ⟨hR, _, _, hGv, hMd⟩ := r_v19
  obtain ⟨j1, j2, j3, j4, j5⟩ := id hj
  refine v_aload_n C dX1_alignsUnder_22 rfl ?_
  refine r1_26 (b := A.mg) C i_h o_mg dX1_alignsUnder_23 ?_
  refine v_callV (As := []) (n := 0) C (ft_X4_merges l M _ x.rows x.ft gs.length x.gv x.gr x.gp x.md x.mr x.mp (gvr A.ln gs) (gvr A.rw gs) (gvr A.pl gs) _ _ _ (gvL LT gs) _ gs) rfl i_mg (by decide) rfl ⟨wd174, wd175, wd176, wd31, wd177⟩ ⟨rfl, hy_X4_merges⟩ rfl ⟨Nat.le_of_ble_eq_true rfl, Nat.le_of_ble_eq_true rfl⟩ (Nat.le_of_ble_eq_true rfl) ⟨Nat.le_of_ble_eq_true rfl, Nat.le_of_ble_eq_true rfl⟩ dX1_alignsUnder_26 ⟨rfl, iv, i_mg, hR, lgs, ⟨o_gv, o_md⟩, hGv, hMd, ⟨rfl, rfl, rfl, rfl⟩, (up_dj hdj hj hgs)⟩ (fun r_26 S2_26 h_26 => ?_)
  obtain ⟨v26, rfl, p_v26, iv', ch_26, r_v26⟩ := h_26
  have hGv3 : lnV S2_26 x.gv x.gr x.gp gs := lnV_ch ch_26 hGv (by simp; exact ⟨isA_nn hGv.2.2.2.1 i_ft (by decide), j2, j3⟩) (by simp; exact ⟨isA_nn hGv.2.2.2.2.1 i_ft (by decide), j4, j5⟩) (by simp; exact j1) (by simp) (by simp)
  have iv := iv'
  clear iv'
  have ch := ch_tr ch ch_26 (by simp)
  have o_mg := mo_ch ch_26 i_h (by first | decide | simp) o_mg
  have o_rows := mo_ch ch_26 i_mg (by first | decide | simp) o_rows
  have o_ft := mo_ch ch_26 i_mg (by first | decide | simp) o_ft
  have o_gv := mo_ch ch_26 i_mg (by first | decide | simp) o_gv
  have o_md := mo_ch ch_26 i_mg (by first | decide | simp) o_md
  have i_h := is_ch ch_26 i_h
  have i_mg := is_ch ch_26 i_mg
  have i_rows := isA_ch ch_26 i_rows
  have i_ft := isA_ch ch_26 i_ft
  refine v_zret C hr (by first | rfl | exact bI_nar _) (Nat.le_of_ble_eq_true rfl) (Nat.le_of_ble_eq_true rfl) dX1_alignsUnder_29 ?_
  exact ⟨_, rfl, (p_v26), iv, ch, ((by obtain ⟨L1, y1, y2⟩ := r_v26; exact ⟨L1, y1, y2, i_mg, o_rows, o_ft, i_rows, i_ft, o_gv, o_md, ⟨_, hGv3⟩, ⟨_, y1⟩⟩))⟩
