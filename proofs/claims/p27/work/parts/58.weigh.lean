/-! QUESTIONS LEAVE IT -/
theorem ext_c {S S' : Mem} {cq : Nat} {FI FO : List (Nat × Nat)} (c : chg S S' [] [] FI FO) (hi : ∀ q ∈ FI, q.2 = cq) (ho : ∀ q ∈ FO, q.2 = cq) : ext S S' (fun a => a = cq) := ⟨c.1, fun a ha n => ⟨fun g => c.2.2.2.1 a ha g (fun z => n (hi _ z)), fun g => c.2.2.2.2.1 a ha g (fun z => n (ho _ z)), fun g => (c.2.2.2.2.2 a ha).2 g, fun i => congrFun (c.2.1 a ha List.not_mem_nil) i, fun i => congrFun (c.2.2.1 a ha List.not_mem_nil) i, fun i => congrFun (c.2.2.2.2.2 a ha).1 i⟩⟩
theorem rep_c {S S' : Mem} {x cq : Nat} {M : Nat → Prop} {W : Nat → Nat} {pt : Nat → Option Nat} {K : RS} {FI FO : List (Nat × Nat)} (c : chg S S' [] [] FI FO) (hi : ∀ q ∈ FI, q.2 = cq) (ho : ∀ q ∈ FO, q.2 = cq) (i : is S cq 0) (nM : ¬ M cq) (r : rep S x M W pt K) : rep S' x M W pt K := rep_ext (ext_c c hi ho) (fun a z => Or.inr (Or.inl (by rw [z]; exact i.2))) (fun a z m => absurd (z ▸ m) nM) r
theorem part_ok {S : Mem} {x : Nat} {M : Nat → Prop} {W : Nat → Nat} {pt : Nat → Option Nat} {K : RS} (rv : RV K) (r : rep S x M W pt K) {k a : Nat} (hk : k < 624) (h : pt k = some a) : is S a 5 ∧ mI S 328 a = nI (rN K 15 k) ∧ (k < 240 ∨ 480 ≤ k → mI S 320 a = gvI k ∧ mI S 322 a = rA K 12 k ∧ mI S 323 a = nI (rN K 13 k) ∧ rN K 13 k < 4 ∧ mI S 324 a = rA K 11 k) := by
  obtain ⟨p1, p2, p3⟩ := r.2.2.2.2.2.2.2.1.2.1 k a hk h
  refine ⟨p1, p2, fun hk2 => ?_⟩
  obtain ⟨q1, q2, q3, q4⟩ := p3 hk2
  exact ⟨q1, q2, q3.trans (rv.p13 k hk).1, (rv.p13 k hk).2, q4⟩
theorem off_tie {S : Mem} {x : Nat} {M : Nat → Prop} {W : Nat → Nat} {pt : Nat → Option Nat} {K : RS} {c u n : Nat} (rv : RV K) (r : rep S x M W pt K) (hc : c < 12) (hn : n < 12) (hu : u < fN K 0) : (srcF K c u n).bind (mP S (W (6 * u + 104))) = (offU K c u n).bind pt := by
  have h20 := rv.p1.2
  have b := (r.2.2.2.2.2.1 u hu).2.2.2.2
  have ps := r.2.2.2.2.2.2.2.1
  unfold offU
  cases e : srcF K c u n with
  | none => rfl
  | some q =>
    have hq := src_lt rv hc hn e
    show mP S (W (6 * u + 104)) q = (if rA K 10 (12 * u + q) = 0 then none else some (12 * u + q)).bind pt
    rw [(b q hq).1]
    by_cases z : rA K 10 (12 * u + q) = 0
    · rw [if_pos z]
      cases e2 : pt (12 * u + q) with
      | none => rfl
      | some a => exact absurd z ((ps.1 _ (by omega)).mp (by rw [e2]; rfl))
    · rw [if_neg z]; rfl
theorem fig_nd {S : Mem} {W : Nat → Nat} {K : RS} {c : Nat} (h : fL1 S W K c) : (flist K c).Nodup := h.2.2.2.2.2.2.2.1
set_option maxRecDepth 100000 in
set_option maxHeartbeats 4000000 in
theorem fo_X8_bodyFor (l : Launch) (h : Nat) (j : Option Nat) (bo : Nat) : Ct l yX8_bodyFor cX8_bodyFor 2 (some (.object "PuppetCast$Part")) 1 0 0 21 (fun S av => av = [.ref h, .int (oI j)] ∧ is S h 8 ∧ (∀ q, j = some q → q < 12) ∧ (mO S 513 h = some bo ∧ isA S bo 16 12)) (fun S _ r S' => ∃ v : Option Nat, r = some (va_rf v) ∧ v = j.bind (mP S bo) ∧ S' = S) := by
  refine ct_of (by decide) (fun S av h => by obtain ⟨rfl, i_h, hj, hb⟩ := h; exact Nat.le_of_ble_eq_true rfl) ?_
  intro p e s m args below meth c D G bs S av C hr hin hpre
  obtain ⟨rfl, i_h, hj, hb⟩ := hpre
  obtain ⟨o_bo, i_bo⟩ := hb
  obtain sp0 | ⟨j0, sp0⟩ : j = none ∨ ∃ z, j = some z := (by cases j; exact Or.inl rfl; exact Or.inr ⟨_, rfl⟩)
  · skip
    subst sp0
    refine v_iload_n C dX8_bodyFor_0 rfl ?_
    refine v_bipush (v := nI 12) C dX8_bodyFor_1 (by decide) ?_
    refine v_callSN (As := [_, _]) (n := 2) C (sb_isBelow l _ _) rfl ⟨(by decide +kernel), wd141, wd2, wd142⟩ hy_X9_isBelow rfl ⟨Nat.le_of_ble_eq_true rfl, Nat.le_of_ble_eq_true rfl⟩ (Nat.le_of_ble_eq_true rfl) ⟨Nat.le_of_ble_eq_true rfl, Nat.le_of_ble_eq_true rfl⟩ dX8_bodyFor_3 rfl (fun r_3 S4_3 h_3 => ?_)
    obtain ⟨v3, rfl, p_v3, q_v3⟩ := h_3
    obtain rfl := q_v3.symm
    refine b_if_eq (tgt := 18) C dX8_bodyFor_6 (by decide) (fun c_6 => ?_) (fun c_6 => ?_)
    · skip
      refine v_null C dX8_bodyFor_18 ?_
      refine v_aret C hr (Nat.le_of_ble_eq_true rfl) (Nat.le_of_ble_eq_true rfl) dX8_bodyFor_19 ?_
      exact ⟨_, rfl, (rfl), rfl⟩
    · skip
      exact absurd (p_v3.symm.trans c_6) (by decide)
  · skip
    subst sp0
    have hj0 := hj j0 rfl
    refine v_iload_n C dX8_bodyFor_0 rfl ?_
    refine v_val (y := nI j0) rfl ?_
    refine v_bipush (v := nI 12) C dX8_bodyFor_1 (by decide) ?_
    refine v_callSN (As := [_, _]) (n := 2) C (sb_isBelow l _ _) rfl ⟨(by decide +kernel), wd141, wd2, wd142⟩ hy_X9_isBelow rfl ⟨Nat.le_of_ble_eq_true rfl, Nat.le_of_ble_eq_true rfl⟩ (Nat.le_of_ble_eq_true rfl) ⟨Nat.le_of_ble_eq_true rfl, Nat.le_of_ble_eq_true rfl⟩ dX8_bodyFor_3 rfl (fun r_3 S4_3 h_3 => ?_)
    obtain ⟨v3, rfl, p_v3, q_v3⟩ := h_3
    obtain rfl := q_v3.symm
    rw [isB_nI (by omega) (by decide)] at p_v3
    refine b_if_eq (tgt := 18) C dX8_bodyFor_6 (by decide) (fun c_6 => ?_) (fun c_6 => ?_)
    · skip
      exact absurd hj0 (of_decide_eq_false (p_v3.symm.trans c_6))
    · skip
      refine v_aload_n C dX8_bodyFor_9 rfl ?_
      refine r8_20 (b := bo) C i_h o_bo dX8_bodyFor_10 ?_
      refine v_iload_n C dX8_bodyFor_13 rfl ?_
      refine v_val (y := nI j0) rfl ?_
      refine v_aald (t0 := 5) C i_bo (by decide) rfl (vp_in_nI (by omega) (by omega)) dX8_bodyFor_14 ?_
      rw [nI_clamp (by omega)]
      obtain ⟨q14, e_q14⟩ : ∃ z, z = mP S bo j0 := ⟨_, rfl⟩
      rw [← e_q14]
      refine v_goto (tgt := 19) C dX8_bodyFor_15 (by decide) ?_
      refine v_aret C hr (Nat.le_of_ble_eq_true rfl) (Nat.le_of_ble_eq_true rfl) dX8_bodyFor_19 ?_
      exact ⟨_, rfl, (e_q14), rfl⟩
theorem nm_lt2 {K : RS} (rv : RV K) (hC : fN K 3 ≤ 12) (k w j : Nat) (hk : k < fN K 3) : (∀ q, renamedF K k w j = some q → q < 12) ∧ ∀ q, namedF K k w j = some q → q < 12 := by
  constructor
  · intro q h
    unfold renamedF at h
    obtain ⟨i, h1, rfl⟩ := Option.map_eq_some_iff.mp h
    obtain ⟨_, h2, _⟩ := sc_some h1
    exact (rv.p11 k (by omega) i (by omega)).2.2
  · intro q h
    unfold namedF at h
    obtain ⟨i, h1, rfl⟩ := Option.map_eq_some_iff.mp h
    obtain ⟨_, h2, _⟩ := sc_some h1
    exact (rv.p11 k (by omega) i (by omega)).1.2
set_option maxRecDepth 100000 in
set_option maxHeartbeats 4000000 in
theorem ft_X1_offered (l : Launch) (M : Nat → Prop) (h : Nat) (fi : Nat) (u : Nat) (ac : Nat) (x : Nat) (W : Nat → Nat) (pt : Nat → Option Nat) (K : RS) (k : Nat) : Ct l yX1_offered cX1_offered 5 (some (.object "PuppetCast$Part")) 2 0 0 45 (fun S av => av = [.ref h, .ref fi, .int (nI u), .int (nI ac)] ∧ INV M [] S ∧ is S h 1 ∧ is S fi 2 ∧ (rep S x M W pt K) ∧ (RV K) ∧ (h = W 0) ∧ (fi = W (10 * k + 300)) ∧ (k < fN K 3) ∧ (ac < 12) ∧ (u < fN K 0)) (fun S _ r S' => ∃ v : Option Nat, r = some (va_rf v) ∧ v = (offU K k u ac).bind pt ∧ S' = S) := by
  refine ct_of (by decide) (fun S av h => by obtain ⟨rfl, iv, i_h, i_fi, hrp, rv, hh, hf, hk, ha, hu⟩ := h; exact Nat.le_of_ble_eq_true rfl) ?_
  intro p e s m args below meth c D G bs S av C hr hin hpre
  obtain ⟨rfl, iv, i_h, i_fi, hrp, rv, hh, hf, hk, ha, hu⟩ := hpre
  obtain ⟨r1, r2, r3, r4, r5, r6, ⟨k1, k2, k3, k4, k5, k6, k7, k8⟩, r8, r9, r10⟩ := id hrp
  have hT20 := r4.2.2.2.2.1
  have hC12 := k1.2.2.2.1
  subst hh
  subst hf
  have fa := k2 k hk
  obtain ⟨_, _, _, _, _, _, o_lf, i_lf, o_nm, i_nm, o_og, i_og, _, _⟩ := id fa
  obtain ⟨b1, b2, b3, b4, b5⟩ := r6 u hu
  obtain ⟨y1, y2⟩ := (k7 k hk).2 u ac (by omega) ha
  have y0 := (k6 k hk).2 u ac (by omega) ha
  obtain ⟨z1, z2⟩ := nm_lt2 rv hC12 k u ac hk
  refine v_aload_n C dX1_offered_0 rfl ?_
  refine v_iload_n C dX1_offered_1 rfl ?_
  refine v_callV (As := [_]) (n := 1) C (ft_X1_traitAt l _ _ (fN K 0) (aA W) (tlist K)) rfl i_h (by decide) rfl ⟨wd137, wd138, wd139, wd15, wd140⟩ ⟨rfl, hy_X1_traitAt⟩ rfl ⟨Nat.le_of_ble_eq_true rfl, Nat.le_of_ble_eq_true rfl⟩ (Nat.le_of_ble_eq_true rfl) ⟨Nat.le_of_ble_eq_true rfl, Nat.le_of_ble_eq_true rfl⟩ dX1_offered_2 ⟨rfl, i_h, r4⟩ (fun r_2 S2_2 h_2 => ?_)
  obtain ⟨v2, rfl, p_v2, q_v2⟩ := h_2
  obtain rfl := q_v2.symm
  have p_w := p_v2.trans ((trO_nI hT20 (by omega)).trans (if_pos hu))
  refine v_qstore C dX1_offered_5 (by decide) (by first | rfl | exact cat_ok _ | simp [okS, cat_rf]) ?_
  refine v_qload C dX1_offered_7 rfl ?_
  refine v_ifnonnull (tgt := 16) C dX1_offered_9 (by decide) (fun b9 c_9 => ?_) (fun c_9 => ?_)
  · skip
    subst c_9
    obtain rfl : b9 = W (6 * u + 100) := Option.some.inj p_w
    have i_tr : is S (W (6 * u + 100)) 8 := trs_is r4 hu
    refine v_aload C dX1_offered_16 rfl ?_
    refine v_aload_n C dX1_offered_18 rfl ?_
    refine v_iload_n C dX1_offered_19 rfl ?_
    refine v_iload_n C dX1_offered_20 rfl ?_
    refine v_callV (As := [_, _]) (n := 2) C (ft_X2_sourceOf l _ _ _ (W (10 * k + 306)) (W (10 * k + 307)) (W (10 * k + 308)) (leavesF K k u ac) (renamedF K k u ac) (namedF K k u ac)) rfl i_fi (by decide) rfl ⟨wd543, wd544, wd545, wd271, wd546⟩ ⟨rfl, hy_X2_sourceOf⟩ rfl ⟨Nat.le_of_ble_eq_true rfl, Nat.le_of_ble_eq_true rfl⟩ (Nat.le_of_ble_eq_true rfl) ⟨Nat.le_of_ble_eq_true rfl, Nat.le_of_ble_eq_true rfl⟩ dX1_offered_21 ⟨rfl, i_fi, (by omega), ha, ⟨o_lf, i_lf, y0, o_nm, i_nm, y1, o_og, i_og, y2⟩, ⟨z1, z2⟩⟩ (fun r_21 S4_21 h_21 => ?_)
    obtain ⟨v21, rfl, p_v21, b_v21, q_v21⟩ := h_21
    obtain rfl := q_v21.symm
    have p_s : v21 = srcF K k u ac := p_v21
    refine v_callV (As := [_]) (n := 1) C (fo_X8_bodyFor l _ _ (W (6 * u + 104))) rfl i_tr (by decide) rfl ⟨wd547, wd548, wd549, wd212, wd550⟩ ⟨rfl, hy_X8_bodyFor⟩ rfl ⟨Nat.le_of_ble_eq_true rfl, Nat.le_of_ble_eq_true rfl⟩ (Nat.le_of_ble_eq_true rfl) ⟨Nat.le_of_ble_eq_true rfl, Nat.le_of_ble_eq_true rfl⟩ dX1_offered_24 ⟨rfl, i_tr, b_v21, ⟨b1, b3⟩⟩ (fun r_24 S4_24 h_24 => ?_)
    obtain ⟨v24, rfl, p_v24, q_v24⟩ := h_24
    obtain rfl := q_v24.symm
    refine v_aret C hr (Nat.le_of_ble_eq_true rfl) (Nat.le_of_ble_eq_true rfl) dX1_offered_27 ?_
    exact ⟨_, rfl, (by rw [p_v24, p_s]; exact off_tie rv hrp (by omega) ha hu), rfl⟩
  · skip
    rw [c_9] at p_w; cases p_w
set_option maxRecDepth 100000 in
set_option maxHeartbeats 4000000 in
theorem ft_X1_weigh (l : Launch) (M : Nat → Prop) (h : Nat) (fi : Nat) (ac : Nat) (cq : Nat) (x : Nat) (W : Nat → Nat) (pt : Nat → Option Nat) (K : RS) (k : Nat) : Ct l yX1_weigh cX1_weigh 8 (some (.object "PuppetCast$Choice")) 3 0 0 69 (fun S av => av = [.ref h, .ref fi, .int (nI ac)] ∧ INV M [] S ∧ is S h 1 ∧ is S fi 2 ∧ (mO S 69 h = some cq ∧ is S cq 0) ∧ (rep S x M W pt K) ∧ (RV K) ∧ (h = W 0) ∧ (fi = W (10 * k + 300)) ∧ (k < fN K 3) ∧ (ac < 12)) (fun S _ r S' => ∃ v : Nat, r = some (.ref v) ∧ v = cq ∧ INV M [] S' ∧ chg S S' [] [] [(0, cq), (2, cq), (3, cq), (7, cq), (8, cq), (9, cq)] [(1, cq), (4, cq), (5, cq), (6, cq)] ∧ (rep S' x M W pt K ∧ chR S' cq pt K k ac)) := by
  refine ct_of (by decide) (fun S av h => by obtain ⟨rfl, iv, i_h, i_fi, hch, hrp, rv, hh, hf, hk, ha⟩ := h; exact Nat.le_of_ble_eq_true rfl) ?_
  intro p e s m args below meth c D G bs S av C hr hin hpre
  obtain ⟨rfl, iv, i_h, i_fi, hch, hrp, rv, hh, hf, hk, ha⟩ := hpre
  have ch : chg S S [] [] [(0, cq), (2, cq), (3, cq), (7, cq), (8, cq), (9, cq)] [(1, cq), (4, cq), (5, cq), (6, cq)] := ch_rfl
  obtain ⟨o_ch, i_ch⟩ := hch
  have nM := inv_nM iv i_ch (Or.inl (by decide))
  obtain ⟨r1, r2, r3, r4, r5, r6, ⟨k1, k2, k3, k4, k5, k6, k7, k8⟩, r8, r9, r10⟩ := id hrp
  have fa := k2 k hk
  have hC12 := k1.2.2.2.1
  have hT20 := r4.2.2.2.2.1
  have hp0 : mO S 139 fi = some (W (10 * k + 309)) ∧ isA S (W (10 * k + 309)) 11 12 := by rw [hf]; exact ⟨fa.2.2.2.2.2.2.2.2.2.2.2.2.1, fa.2.2.2.2.2.2.2.2.2.2.2.2.2⟩
  have hpr := k8 k hk ac ha
  have ich0 := i_ch
  refine v_aload_n C dX1_weigh_0 rfl ?_
  refine v_iload_n C dX1_weigh_1 rfl ?_
  refine v_callV (As := [_]) (n := 1) C (ft_X2_preferredFor l _ _ (W (10 * k + 309))) rfl i_fi (by decide) rfl ⟨wd527, wd491, wd492, wd271, wd493⟩ ⟨rfl, hy_X2_preferredFor⟩ rfl ⟨Nat.le_of_ble_eq_true rfl, Nat.le_of_ble_eq_true rfl⟩ (Nat.le_of_ble_eq_true rfl) ⟨Nat.le_of_ble_eq_true rfl, Nat.le_of_ble_eq_true rfl⟩ dX1_weigh_2 ⟨rfl, i_fi, ha, hp0⟩ (fun r_2 S2_2 h_2 => ?_)
  obtain ⟨v2, rfl, p_v2, q_v2⟩ := h_2
  obtain rfl := q_v2.symm
  have ep := p_v2.trans hpr
  clear r1 r2 r3 r4 r5 r6 k1 k2 k3 k4 k5 k6 k7 k8 r8 r9 r10 fa
  refine v_istore_n C dX1_weigh_5 (by decide) (by first | rfl | exact cat_ok _ | simp [okS, cat_rf]) ?_
  refine v_aload_n C dX1_weigh_6 rfl ?_
  refine r1_33 (b := cq) C i_h o_ch dX1_weigh_7 ?_
  refine v_callV (As := []) (n := 0) C (ft_X0_empty l M _) rfl i_ch (by decide) rfl ⟨wd528, wd529, wd530, wd35, wd531⟩ ⟨rfl, hy_X0_empty⟩ rfl ⟨Nat.le_of_ble_eq_true rfl, Nat.le_of_ble_eq_true rfl⟩ (Nat.le_of_ble_eq_true rfl) ⟨Nat.le_of_ble_eq_true rfl, Nat.le_of_ble_eq_true rfl⟩ dX1_weigh_10 ⟨rfl, iv, i_ch⟩ (fun r_10 S2_10 h_10 => ?_)
  obtain ⟨rfl, iv', ch_10, r_v10⟩ := h_10
  have hrp0 : rep S2_10 x M W pt K := rep_c ch_10 (by simp) (by simp) i_ch nM hrp
  have iv := iv'
  clear iv'
  have ch := ch_tr ch ch_10 (by simp)
  have o_ch := mo_ch ch_10 i_h (by first | decide | simp) o_ch
  have i_h := is_ch ch_10 i_h
  have i_fi := is_ch ch_10 i_fi
  have i_ch := is_ch ch_10 i_ch
  refine v_iconst (v := nI 0) C dX1_weigh_13 (by decide) ?_
  refine v_istore C dX1_weigh_14 (by decide) (by first | rfl | exact cat_ok _ | simp [okS, cat_rf]) ?_
  refine V.lits (lv' := [_, _, _, _, _, _, _, _]) rfl ?_
  refine v_loop (fun (tt : (Nat)) lv0 => (lv0.set 4 (some (.int (nI tt))))) (fun (S1 : Mem) (tt : (Nat)) => INV M [] S1 ∧ chg S S1 [] [] [(0, cq), (2, cq), (3, cq), (7, cq), (8, cq), (9, cq)] [(1, cq), (4, cq), (5, cq), (6, cq)] ∧ is S1 h 1 ∧ is S1 fi 2 ∧ is S1 cq 0 ∧ mO S1 69 h = some cq ∧ (tt ≤ (flist K k).length) ∧ (rep S1 x M W pt K) ∧ (chP S1 cq W pt K k ac tt)) (fun (S1 : Mem) (tt : (Nat)) => (flist K k).length - tt) (t := (0)) rfl ⟨iv, ch, i_h, i_fi, i_ch, o_ch, (Nat.zero_le _), hrp0, (chP_0 r_v10)⟩ ?_
  intro L16 tt h_16 ih_16
  revert h_16 ih_16
  revert tt
  intro i h_16 ih_16
  obtain ⟨iv, ch, i_h, i_fi, i_ch, o_ch, hri, hrp1, hcp⟩ := h_16
  try dsimp only at *
  obtain ⟨r1, r2, r3, r4, r5, r6, ⟨k1, k2, k3, k4, k5, k6, k7, k8⟩, r8, r9, r10⟩ := id hrp1
  have fa := k2 k hk
  have l_ln := k3 k hk
  have o_ln : mO L16 130 fi = some (W (10 * k + 301)) := by rw [hf]; exact fa.2.1
  have i_ln := l_ln.1
  have e_len := l_ln.2.2.2.2.2.2.1
  have l20 := lnV_len l_ln
  have hT : trS L16 h (fN K 0) (aA W) (tlist K) := by rw [hh]; exact r4
  have hnd := fig_nd l_ln
  refine v_iload C dX1_weigh_16 rfl ?_
  refine v_aload_n C dX1_weigh_18 rfl ?_
  refine g1_101 C i_fi dX1_weigh_19 ?_
  rw [o_ln]
  refine g1_129 C i_ln dX1_weigh_22 ?_
  refine v_val e_len ?_
  refine n_icmp_ge (tgt := 98) C (by omega) (by omega) dX1_weigh_25 (by decide) (fun c_25 => ?_) (fun c_25 => ?_)
  · skip
    have hi8 : i = rN K 8 k := by have := fll_len (K := K) (c := k); omega
    refine v_aload_n C dX1_weigh_98 rfl ?_
    refine r1_33 (b := cq) C i_h o_ch dX1_weigh_99 ?_
    refine v_aload_n C dX1_weigh_102 rfl ?_
    refine v_iload_n C dX1_weigh_103 rfl ?_
    refine v_callV (As := [_]) (n := 1) C (ft_X2_ownBody l _ _ (W (10 * k + 305))) rfl i_fi (by decide) rfl ⟨wd562, wd563, wd564, wd271, wd565⟩ ⟨rfl, hy_X2_ownBody⟩ rfl ⟨Nat.le_of_ble_eq_true rfl, Nat.le_of_ble_eq_true rfl⟩ (Nat.le_of_ble_eq_true rfl) ⟨Nat.le_of_ble_eq_true rfl, Nat.le_of_ble_eq_true rfl⟩ dX1_weigh_104 ⟨rfl, i_fi, ha, ⟨by rw [hf]; exact fa.2.2.2.2.1, fa.2.2.2.2.2.1⟩⟩ (fun r_104 S2_104 h_104 => ?_)
    obtain ⟨v104, rfl, p_v104, q_v104⟩ := h_104
    obtain rfl := q_v104.symm
    have p_w : v104 = pt (480 + 12 * k + ac) := p_v104.trans (k5 k hk ac ha)
    subst hi8
    have cod : ∀ a_, (v104 = some a_ ∨ ((sc (pfPf K k ac) (rN K 8 k) 0).bind (adF K pt k ac)) = some a_ ∨ ((sc (nPf K k ac) (rN K 8 k) 0).bind (adF K pt k ac)) = some a_) → ∃ q, q < 624 ∧ (q < 240 ∨ 480 ≤ q) ∧ pt q = some a_ := fun a_ z => by
      rcases z with z | z | z
      · exact ⟨480 + 12 * k + ac, by omega, Or.inr (by omega), p_w.symm.trans z⟩
      · obtain ⟨j, g1, g2⟩ := Option.bind_eq_some_iff.mp z
        obtain ⟨_, g3, _⟩ := sc_some g1
        obtain ⟨q, g4, g5⟩ := Option.bind_eq_some_iff.mp g2
        obtain ⟨w1, w2, w3⟩ := off_cd rv (by omega) ha (by omega) g4
        exact ⟨q, by omega, Or.inl w1, g5⟩
      · obtain ⟨j, g1, g2⟩ := Option.bind_eq_some_iff.mp z
        obtain ⟨_, g3, _⟩ := sc_some g1
        obtain ⟨q, g4, g5⟩ := Option.bind_eq_some_iff.mp g2
        obtain ⟨w1, w2, w3⟩ := off_cd rv (by omega) ha (by omega) g4
        exact ⟨q, by omega, Or.inl w1, g5⟩
    have nOf : ∀ (o_ : Option Nat), (∀ a_, o_ = some a_ → is L16 a_ 5) → nOK L16 5 o_ := fun o_ z => by
      cases e_ : o_ with
      | none => exact nOK_none
      | some a_ => exact nOK_is (z a_ e_)
    have i5 : ∀ a_, (v104 = some a_ ∨ ((sc (pfPf K k ac) (rN K 8 k) 0).bind (adF K pt k ac)) = some a_ ∨ ((sc (nPf K k ac) (rN K 8 k) 0).bind (adF K pt k ac)) = some a_) → is L16 a_ 5 := fun a_ z => by
      obtain ⟨q, g1, _, g3⟩ := cod a_ z
      exact (part_ok rv hrp1 g1 g3).1
    obtain ⟨gvf, egv⟩ : ∃ gvf : Nat → Int32, gvf = fun a => mI L16 320 a := ⟨_, rfl⟩
    obtain ⟨rsf, ers⟩ : ∃ rsf : Nat → Nat, rsf = fun a => (mI L16 323 a).toNatClampNeg := ⟨_, rfl⟩
    have gr : ∀ q a_, (q < 240 ∨ 480 ≤ q) → q < 624 → pt q = some a_ → gvf a_ = gvI q ∧ rsf a_ = rN K 13 q := fun q a_ g1 g2 g3 => by
      obtain ⟨_, _, w5⟩ := part_ok rv hrp1 g2 g3
      obtain ⟨v1_, v2_, v3_, v4_, v5_⟩ := w5 g1
      rw [egv, ers]
      exact ⟨v1_, by show (mI _ 323 a_).toNatClampNeg = _; rw [v3_, nIN (by omega)]⟩
    refine v_callV (As := [_]) (n := 1) C (ft_X0_settle l M _ _ ((sc (pfPf K k ac) (rN K 8 k) 0).bind (adF K pt k ac)) ((sc (nPf K k ac) (rN K 8 k) 0).bind (adF K pt k ac)) ((sc (nPf K k ac) (rN K 8 k) 0).map (lnF W K k)) (rvQ K k ac (rN K 8 k)) ((sc (ndPf K k ac) (rN K 8 k) 0).isSome) (msP K k ac (rN K 8 k)) gvf rsf) rfl i_ch (by decide) rfl ⟨wd566, wd567, wd568, wd35, wd569⟩ ⟨rfl, hy_X0_settle⟩ rfl ⟨Nat.le_of_ble_eq_true rfl, Nat.le_of_ble_eq_true rfl⟩ (Nat.le_of_ble_eq_true rfl) ⟨Nat.le_of_ble_eq_true rfl, Nat.le_of_ble_eq_true rfl⟩ dX1_weigh_107 ⟨rfl, iv, i_ch, hcp, (mskF_lt _), ⟨nOf _ (fun a_ z => i5 a_ (Or.inl z)), nOf _ (fun a_ z => i5 a_ (Or.inr (Or.inl z))), nOf _ (fun a_ z => i5 a_ (Or.inr (Or.inr z)))⟩, (fun a_ z => by
      obtain ⟨q, g1, g2, g3⟩ := cod a_ z
      obtain ⟨y1, y2⟩ := gr q a_ g2 g1 g3
      obtain ⟨_, _, w5⟩ := part_ok rv hrp1 g1 g3
      obtain ⟨v1_, v2_, v3_, v4_, v5_⟩ := w5 g2
      exact ⟨by rw [egv], by rw [y2]; exact v3_, by rw [y2]; exact v4_⟩)⟩ (fun r_107 S2_107 h_107 => ?_)
    obtain ⟨rfl, iv', ch_107, r_v107⟩ := h_107
    have hrp3 : rep S2_107 x M W pt K := rep_c ch_107 (by simp) (by simp) i_ch nM hrp1
    have iv := iv'
    clear iv'
    have ch := ch_tr ch ch_107 (by simp)
    have o_ch := mo_ch ch_107 i_h (by first | decide | simp) o_ch
    have i_h := is_ch ch_107 i_h
    have i_fi := is_ch ch_107 i_fi
    have i_ch := is_ch ch_107 i_ch
    rw [p_w] at r_v107
    have hcr : chR S2_107 cq pt K k ac := settle_tie rv (by omega) ha hnd r8 gr r_v107
    refine v_aload_n C dX1_weigh_110 rfl ?_
    refine r1_33 (b := cq) C i_h o_ch dX1_weigh_111 ?_
    refine v_aret (o := some _) C hr (Nat.le_of_ble_eq_true rfl) (Nat.le_of_ble_eq_true rfl) dX1_weigh_114 ?_
    exact ⟨_, rfl, (rfl), iv, ch, (⟨hrp3, hcr⟩)⟩
  · skip
    have hi8 : i < rN K 8 k := by rw [← fll_len]; exact c_25
    refine v_aload_n C dX1_weigh_28 rfl ?_
    refine g1_101 C i_fi dX1_weigh_29 ?_
    rw [o_ln]
    refine v_iload C dX1_weigh_32 rfl ?_
    refine v_callV (As := [_]) (n := 1) C (ft_X3_at l _ _ (W (10 * k + 302)) (W (10 * k + 303)) (flist K k)) rfl i_ln (by decide) rfl ⟨wd538, wd187, wd188, wd45, wd189⟩ ⟨rfl, hy_X3_at⟩ rfl ⟨Nat.le_of_ble_eq_true rfl, Nat.le_of_ble_eq_true rfl⟩ (Nat.le_of_ble_eq_true rfl) ⟨Nat.le_of_ble_eq_true rfl, Nat.le_of_ble_eq_true rfl⟩ dX1_weigh_34 ⟨rfl, i_ln, l_ln, (by omega)⟩ (fun r_34 S2_34 h_34 => ?_)
    obtain ⟨v34, rfl, p_v34, b_v34, q_v34⟩ := h_34
    obtain rfl := q_v34.symm
    rw [fll_get hi8] at p_v34
    obtain ⟨u, hu_⟩ : ∃ u, u = rN K 7 (20 * k + i) := ⟨_, rfl⟩
    rw [← hu_] at p_v34
    obtain rfl : v34 = some u := p_v34
    have hu : u < fN K 0 := by rw [hu_]; exact (rv.p6 k (by omega) i hi8).2
    refine v_istore C dX1_weigh_37 (by decide) (by first | rfl | exact cat_ok _ | simp [okS, cat_rf]) ?_
    refine v_aload_n C dX1_weigh_39 rfl ?_
    refine v_iload C dX1_weigh_40 rfl ?_
    refine v_callV (As := [_]) (n := 1) C (ft_X1_traitAt l _ _ (fN K 0) (aA W) (tlist K)) rfl i_h (by decide) rfl ⟨wd137, wd138, wd139, wd15, wd140⟩ ⟨rfl, hy_X1_traitAt⟩ rfl ⟨Nat.le_of_ble_eq_true rfl, Nat.le_of_ble_eq_true rfl⟩ (Nat.le_of_ble_eq_true rfl) ⟨Nat.le_of_ble_eq_true rfl, Nat.le_of_ble_eq_true rfl⟩ dX1_weigh_42 ⟨rfl, i_h, hT⟩ (fun r_42 S2_42 h_42 => ?_)
    obtain ⟨v42, rfl, p_v42, q_v42⟩ := h_42
    obtain rfl := q_v42.symm
    have p_w := p_v42.trans ((trO_nI hT20 (by omega)).trans (if_pos hu))
    refine v_qstore C dX1_weigh_45 (by decide) (by first | rfl | exact cat_ok _ | simp [okS, cat_rf]) ?_
    refine v_aload_n C dX1_weigh_47 rfl ?_
    refine v_aload_n C dX1_weigh_48 rfl ?_
    refine v_iload C dX1_weigh_49 rfl ?_
    refine v_iload_n C dX1_weigh_51 rfl ?_
    refine v_callV (As := [_, _, _]) (n := 3) C (ft_X1_offered l M _ _ _ _ x W pt K k) rfl i_h (by decide) rfl ⟨wd539, wd540, wd541, wd15, wd542⟩ ⟨rfl, hy_X1_offered⟩ rfl ⟨Nat.le_of_ble_eq_true rfl, Nat.le_of_ble_eq_true rfl⟩ (Nat.le_of_ble_eq_true rfl) ⟨Nat.le_of_ble_eq_true rfl, Nat.le_of_ble_eq_true rfl⟩ dX1_weigh_52 ⟨rfl, iv, i_h, i_fi, hrp1, rv, hh, hf, hk, ha, hu⟩ (fun r_52 S2_52 h_52 => ?_)
    obtain ⟨v52, rfl, p_v52, q_v52⟩ := h_52
    obtain rfl := q_v52.symm
    have p_o : v52 = (offersF K k (i + 1) ac).bind pt := by rw [offU_eq, ← hu_]; exact p_v52
    refine v_qstore C dX1_weigh_55 (by decide) (by first | rfl | exact cat_ok _ | simp [okS, cat_rf]) ?_
    refine v_qload C dX1_weigh_57 rfl ?_
    refine v_ifnull (tgt := 92) C dX1_weigh_59 (by decide) (fun c_59 => ?_) (fun b59 c_59 => ?_)
    · skip
      rw [c_59] at p_w; cases p_w
    · skip
      subst c_59
      obtain rfl : b59 = W (6 * u + 100) := Option.some.inj p_w
      have i_tr : is L16 (W (6 * u + 100)) 8 := trs_is r4 hu
      obtain ⟨_, o_tl, l_tl⟩ := r4.2.2.2.2.2.2.2 u hu
      have i_tl : is L16 (W (6 * u + 101)) 3 := l_tl.1
      have o_tl : mO L16 512 (W (6 * u + 100)) = some (W (6 * u + 101)) := o_tl
      refine v_qload C dX1_weigh_62 rfl ?_
      refine v_ifnull (tgt := 92) C dX1_weigh_64 (by decide) (fun c_64 => ?_) (fun b64 c_64 => ?_)
      · skip
        subst c_64
        have e_of : offersF K k (i + 1) ac = none := by
          cases e_ : offersF K k (i + 1) ac with
          | none => rfl
          | some q =>
            obtain ⟨w1, w2, w3⟩ := off_cd rv (by omega) ha hi8 e_
            obtain ⟨a_, ea_⟩ := Option.isSome_iff_exists.mp ((r8.1 q (by omega)).mpr w3)
            rw [e_] at p_o
            rw [show (some q).bind pt = pt q from rfl, ea_] at p_o; cases p_o
        refine v_iinc C dX1_weigh_92 rfl (nI_inc _) (by decide) (by first | rfl | exact cat_ok _ | simp [okS, cat_rf]) ?_
        refine v_goto (tgt := 16) C dX1_weigh_95 (by decide) ?_
        refine V.drop 5 ?_
        refine V.drop 6 ?_
        refine V.drop 7 ?_
        refine V.lits (lv' := [_, _, _, _, _, _, _, _]) rfl ?_
        exact ih_16 _ ((i + 1)) (by first | omega | (dsimp only; omega)) ⟨iv, ch, i_h, i_fi, i_ch, o_ch, (by omega), hrp1, (chP_none e_of hcp)⟩
      · skip
        subst c_64
        obtain ⟨q, e_of, e_pt⟩ : ∃ q, offersF K k (i + 1) ac = some q ∧ pt q = some b64 := by
          cases e_ : offersF K k (i + 1) ac with
          | none => rw [e_] at p_o; cases p_o
          | some q => rw [e_] at p_o; exact ⟨q, rfl, p_o.symm⟩
        obtain ⟨w1, w2, w3⟩ := off_cd rv (by omega) ha hi8 e_of
        obtain ⟨i_pa, w4, w5⟩ := part_ok rv hrp1 (by omega) e_pt
        obtain ⟨v1_, v2_, v3_, v4_, v5_⟩ := w5 (Or.inl w1)
        have v1_ : mI L16 320 b64 = nI u := by rw [v1_]; unfold gvI; rw [if_pos w1, w2, hu_]
        refine v_aload_n C dX1_weigh_67 rfl ?_
        refine r1_33 (b := cq) C i_h o_ch dX1_weigh_68 ?_
        refine v_aload C dX1_weigh_71 rfl ?_
        refine g1_68 C i_tr dX1_weigh_73 ?_
        rw [o_tl]
        refine v_aload C dX1_weigh_76 rfl ?_
        refine v_iload C dX1_weigh_78 rfl ?_
        refine v_iload_n C dX1_weigh_80 rfl ?_
        refine v_icmp_ne (tgt := 88) C dX1_weigh_81 (by decide) (fun c_81 => ?_) (fun c_81 => ?_)
        · skip
          have hip : false = decide (rA K 27 (12 * k + ac) = nI u) := (decide_eq_false (fun z => c_81 (z.symm.trans ep.symm))).symm
          refine v_iconst (v := nI 0) C dX1_weigh_88 (by decide) ?_
          have hlf_ : ∀ l0, (sc (nPf K k ac) i 0).map (lnF W K k) = some l0 → lnV L16 l0 (W (6 * rN K 7 (20 * k + ((sc (nPf K k ac) i 0).getD 0)) + 102)) (W (6 * rN K 7 (20 * k + ((sc (nPf K k ac) i 0).getD 0)) + 103)) (tlist K (rN K 7 (20 * k + ((sc (nPf K k ac) i 0).getD 0)))) := fun l0 hl0 => by
            obtain ⟨i0, g1, rfl⟩ := Option.map_eq_some_iff.mp hl0
            obtain ⟨_, g2, _⟩ := sc_some g1
            have t0 := (rv.p6 k (by omega) i0 (by omega)).2
            rw [show ((sc (nPf K k ac) i 0).getD 0) = i0 by rw [g1]; rfl]
            exact (r4.2.2.2.2.2.2.2 _ t0).2.2
          refine v_callV (As := [_, _, _]) (n := 3) C (ft_X0_hear l M _ _ _ false ((sc (pfPf K k ac) i 0).bind (adF K pt k ac)) ((sc (nPf K k ac) i 0).bind (adF K pt k ac)) ((sc (nPf K k ac) i 0).map (lnF W K k)) (rvQ K k ac i) ((sc (ndPf K k ac) i 0).isSome) (!decide (rA K 11 q = 0)) (rA K 11 q) (msP K k ac i) (rN K 13 q) u (W (6 * rN K 7 (20 * k + ((sc (nPf K k ac) i 0).getD 0)) + 102)) (W (6 * rN K 7 (20 * k + ((sc (nPf K k ac) i 0).getD 0)) + 103)) (tlist K (rN K 7 (20 * k + ((sc (nPf K k ac) i 0).getD 0))))) rfl i_ch (by decide) rfl ⟨wd551, wd552, wd553, wd35, wd554⟩ ⟨rfl, hy_X0_hear⟩ rfl ⟨Nat.le_of_ble_eq_true rfl, Nat.le_of_ble_eq_true rfl⟩ (Nat.le_of_ble_eq_true rfl) ⟨Nat.le_of_ble_eq_true rfl, Nat.le_of_ble_eq_true rfl⟩ dX1_weigh_89 ⟨rfl, iv, i_ch, i_tl, i_pa, hcp, (mskF_lt _), ⟨v3_, v4_, ⟨v5_, rfl⟩, v1_, by omega⟩, hlf_⟩ (fun r_89 S8_89 h_89 => ?_)
          obtain ⟨rfl, iv', ch_89, r_v89⟩ := h_89
          have hrp2 : rep S8_89 x M W pt K := rep_c ch_89 (by simp) (by simp) i_ch nM hrp1
          have iv := iv'
          clear iv'
          have ch := ch_tr ch ch_89 (by simp)
          have o_ch := mo_ch ch_89 i_h (by first | decide | simp) o_ch
          have i_h := is_ch ch_89 i_h
          have i_fi := is_ch ch_89 i_fi
          have i_ch := is_ch ch_89 i_ch
          have i_tr := is_ch ch_89 i_tr
          have i_pa := is_ch ch_89 i_pa
          have hcp2 : chP S8_89 cq W pt K k ac (i + 1) := chP_hear (ip := false) (L0 := tlist K (rN K 7 (20 * k + ((sc (nPf K k ac) i 0).getD 0)))) rv (by omega) hnd hi8 e_of e_pt rfl (by rw [← hu_]; exact hip) v4_ rfl rfl rfl rfl rfl rfl (fun i0 g1 => by rw [show ((sc (nPf K k ac) i 0).getD 0) = i0 by rw [g1]; rfl]) (by rw [← hu_]; exact r_v89)
          refine v_iinc C dX1_weigh_92 rfl (nI_inc _) (by decide) (by first | rfl | exact cat_ok _ | simp [okS, cat_rf]) ?_
          refine v_goto (tgt := 16) C dX1_weigh_95 (by decide) ?_
          refine V.drop 5 ?_
          refine V.drop 6 ?_
          refine V.drop 7 ?_
          refine V.lits (lv' := [_, _, _, _, _, _, _, _]) rfl ?_
          exact ih_16 _ ((i + 1)) (by first | omega | (dsimp only; omega)) ⟨iv, ch, i_h, i_fi, i_ch, o_ch, (by omega), hrp2, hcp2⟩
        · skip
          have hip : true = decide (rA K 27 (12 * k + ac) = nI u) := (decide_eq_true (ep.symm.trans c_81.symm)).symm
          refine v_iconst (v := nI 1) C dX1_weigh_84 (by decide) ?_
          refine v_goto (tgt := 89) C dX1_weigh_85 (by decide) ?_
          have hlf_ : ∀ l0, (sc (nPf K k ac) i 0).map (lnF W K k) = some l0 → lnV L16 l0 (W (6 * rN K 7 (20 * k + ((sc (nPf K k ac) i 0).getD 0)) + 102)) (W (6 * rN K 7 (20 * k + ((sc (nPf K k ac) i 0).getD 0)) + 103)) (tlist K (rN K 7 (20 * k + ((sc (nPf K k ac) i 0).getD 0)))) := fun l0 hl0 => by
            obtain ⟨i0, g1, rfl⟩ := Option.map_eq_some_iff.mp hl0
            obtain ⟨_, g2, _⟩ := sc_some g1
            have t0 := (rv.p6 k (by omega) i0 (by omega)).2
            rw [show ((sc (nPf K k ac) i 0).getD 0) = i0 by rw [g1]; rfl]
            exact (r4.2.2.2.2.2.2.2 _ t0).2.2
          refine v_callV (As := [_, _, _]) (n := 3) C (ft_X0_hear l M _ _ _ true ((sc (pfPf K k ac) i 0).bind (adF K pt k ac)) ((sc (nPf K k ac) i 0).bind (adF K pt k ac)) ((sc (nPf K k ac) i 0).map (lnF W K k)) (rvQ K k ac i) ((sc (ndPf K k ac) i 0).isSome) (!decide (rA K 11 q = 0)) (rA K 11 q) (msP K k ac i) (rN K 13 q) u (W (6 * rN K 7 (20 * k + ((sc (nPf K k ac) i 0).getD 0)) + 102)) (W (6 * rN K 7 (20 * k + ((sc (nPf K k ac) i 0).getD 0)) + 103)) (tlist K (rN K 7 (20 * k + ((sc (nPf K k ac) i 0).getD 0))))) rfl i_ch (by decide) rfl ⟨wd551, wd552, wd553, wd35, wd554⟩ ⟨rfl, hy_X0_hear⟩ rfl ⟨Nat.le_of_ble_eq_true rfl, Nat.le_of_ble_eq_true rfl⟩ (Nat.le_of_ble_eq_true rfl) ⟨Nat.le_of_ble_eq_true rfl, Nat.le_of_ble_eq_true rfl⟩ dX1_weigh_89 ⟨rfl, iv, i_ch, i_tl, i_pa, hcp, (mskF_lt _), ⟨v3_, v4_, ⟨v5_, rfl⟩, v1_, by omega⟩, hlf_⟩ (fun r_89 S8_89 h_89 => ?_)
          obtain ⟨rfl, iv', ch_89, r_v89⟩ := h_89
          have hrp2 : rep S8_89 x M W pt K := rep_c ch_89 (by simp) (by simp) i_ch nM hrp1
          have iv := iv'
          clear iv'
          have ch := ch_tr ch ch_89 (by simp)
          have o_ch := mo_ch ch_89 i_h (by first | decide | simp) o_ch
          have i_h := is_ch ch_89 i_h
          have i_fi := is_ch ch_89 i_fi
          have i_ch := is_ch ch_89 i_ch
          have i_tr := is_ch ch_89 i_tr
          have i_pa := is_ch ch_89 i_pa
          have hcp2 : chP S8_89 cq W pt K k ac (i + 1) := chP_hear (ip := true) (L0 := tlist K (rN K 7 (20 * k + ((sc (nPf K k ac) i 0).getD 0)))) rv (by omega) hnd hi8 e_of e_pt rfl (by rw [← hu_]; exact hip) v4_ rfl rfl rfl rfl rfl rfl (fun i0 g1 => by rw [show ((sc (nPf K k ac) i 0).getD 0) = i0 by rw [g1]; rfl]) (by rw [← hu_]; exact r_v89)
          refine v_iinc C dX1_weigh_92 rfl (nI_inc _) (by decide) (by first | rfl | exact cat_ok _ | simp [okS, cat_rf]) ?_
          refine v_goto (tgt := 16) C dX1_weigh_95 (by decide) ?_
          refine V.drop 5 ?_
          refine V.drop 6 ?_
          refine V.drop 7 ?_
          refine V.lits (lv' := [_, _, _, _, _, _, _, _]) rfl ?_
          exact ih_16 _ ((i + 1)) (by first | omega | (dsimp only; omega)) ⟨iv, ch, i_h, i_fi, i_ch, o_ch, (by omega), hrp2, hcp2⟩
