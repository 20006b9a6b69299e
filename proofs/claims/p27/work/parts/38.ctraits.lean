/-! THE TRAITS OF THE COMPANY, and its merger -/
def MA : Type := Nat → Nat
def MA.rows (x : MA) : Nat := x 0
def MA.ft (x : MA) : Nat := x 1
def MA.gv (x : MA) : Nat := x 2
def MA.gr (x : MA) : Nat := x 3
def MA.gp (x : MA) : Nat := x 4
def MA.md (x : MA) : Nat := x 5
def MA.mr (x : MA) : Nat := x 6
def MA.mp (x : MA) : Nat := x 7
def CA : Type := Nat → Nat → Nat
def CA.ta (A : CA) : Nat := A 0 0
def CA.mg (A : CA) : Nat := A 1 0
def CA.tr (A : CA) (t : Nat) : Nat := A 2 t
def CA.ln (A : CA) (t : Nat) : Nat := A 3 t
def CA.rw (A : CA) (t : Nat) : Nat := A 4 t
def CA.pl (A : CA) (t : Nat) : Nat := A 5 t
def blw (x : Int32) (n : Nat) : Bool := below x n
def trO (A : CA) (T : Nat) (t : Int32) : Option Nat := bif below t T then some (A.tr t.toNatClampNeg) else none
def underT (T : Nat) (x : Int32) : Bool := decide (x = -1) || below x T
def canT (T : Nat) (a b c : Int32) : Bool := underT T a && underT T b && underT T c && !(decide (a = -1) && !decide (b = -1)) && !(decide (b = -1) && !decide (c = -1)) && !(!decide (a = -1) && (decide (a = b) || decide (a = c))) && !(!decide (b = -1) && decide (b = c))
theorem canF_T {K : RS} {a b c : Int32} : canF K a b c = canT (fN K 0) a b c := rfl
def trS (S : Mem) (cm T : Nat) (A : CA) (LT : Nat → List Nat) : Prop := is S cm 1 ∧ mO S 64 cm = some A.ta ∧ isA S A.ta 17 20 ∧ mI S 65 cm = nI T ∧ T ≤ 20 ∧ mO S 68 cm = some A.mg ∧ (∀ t, t < 20 → mP S A.ta t = if t < T then some (A.tr t) else none) ∧ ∀ t, t < T → is S (A.tr t) 8 ∧ mO S 512 (A.tr t) = some (A.ln t) ∧ lnV S (A.ln t) (A.rw t) (A.pl t) (LT t)
theorem trS_ch {S S' : Mem} {AR PR : List Nat} {FI FO : List (Nat × Nat)} {cm T : Nat} {A : CA} {LT : Nat → List Nat} (c : chg S S' AR PR FI FO) (h : trS S cm T A LT) (n1 : A.ta ∉ PR) (n2 : (65, cm) ∉ FI) (n3 : (64, cm) ∉ FO) (n4 : (68, cm) ∉ FO) (n5 : ∀ t, t < T → (512, A.tr t) ∉ FO ∧ A.rw t ∉ AR ∧ A.pl t ∉ AR ∧ (194, A.ln t) ∉ FI ∧ (192, A.ln t) ∉ FO ∧ (193, A.ln t) ∉ FO) : trS S' cm T A LT := by
  obtain ⟨h1, h2, h3, h4, h5, h6, h7, h8⟩ := h
  refine ⟨is_ch c h1, mo_ch c h1 n3 h2, isA_ch c h3, mi_ch c h1 n2 h4, h5, mo_ch c h1 n4 h6, fun t ht => by rw [mp_ch c h3 n1]; exact h7 t ht, fun t ht => ?_⟩
  obtain ⟨g1, g2, g3⟩ := h8 t ht
  obtain ⟨k1, k2, k3, k4, k5, k6⟩ := n5 t ht
  exact ⟨is_ch c g1, mo_ch c g1 k1 g2, lnV_ch c g3 k2 k3 k4 k5 k6⟩
def gvr (f : Nat → Nat) (G : List Nat) : Nat → Nat := fun r => f (G.getD r 0)
def gvL (f : Nat → List Nat) (G : List Nat) : Nat → List Nat := fun r => f (G.getD r 0)
def mgS (S : Mem) (h : Nat) (x : MA) (A : CA) (LT : Nat → List Nat) (G D : List Nat) : Prop := mgR S h x.rows x.ft G.length (gvr A.ln G) (gvr A.rw G) (gvr A.pl G) (gvL LT G) (fun _ => 0) ∧ mO S 258 h = some x.gv ∧ mO S 259 h = some x.md ∧ lnV S x.gv x.gr x.gp G ∧ lnV S x.md x.mr x.mp D
def mgZ (S : Mem) (h : Nat) (x : MA) : Prop := is S h 4 ∧ mO S 256 h = some x.rows ∧ mO S 257 h = some x.ft ∧ isA S x.rows 15 7 ∧ isA S x.ft 11 7 ∧ mO S 258 h = some x.gv ∧ mO S 259 h = some x.md ∧ (∃ G, lnV S x.gv x.gr x.gp G) ∧ ∃ D, lnV S x.md x.mr x.mp D
def mdj (x : MA) : Prop := x.gv ≠ x.md ∧ x.gr ≠ x.mr ∧ x.gr ≠ x.mp ∧ x.gp ≠ x.mr ∧ x.gp ≠ x.mp
def tdj (A : CA) (x : MA) (T : Nat) : Prop := ∀ t, t < T → A.ln t ≠ x.gv ∧ A.ln t ≠ x.md ∧ A.rw t ≠ x.gr ∧ A.rw t ≠ x.gp ∧ A.rw t ≠ x.mr ∧ A.rw t ≠ x.mp ∧ A.pl t ≠ x.gr ∧ A.pl t ≠ x.gp ∧ A.pl t ≠ x.mr ∧ A.pl t ≠ x.mp
theorem mgS_Z {S : Mem} {h : Nat} {x : MA} {A : CA} {LT : Nat → List Nat} {G D : List Nat} (m : mgS S h x A LT G D) : mgZ S h x := ⟨m.1.1, m.1.2.1, m.1.2.2.1, m.1.2.2.2.1, m.1.2.2.2.2.1, m.2.1, m.2.2.1, ⟨G, m.2.2.2.1⟩, ⟨D, m.2.2.2.2⟩⟩
theorem below_mono {x : Int32} {m n : Nat} (h : m ≤ n) (b : below x m = true) : below x n = true := by
  unfold below at *
  rw [Bool.and_eq_true, decide_eq_true_eq, decide_eq_true_eq] at *
  exact ⟨b.1, by have := b.2; omega⟩
theorem trO_none {A : CA} {T : Nat} {t : Int32} (hT : T ≤ 20) (h : below t 20 = false) : trO A T t = none := by
  unfold trO
  cases e : below t T with
  | false => rfl
  | true => rw [below_mono hT e] at h; cases h
theorem trO_nI {A : CA} {T k : Nat} (hT : T ≤ 20) (hk : k < 20) : trO A T (nI k) = if k < T then some (A.tr k) else none := by
  unfold trO
  by_cases z : k < T
  · rw [below_nI z (by omega), if_pos z, nI_clamp (by omega)]; rfl
  · rw [if_neg z]
    cases e : below (nI k) T with
    | false => rfl
    | true =>
      obtain ⟨j, hj, ej⟩ := below_some e
      have := congrArg Int32.toNatClampNeg ej
      rw [nI_clamp (by omega), nI_clamp (by omega)] at this
      omega
set_option maxRecDepth 100000 in
set_option maxHeartbeats 4000000 in
theorem ft_X1_traitAt (l : Launch) (h : Nat) (t : Int32) (T : Nat) (A : CA) (LT : Nat → List Nat) : Ct l yX1_traitAt cX1_traitAt 2 (some (.object "PuppetCast$Trait")) 1 0 0 21 (fun S av => av = [.ref h, .int t] ∧ is S h 1 ∧ (trS S h T A LT)) (fun S _ r S' => ∃ v : Option Nat, r = some (va_rf v) ∧ v = trO A T t ∧ S' = S) := by
  refine ct_of (by decide) (fun S av h => by obtain ⟨rfl, i_h, hT⟩ := h; exact Nat.le_of_ble_eq_true rfl) ?_
  intro p e s m args below meth c D G bs S av C hr hin hpre
  obtain ⟨rfl, i_h, hT⟩ := hpre
  obtain ⟨_, o_ta, i_ta, eT, hT20, o_mg, hta, htr⟩ := id hT
  refine v_iload_n C dX1_traitAt_0 rfl ?_
  refine v_bipush (v := nI 20) C dX1_traitAt_1 (by decide) ?_
  refine v_callSN (As := [_, _]) (n := 2) C (sb_isBelow l _ _) rfl ⟨(by decide +kernel), wd141, wd2, wd142⟩ hy_X9_isBelow rfl ⟨Nat.le_of_ble_eq_true rfl, Nat.le_of_ble_eq_true rfl⟩ (Nat.le_of_ble_eq_true rfl) ⟨Nat.le_of_ble_eq_true rfl, Nat.le_of_ble_eq_true rfl⟩ dX1_traitAt_3 rfl (fun r_3 S2_3 h_3 => ?_)
  obtain ⟨v3, rfl, p_v3, q_v3⟩ := h_3
  obtain rfl := q_v3.symm
  rw [isB_below (n := 20) (by decide)] at p_v3
  refine b_if_eq (tgt := 18) C dX1_traitAt_6 (by decide) (fun c_6 => ?_) (fun c_6 => ?_)
  · skip
    have hb20 : blw t 20 = false := p_v3.symm.trans c_6
    refine v_null C dX1_traitAt_18 ?_
    refine v_aret C hr (Nat.le_of_ble_eq_true rfl) (Nat.le_of_ble_eq_true rfl) dX1_traitAt_19 ?_
    exact ⟨_, rfl, (trO_none hT20 hb20).symm, rfl⟩
  · skip
    have hb20 : blw t 20 = true := p_v3.symm.trans c_6
    obtain ⟨k, hk, ek⟩ := below_some (n := 20) hb20
    subst ek
    refine v_aload_n C dX1_traitAt_9 rfl ?_
    refine r1_11 (b := A.ta) C i_h o_ta dX1_traitAt_10 ?_
    refine v_iload_n C dX1_traitAt_13 rfl ?_
    refine v_aald (t0 := 6) C i_ta (by decide) rfl (vp_in_nI (by omega) (by omega)) dX1_traitAt_14 ?_
    rw [nI_clamp (by omega)]
    obtain ⟨q14, e_q14⟩ : ∃ z, z = mP S A.ta k := ⟨_, rfl⟩
    rw [← e_q14]
    refine v_goto (tgt := 19) C dX1_traitAt_15 (by decide) ?_
    refine v_aret C hr (Nat.le_of_ble_eq_true rfl) (Nat.le_of_ble_eq_true rfl) dX1_traitAt_19 ?_
    exact ⟨_, rfl, (e_q14.trans ((hta k hk).trans (trO_nI hT20 hk).symm)), rfl⟩
theorem trO_no {A : CA} {T : Nat} {t : Int32} (h : trO A T t = none) : below t T = false := by
  unfold trO at h
  cases e : below t T with
  | false => rfl
  | true => rw [e] at h; cases h
theorem trO_yes {A : CA} {T b : Nat} {t : Int32} (h : trO A T t = some b) : below t T = true := by
  unfold trO at h
  cases e : below t T with
  | true => rfl
  | false => rw [e] at h; cases h
set_option maxRecDepth 100000 in
set_option maxHeartbeats 4000000 in
theorem ft_X1_isTraitOrNone (l : Launch) (h : Nat) (t : Int32) (T : Nat) (A : CA) (LT : Nat → List Nat) : Ct l yX1_isTraitOrNone cX1_isTraitOrNone 2 (some .boolean) 2 0 0 42 (fun S av => av = [.ref h, .int t] ∧ is S h 1 ∧ (trS S h T A LT)) (fun S _ r S' => ∃ v : Bool, r = some (.int (bI v)) ∧ v = underT T t ∧ S' = S) := by
  refine ct_of (by decide) (fun S av h => by obtain ⟨rfl, i_h, hT⟩ := h; exact Nat.le_of_ble_eq_true rfl) ?_
  intro p e s m args below meth c D G bs S av C hr hin hpre
  obtain ⟨rfl, i_h, hT⟩ := hpre
  obtain ⟨_, o_ta, i_ta, eT, hT20, o_mg, hta, htr⟩ := id hT
  refine v_iload_n C dX1_isTraitOrNone_0 rfl ?_
  refine v_iconst (v := -1) C dX1_isTraitOrNone_1 (by decide) ?_
  refine v_icmp_eq (tgt := 13) C dX1_isTraitOrNone_2 (by decide) (fun c_2 => ?_) (fun c_2 => ?_)
  · skip
    refine v_iconst (v := nI 1) C dX1_isTraitOrNone_13 (by decide) ?_
    refine v_goto (tgt := 18) C dX1_isTraitOrNone_14 (by decide) ?_
    refine v_zret C hr (by first | rfl | exact bI_nar _) (Nat.le_of_ble_eq_true rfl) (Nat.le_of_ble_eq_true rfl) dX1_isTraitOrNone_18 ?_
    exact ⟨true, rfl, (by unfold underT; rw [decide_eq_true c_2]; rfl), rfl⟩
  · skip
    refine v_aload_n C dX1_isTraitOrNone_5 rfl ?_
    refine v_iload_n C dX1_isTraitOrNone_6 rfl ?_
    refine v_callV (As := [_]) (n := 1) C (ft_X1_traitAt l _ _ T A LT) rfl i_h (by decide) rfl ⟨wd137, wd138, wd139, wd15, wd140⟩ ⟨rfl, hy_X1_traitAt⟩ rfl ⟨Nat.le_of_ble_eq_true rfl, Nat.le_of_ble_eq_true rfl⟩ (Nat.le_of_ble_eq_true rfl) ⟨Nat.le_of_ble_eq_true rfl, Nat.le_of_ble_eq_true rfl⟩ dX1_isTraitOrNone_7 ⟨rfl, i_h, hT⟩ (fun r_7 S4_7 h_7 => ?_)
    obtain ⟨v7, rfl, p_v7, q_v7⟩ := h_7
    obtain rfl := q_v7.symm
    refine v_ifnull (tgt := 17) C dX1_isTraitOrNone_10 (by decide) (fun c_10 => ?_) (fun b10 c_10 => ?_)
    · skip
      subst c_10
      have hbl : blw t T = false := trO_no p_v7.symm
      refine v_iconst (v := nI 0) C dX1_isTraitOrNone_17 (by decide) ?_
      refine v_zret C hr (by first | rfl | exact bI_nar _) (Nat.le_of_ble_eq_true rfl) (Nat.le_of_ble_eq_true rfl) dX1_isTraitOrNone_18 ?_
      exact ⟨false, rfl, (by unfold underT; rw [decide_eq_false c_2]; exact hbl.symm), rfl⟩
    · skip
      subst c_10
      have hbl : blw t T = true := trO_yes p_v7.symm
      refine v_iconst (v := nI 1) C dX1_isTraitOrNone_13 (by decide) ?_
      refine v_goto (tgt := 18) C dX1_isTraitOrNone_14 (by decide) ?_
      refine v_zret C hr (by first | rfl | exact bI_nar _) (Nat.le_of_ble_eq_true rfl) (Nat.le_of_ble_eq_true rfl) dX1_isTraitOrNone_18 ?_
      exact ⟨true, rfl, (by unfold underT; exact (Bool.or_eq_true _ _).mpr (Or.inr hbl) |>.symm), rfl⟩
set_option maxRecDepth 100000 in
set_option maxHeartbeats 4000000 in
theorem ft_X1_canStandUnder (l : Launch) (h : Nat) (ta : Int32) (tb : Int32) (tc : Int32) (T : Nat) (A : CA) (LT : Nat → List Nat) : Ct l yX1_canStandUnder cX1_canStandUnder 4 (some .boolean) 3 0 0 63 (fun S av => av = [.ref h, .int ta, .int tb, .int tc] ∧ is S h 1 ∧ (trS S h T A LT)) (fun S _ r S' => ∃ v : Bool, r = some (.int (bI v)) ∧ v = canT T ta tb tc ∧ S' = S) := by
  refine ct_of (by decide) (fun S av h => by obtain ⟨rfl, i_h, hT⟩ := h; exact Nat.le_of_ble_eq_true rfl) ?_
  intro p e s m args below meth c D G bs S av C hr hin hpre
  obtain ⟨rfl, i_h, hT⟩ := hpre
  refine v_aload_n C dX1_canStandUnder_0 rfl ?_
  refine v_iload_n C dX1_canStandUnder_1 rfl ?_
  refine v_callV (As := [_]) (n := 1) C (ft_X1_isTraitOrNone l _ _ T A LT) rfl i_h (by decide) rfl ⟨wd133, wd134, wd135, wd15, wd136⟩ ⟨rfl, hy_X1_isTraitOrNone⟩ rfl ⟨Nat.le_of_ble_eq_true rfl, Nat.le_of_ble_eq_true rfl⟩ (Nat.le_of_ble_eq_true rfl) ⟨Nat.le_of_ble_eq_true rfl, Nat.le_of_ble_eq_true rfl⟩ dX1_canStandUnder_2 ⟨rfl, i_h, hT⟩ (fun r_2 S2_2 h_2 => ?_)
  obtain ⟨v2, rfl, p_v2, q_v2⟩ := h_2
  obtain rfl := q_v2.symm
  refine b_if_eq (tgt := 24) C dX1_canStandUnder_5 (by decide) (fun c_5 => ?_) (fun c_5 => ?_)
  · skip
    refine v_iconst (v := nI 0) C dX1_canStandUnder_24 (by decide) ?_
    refine v_zret C hr (by first | rfl | exact bI_nar _) (Nat.le_of_ble_eq_true rfl) (Nat.le_of_ble_eq_true rfl) dX1_canStandUnder_25 ?_
    exact ⟨false, rfl, (by clear C hr hin i_h hT; simp_all [canT]), rfl⟩
  · skip
    refine v_aload_n C dX1_canStandUnder_8 rfl ?_
    refine v_iload_n C dX1_canStandUnder_9 rfl ?_
    refine v_callV (As := [_]) (n := 1) C (ft_X1_isTraitOrNone l _ _ T A LT) rfl i_h (by decide) rfl ⟨wd133, wd134, wd135, wd15, wd136⟩ ⟨rfl, hy_X1_isTraitOrNone⟩ rfl ⟨Nat.le_of_ble_eq_true rfl, Nat.le_of_ble_eq_true rfl⟩ (Nat.le_of_ble_eq_true rfl) ⟨Nat.le_of_ble_eq_true rfl, Nat.le_of_ble_eq_true rfl⟩ dX1_canStandUnder_10 ⟨rfl, i_h, hT⟩ (fun r_10 S4_10 h_10 => ?_)
    obtain ⟨v10, rfl, p_v10, q_v10⟩ := h_10
    obtain rfl := q_v10.symm
    refine b_if_eq (tgt := 24) C dX1_canStandUnder_13 (by decide) (fun c_13 => ?_) (fun c_13 => ?_)
    · skip
      refine v_iconst (v := nI 0) C dX1_canStandUnder_24 (by decide) ?_
      refine v_zret C hr (by first | rfl | exact bI_nar _) (Nat.le_of_ble_eq_true rfl) (Nat.le_of_ble_eq_true rfl) dX1_canStandUnder_25 ?_
      exact ⟨false, rfl, (by clear C hr hin i_h hT; simp_all [canT]), rfl⟩
    · skip
      refine v_aload_n C dX1_canStandUnder_16 rfl ?_
      refine v_iload_n C dX1_canStandUnder_17 rfl ?_
      refine v_callV (As := [_]) (n := 1) C (ft_X1_isTraitOrNone l _ _ T A LT) rfl i_h (by decide) rfl ⟨wd133, wd134, wd135, wd15, wd136⟩ ⟨rfl, hy_X1_isTraitOrNone⟩ rfl ⟨Nat.le_of_ble_eq_true rfl, Nat.le_of_ble_eq_true rfl⟩ (Nat.le_of_ble_eq_true rfl) ⟨Nat.le_of_ble_eq_true rfl, Nat.le_of_ble_eq_true rfl⟩ dX1_canStandUnder_18 ⟨rfl, i_h, hT⟩ (fun r_18 S6_18 h_18 => ?_)
      obtain ⟨v18, rfl, p_v18, q_v18⟩ := h_18
      obtain rfl := q_v18.symm
      refine b_if_ne (tgt := 26) C dX1_canStandUnder_21 (by decide) (fun c_21 => ?_) (fun c_21 => ?_)
      · skip
        refine v_iload_n C dX1_canStandUnder_26 rfl ?_
        refine v_iconst (v := -1) C dX1_canStandUnder_27 (by decide) ?_
        refine v_icmp_ne (tgt := 36) C dX1_canStandUnder_28 (by decide) (fun c_28 => ?_) (fun c_28 => ?_)
        · skip
          refine v_iload_n C dX1_canStandUnder_36 rfl ?_
          refine v_iconst (v := -1) C dX1_canStandUnder_37 (by decide) ?_
          refine v_icmp_ne (tgt := 48) C dX1_canStandUnder_38 (by decide) (fun c_38 => ?_) (fun c_38 => ?_)
          · skip
            refine v_iload_n C dX1_canStandUnder_48 rfl ?_
            refine v_iconst (v := -1) C dX1_canStandUnder_49 (by decide) ?_
            refine v_icmp_eq (tgt := 68) C dX1_canStandUnder_50 (by decide) (fun c_50 => ?_) (fun c_50 => ?_)
            · skip
              refine v_iconst (v := nI 1) C dX1_canStandUnder_68 (by decide) ?_
              refine v_goto (tgt := 73) C dX1_canStandUnder_69 (by decide) ?_
              refine v_zret C hr (by first | rfl | exact bI_nar _) (Nat.le_of_ble_eq_true rfl) (Nat.le_of_ble_eq_true rfl) dX1_canStandUnder_73 ?_
              exact ⟨true, rfl, (by clear C hr hin i_h hT; simp_all [canT]), rfl⟩
            · skip
              refine v_iload_n C dX1_canStandUnder_53 rfl ?_
              refine v_iload_n C dX1_canStandUnder_54 rfl ?_
              refine v_icmp_eq (tgt := 72) C dX1_canStandUnder_55 (by decide) (fun c_55 => ?_) (fun c_55 => ?_)
              · skip
                refine v_iconst (v := nI 0) C dX1_canStandUnder_72 (by decide) ?_
                refine v_zret C hr (by first | rfl | exact bI_nar _) (Nat.le_of_ble_eq_true rfl) (Nat.le_of_ble_eq_true rfl) dX1_canStandUnder_73 ?_
                exact ⟨false, rfl, (by clear C hr hin i_h hT; simp_all [canT]), rfl⟩
              · skip
                refine v_iload_n C dX1_canStandUnder_58 rfl ?_
                refine v_iload_n C dX1_canStandUnder_59 rfl ?_
                refine v_icmp_eq (tgt := 72) C dX1_canStandUnder_60 (by decide) (fun c_60 => ?_) (fun c_60 => ?_)
                · skip
                  refine v_iconst (v := nI 0) C dX1_canStandUnder_72 (by decide) ?_
                  refine v_zret C hr (by first | rfl | exact bI_nar _) (Nat.le_of_ble_eq_true rfl) (Nat.le_of_ble_eq_true rfl) dX1_canStandUnder_73 ?_
                  exact ⟨false, rfl, (by clear C hr hin i_h hT; simp_all [canT]), rfl⟩
                · skip
                  refine v_iload_n C dX1_canStandUnder_63 rfl ?_
                  refine v_iload_n C dX1_canStandUnder_64 rfl ?_
                  refine v_icmp_eq (tgt := 72) C dX1_canStandUnder_65 (by decide) (fun c_65 => ?_) (fun c_65 => ?_)
                  · skip
                    refine v_iconst (v := nI 0) C dX1_canStandUnder_72 (by decide) ?_
                    refine v_zret C hr (by first | rfl | exact bI_nar _) (Nat.le_of_ble_eq_true rfl) (Nat.le_of_ble_eq_true rfl) dX1_canStandUnder_73 ?_
                    exact ⟨false, rfl, (by clear C hr hin i_h hT; simp_all [canT]), rfl⟩
                  · skip
                    refine v_iconst (v := nI 1) C dX1_canStandUnder_68 (by decide) ?_
                    refine v_goto (tgt := 73) C dX1_canStandUnder_69 (by decide) ?_
                    refine v_zret C hr (by first | rfl | exact bI_nar _) (Nat.le_of_ble_eq_true rfl) (Nat.le_of_ble_eq_true rfl) dX1_canStandUnder_73 ?_
                    exact ⟨true, rfl, (by clear C hr hin i_h hT; simp_all [canT]), rfl⟩
          · skip
            refine v_iload_n C dX1_canStandUnder_41 rfl ?_
            refine v_iconst (v := -1) C dX1_canStandUnder_42 (by decide) ?_
            refine v_icmp_eq (tgt := 48) C dX1_canStandUnder_43 (by decide) (fun c_43 => ?_) (fun c_43 => ?_)
            · skip
              refine v_iload_n C dX1_canStandUnder_48 rfl ?_
              refine v_iconst (v := -1) C dX1_canStandUnder_49 (by decide) ?_
              refine v_icmp_eq (tgt := 68) C dX1_canStandUnder_50 (by decide) (fun c_50 => ?_) (fun c_50 => ?_)
              · skip
                refine v_iconst (v := nI 1) C dX1_canStandUnder_68 (by decide) ?_
                refine v_goto (tgt := 73) C dX1_canStandUnder_69 (by decide) ?_
                refine v_zret C hr (by first | rfl | exact bI_nar _) (Nat.le_of_ble_eq_true rfl) (Nat.le_of_ble_eq_true rfl) dX1_canStandUnder_73 ?_
                exact ⟨true, rfl, (by clear C hr hin i_h hT; simp_all [canT]), rfl⟩
              · skip
                refine v_iload_n C dX1_canStandUnder_53 rfl ?_
                refine v_iload_n C dX1_canStandUnder_54 rfl ?_
                refine v_icmp_eq (tgt := 72) C dX1_canStandUnder_55 (by decide) (fun c_55 => ?_) (fun c_55 => ?_)
                · skip
                  refine v_iconst (v := nI 0) C dX1_canStandUnder_72 (by decide) ?_
                  refine v_zret C hr (by first | rfl | exact bI_nar _) (Nat.le_of_ble_eq_true rfl) (Nat.le_of_ble_eq_true rfl) dX1_canStandUnder_73 ?_
                  exact ⟨false, rfl, (by clear C hr hin i_h hT; simp_all [canT]), rfl⟩
                · skip
                  refine v_iload_n C dX1_canStandUnder_58 rfl ?_
                  refine v_iload_n C dX1_canStandUnder_59 rfl ?_
                  refine v_icmp_eq (tgt := 72) C dX1_canStandUnder_60 (by decide) (fun c_60 => ?_) (fun c_60 => ?_)
                  · skip
                    refine v_iconst (v := nI 0) C dX1_canStandUnder_72 (by decide) ?_
                    refine v_zret C hr (by first | rfl | exact bI_nar _) (Nat.le_of_ble_eq_true rfl) (Nat.le_of_ble_eq_true rfl) dX1_canStandUnder_73 ?_
                    exact ⟨false, rfl, (by clear C hr hin i_h hT; simp_all [canT]), rfl⟩
                  · skip
                    refine v_iload_n C dX1_canStandUnder_63 rfl ?_
                    refine v_iload_n C dX1_canStandUnder_64 rfl ?_
                    refine v_icmp_eq (tgt := 72) C dX1_canStandUnder_65 (by decide) (fun c_65 => ?_) (fun c_65 => ?_)
                    · skip
                      refine v_iconst (v := nI 0) C dX1_canStandUnder_72 (by decide) ?_
                      refine v_zret C hr (by first | rfl | exact bI_nar _) (Nat.le_of_ble_eq_true rfl) (Nat.le_of_ble_eq_true rfl) dX1_canStandUnder_73 ?_
                      exact ⟨false, rfl, (by clear C hr hin i_h hT; simp_all [canT]), rfl⟩
                    · skip
                      refine v_iconst (v := nI 1) C dX1_canStandUnder_68 (by decide) ?_
                      refine v_goto (tgt := 73) C dX1_canStandUnder_69 (by decide) ?_
                      refine v_zret C hr (by first | rfl | exact bI_nar _) (Nat.le_of_ble_eq_true rfl) (Nat.le_of_ble_eq_true rfl) dX1_canStandUnder_73 ?_
                      exact ⟨true, rfl, (by clear C hr hin i_h hT; simp_all [canT]), rfl⟩
            · skip
              refine v_iconst (v := nI 0) C dX1_canStandUnder_46 (by decide) ?_
              refine v_zret C hr (by first | rfl | exact bI_nar _) (Nat.le_of_ble_eq_true rfl) (Nat.le_of_ble_eq_true rfl) dX1_canStandUnder_47 ?_
              exact ⟨false, rfl, (by clear C hr hin i_h hT; simp_all [canT]), rfl⟩
        · skip
          refine v_iload_n C dX1_canStandUnder_31 rfl ?_
          refine v_iconst (v := -1) C dX1_canStandUnder_32 (by decide) ?_
          refine v_icmp_ne (tgt := 46) C dX1_canStandUnder_33 (by decide) (fun c_33 => ?_) (fun c_33 => ?_)
          · skip
            refine v_iconst (v := nI 0) C dX1_canStandUnder_46 (by decide) ?_
            refine v_zret C hr (by first | rfl | exact bI_nar _) (Nat.le_of_ble_eq_true rfl) (Nat.le_of_ble_eq_true rfl) dX1_canStandUnder_47 ?_
            exact ⟨false, rfl, (by clear C hr hin i_h hT; simp_all [canT]), rfl⟩
          · skip
            refine v_iload_n C dX1_canStandUnder_36 rfl ?_
            refine v_iconst (v := -1) C dX1_canStandUnder_37 (by decide) ?_
            refine v_icmp_ne (tgt := 48) C dX1_canStandUnder_38 (by decide) (fun c_38 => ?_) (fun c_38 => ?_)
            · skip
              refine v_iload_n C dX1_canStandUnder_48 rfl ?_
              refine v_iconst (v := -1) C dX1_canStandUnder_49 (by decide) ?_
              refine v_icmp_eq (tgt := 68) C dX1_canStandUnder_50 (by decide) (fun c_50 => ?_) (fun c_50 => ?_)
              · skip
                refine v_iconst (v := nI 1) C dX1_canStandUnder_68 (by decide) ?_
                refine v_goto (tgt := 73) C dX1_canStandUnder_69 (by decide) ?_
                refine v_zret C hr (by first | rfl | exact bI_nar _) (Nat.le_of_ble_eq_true rfl) (Nat.le_of_ble_eq_true rfl) dX1_canStandUnder_73 ?_
                exact ⟨true, rfl, (by clear C hr hin i_h hT; simp_all [canT]), rfl⟩
              · skip
                refine v_iload_n C dX1_canStandUnder_53 rfl ?_
                refine v_iload_n C dX1_canStandUnder_54 rfl ?_
                refine v_icmp_eq (tgt := 72) C dX1_canStandUnder_55 (by decide) (fun c_55 => ?_) (fun c_55 => ?_)
                · skip
                  refine v_iconst (v := nI 0) C dX1_canStandUnder_72 (by decide) ?_
                  refine v_zret C hr (by first | rfl | exact bI_nar _) (Nat.le_of_ble_eq_true rfl) (Nat.le_of_ble_eq_true rfl) dX1_canStandUnder_73 ?_
                  exact ⟨false, rfl, (by clear C hr hin i_h hT; simp_all [canT]), rfl⟩
                · skip
                  refine v_iload_n C dX1_canStandUnder_58 rfl ?_
                  refine v_iload_n C dX1_canStandUnder_59 rfl ?_
                  refine v_icmp_eq (tgt := 72) C dX1_canStandUnder_60 (by decide) (fun c_60 => ?_) (fun c_60 => ?_)
                  · skip
                    refine v_iconst (v := nI 0) C dX1_canStandUnder_72 (by decide) ?_
                    refine v_zret C hr (by first | rfl | exact bI_nar _) (Nat.le_of_ble_eq_true rfl) (Nat.le_of_ble_eq_true rfl) dX1_canStandUnder_73 ?_
                    exact ⟨false, rfl, (by clear C hr hin i_h hT; simp_all [canT]), rfl⟩
                  · skip
                    refine v_iload_n C dX1_canStandUnder_63 rfl ?_
                    refine v_iload_n C dX1_canStandUnder_64 rfl ?_
                    refine v_icmp_eq (tgt := 72) C dX1_canStandUnder_65 (by decide) (fun c_65 => ?_) (fun c_65 => ?_)
                    · skip
                      refine v_iconst (v := nI 0) C dX1_canStandUnder_72 (by decide) ?_
                      refine v_zret C hr (by first | rfl | exact bI_nar _) (Nat.le_of_ble_eq_true rfl) (Nat.le_of_ble_eq_true rfl) dX1_canStandUnder_73 ?_
                      exact ⟨false, rfl, (by clear C hr hin i_h hT; simp_all [canT]), rfl⟩
                    · skip
                      refine v_iconst (v := nI 1) C dX1_canStandUnder_68 (by decide) ?_
                      refine v_goto (tgt := 73) C dX1_canStandUnder_69 (by decide) ?_
                      refine v_zret C hr (by first | rfl | exact bI_nar _) (Nat.le_of_ble_eq_true rfl) (Nat.le_of_ble_eq_true rfl) dX1_canStandUnder_73 ?_
                      exact ⟨true, rfl, (by clear C hr hin i_h hT; simp_all [canT]), rfl⟩
            · skip
              refine v_iload_n C dX1_canStandUnder_41 rfl ?_
              refine v_iconst (v := -1) C dX1_canStandUnder_42 (by decide) ?_
              refine v_icmp_eq (tgt := 48) C dX1_canStandUnder_43 (by decide) (fun c_43 => ?_) (fun c_43 => ?_)
              · skip
                refine v_iload_n C dX1_canStandUnder_48 rfl ?_
                refine v_iconst (v := -1) C dX1_canStandUnder_49 (by decide) ?_
                refine v_icmp_eq (tgt := 68) C dX1_canStandUnder_50 (by decide) (fun c_50 => ?_) (fun c_50 => ?_)
                · skip
                  refine v_iconst (v := nI 1) C dX1_canStandUnder_68 (by decide) ?_
                  refine v_goto (tgt := 73) C dX1_canStandUnder_69 (by decide) ?_
                  refine v_zret C hr (by first | rfl | exact bI_nar _) (Nat.le_of_ble_eq_true rfl) (Nat.le_of_ble_eq_true rfl) dX1_canStandUnder_73 ?_
                  exact ⟨true, rfl, (by clear C hr hin i_h hT; simp_all [canT]), rfl⟩
                · skip
                  refine v_iload_n C dX1_canStandUnder_53 rfl ?_
                  refine v_iload_n C dX1_canStandUnder_54 rfl ?_
                  refine v_icmp_eq (tgt := 72) C dX1_canStandUnder_55 (by decide) (fun c_55 => ?_) (fun c_55 => ?_)
                  · skip
                    refine v_iconst (v := nI 0) C dX1_canStandUnder_72 (by decide) ?_
                    refine v_zret C hr (by first | rfl | exact bI_nar _) (Nat.le_of_ble_eq_true rfl) (Nat.le_of_ble_eq_true rfl) dX1_canStandUnder_73 ?_
                    exact ⟨false, rfl, (by clear C hr hin i_h hT; simp_all [canT]), rfl⟩
                  · skip
                    refine v_iload_n C dX1_canStandUnder_58 rfl ?_
                    refine v_iload_n C dX1_canStandUnder_59 rfl ?_
                    refine v_icmp_eq (tgt := 72) C dX1_canStandUnder_60 (by decide) (fun c_60 => ?_) (fun c_60 => ?_)
                    · skip
                      refine v_iconst (v := nI 0) C dX1_canStandUnder_72 (by decide) ?_
                      refine v_zret C hr (by first | rfl | exact bI_nar _) (Nat.le_of_ble_eq_true rfl) (Nat.le_of_ble_eq_true rfl) dX1_canStandUnder_73 ?_
                      exact ⟨false, rfl, (by clear C hr hin i_h hT; simp_all [canT]), rfl⟩
                    · skip
                      refine v_iload_n C dX1_canStandUnder_63 rfl ?_
                      refine v_iload_n C dX1_canStandUnder_64 rfl ?_
                      refine v_icmp_eq (tgt := 72) C dX1_canStandUnder_65 (by decide) (fun c_65 => ?_) (fun c_65 => ?_)
                      · skip
                        refine v_iconst (v := nI 0) C dX1_canStandUnder_72 (by decide) ?_
                        refine v_zret C hr (by first | rfl | exact bI_nar _) (Nat.le_of_ble_eq_true rfl) (Nat.le_of_ble_eq_true rfl) dX1_canStandUnder_73 ?_
                        exact ⟨false, rfl, (by clear C hr hin i_h hT; simp_all [canT]), rfl⟩
                      · skip
                        refine v_iconst (v := nI 1) C dX1_canStandUnder_68 (by decide) ?_
                        refine v_goto (tgt := 73) C dX1_canStandUnder_69 (by decide) ?_
                        refine v_zret C hr (by first | rfl | exact bI_nar _) (Nat.le_of_ble_eq_true rfl) (Nat.le_of_ble_eq_true rfl) dX1_canStandUnder_73 ?_
                        exact ⟨true, rfl, (by clear C hr hin i_h hT; simp_all [canT]), rfl⟩
              · skip
                refine v_iconst (v := nI 0) C dX1_canStandUnder_46 (by decide) ?_
                refine v_zret C hr (by first | rfl | exact bI_nar _) (Nat.le_of_ble_eq_true rfl) (Nat.le_of_ble_eq_true rfl) dX1_canStandUnder_47 ?_
                exact ⟨false, rfl, (by clear C hr hin i_h hT; simp_all [canT]), rfl⟩
      · skip
        refine v_iconst (v := nI 0) C dX1_canStandUnder_24 (by decide) ?_
        refine v_zret C hr (by first | rfl | exact bI_nar _) (Nat.le_of_ble_eq_true rfl) (Nat.le_of_ble_eq_true rfl) dX1_canStandUnder_25 ?_
        exact ⟨false, rfl, (by clear C hr hin i_h hT; simp_all [canT]), rfl⟩
set_option maxRecDepth 100000 in
set_option maxHeartbeats 4000000 in
theorem ft_X4_begin (l : Launch) (M : Nat → Prop) (h : Nat) (x : MA) (A : CA) (LT : Nat → List Nat) : Ct l yX4_begin cX4_begin 1 none 2 0 0 43 (fun S av => av = [.ref h] ∧ INV M [] S ∧ is S h 4 ∧ (mgZ S h x) ∧ (mdj x)) (fun S _ r S' => r = none ∧ INV M [] S' ∧ chg S S' [x.gp, x.mp] [] [(194, x.gv), (194, x.md), (260, h)] [] ∧ (mgS S' h x A LT [] [])) := by
  refine ct_of (by decide) (fun S av h => by obtain ⟨rfl, iv, i_h, hZ, hj⟩ := h; exact Nat.le_of_ble_eq_true rfl) ?_
  intro p e s m args below meth c D G bs S av C hr hin hpre
  obtain ⟨rfl, iv, i_h, hZ, hj⟩ := hpre
  have ch : chg S S [x.gp, x.mp] [] [(194, x.gv), (194, x.md), (260, h)] [] := ch_rfl
  obtain ⟨_, o_rows, o_ft, i_rows, i_ft, o_gv, o_md, ⟨gs, hL⟩, ⟨ds, hM⟩⟩ := id hZ
  obtain ⟨j1, j2, j3, j4, j5⟩ := hj
  have i_gv := hL.1
  have i_md := hM.1
  refine v_aload_n C dX4_begin_0 rfl ?_
  refine r4_22 (b := x.gv) C i_h o_gv dX4_begin_1 ?_
  refine v_callV (As := []) (n := 0) C (ft_X3_empty l M _ x.gr x.gp gs) rfl i_gv (by decide) rfl ⟨wd152, wd153, wd154, wd45, wd155⟩ ⟨rfl, hy_X3_empty⟩ rfl ⟨Nat.le_of_ble_eq_true rfl, Nat.le_of_ble_eq_true rfl⟩ (Nat.le_of_ble_eq_true rfl) ⟨Nat.le_of_ble_eq_true rfl, Nat.le_of_ble_eq_true rfl⟩ dX4_begin_4 ⟨rfl, iv, i_gv, hL⟩ (fun r_4 S2_4 h_4 => ?_)
  obtain ⟨rfl, iv', ch_4, r_v4⟩ := h_4
  have hM1 : lnV S2_4 x.md x.mr x.mp ds := lnV_ch ch_4 hM (by simp; exact Ne.symm j4) (by simp; exact Ne.symm j5) (by simp; exact Ne.symm j1) (by simp) (by simp)
  have iv := iv'
  clear iv'
  have ch := ch_tr ch ch_4 (by simp)
  have o_rows := mo_ch ch_4 i_h (by first | decide | simp) o_rows
  have o_ft := mo_ch ch_4 i_h (by first | decide | simp) o_ft
  have o_gv := mo_ch ch_4 i_h (by first | decide | simp) o_gv
  have o_md := mo_ch ch_4 i_h (by first | decide | simp) o_md
  have i_h := is_ch ch_4 i_h
  have i_rows := isA_ch ch_4 i_rows
  have i_ft := isA_ch ch_4 i_ft
  have i_gv := is_ch ch_4 i_gv
  have i_md := is_ch ch_4 i_md
  refine v_aload_n C dX4_begin_7 rfl ?_
  refine r4_26 (b := x.md) C i_h o_md dX4_begin_8 ?_
  refine v_callV (As := []) (n := 0) C (ft_X3_empty l M _ x.mr x.mp ds) rfl i_md (by decide) rfl ⟨wd152, wd153, wd154, wd45, wd155⟩ ⟨rfl, hy_X3_empty⟩ rfl ⟨Nat.le_of_ble_eq_true rfl, Nat.le_of_ble_eq_true rfl⟩ (Nat.le_of_ble_eq_true rfl) ⟨Nat.le_of_ble_eq_true rfl, Nat.le_of_ble_eq_true rfl⟩ dX4_begin_11 ⟨rfl, iv, i_md, hM1⟩ (fun r_11 S2_11 h_11 => ?_)
  obtain ⟨rfl, iv', ch_11, r_v11⟩ := h_11
  have hL1 : lnV S2_11 x.gv x.gr x.gp [] := lnV_ch ch_11 r_v4 (by simp; exact j3) (by simp; exact j5) (by simp; exact j1) (by simp) (by simp)
  have iv := iv'
  clear iv'
  have ch := ch_tr ch ch_11 (by simp)
  have o_rows := mo_ch ch_11 i_h (by first | decide | simp) o_rows
  have o_ft := mo_ch ch_11 i_h (by first | decide | simp) o_ft
  have o_gv := mo_ch ch_11 i_h (by first | decide | simp) o_gv
  have o_md := mo_ch ch_11 i_h (by first | decide | simp) o_md
  have i_h := is_ch ch_11 i_h
  have i_rows := isA_ch ch_11 i_rows
  have i_ft := isA_ch ch_11 i_ft
  have i_gv := is_ch ch_11 i_gv
  have i_md := is_ch ch_11 i_md
  refine v_aload_n C dX4_begin_14 rfl ?_
  refine v_iconst (v := nI 0) C dX4_begin_15 (by decide) ?_
  refine p4_32 C i_h dX4_begin_16 ?_
  refine V.gen (fun S2_16 e_16 => ?_)
  have x_16 := x_sI e_16
  have iv := inv_sI e_16 iv (by decide) (by decide)
  have ch := ch_sI e_16 ch (by simp)
  have o_rows := mo_sIy e_16 o_rows
  have o_ft := mo_sIy e_16 o_ft
  have o_gv := mo_sIy e_16 o_gv
  have o_md := mo_sIy e_16 o_md
  have i_h := is_ext x_16 i_h
  have i_rows := isA_ext x_16 i_rows
  have i_ft := isA_ext x_16 i_ft
  have i_gv := is_ext x_16 i_gv
  have i_md := is_ext x_16 i_md
  refine v_vret C hr (Nat.le_of_ble_eq_true rfl) (Nat.le_of_ble_eq_true rfl) dX4_begin_19 ?_
  exact ⟨rfl, iv, ch, ((by
     have c := ch_sI e_16 (ch_rfl (AR := []) (PR := []) (FI := [(260, h)]) (FO := [])) (by simp)
     exact ⟨⟨i_h, o_rows, o_ft, i_rows, i_ft, by rw [e_16, mI_sI, if_pos ⟨rfl, rfl⟩]; rfl, Nat.zero_le _, fun r hr => absurd hr (Nat.not_lt_zero r)⟩, o_gv, o_md, lnV_ch c hL1 (by simp) (by simp) (by simp) (by simp) (by simp), lnV_ch c r_v11 (by simp) (by simp) (by simp) (by simp) (by simp)⟩))⟩
