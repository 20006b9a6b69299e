theorem nth_lt {p : Nat → Bool} : ∀ {f k l j : Nat}, nth p f k l = some j → l < cn p f k := by
  intro f
  induction f with
  | zero => intro k l j h; cases h
  | succ f ih =>
    intro k l j h
    rw [cn]
    cases hp : p k with
    | true =>
      cases l with
      | zero => show 0 < 1 + _; omega
      | succ l => rw [nth, hp] at h; have := ih h; show _ < 1 + _; omega
    | false =>
      cases l with
      | zero => rw [nth, hp] at h; have := ih h; show _ < 0 + _; omega
      | succ l => rw [nth, hp] at h; have := ih h; show _ < 0 + _; omega
theorem nth_none {p : Nat → Bool} : ∀ {f k l : Nat}, nth p f k l = none → cn p f k ≤ l := by
  intro f
  induction f with
  | zero => intro k l h; exact Nat.zero_le _
  | succ f ih =>
    intro k l h
    rw [cn]
    cases hp : p k with
    | true =>
      cases l with
      | zero => rw [nth, hp] at h; cases h
      | succ l => rw [nth, hp] at h; have := ih h; show 1 + _ ≤ _; omega
    | false =>
      cases l with
      | zero => rw [nth, hp] at h; have := ih h; show 0 + _ ≤ _; omega
      | succ l => rw [nth, hp] at h; have := ih h; show 0 + _ ≤ _; omega
/-- a sum of f from k on -/
def sm (g : Nat → Nat) : Nat → Nat → Nat
  | 0, _ => 0
  | f + 1, k => g k + sm g f (k + 1)
theorem sm_step {g : Nat → Nat} {n i : Nat} (h : i < n) : sm g (n - i) i = g i + sm g (n - (i + 1)) (i + 1) := by
  obtain ⟨f, hf⟩ : ∃ f, n - i = f + 1 := ⟨n - i - 1, by omega⟩
  rw [hf, sm, show n - (i + 1) = f by omega]
theorem sm_end {g : Nat → Nat} {n i : Nat} (h : n ≤ i) : sm g (n - i) i = 0 := by
  rw [show n - i = 0 by omega, sm]
def guardsN (K : RS) (u n : Nat) : Nat := cn (hasG K u n) (rN K 8 u + 1 - 1) 1
def aboutF (K : RS) (u n w : Nat) : Int32 := if w = 4 then nI (guardsN K u n) else match chooseF K u n with
  | none => -1
  | some p => match offersF K u p n with
    | none => -1
    | some k => if w = 0 then rA K 13 k else if w = 1 then rA K 12 k else if w = 2 then rA K 15 k else nI (bridgesF K u n k)
def climbF (K : RS) (u n : Nat) : Nat → Option Nat → Option Nat
  | 0, o => o
  | _ + 1, none => none
  | f + 1, some p => climbF K u n f (firstF K u (p + 1) n)
theorem climb_none (K : RS) (u n f : Nat) : climbF K u n f none = none := by cases f <;> rfl
theorem climb_step {K : RS} {u n w i p : Nat} (h : i < w) : climbF K u n (w - i) (some p) = climbF K u n (w - (i + 1)) (firstF K u (p + 1) n) := by
  obtain ⟨f, hf⟩ : ∃ f, w - i = f + 1 := ⟨w - i - 1, by omega⟩
  rw [hf, climbF, show w - (i + 1) = f by omega]
theorem climb_end {K : RS} {u n w i : Nat} {o : Option Nat} (h : w ≤ i) : climbF K u n (w - i) o = o := by
  rw [show w - i = 0 by omega, climbF]
def tellO (K : RS) (u : Nat) : Option Nat → Int32
  | none => -1
  | some p => nI (tellsF K u p)
def hasP (K : RS) (o k : Nat) : Bool := !decide (rA K 10 (k + o) = 0)
def pickP (K : RS) (w u a : Nat) : Bool := if w = 4 then decide (0 < clashF K u a) else decide (chosenF K u a = -5)
def rowN (K : RS) (w u : Nat) : Nat := cn (pickP K w u) (12 - 0) 0
def countF (K : RS) (w : Nat) : Int32 := if w = 0 then rF K 0 else if w = 1 then rF K 3 else if w < 4 then nI (cn (hasP K (if w = 2 then 0 else 240)) (240 - 0) 0) else nI (sm (rowN K w) (fN K 3 - 0) 0)
def chosenP (K : RS) (x y : Int32) : Int32 := bif below x (fN K 3) && below y 12 then chosenF K x.toNatClampNeg y.toNatClampNeg else -2
def clashP (K : RS) (x y : Int32) : Int32 := bif below x (fN K 3) && below y 12 then nI (clashF K x.toNatClampNeg y.toNatClampNeg) else -2
def aboutP (K : RS) (x y z : Int32) : Int32 := bif below x (fN K 3) && below y 12 && below z 5 then aboutF K x.toNatClampNeg y.toNatClampNeg z.toNatClampNeg else -2
def aboveP (K : RS) (x y z : Int32) : Int32 := bif below x (fN K 3) && below y 12 && below z 31 then tellO K x.toNatClampNeg (climbF K x.toNatClampNeg y.toNatClampNeg z.toNatClampNeg (chooseF K x.toNatClampNeg y.toNatClampNeg)) else -2
def isAP (K : RS) (x y : Int32) : Int32 := bif below x (fN K 3) && below y (fN K 0) then (if 0 < placeInF K x.toNatClampNeg y then nI 1 else nI 0) else -2
def countP (K : RS) (x : Int32) : Int32 := bif below x 6 then countF K x.toNatClampNeg else -2
theorem clashF_le (K : RS) (u n : Nat) : clashF K u n ≤ 2 := by
  unfold clashF
  split
  · exact Nat.zero_le _
  · rename_i p _
    cases (byLineF K u n p && (sc (rivF K u n p) (rN K 8 u + 1 - (p + 1)) (p + 1)).isSome) with
    | true => exact Nat.le_succ _
    | false =>
      show (match offersF K u p n with | none => 0 | some k => bif (sc (wideF K u n k) (rN K 8 u + 1) 0).isSome then 2 else 0) ≤ 2
      split
      · exact Nat.zero_le _
      · rename_i k _
        cases (sc (wideF K u n k) (rN K 8 u + 1) 0).isSome <;> decide
theorem guardF_le {K : RS} {u n i j : Nat} (h : guardF K u n i = some j) : i + 1 ≤ j ∧ j ≤ rN K 8 u ∧ hasG K u n j = true := by
  obtain ⟨h1, h2, h3⟩ := nth_some h
  exact ⟨by omega, by omega, h3⟩
theorem dX10_isByLine_0 : decode cX10_isByLine 0 = .ok (.iload_n 3, 1) := by decide +kernel
theorem dX10_isByLine_1 : decode cX10_isByLine 1 = .ok (.ifCond .ne 5, 3) := by decide +kernel
theorem dX10_isByLine_4 : decode cX10_isByLine 4 = .ok (.iconst 0, 1) := by decide +kernel
theorem dX10_isByLine_5 : decode cX10_isByLine 5 = .ok (.ireturn, 1) := by decide +kernel
theorem dX10_isByLine_6 : decode cX10_isByLine 6 = .ok (.aload_n 0, 1) := by decide +kernel
theorem dX10_isByLine_7 : decode cX10_isByLine 7 = .ok (.getfield 88, 3) := by decide +kernel
theorem dX10_isByLine_10 : decode cX10_isByLine 10 = .ok (.bipush 12, 2) := by decide +kernel
theorem dX10_isByLine_12 : decode cX10_isByLine 12 = .ok (.iload_n 1, 1) := by decide +kernel
theorem dX10_isByLine_13 : decode cX10_isByLine 13 = .ok (.imul, 1) := by decide +kernel
theorem dX10_isByLine_14 : decode cX10_isByLine 14 = .ok (.iload_n 2, 1) := by decide +kernel
theorem dX10_isByLine_15 : decode cX10_isByLine 15 = .ok (.iadd, 1) := by decide +kernel
theorem dX10_isByLine_16 : decode cX10_isByLine 16 = .ok (.iaload, 1) := by decide +kernel
theorem dX10_isByLine_17 : decode cX10_isByLine 17 = .ok (.istore 4, 2) := by decide +kernel
theorem dX10_isByLine_19 : decode cX10_isByLine 19 = .ok (.iload 4, 2) := by decide +kernel
theorem dX10_isByLine_21 : decode cX10_isByLine 21 = .ok (.iconst (-1), 1) := by decide +kernel
theorem dX10_isByLine_22 : decode cX10_isByLine 22 = .ok (.if_icmp .ne 7, 3) := by decide +kernel
theorem dX10_isByLine_25 : decode cX10_isByLine 25 = .ok (.iconst 0, 1) := by decide +kernel
theorem dX10_isByLine_26 : decode cX10_isByLine 26 = .ok (.goto 10, 3) := by decide +kernel
theorem dX10_isByLine_29 : decode cX10_isByLine 29 = .ok (.aload_n 0, 1) := by decide +kernel
theorem dX10_isByLine_30 : decode cX10_isByLine 30 = .ok (.iload_n 1, 1) := by decide +kernel
theorem dX10_isByLine_31 : decode cX10_isByLine 31 = .ok (.iload 4, 2) := by decide +kernel
theorem dX10_isByLine_33 : decode cX10_isByLine 33 = .ok (.invokevirtual 202, 3) := by decide +kernel
theorem dX10_isByLine_36 : decode cX10_isByLine 36 = .ok (.istore 5, 2) := by decide +kernel
theorem dX10_isByLine_38 : decode cX10_isByLine 38 = .ok (.iload 5, 2) := by decide +kernel
theorem dX10_isByLine_40 : decode cX10_isByLine 40 = .ok (.ifCond .ne 7, 3) := by decide +kernel
theorem dX10_isByLine_43 : decode cX10_isByLine 43 = .ok (.iconst (-1), 1) := by decide +kernel
theorem dX10_isByLine_44 : decode cX10_isByLine 44 = .ok (.goto 11, 3) := by decide +kernel
theorem dX10_isByLine_47 : decode cX10_isByLine 47 = .ok (.aload_n 0, 1) := by decide +kernel
theorem dX10_isByLine_48 : decode cX10_isByLine 48 = .ok (.iload_n 1, 1) := by decide +kernel
theorem dX10_isByLine_49 : decode cX10_isByLine 49 = .ok (.iload 5, 2) := by decide +kernel
theorem dX10_isByLine_51 : decode cX10_isByLine 51 = .ok (.iload_n 2, 1) := by decide +kernel
theorem dX10_isByLine_52 : decode cX10_isByLine 52 = .ok (.invokevirtual 199, 3) := by decide +kernel
theorem dX10_isByLine_55 : decode cX10_isByLine 55 = .ok (.istore 6, 2) := by decide +kernel
theorem dX10_isByLine_57 : decode cX10_isByLine 57 = .ok (.iload 6, 2) := by decide +kernel
theorem dX10_isByLine_59 : decode cX10_isByLine 59 = .ok (.iconst (-1), 1) := by decide +kernel
theorem dX10_isByLine_60 : decode cX10_isByLine 60 = .ok (.if_icmp .eq 13, 3) := by decide +kernel
theorem dX10_isByLine_63 : decode cX10_isByLine 63 = .ok (.aload_n 0, 1) := by decide +kernel
theorem dX10_isByLine_64 : decode cX10_isByLine 64 = .ok (.getfield 39, 3) := by decide +kernel
theorem dX10_isByLine_67 : decode cX10_isByLine 67 = .ok (.iload 6, 2) := by decide +kernel
theorem dX10_isByLine_69 : decode cX10_isByLine 69 = .ok (.baload, 1) := by decide +kernel
theorem dX10_isByLine_70 : decode cX10_isByLine 70 = .ok (.ifCond .eq 7, 3) := by decide +kernel
theorem dX10_isByLine_73 : decode cX10_isByLine 73 = .ok (.iconst 1, 1) := by decide +kernel
theorem dX10_isByLine_74 : decode cX10_isByLine 74 = .ok (.goto 4, 3) := by decide +kernel
theorem dX10_isByLine_77 : decode cX10_isByLine 77 = .ok (.iconst 0, 1) := by decide +kernel
theorem dX10_isByLine_78 : decode cX10_isByLine 78 = .ok (.ireturn, 1) := by decide +kernel
set_option maxRecDepth 100000 in
set_option maxHeartbeats 4000000 in
theorem rt_X10_isByLine (l : Launch) (m0 : Nat) (ad : Nat → Nat) (K : RS) (u : Nat) (n : Nat) (w : Nat) : Ct l yX10_isByLine cX10_isByLine 7 (some .boolean) 2 0 0 49 (fun S av => av = [.ref m0, .int (nI u), .int (nI n), .int (nI w)] ∧ mdR S m0 ad K ∧ RV K ∧ (u < 12) ∧ (n < 12) ∧ (w ≤ 20)) (fun S _ r S' => ∃ v : Bool, r = some (.int (bI v)) ∧ v = byLineF K u n w ∧ S' = S) := by
  refine ct_of (by decide) (fun S av h => by obtain ⟨rfl, hk, rv, hu, hn, hw⟩ := h; exact Nat.le_of_ble_eq_true rfl) ?_
  intro p e s m args below meth c D G bs S av C hr hin hpre
  obtain ⟨rfl, hk, rv, hu, hn, hw⟩ := hpre
  obtain ⟨z1, z2⟩ := rv.p5 u hu
  refine v_iload_n C dX10_isByLine_0 rfl ?_
  refine n_if_ne (tgt := 6) C (by omega) dX10_isByLine_1 (by decide) (fun c_1 => ?_) (fun c_1 => ?_)
  · skip
    have h0 : ¬ w = 0 := by omega
    refine v_aload_n C dX10_isByLine_6 rfl ?_
    refine q10_88 C hk dX10_isByLine_7 ?_
    refine v_bipush (v := nI 12) C dX10_isByLine_10 (by decide) ?_
    refine v_iload_n C dX10_isByLine_12 rfl ?_
    refine n_imul C dX10_isByLine_13 ?_
    refine v_iload_n C dX10_isByLine_14 rfl ?_
    refine n_iadd C dX10_isByLine_15 ?_
    refine n_iald C hk (show (27, 11, 144) ∈ mTab by decide +kernel) (by omega) dX10_isByLine_16 ?_
    refine v_istore C dX10_isByLine_17 (by decide) rfl ?_
    refine v_iload C dX10_isByLine_19 rfl ?_
    refine v_iconst (v := -1) C dX10_isByLine_21 (by decide) ?_
    refine v_icmp_ne (tgt := 29) C dX10_isByLine_22 (by decide) (fun c_22 => ?_) (fun c_22 => ?_)
    · skip
      refine v_aload_n C dX10_isByLine_29 rfl ?_
      refine v_iload_n C dX10_isByLine_30 rfl ?_
      refine v_iload C dX10_isByLine_31 rfl ?_
      refine v_callV (As := [_, _]) (n := 2) C (rt_X10_placeIn l m0 ad _ _ _) rfl hk.1 (by decide) rfl ⟨wd597, wd598, wd599, wd5, wd600⟩ ⟨rfl, hy_X10_placeIn⟩ rfl ⟨Nat.le_of_ble_eq_true rfl, Nat.le_of_ble_eq_true rfl⟩ (Nat.le_of_ble_eq_true rfl) ⟨Nat.le_of_ble_eq_true rfl, Nat.le_of_ble_eq_true rfl⟩ dX10_isByLine_33 ⟨rfl, hk, rv, (by omega)⟩ (fun r_33 S6_33 h_33 => ?_)
      obtain ⟨v33, rfl, p_v33, b_v33, q_v33⟩ := h_33
      obtain rfl := q_v33.symm
      refine v_istore C dX10_isByLine_36 (by decide) rfl ?_
      refine v_iload C dX10_isByLine_38 rfl ?_
      refine n_if_ne (tgt := 47) C (by omega) dX10_isByLine_40 (by decide) (fun c_40 => ?_) (fun c_40 => ?_)
      · skip
        refine v_aload_n C dX10_isByLine_47 rfl ?_
        refine v_iload_n C dX10_isByLine_48 rfl ?_
        refine v_iload C dX10_isByLine_49 rfl ?_
        refine v_iload_n C dX10_isByLine_51 rfl ?_
        refine v_callV (As := [_, _, _]) (n := 3) C (rt_X10_offers l m0 ad _ _ _ _) rfl hk.1 (by decide) rfl ⟨wd593, wd594, wd595, wd5, wd596⟩ ⟨rfl, hy_X10_offers⟩ rfl ⟨Nat.le_of_ble_eq_true rfl, Nat.le_of_ble_eq_true rfl⟩ (Nat.le_of_ble_eq_true rfl) ⟨Nat.le_of_ble_eq_true rfl, Nat.le_of_ble_eq_true rfl⟩ dX10_isByLine_52 ⟨rfl, hk, rv, (by omega), (by omega), (by omega)⟩ (fun r_52 S8_52 h_52 => ?_)
        obtain ⟨v52, rfl, p_v52, b_v52, q_v52⟩ := h_52
        obtain rfl := q_v52.symm
        refine v_istore C dX10_isByLine_55 (by decide) rfl ?_
        refine v_iload C dX10_isByLine_57 rfl ?_
        refine v_iconst (v := -1) C dX10_isByLine_59 (by decide) ?_
        refine o_icmp_eq (tgt := 73) C (fun k z => by have := b_v52 k z; omega) dX10_isByLine_60 (by decide) (fun c_60 => ?_) (fun k60 c_60 => ?_)
        · skip
          subst c_60
          refine v_iconst (v := nI 1) C dX10_isByLine_73 (by decide) ?_
          refine v_goto (tgt := 78) C dX10_isByLine_74 (by decide) ?_
          refine v_zret C hr (by first | rfl | exact bI_nar _) (Nat.le_of_ble_eq_true rfl) (Nat.le_of_ble_eq_true rfl) dX10_isByLine_78 ?_
          exact ⟨true, rfl, (by simp [byLineF, prefF, offP, c_1, h0, c_1, c_22, ← p_v33, c_40, ← p_v52]), rfl⟩
        · skip
          have b_k60 := b_v52 k60 c_60
          subst c_60
          refine v_aload_n C dX10_isByLine_63 rfl ?_
          refine q10_39 C hk dX10_isByLine_64 ?_
          refine v_iload C dX10_isByLine_67 rfl ?_
          refine n_zald C hk (show (11, 13, 624) ∈ mTab by decide +kernel) (by omega) dX10_isByLine_69 ?_
          refine v_if_eq (tgt := 77) C dX10_isByLine_70 (by decide) (fun c_70 => ?_) (fun c_70 => ?_)
          · skip
            refine v_iconst (v := nI 0) C dX10_isByLine_77 (by decide) ?_
            refine v_zret C hr (by first | rfl | exact bI_nar _) (Nat.le_of_ble_eq_true rfl) (Nat.le_of_ble_eq_true rfl) dX10_isByLine_78 ?_
            exact ⟨false, rfl, (by simp [byLineF, prefF, offP, c_1, h0, c_1, c_22, ← p_v33, c_40, ← p_v52, c_70]), rfl⟩
          · skip
            refine v_iconst (v := nI 1) C dX10_isByLine_73 (by decide) ?_
            refine v_goto (tgt := 78) C dX10_isByLine_74 (by decide) ?_
            refine v_zret C hr (by first | rfl | exact bI_nar _) (Nat.le_of_ble_eq_true rfl) (Nat.le_of_ble_eq_true rfl) dX10_isByLine_78 ?_
            exact ⟨true, rfl, (by simp [byLineF, prefF, offP, c_1, h0, c_1, c_22, ← p_v33, c_40, ← p_v52, c_70]), rfl⟩
      · skip
        refine v_iconst (v := -1) C dX10_isByLine_43 (by decide) ?_
        refine v_goto (tgt := 55) C dX10_isByLine_44 (by decide) ?_
        refine v_istore C dX10_isByLine_55 (by decide) rfl ?_
        refine v_iload C dX10_isByLine_57 rfl ?_
        refine v_iconst (v := -1) C dX10_isByLine_59 (by decide) ?_
        refine v_icmp_eq (tgt := 73) C dX10_isByLine_60 (by decide) (fun c_60 => ?_) (fun c_60 => ?_)
        · skip
          refine v_iconst (v := nI 1) C dX10_isByLine_73 (by decide) ?_
          refine v_goto (tgt := 78) C dX10_isByLine_74 (by decide) ?_
          refine v_zret C hr (by first | rfl | exact bI_nar _) (Nat.le_of_ble_eq_true rfl) (Nat.le_of_ble_eq_true rfl) dX10_isByLine_78 ?_
          exact ⟨true, rfl, (by simp [byLineF, prefF, offP, c_1, h0, c_1, c_22, ← p_v33, c_40, c_60]), rfl⟩
        · skip
          exact absurd c_60 (by decide)
    · skip
      refine v_iconst (v := nI 0) C dX10_isByLine_25 (by decide) ?_
      refine v_goto (tgt := 36) C dX10_isByLine_26 (by decide) ?_
      refine v_istore C dX10_isByLine_36 (by decide) rfl ?_
      refine v_iload C dX10_isByLine_38 rfl ?_
      refine v_if_ne (tgt := 47) C dX10_isByLine_40 (by decide) (fun c_40 => ?_) (fun c_40 => ?_)
      · skip
        exact absurd c_40 (by decide)
      · skip
        refine v_iconst (v := -1) C dX10_isByLine_43 (by decide) ?_
        refine v_goto (tgt := 55) C dX10_isByLine_44 (by decide) ?_
        refine v_istore C dX10_isByLine_55 (by decide) rfl ?_
        refine v_iload C dX10_isByLine_57 rfl ?_
        refine v_iconst (v := -1) C dX10_isByLine_59 (by decide) ?_
        refine v_icmp_eq (tgt := 73) C dX10_isByLine_60 (by decide) (fun c_60 => ?_) (fun c_60 => ?_)
        · skip
          refine v_iconst (v := nI 1) C dX10_isByLine_73 (by decide) ?_
          refine v_goto (tgt := 78) C dX10_isByLine_74 (by decide) ?_
          refine v_zret C hr (by first | rfl | exact bI_nar _) (Nat.le_of_ble_eq_true rfl) (Nat.le_of_ble_eq_true rfl) dX10_isByLine_78 ?_
          exact ⟨true, rfl, (by simp [byLineF, prefF, offP, c_1, h0, c_1, c_22, c_40, c_60]), rfl⟩
        · skip
          exact absurd c_60 (by decide)
  · skip
    refine v_iconst (v := nI 0) C dX10_isByLine_4 (by decide) ?_
    refine v_zret C hr (by first | rfl | exact bI_nar _) (Nat.le_of_ble_eq_true rfl) (Nat.le_of_ble_eq_true rfl) dX10_isByLine_5 ?_
    exact ⟨false, rfl, (by simp [byLineF, prefF, offP, c_1]), rfl⟩
theorem dX10_clashOf_0 : decode cX10_clashOf 0 = .ok (.aload_n 0, 1) := by decide +kernel
theorem dX10_clashOf_1 : decode cX10_clashOf 1 = .ok (.iload_n 1, 1) := by decide +kernel
theorem dX10_clashOf_2 : decode cX10_clashOf 2 = .ok (.iload_n 2, 1) := by decide +kernel
theorem dX10_clashOf_3 : decode cX10_clashOf 3 = .ok (.invokevirtual 208, 3) := by decide +kernel
theorem dX10_clashOf_6 : decode cX10_clashOf 6 = .ok (.istore_n 3, 1) := by decide +kernel
theorem dX10_clashOf_7 : decode cX10_clashOf 7 = .ok (.iload_n 3, 1) := by decide +kernel
theorem dX10_clashOf_8 : decode cX10_clashOf 8 = .ok (.iconst (-1), 1) := by decide +kernel
theorem dX10_clashOf_9 : decode cX10_clashOf 9 = .ok (.if_icmp .ne 5, 3) := by decide +kernel
theorem dX10_clashOf_12 : decode cX10_clashOf 12 = .ok (.iconst 0, 1) := by decide +kernel
theorem dX10_clashOf_13 : decode cX10_clashOf 13 = .ok (.ireturn, 1) := by decide +kernel
theorem dX10_clashOf_14 : decode cX10_clashOf 14 = .ok (.aload_n 0, 1) := by decide +kernel
theorem dX10_clashOf_15 : decode cX10_clashOf 15 = .ok (.iload_n 1, 1) := by decide +kernel
theorem dX10_clashOf_16 : decode cX10_clashOf 16 = .ok (.iload_n 2, 1) := by decide +kernel
theorem dX10_clashOf_17 : decode cX10_clashOf 17 = .ok (.iload_n 3, 1) := by decide +kernel
theorem dX10_clashOf_18 : decode cX10_clashOf 18 = .ok (.invokevirtual 211, 3) := by decide +kernel
theorem dX10_clashOf_21 : decode cX10_clashOf 21 = .ok (.ifCond .eq 87, 3) := by decide +kernel
theorem dX10_clashOf_24 : decode cX10_clashOf 24 = .ok (.iload_n 3, 1) := by decide +kernel
theorem dX10_clashOf_25 : decode cX10_clashOf 25 = .ok (.iconst 1, 1) := by decide +kernel
theorem dX10_clashOf_26 : decode cX10_clashOf 26 = .ok (.iadd, 1) := by decide +kernel
theorem dX10_clashOf_27 : decode cX10_clashOf 27 = .ok (.istore 4, 2) := by decide +kernel
theorem dX10_clashOf_29 : decode cX10_clashOf 29 = .ok (.iload 4, 2) := by decide +kernel
theorem dX10_clashOf_31 : decode cX10_clashOf 31 = .ok (.aload_n 0, 1) := by decide +kernel
theorem dX10_clashOf_32 : decode cX10_clashOf 32 = .ok (.getfield 28, 3) := by decide +kernel
theorem dX10_clashOf_35 : decode cX10_clashOf 35 = .ok (.iload_n 1, 1) := by decide +kernel
theorem dX10_clashOf_36 : decode cX10_clashOf 36 = .ok (.iaload, 1) := by decide +kernel
theorem dX10_clashOf_37 : decode cX10_clashOf 37 = .ok (.if_icmp .gt 71, 3) := by decide +kernel
theorem dX10_clashOf_40 : decode cX10_clashOf 40 = .ok (.aload_n 0, 1) := by decide +kernel
theorem dX10_clashOf_41 : decode cX10_clashOf 41 = .ok (.iload_n 1, 1) := by decide +kernel
theorem dX10_clashOf_42 : decode cX10_clashOf 42 = .ok (.iload 4, 2) := by decide +kernel
theorem dX10_clashOf_44 : decode cX10_clashOf 44 = .ok (.iload_n 2, 1) := by decide +kernel
theorem dX10_clashOf_45 : decode cX10_clashOf 45 = .ok (.invokevirtual 199, 3) := by decide +kernel
theorem dX10_clashOf_48 : decode cX10_clashOf 48 = .ok (.istore 5, 2) := by decide +kernel
theorem dX10_clashOf_50 : decode cX10_clashOf 50 = .ok (.iload 5, 2) := by decide +kernel
theorem dX10_clashOf_52 : decode cX10_clashOf 52 = .ok (.iconst (-1), 1) := by decide +kernel
theorem dX10_clashOf_53 : decode cX10_clashOf 53 = .ok (.if_icmp .eq 49, 3) := by decide +kernel
theorem dX10_clashOf_56 : decode cX10_clashOf 56 = .ok (.aload_n 0, 1) := by decide +kernel
theorem dX10_clashOf_57 : decode cX10_clashOf 57 = .ok (.getfield 39, 3) := by decide +kernel
theorem dX10_clashOf_60 : decode cX10_clashOf 60 = .ok (.iload 5, 2) := by decide +kernel
theorem dX10_clashOf_62 : decode cX10_clashOf 62 = .ok (.baload, 1) := by decide +kernel
theorem dX10_clashOf_63 : decode cX10_clashOf 63 = .ok (.ifCond .ne 39, 3) := by decide +kernel
theorem dX10_clashOf_66 : decode cX10_clashOf 66 = .ok (.aload_n 0, 1) := by decide +kernel
theorem dX10_clashOf_67 : decode cX10_clashOf 67 = .ok (.aload_n 0, 1) := by decide +kernel
theorem dX10_clashOf_68 : decode cX10_clashOf 68 = .ok (.getfield 25, 3) := by decide +kernel
theorem dX10_clashOf_71 : decode cX10_clashOf 71 = .ok (.bipush 20, 2) := by decide +kernel
theorem dX10_clashOf_73 : decode cX10_clashOf 73 = .ok (.iload_n 1, 1) := by decide +kernel
theorem dX10_clashOf_74 : decode cX10_clashOf 74 = .ok (.imul, 1) := by decide +kernel
theorem dX10_clashOf_75 : decode cX10_clashOf 75 = .ok (.iload_n 3, 1) := by decide +kernel
theorem dX10_clashOf_76 : decode cX10_clashOf 76 = .ok (.iadd, 1) := by decide +kernel
theorem dX10_clashOf_77 : decode cX10_clashOf 77 = .ok (.iconst 1, 1) := by decide +kernel
theorem dX10_clashOf_78 : decode cX10_clashOf 78 = .ok (.isub, 1) := by decide +kernel
theorem dX10_clashOf_79 : decode cX10_clashOf 79 = .ok (.iaload, 1) := by decide +kernel
theorem dX10_clashOf_80 : decode cX10_clashOf 80 = .ok (.aload_n 0, 1) := by decide +kernel
theorem dX10_clashOf_81 : decode cX10_clashOf 81 = .ok (.getfield 25, 3) := by decide +kernel
theorem dX10_clashOf_84 : decode cX10_clashOf 84 = .ok (.bipush 20, 2) := by decide +kernel
theorem dX10_clashOf_86 : decode cX10_clashOf 86 = .ok (.iload_n 1, 1) := by decide +kernel
theorem dX10_clashOf_87 : decode cX10_clashOf 87 = .ok (.imul, 1) := by decide +kernel
theorem dX10_clashOf_88 : decode cX10_clashOf 88 = .ok (.iload 4, 2) := by decide +kernel
theorem dX10_clashOf_90 : decode cX10_clashOf 90 = .ok (.iadd, 1) := by decide +kernel
theorem dX10_clashOf_91 : decode cX10_clashOf 91 = .ok (.iconst 1, 1) := by decide +kernel
theorem dX10_clashOf_92 : decode cX10_clashOf 92 = .ok (.isub, 1) := by decide +kernel
theorem dX10_clashOf_93 : decode cX10_clashOf 93 = .ok (.iaload, 1) := by decide +kernel
theorem dX10_clashOf_94 : decode cX10_clashOf 94 = .ok (.invokevirtual 214, 3) := by decide +kernel
theorem dX10_clashOf_97 : decode cX10_clashOf 97 = .ok (.ifCond .ne 5, 3) := by decide +kernel
theorem dX10_clashOf_100 : decode cX10_clashOf 100 = .ok (.iconst 1, 1) := by decide +kernel
theorem dX10_clashOf_101 : decode cX10_clashOf 101 = .ok (.ireturn, 1) := by decide +kernel
theorem dX10_clashOf_102 : decode cX10_clashOf 102 = .ok (.iinc 4 1, 3) := by decide +kernel
theorem dX10_clashOf_105 : decode cX10_clashOf 105 = .ok (.goto (-76), 3) := by decide +kernel
theorem dX10_clashOf_108 : decode cX10_clashOf 108 = .ok (.aload_n 0, 1) := by decide +kernel
theorem dX10_clashOf_109 : decode cX10_clashOf 109 = .ok (.iload_n 1, 1) := by decide +kernel
theorem dX10_clashOf_110 : decode cX10_clashOf 110 = .ok (.iload_n 3, 1) := by decide +kernel
theorem dX10_clashOf_111 : decode cX10_clashOf 111 = .ok (.iload_n 2, 1) := by decide +kernel
theorem dX10_clashOf_112 : decode cX10_clashOf 112 = .ok (.invokevirtual 199, 3) := by decide +kernel
theorem dX10_clashOf_115 : decode cX10_clashOf 115 = .ok (.istore 4, 2) := by decide +kernel
theorem dX10_clashOf_117 : decode cX10_clashOf 117 = .ok (.iconst 0, 1) := by decide +kernel
theorem dX10_clashOf_118 : decode cX10_clashOf 118 = .ok (.istore 5, 2) := by decide +kernel
theorem dX10_clashOf_120 : decode cX10_clashOf 120 = .ok (.iload 5, 2) := by decide +kernel
theorem dX10_clashOf_122 : decode cX10_clashOf 122 = .ok (.aload_n 0, 1) := by decide +kernel
theorem dX10_clashOf_123 : decode cX10_clashOf 123 = .ok (.getfield 28, 3) := by decide +kernel
theorem dX10_clashOf_126 : decode cX10_clashOf 126 = .ok (.iload_n 1, 1) := by decide +kernel
theorem dX10_clashOf_127 : decode cX10_clashOf 127 = .ok (.iaload, 1) := by decide +kernel
theorem dX10_clashOf_128 : decode cX10_clashOf 128 = .ok (.if_icmp .gt 44, 3) := by decide +kernel
theorem dX10_clashOf_131 : decode cX10_clashOf 131 = .ok (.aload_n 0, 1) := by decide +kernel
theorem dX10_clashOf_132 : decode cX10_clashOf 132 = .ok (.iload_n 1, 1) := by decide +kernel
theorem dX10_clashOf_133 : decode cX10_clashOf 133 = .ok (.iload 5, 2) := by decide +kernel
theorem dX10_clashOf_135 : decode cX10_clashOf 135 = .ok (.iload_n 2, 1) := by decide +kernel
theorem dX10_clashOf_136 : decode cX10_clashOf 136 = .ok (.invokevirtual 199, 3) := by decide +kernel
theorem dX10_clashOf_139 : decode cX10_clashOf 139 = .ok (.istore 6, 2) := by decide +kernel
theorem dX10_clashOf_141 : decode cX10_clashOf 141 = .ok (.iload 6, 2) := by decide +kernel
theorem dX10_clashOf_143 : decode cX10_clashOf 143 = .ok (.iconst (-1), 1) := by decide +kernel
theorem dX10_clashOf_144 : decode cX10_clashOf 144 = .ok (.if_icmp .eq 22, 3) := by decide +kernel
theorem dX10_clashOf_147 : decode cX10_clashOf 147 = .ok (.aload_n 0, 1) := by decide +kernel
theorem dX10_clashOf_148 : decode cX10_clashOf 148 = .ok (.getfield 45, 3) := by decide +kernel
theorem dX10_clashOf_151 : decode cX10_clashOf 151 = .ok (.iload 6, 2) := by decide +kernel
theorem dX10_clashOf_153 : decode cX10_clashOf 153 = .ok (.iaload, 1) := by decide +kernel
theorem dX10_clashOf_154 : decode cX10_clashOf 154 = .ok (.aload_n 0, 1) := by decide +kernel
theorem dX10_clashOf_155 : decode cX10_clashOf 155 = .ok (.getfield 45, 3) := by decide +kernel
theorem dX10_clashOf_158 : decode cX10_clashOf 158 = .ok (.iload 4, 2) := by decide +kernel
theorem dX10_clashOf_160 : decode cX10_clashOf 160 = .ok (.iaload, 1) := by decide +kernel
theorem dX10_clashOf_161 : decode cX10_clashOf 161 = .ok (.if_icmp .le 5, 3) := by decide +kernel
theorem dX10_clashOf_164 : decode cX10_clashOf 164 = .ok (.iconst 2, 1) := by decide +kernel
theorem dX10_clashOf_165 : decode cX10_clashOf 165 = .ok (.ireturn, 1) := by decide +kernel
theorem dX10_clashOf_166 : decode cX10_clashOf 166 = .ok (.iinc 5 1, 3) := by decide +kernel
theorem dX10_clashOf_169 : decode cX10_clashOf 169 = .ok (.goto (-49), 3) := by decide +kernel
theorem dX10_clashOf_172 : decode cX10_clashOf 172 = .ok (.iconst 0, 1) := by decide +kernel
theorem dX10_clashOf_173 : decode cX10_clashOf 173 = .ok (.ireturn, 1) := by decide +kernel
set_option maxRecDepth 100000 in
set_option maxHeartbeats 4000000 in
theorem rt_X10_clashOf (l : Launch) (m0 : Nat) (ad : Nat → Nat) (K : RS) (u : Nat) (n : Nat) : Ct l yX10_clashOf cX10_clashOf 7 (some .int) 4 0 0 99 (fun S av => av = [.ref m0, .int (nI u), .int (nI n)] ∧ mdR S m0 ad K ∧ RV K ∧ (u < 12) ∧ (n < 12)) (fun S _ r S' => ∃ v : Nat, r = some (.int (nI v)) ∧ v = clashF K u n ∧ (v ≤ 2) ∧ S' = S) := by
  refine ct_of (by decide) (fun S av h => by obtain ⟨rfl, hk, rv, hu, hn⟩ := h; exact Nat.le_of_ble_eq_true rfl) ?_
  intro p e s m args below meth c D G bs S av C hr hin hpre
  obtain ⟨rfl, hk, rv, hu, hn⟩ := hpre
  obtain ⟨z1, z2⟩ := rv.p5 u hu
  refine v_aload_n C dX10_clashOf_0 rfl ?_
  refine v_iload_n C dX10_clashOf_1 rfl ?_
  refine v_iload_n C dX10_clashOf_2 rfl ?_
  refine v_callV (As := [_, _]) (n := 2) C (rt_X10_choose l m0 ad _ _ _) rfl hk.1 (by decide) rfl ⟨wd589, wd590, wd591, wd5, wd592⟩ ⟨rfl, hy_X10_choose⟩ rfl ⟨Nat.le_of_ble_eq_true rfl, Nat.le_of_ble_eq_true rfl⟩ (Nat.le_of_ble_eq_true rfl) ⟨Nat.le_of_ble_eq_true rfl, Nat.le_of_ble_eq_true rfl⟩ dX10_clashOf_3 ⟨rfl, hk, rv, (by omega), (by omega)⟩ (fun r_3 S2_3 h_3 => ?_)
  obtain ⟨v3, rfl, p_v3, b_v3, q_v3⟩ := h_3
  obtain rfl := q_v3.symm
  refine v_istore_n C dX10_clashOf_6 (by decide) rfl ?_
  refine v_iload_n C dX10_clashOf_7 rfl ?_
  refine v_iconst (v := -1) C dX10_clashOf_8 (by decide) ?_
  refine o_icmp_ne (tgt := 14) C (fun k z => by have := b_v3 k z; omega) dX10_clashOf_9 (by decide) (fun k9 c_9 => ?_) (fun c_9 => ?_)
  · skip
    have b_k9 := b_v3 k9 c_9
    subst c_9
    have g3 := p_v3.symm
    have g4 := (choose_some g3).1
    refine v_aload_n C dX10_clashOf_14 rfl ?_
    refine v_iload_n C dX10_clashOf_15 rfl ?_
    refine v_iload_n C dX10_clashOf_16 rfl ?_
    refine v_iload_n C dX10_clashOf_17 rfl ?_
    refine v_callV (As := [_, _, _]) (n := 3) C (rt_X10_isByLine l m0 ad _ _ _ _) rfl hk.1 (by decide) rfl ⟨wd622, wd623, wd624, wd5, wd625⟩ ⟨rfl, hy_X10_isByLine⟩ rfl ⟨Nat.le_of_ble_eq_true rfl, Nat.le_of_ble_eq_true rfl⟩ (Nat.le_of_ble_eq_true rfl) ⟨Nat.le_of_ble_eq_true rfl, Nat.le_of_ble_eq_true rfl⟩ dX10_clashOf_18 ⟨rfl, hk, rv, (by omega), (by omega), (by omega)⟩ (fun r_18 S4_18 h_18 => ?_)
    obtain ⟨v18, rfl, p_v18, q_v18⟩ := h_18
    obtain rfl := q_v18.symm
    refine b_if_eq (tgt := 108) C dX10_clashOf_21 (by decide) (fun c_21 => ?_) (fun c_21 => ?_)
    · skip
      have e1 : (byLineF K u n k9 && (sc (rivF K u n k9) (rN K 8 u + 1 - (k9 + 1)) (k9 + 1)).isSome) = false := by rw [← p_v18, c_21]; rfl
      refine v_aload_n C dX10_clashOf_108 rfl ?_
      refine v_iload_n C dX10_clashOf_109 rfl ?_
      refine v_iload_n C dX10_clashOf_110 rfl ?_
      refine v_iload_n C dX10_clashOf_111 rfl ?_
      refine v_callV (As := [_, _, _]) (n := 3) C (rt_X10_offers l m0 ad _ _ _ _) rfl hk.1 (by decide) rfl ⟨wd593, wd594, wd595, wd5, wd596⟩ ⟨rfl, hy_X10_offers⟩ rfl ⟨Nat.le_of_ble_eq_true rfl, Nat.le_of_ble_eq_true rfl⟩ (Nat.le_of_ble_eq_true rfl) ⟨Nat.le_of_ble_eq_true rfl, Nat.le_of_ble_eq_true rfl⟩ dX10_clashOf_112 ⟨rfl, hk, rv, (by omega), (by omega), (by omega)⟩ (fun r_112 S6_112 h_112 => ?_)
      obtain ⟨v112, rfl, p_v112, b_v112, q_v112⟩ := h_112
      obtain rfl := q_v112.symm
      obtain ⟨x112, hx⟩ := (choose_some g3).2
      obtain rfl : v112 = some x112 := p_v112.trans hx
      have bx := b_v112 x112 rfl
      refine v_istore C dX10_clashOf_115 (by decide) rfl ?_
      refine v_iconst (v := nI 0) C dX10_clashOf_117 (by decide) ?_
      refine v_istore C dX10_clashOf_118 (by decide) rfl ?_
      refine V.lits (lv' := [_, _, _, _, _, _, _]) rfl ?_
      refine v_loop (fun (tt : (Nat)) lv0 => (lv0.set 5 (some (.int (nI tt))))) (fun (S1 : Mem) (tt : (Nat)) => S1 = S ∧ (tt ≤ 21) ∧ ((sc (wideF K u n x112) (rN K 8 u + 1) 0).isSome = (sc (wideF K u n x112) (rN K 8 u + 1 - tt) tt).isSome)) (fun (S1 : Mem) (tt : (Nat)) => rN K 8 u + 1 - tt) (t := (0)) rfl ⟨rfl, (by omega), rfl⟩ ?_
      intro L120 tt h_120 ih_120
      revert h_120 ih_120
      revert tt
      intro q h_120 ih_120
      obtain ⟨e_S, hq, hs2⟩ := h_120
      subst e_S
      try dsimp only at *
      refine v_iload C dX10_clashOf_120 rfl ?_
      refine v_aload_n C dX10_clashOf_122 rfl ?_
      refine q10_28 C hk dX10_clashOf_123 ?_
      refine v_iload_n C dX10_clashOf_126 rfl ?_
      refine n_iald C hk (show (8, 11, 12) ∈ mTab by decide +kernel) (by omega) dX10_clashOf_127 ?_
      refine v_val z1 ?_
      refine n_icmp_gt (tgt := 172) C (by omega) (by omega) dX10_clashOf_128 (by decide) (fun c_128 => ?_) (fun c_128 => ?_)
      · skip
        refine v_iconst (v := nI 0) C dX10_clashOf_172 (by decide) ?_
        refine v_iret C hr (Nat.le_of_ble_eq_true rfl) (Nat.le_of_ble_eq_true rfl) dX10_clashOf_173 ?_
        exact ⟨_, rfl, (clash_0 g3 e1 hx (by rw [hs2, sc_end (by omega)]; rfl)), (by decide), rfl⟩
      · skip
        refine v_aload_n C dX10_clashOf_131 rfl ?_
        refine v_iload_n C dX10_clashOf_132 rfl ?_
        refine v_iload C dX10_clashOf_133 rfl ?_
        refine v_iload_n C dX10_clashOf_135 rfl ?_
        refine v_callV (As := [_, _, _]) (n := 3) C (rt_X10_offers l m0 ad _ _ _ _) rfl hk.1 (by decide) rfl ⟨wd593, wd594, wd595, wd5, wd596⟩ ⟨rfl, hy_X10_offers⟩ rfl ⟨Nat.le_of_ble_eq_true rfl, Nat.le_of_ble_eq_true rfl⟩ (Nat.le_of_ble_eq_true rfl) ⟨Nat.le_of_ble_eq_true rfl, Nat.le_of_ble_eq_true rfl⟩ dX10_clashOf_136 ⟨rfl, hk, rv, (by omega), (by omega), (by omega)⟩ (fun r_136 S2_136 h_136 => ?_)
        obtain ⟨v136, rfl, p_v136, b_v136, q_v136⟩ := h_136
        obtain rfl := q_v136.symm
        refine v_istore C dX10_clashOf_139 (by decide) rfl ?_
        refine v_iload C dX10_clashOf_141 rfl ?_
        refine v_iconst (v := -1) C dX10_clashOf_143 (by decide) ?_
        refine o_icmp_eq (tgt := 166) C (fun k z => by have := b_v136 k z; omega) dX10_clashOf_144 (by decide) (fun c_144 => ?_) (fun k144 c_144 => ?_)
        · skip
          subst c_144
          refine v_iinc C dX10_clashOf_166 rfl (nI_inc _) (by decide) rfl ?_
          refine v_goto (tgt := 120) C dX10_clashOf_169 (by decide) ?_
          refine V.drop 6 ?_
          refine V.lits (lv' := [_, _, _, _, _, _, _]) rfl ?_
          exact ih_120 _ ((q + 1)) (by first | omega | (dsimp only; omega)) ⟨rfl, (by omega), (hs2.trans (congrArg Option.isSome (sc_step (by omega) (by simp [wideF, ← p_v136] <;> omega))))⟩
        · skip
          have b_k144 := b_v136 k144 c_144
          subst c_144
          refine v_aload_n C dX10_clashOf_147 rfl ?_
          refine q10_45 C hk dX10_clashOf_148 ?_
          refine v_iload C dX10_clashOf_151 rfl ?_
          have bk := b_k144
          obtain ⟨y5, y6⟩ := rv.p13 k144 bk
          refine n_iald C hk (show (13, 11, 624) ∈ mTab by decide +kernel) (by omega) dX10_clashOf_153 ?_
          refine v_val y5 ?_
          refine v_aload_n C dX10_clashOf_154 rfl ?_
          refine q10_45 C hk dX10_clashOf_155 ?_
          refine v_iload C dX10_clashOf_158 rfl ?_
          obtain ⟨y7, y8⟩ := rv.p13 x112 bx
          refine n_iald C hk (show (13, 11, 624) ∈ mTab by decide +kernel) (by omega) dX10_clashOf_160 ?_
          refine v_val y7 ?_
          refine n_icmp_le (tgt := 166) C (by omega) (by omega) dX10_clashOf_161 (by decide) (fun c_161 => ?_) (fun c_161 => ?_)
          · skip
            refine v_iinc C dX10_clashOf_166 rfl (nI_inc _) (by decide) rfl ?_
            refine v_goto (tgt := 120) C dX10_clashOf_169 (by decide) ?_
            refine V.drop 6 ?_
            refine V.lits (lv' := [_, _, _, _, _, _, _]) rfl ?_
            exact ih_120 _ ((q + 1)) (by first | omega | (dsimp only; omega)) ⟨rfl, (by omega), (hs2.trans (congrArg Option.isSome (sc_step (by omega) (by simp [wideF, ← p_v136, c_161] <;> omega))))⟩
          · skip
            refine v_iconst (v := nI 2) C dX10_clashOf_164 (by decide) ?_
            refine v_iret C hr (Nat.le_of_ble_eq_true rfl) (Nat.le_of_ble_eq_true rfl) dX10_clashOf_165 ?_
            exact ⟨_, rfl, (clash_2 g3 e1 hx (by rw [hs2, sc_hit (by omega) (by simp only [wideF, ← p_v136]; exact decide_eq_true (by omega))]; rfl)), (by decide), rfl⟩
    · skip
      have hk0 := byLine_pos (p_v18.symm.trans c_21)
      obtain ⟨y1, y2⟩ := line_p rv hu hk0 g4
      have zt := rv.p1.2
      refine v_iload_n C dX10_clashOf_24 rfl ?_
      refine v_iconst (v := nI 1) C dX10_clashOf_25 (by decide) ?_
      refine n_iadd C dX10_clashOf_26 ?_
      refine v_istore C dX10_clashOf_27 (by decide) rfl ?_
      refine V.lits (lv' := [_, _, _, _, _, _, _]) rfl ?_
      refine v_loop (fun (tt : (Nat)) lv0 => (lv0.set 4 (some (.int (nI tt))))) (fun (S1 : Mem) (tt : (Nat)) => S1 = S ∧ (k9 + 1 ≤ tt ∧ tt ≤ 21) ∧ ((sc (rivF K u n k9) (rN K 8 u + 1 - (k9 + 1)) (k9 + 1)).isSome = (sc (rivF K u n k9) (rN K 8 u + 1 - tt) tt).isSome)) (fun (S1 : Mem) (tt : (Nat)) => rN K 8 u + 1 - tt) (t := ((k9 + 1))) rfl ⟨rfl, (by omega), rfl⟩ ?_
      intro L29 tt h_29 ih_29
      revert h_29 ih_29
      revert tt
      intro q h_29 ih_29
      obtain ⟨e_S, hq, hs⟩ := h_29
      subst e_S
      try dsimp only at *
      refine v_iload C dX10_clashOf_29 rfl ?_
      refine v_aload_n C dX10_clashOf_31 rfl ?_
      refine q10_28 C hk dX10_clashOf_32 ?_
      refine v_iload_n C dX10_clashOf_35 rfl ?_
      refine n_iald C hk (show (8, 11, 12) ∈ mTab by decide +kernel) (by omega) dX10_clashOf_36 ?_
      refine v_val z1 ?_
      refine n_icmp_gt (tgt := 108) C (by omega) (by omega) dX10_clashOf_37 (by decide) (fun c_37 => ?_) (fun c_37 => ?_)
      · skip
        have e1 : (byLineF K u n k9 && (sc (rivF K u n k9) (rN K 8 u + 1 - (k9 + 1)) (k9 + 1)).isSome) = false := by rw [hs, sc_end (by omega)]; exact Bool.and_false _
        refine v_aload_n C dX10_clashOf_108 rfl ?_
        refine v_iload_n C dX10_clashOf_109 rfl ?_
        refine v_iload_n C dX10_clashOf_110 rfl ?_
        refine v_iload_n C dX10_clashOf_111 rfl ?_
        refine v_callV (As := [_, _, _]) (n := 3) C (rt_X10_offers l m0 ad _ _ _ _) rfl hk.1 (by decide) rfl ⟨wd593, wd594, wd595, wd5, wd596⟩ ⟨rfl, hy_X10_offers⟩ rfl ⟨Nat.le_of_ble_eq_true rfl, Nat.le_of_ble_eq_true rfl⟩ (Nat.le_of_ble_eq_true rfl) ⟨Nat.le_of_ble_eq_true rfl, Nat.le_of_ble_eq_true rfl⟩ dX10_clashOf_112 ⟨rfl, hk, rv, (by omega), (by omega), (by omega)⟩ (fun r_112 S2_112 h_112 => ?_)
        obtain ⟨v112, rfl, p_v112, b_v112, q_v112⟩ := h_112
        obtain rfl := q_v112.symm
        obtain ⟨x112, hx⟩ := (choose_some g3).2
        obtain rfl : v112 = some x112 := p_v112.trans hx
        have bx := b_v112 x112 rfl
        refine v_istore C dX10_clashOf_115 (by decide) rfl ?_
        refine v_iconst (v := nI 0) C dX10_clashOf_117 (by decide) ?_
        refine v_istore C dX10_clashOf_118 (by decide) rfl ?_
        refine V.lits (lv' := [_, _, _, _, _, _, _]) rfl ?_
        refine v_loop (fun (tt : (Nat)) lv0 => (lv0.set 5 (some (.int (nI tt))))) (fun (S1 : Mem) (tt : (Nat)) => S1 = L29 ∧ (tt ≤ 21) ∧ ((sc (wideF K u n x112) (rN K 8 u + 1) 0).isSome = (sc (wideF K u n x112) (rN K 8 u + 1 - tt) tt).isSome)) (fun (S1 : Mem) (tt : (Nat)) => rN K 8 u + 1 - tt) (t := (0)) rfl ⟨rfl, (by omega), rfl⟩ ?_
        intro L120 tt h_120 ih_120
        revert h_120 ih_120
        revert tt
        intro q h_120 ih_120
        obtain ⟨e_S, hq, hs2⟩ := h_120
        subst e_S
        try dsimp only at *
        refine v_iload C dX10_clashOf_120 rfl ?_
        refine v_aload_n C dX10_clashOf_122 rfl ?_
        refine q10_28 C hk dX10_clashOf_123 ?_
        refine v_iload_n C dX10_clashOf_126 rfl ?_
        refine n_iald C hk (show (8, 11, 12) ∈ mTab by decide +kernel) (by omega) dX10_clashOf_127 ?_
        refine v_val z1 ?_
        refine n_icmp_gt (tgt := 172) C (by omega) (by omega) dX10_clashOf_128 (by decide) (fun c_128 => ?_) (fun c_128 => ?_)
        · skip
          refine v_iconst (v := nI 0) C dX10_clashOf_172 (by decide) ?_
          refine v_iret C hr (Nat.le_of_ble_eq_true rfl) (Nat.le_of_ble_eq_true rfl) dX10_clashOf_173 ?_
          exact ⟨_, rfl, (clash_0 g3 e1 hx (by rw [hs2, sc_end (by omega)]; rfl)), (by decide), rfl⟩
        · skip
          refine v_aload_n C dX10_clashOf_131 rfl ?_
          refine v_iload_n C dX10_clashOf_132 rfl ?_
          refine v_iload C dX10_clashOf_133 rfl ?_
          refine v_iload_n C dX10_clashOf_135 rfl ?_
          refine v_callV (As := [_, _, _]) (n := 3) C (rt_X10_offers l m0 ad _ _ _ _) rfl hk.1 (by decide) rfl ⟨wd593, wd594, wd595, wd5, wd596⟩ ⟨rfl, hy_X10_offers⟩ rfl ⟨Nat.le_of_ble_eq_true rfl, Nat.le_of_ble_eq_true rfl⟩ (Nat.le_of_ble_eq_true rfl) ⟨Nat.le_of_ble_eq_true rfl, Nat.le_of_ble_eq_true rfl⟩ dX10_clashOf_136 ⟨rfl, hk, rv, (by omega), (by omega), (by omega)⟩ (fun r_136 S2_136 h_136 => ?_)
          obtain ⟨v136, rfl, p_v136, b_v136, q_v136⟩ := h_136
          obtain rfl := q_v136.symm
          refine v_istore C dX10_clashOf_139 (by decide) rfl ?_
          refine v_iload C dX10_clashOf_141 rfl ?_
          refine v_iconst (v := -1) C dX10_clashOf_143 (by decide) ?_
          refine o_icmp_eq (tgt := 166) C (fun k z => by have := b_v136 k z; omega) dX10_clashOf_144 (by decide) (fun c_144 => ?_) (fun k144 c_144 => ?_)
          · skip
            subst c_144
            refine v_iinc C dX10_clashOf_166 rfl (nI_inc _) (by decide) rfl ?_
            refine v_goto (tgt := 120) C dX10_clashOf_169 (by decide) ?_
            refine V.drop 6 ?_
            refine V.lits (lv' := [_, _, _, _, _, _, _]) rfl ?_
            exact ih_120 _ ((q + 1)) (by first | omega | (dsimp only; omega)) ⟨rfl, (by omega), (hs2.trans (congrArg Option.isSome (sc_step (by omega) (by simp [wideF, ← p_v136] <;> omega))))⟩
          · skip
            have b_k144 := b_v136 k144 c_144
            subst c_144
            refine v_aload_n C dX10_clashOf_147 rfl ?_
            refine q10_45 C hk dX10_clashOf_148 ?_
            refine v_iload C dX10_clashOf_151 rfl ?_
            have bk := b_k144
            obtain ⟨y5, y6⟩ := rv.p13 k144 bk
            refine n_iald C hk (show (13, 11, 624) ∈ mTab by decide +kernel) (by omega) dX10_clashOf_153 ?_
            refine v_val y5 ?_
            refine v_aload_n C dX10_clashOf_154 rfl ?_
            refine q10_45 C hk dX10_clashOf_155 ?_
            refine v_iload C dX10_clashOf_158 rfl ?_
            obtain ⟨y7, y8⟩ := rv.p13 x112 bx
            refine n_iald C hk (show (13, 11, 624) ∈ mTab by decide +kernel) (by omega) dX10_clashOf_160 ?_
            refine v_val y7 ?_
            refine n_icmp_le (tgt := 166) C (by omega) (by omega) dX10_clashOf_161 (by decide) (fun c_161 => ?_) (fun c_161 => ?_)
            · skip
              refine v_iinc C dX10_clashOf_166 rfl (nI_inc _) (by decide) rfl ?_
              refine v_goto (tgt := 120) C dX10_clashOf_169 (by decide) ?_
              refine V.drop 6 ?_
              refine V.lits (lv' := [_, _, _, _, _, _, _]) rfl ?_
              exact ih_120 _ ((q + 1)) (by first | omega | (dsimp only; omega)) ⟨rfl, (by omega), (hs2.trans (congrArg Option.isSome (sc_step (by omega) (by simp [wideF, ← p_v136, c_161] <;> omega))))⟩
            · skip
              refine v_iconst (v := nI 2) C dX10_clashOf_164 (by decide) ?_
              refine v_iret C hr (Nat.le_of_ble_eq_true rfl) (Nat.le_of_ble_eq_true rfl) dX10_clashOf_165 ?_
              exact ⟨_, rfl, (clash_2 g3 e1 hx (by rw [hs2, sc_hit (by omega) (by simp only [wideF, ← p_v136]; exact decide_eq_true (by omega))]; rfl)), (by decide), rfl⟩
      · skip
        refine v_aload_n C dX10_clashOf_40 rfl ?_
        refine v_iload_n C dX10_clashOf_41 rfl ?_
        refine v_iload C dX10_clashOf_42 rfl ?_
        refine v_iload_n C dX10_clashOf_44 rfl ?_
        refine v_callV (As := [_, _, _]) (n := 3) C (rt_X10_offers l m0 ad _ _ _ _) rfl hk.1 (by decide) rfl ⟨wd593, wd594, wd595, wd5, wd596⟩ ⟨rfl, hy_X10_offers⟩ rfl ⟨Nat.le_of_ble_eq_true rfl, Nat.le_of_ble_eq_true rfl⟩ (Nat.le_of_ble_eq_true rfl) ⟨Nat.le_of_ble_eq_true rfl, Nat.le_of_ble_eq_true rfl⟩ dX10_clashOf_45 ⟨rfl, hk, rv, (by omega), (by omega), (by omega)⟩ (fun r_45 S2_45 h_45 => ?_)
        obtain ⟨v45, rfl, p_v45, b_v45, q_v45⟩ := h_45
        obtain rfl := q_v45.symm
        refine v_istore C dX10_clashOf_48 (by decide) rfl ?_
        refine v_iload C dX10_clashOf_50 rfl ?_
        refine v_iconst (v := -1) C dX10_clashOf_52 (by decide) ?_
        refine o_icmp_eq (tgt := 102) C (fun k z => by have := b_v45 k z; omega) dX10_clashOf_53 (by decide) (fun c_53 => ?_) (fun k53 c_53 => ?_)
        · skip
          subst c_53
          refine v_iinc C dX10_clashOf_102 rfl (nI_inc _) (by decide) rfl ?_
          refine v_goto (tgt := 29) C dX10_clashOf_105 (by decide) ?_
          refine V.drop 5 ?_
          refine V.lits (lv' := [_, _, _, _, _, _, _]) rfl ?_
          exact ih_29 _ ((q + 1)) (by first | omega | (dsimp only; omega)) ⟨rfl, (by omega), (hs.trans (congrArg Option.isSome (sc_step (by omega) (by simp [rivF, offP, ← p_v3, ← p_v18, c_21, c_37, ← p_v45]))))⟩
        · skip
          have b_k53 := b_v45 k53 c_53
          subst c_53
          refine v_aload_n C dX10_clashOf_56 rfl ?_
          refine q10_39 C hk dX10_clashOf_57 ?_
          refine v_iload C dX10_clashOf_60 rfl ?_
          refine n_zald C hk (show (11, 13, 624) ∈ mTab by decide +kernel) (by omega) dX10_clashOf_62 ?_
          refine v_if_ne (tgt := 102) C dX10_clashOf_63 (by decide) (fun c_63 => ?_) (fun c_63 => ?_)
          · skip
            refine v_iinc C dX10_clashOf_102 rfl (nI_inc _) (by decide) rfl ?_
            refine v_goto (tgt := 29) C dX10_clashOf_105 (by decide) ?_
            refine V.drop 5 ?_
            refine V.lits (lv' := [_, _, _, _, _, _, _]) rfl ?_
            exact ih_29 _ ((q + 1)) (by first | omega | (dsimp only; omega)) ⟨rfl, (by omega), (hs.trans (congrArg Option.isSome (sc_step (by omega) (by simp [rivF, offP, ← p_v3, ← p_v18, c_21, c_37, ← p_v45, c_63]))))⟩
          · skip
            refine v_aload_n C dX10_clashOf_66 rfl ?_
            refine v_aload_n C dX10_clashOf_67 rfl ?_
            refine q10_25 C hk dX10_clashOf_68 ?_
            refine v_bipush (v := nI 20) C dX10_clashOf_71 (by decide) ?_
            refine v_iload_n C dX10_clashOf_73 rfl ?_
            refine n_imul C dX10_clashOf_74 ?_
            refine v_iload_n C dX10_clashOf_75 rfl ?_
            refine n_iadd C dX10_clashOf_76 ?_
            refine v_iconst (v := nI 1) C dX10_clashOf_77 (by decide) ?_
            refine n_isub C (by omega) dX10_clashOf_78 ?_
            refine n_iald C hk (show (7, 11, 240) ∈ mTab by decide +kernel) (by omega) dX10_clashOf_79 ?_
            refine v_val y1 ?_
            refine v_aload_n C dX10_clashOf_80 rfl ?_
            refine q10_25 C hk dX10_clashOf_81 ?_
            refine v_bipush (v := nI 20) C dX10_clashOf_84 (by decide) ?_
            refine v_iload_n C dX10_clashOf_86 rfl ?_
            refine n_imul C dX10_clashOf_87 ?_
            refine v_iload C dX10_clashOf_88 rfl ?_
            refine n_iadd C dX10_clashOf_90 ?_
            refine v_iconst (v := nI 1) C dX10_clashOf_91 (by decide) ?_
            refine n_isub C (by omega) dX10_clashOf_92 ?_
            obtain ⟨y3, y4⟩ := line_p rv hu (p := q) (by omega) (by omega)
            refine n_iald C hk (show (7, 11, 240) ∈ mTab by decide +kernel) (by omega) dX10_clashOf_93 ?_
            refine v_val y3 ?_
            refine v_callV (As := [_, _]) (n := 2) C (rt_X10_standsUnder l m0 ad _ _ _) rfl hk.1 (by decide) rfl ⟨wd626, wd627, wd628, wd5, wd629⟩ ⟨rfl, hy_X10_standsUnder⟩ rfl ⟨Nat.le_of_ble_eq_true rfl, Nat.le_of_ble_eq_true rfl⟩ (Nat.le_of_ble_eq_true rfl) ⟨Nat.le_of_ble_eq_true rfl, Nat.le_of_ble_eq_true rfl⟩ dX10_clashOf_94 ⟨rfl, hk, rv, (by omega)⟩ (fun r_94 S6_94 h_94 => ?_)
            obtain ⟨v94, rfl, p_v94, q_v94⟩ := h_94
            obtain rfl := q_v94.symm
            refine b_if_ne (tgt := 102) C dX10_clashOf_97 (by decide) (fun c_97 => ?_) (fun c_97 => ?_)
            · skip
              refine v_iinc C dX10_clashOf_102 rfl (nI_inc _) (by decide) rfl ?_
              refine v_goto (tgt := 29) C dX10_clashOf_105 (by decide) ?_
              refine V.drop 5 ?_
              refine V.lits (lv' := [_, _, _, _, _, _, _]) rfl ?_
              exact ih_29 _ ((q + 1)) (by first | omega | (dsimp only; omega)) ⟨rfl, (by omega), (hs.trans (congrArg Option.isSome (sc_step (by omega) (by simp [rivF, offP, ← p_v3, ← p_v18, c_21, c_37, ← p_v45, c_63, ← p_v94, c_97]))))⟩
            · skip
              refine v_iconst (v := nI 1) C dX10_clashOf_100 (by decide) ?_
              refine v_iret C hr (Nat.le_of_ble_eq_true rfl) (Nat.le_of_ble_eq_true rfl) dX10_clashOf_101 ?_
              exact ⟨_, rfl, (clash_1 g3 (p_v18.symm.trans c_21) (by rw [hs, sc_hit (by omega) (by simp [rivF, offP, ← p_v3, ← p_v18, c_21, c_37, ← p_v45, c_63, ← p_v94, c_97])]; rfl)), (by decide), rfl⟩
  · skip
    subst c_9
    refine v_iconst (v := nI 0) C dX10_clashOf_12 (by decide) ?_
    refine v_iret C hr (Nat.le_of_ble_eq_true rfl) (Nat.le_of_ble_eq_true rfl) dX10_clashOf_13 ?_
    exact ⟨_, rfl, (by simp [clashF, ← p_v3]), (by decide), rfl⟩
theorem dX10_tells_0 : decode cX10_tells 0 = .ok (.iload_n 2, 1) := by decide +kernel
theorem dX10_tells_1 : decode cX10_tells 1 = .ok (.ifCond .ne 8, 3) := by decide +kernel
theorem dX10_tells_4 : decode cX10_tells 4 = .ok (.bipush 100, 2) := by decide +kernel
theorem dX10_tells_6 : decode cX10_tells 6 = .ok (.goto 16, 3) := by decide +kernel
theorem dX10_tells_9 : decode cX10_tells 9 = .ok (.aload_n 0, 1) := by decide +kernel
theorem dX10_tells_10 : decode cX10_tells 10 = .ok (.getfield 25, 3) := by decide +kernel
theorem dX10_tells_13 : decode cX10_tells 13 = .ok (.bipush 20, 2) := by decide +kernel
theorem dX10_tells_15 : decode cX10_tells 15 = .ok (.iload_n 1, 1) := by decide +kernel
theorem dX10_tells_16 : decode cX10_tells 16 = .ok (.imul, 1) := by decide +kernel
theorem dX10_tells_17 : decode cX10_tells 17 = .ok (.iload_n 2, 1) := by decide +kernel
theorem dX10_tells_18 : decode cX10_tells 18 = .ok (.iadd, 1) := by decide +kernel
theorem dX10_tells_19 : decode cX10_tells 19 = .ok (.iconst 1, 1) := by decide +kernel
theorem dX10_tells_20 : decode cX10_tells 20 = .ok (.isub, 1) := by decide +kernel
theorem dX10_tells_21 : decode cX10_tells 21 = .ok (.iaload, 1) := by decide +kernel
theorem dX10_tells_22 : decode cX10_tells 22 = .ok (.ireturn, 1) := by decide +kernel
set_option maxRecDepth 100000 in
set_option maxHeartbeats 4000000 in
theorem rt_X10_tells (l : Launch) (m0 : Nat) (ad : Nat → Nat) (K : RS) (u : Nat) (w : Nat) : Ct l yX10_tells cX10_tells 3 (some .int) 0 0 0 0 (fun S av => av = [.ref m0, .int (nI u), .int (nI w)] ∧ mdR S m0 ad K ∧ RV K ∧ (u < 12) ∧ (w ≤ rN K 8 u)) (fun S _ r S' => ∃ v : Nat, r = some (.int (nI v)) ∧ v = tellsF K u w ∧ (v ≤ 100) ∧ S' = S) := by
  refine ct_of (by decide) (fun S av h => by obtain ⟨rfl, hk, rv, hu, hw⟩ := h; exact Nat.le_of_ble_eq_true rfl) ?_
  intro p e s m args below meth c D G bs S av C hr hin hpre
  obtain ⟨rfl, hk, rv, hu, hw⟩ := hpre
  obtain ⟨z1, z2⟩ := rv.p5 u hu
  have zt := rv.p1.2
  refine v_iload_n C dX10_tells_0 rfl ?_
  refine n_if_ne (tgt := 9) C (by omega) dX10_tells_1 (by decide) (fun c_1 => ?_) (fun c_1 => ?_)
  · skip
    obtain ⟨q, rfl⟩ : ∃ q, w = q + 1 := ⟨w - 1, by omega⟩
    obtain ⟨y1, y2⟩ := rv.p6 u hu q (by omega)
    refine v_aload_n C dX10_tells_9 rfl ?_
    refine q10_25 C hk dX10_tells_10 ?_
    refine v_bipush (v := nI 20) C dX10_tells_13 (by decide) ?_
    refine v_iload_n C dX10_tells_15 rfl ?_
    refine n_imul C dX10_tells_16 ?_
    refine v_iload_n C dX10_tells_17 rfl ?_
    refine n_iadd C dX10_tells_18 ?_
    refine v_iconst (v := nI 1) C dX10_tells_19 (by decide) ?_
    refine n_isub C (by omega) dX10_tells_20 ?_
    refine v_val (y := nI (20 * u + q)) rfl ?_
    refine n_iald C hk (show (7, 11, 240) ∈ mTab by decide +kernel) (by omega) dX10_tells_21 ?_
    refine v_val y1 ?_
    refine v_iret C hr (Nat.le_of_ble_eq_true rfl) (Nat.le_of_ble_eq_true rfl) dX10_tells_22 ?_
    exact ⟨_, rfl, (by rfl), (by omega), rfl⟩
  · skip
    subst c_1
    refine v_bipush (v := nI 100) C dX10_tells_4 (by decide) ?_
    refine v_goto (tgt := 22) C dX10_tells_6 (by decide) ?_
    refine v_iret C hr (Nat.le_of_ble_eq_true rfl) (Nat.le_of_ble_eq_true rfl) dX10_tells_22 ?_
    exact ⟨_, rfl, (by rfl), (by omega), rfl⟩
theorem dX10_chosenOf_0 : decode cX10_chosenOf 0 = .ok (.aload_n 0, 1) := by decide +kernel
theorem dX10_chosenOf_1 : decode cX10_chosenOf 1 = .ok (.iload_n 1, 1) := by decide +kernel
theorem dX10_chosenOf_2 : decode cX10_chosenOf 2 = .ok (.iload_n 2, 1) := by decide +kernel
theorem dX10_chosenOf_3 : decode cX10_chosenOf 3 = .ok (.invokevirtual 208, 3) := by decide +kernel
theorem dX10_chosenOf_6 : decode cX10_chosenOf 6 = .ok (.istore_n 3, 1) := by decide +kernel
theorem dX10_chosenOf_7 : decode cX10_chosenOf 7 = .ok (.iload_n 3, 1) := by decide +kernel
theorem dX10_chosenOf_8 : decode cX10_chosenOf 8 = .ok (.iconst (-1), 1) := by decide +kernel
theorem dX10_chosenOf_9 : decode cX10_chosenOf 9 = .ok (.if_icmp .eq 10, 3) := by decide +kernel
theorem dX10_chosenOf_12 : decode cX10_chosenOf 12 = .ok (.aload_n 0, 1) := by decide +kernel
theorem dX10_chosenOf_13 : decode cX10_chosenOf 13 = .ok (.iload_n 1, 1) := by decide +kernel
theorem dX10_chosenOf_14 : decode cX10_chosenOf 14 = .ok (.iload_n 3, 1) := by decide +kernel
theorem dX10_chosenOf_15 : decode cX10_chosenOf 15 = .ok (.invokevirtual 218, 3) := by decide +kernel
theorem dX10_chosenOf_18 : decode cX10_chosenOf 18 = .ok (.ireturn, 1) := by decide +kernel
theorem dX10_chosenOf_19 : decode cX10_chosenOf 19 = .ok (.iconst 1, 1) := by decide +kernel
theorem dX10_chosenOf_20 : decode cX10_chosenOf 20 = .ok (.istore 4, 2) := by decide +kernel
theorem dX10_chosenOf_22 : decode cX10_chosenOf 22 = .ok (.iload 4, 2) := by decide +kernel
theorem dX10_chosenOf_24 : decode cX10_chosenOf 24 = .ok (.aload_n 0, 1) := by decide +kernel
theorem dX10_chosenOf_25 : decode cX10_chosenOf 25 = .ok (.getfield 28, 3) := by decide +kernel
theorem dX10_chosenOf_28 : decode cX10_chosenOf 28 = .ok (.iload_n 1, 1) := by decide +kernel
theorem dX10_chosenOf_29 : decode cX10_chosenOf 29 = .ok (.iaload, 1) := by decide +kernel
theorem dX10_chosenOf_30 : decode cX10_chosenOf 30 = .ok (.if_icmp .gt 24, 3) := by decide +kernel
theorem dX10_chosenOf_33 : decode cX10_chosenOf 33 = .ok (.aload_n 0, 1) := by decide +kernel
theorem dX10_chosenOf_34 : decode cX10_chosenOf 34 = .ok (.iload_n 1, 1) := by decide +kernel
theorem dX10_chosenOf_35 : decode cX10_chosenOf 35 = .ok (.iload 4, 2) := by decide +kernel
theorem dX10_chosenOf_37 : decode cX10_chosenOf 37 = .ok (.iload_n 2, 1) := by decide +kernel
theorem dX10_chosenOf_38 : decode cX10_chosenOf 38 = .ok (.invokevirtual 199, 3) := by decide +kernel
theorem dX10_chosenOf_41 : decode cX10_chosenOf 41 = .ok (.iconst (-1), 1) := by decide +kernel
theorem dX10_chosenOf_42 : decode cX10_chosenOf 42 = .ok (.if_icmp .eq 6, 3) := by decide +kernel
theorem dX10_chosenOf_45 : decode cX10_chosenOf 45 = .ok (.bipush (-5), 2) := by decide +kernel
theorem dX10_chosenOf_47 : decode cX10_chosenOf 47 = .ok (.ireturn, 1) := by decide +kernel
theorem dX10_chosenOf_48 : decode cX10_chosenOf 48 = .ok (.iinc 4 1, 3) := by decide +kernel
theorem dX10_chosenOf_51 : decode cX10_chosenOf 51 = .ok (.goto (-29), 3) := by decide +kernel
theorem dX10_chosenOf_54 : decode cX10_chosenOf 54 = .ok (.bipush (-6), 2) := by decide +kernel
theorem dX10_chosenOf_56 : decode cX10_chosenOf 56 = .ok (.ireturn, 1) := by decide +kernel
set_option maxRecDepth 100000 in
set_option maxHeartbeats 4000000 in
theorem rt_X10_chosenOf (l : Launch) (m0 : Nat) (ad : Nat → Nat) (K : RS) (u : Nat) (n : Nat) : Ct l yX10_chosenOf cX10_chosenOf 5 (some .int) 4 0 0 99 (fun S av => av = [.ref m0, .int (nI u), .int (nI n)] ∧ mdR S m0 ad K ∧ RV K ∧ (u < 12) ∧ (n < 12)) (fun S _ r S' => ∃ v : Int32, r = some (.int v) ∧ v = chosenF K u n ∧ S' = S) := by
  refine ct_of (by decide) (fun S av h => by obtain ⟨rfl, hk, rv, hu, hn⟩ := h; exact Nat.le_of_ble_eq_true rfl) ?_
  intro p e s m args below meth c D G bs S av C hr hin hpre
  obtain ⟨rfl, hk, rv, hu, hn⟩ := hpre
  obtain ⟨z1, z2⟩ := rv.p5 u hu
  refine v_aload_n C dX10_chosenOf_0 rfl ?_
  refine v_iload_n C dX10_chosenOf_1 rfl ?_
  refine v_iload_n C dX10_chosenOf_2 rfl ?_
  refine v_callV (As := [_, _]) (n := 2) C (rt_X10_choose l m0 ad _ _ _) rfl hk.1 (by decide) rfl ⟨wd589, wd590, wd591, wd5, wd592⟩ ⟨rfl, hy_X10_choose⟩ rfl ⟨Nat.le_of_ble_eq_true rfl, Nat.le_of_ble_eq_true rfl⟩ (Nat.le_of_ble_eq_true rfl) ⟨Nat.le_of_ble_eq_true rfl, Nat.le_of_ble_eq_true rfl⟩ dX10_chosenOf_3 ⟨rfl, hk, rv, (by omega), (by omega)⟩ (fun r_3 S2_3 h_3 => ?_)
  obtain ⟨v3, rfl, p_v3, b_v3, q_v3⟩ := h_3
  obtain rfl := q_v3.symm
  refine v_istore_n C dX10_chosenOf_6 (by decide) rfl ?_
  refine v_iload_n C dX10_chosenOf_7 rfl ?_
  refine v_iconst (v := -1) C dX10_chosenOf_8 (by decide) ?_
  refine o_icmp_eq (tgt := 19) C (fun k z => by have := b_v3 k z; omega) dX10_chosenOf_9 (by decide) (fun c_9 => ?_) (fun k9 c_9 => ?_)
  · skip
    subst c_9
    refine v_iconst (v := nI 1) C dX10_chosenOf_19 (by decide) ?_
    refine v_istore C dX10_chosenOf_20 (by decide) rfl ?_
    refine V.lits (lv' := [_, _, _, _, _]) rfl ?_
    refine v_loop (fun (tt : (Nat)) lv0 => (lv0.set 4 (some (.int (nI tt))))) (fun (S1 : Mem) (tt : (Nat)) => S1 = S ∧ (tt ≤ 21) ∧ ((sc (anyF K u n) (rN K 8 u + 1 - 1) 1).isSome = (sc (anyF K u n) (rN K 8 u + 1 - tt) tt).isSome)) (fun (S1 : Mem) (tt : (Nat)) => rN K 8 u + 1 - tt) (t := (1)) rfl ⟨rfl, (by omega), rfl⟩ ?_
    intro L22 tt h_22 ih_22
    revert h_22 ih_22
    revert tt
    intro q h_22 ih_22
    obtain ⟨e_S, hq, hs⟩ := h_22
    subst e_S
    try dsimp only at *
    refine v_iload C dX10_chosenOf_22 rfl ?_
    refine v_aload_n C dX10_chosenOf_24 rfl ?_
    refine q10_28 C hk dX10_chosenOf_25 ?_
    refine v_iload_n C dX10_chosenOf_28 rfl ?_
    refine n_iald C hk (show (8, 11, 12) ∈ mTab by decide +kernel) (by omega) dX10_chosenOf_29 ?_
    refine v_val z1 ?_
    refine n_icmp_gt (tgt := 54) C (by omega) (by omega) dX10_chosenOf_30 (by decide) (fun c_30 => ?_) (fun c_30 => ?_)
    · skip
      refine v_bipush (v := -6) C dX10_chosenOf_54 (by decide) ?_
      refine v_iret C hr (Nat.le_of_ble_eq_true rfl) (Nat.le_of_ble_eq_true rfl) dX10_chosenOf_56 ?_
      exact ⟨_, rfl, (by simp only [chosenF, ← p_v3]; rw [hs, sc_end (by omega)]; rfl), rfl⟩
    · skip
      refine v_aload_n C dX10_chosenOf_33 rfl ?_
      refine v_iload_n C dX10_chosenOf_34 rfl ?_
      refine v_iload C dX10_chosenOf_35 rfl ?_
      refine v_iload_n C dX10_chosenOf_37 rfl ?_
      refine v_callV (As := [_, _, _]) (n := 3) C (rt_X10_offers l m0 ad _ _ _ _) rfl hk.1 (by decide) rfl ⟨wd593, wd594, wd595, wd5, wd596⟩ ⟨rfl, hy_X10_offers⟩ rfl ⟨Nat.le_of_ble_eq_true rfl, Nat.le_of_ble_eq_true rfl⟩ (Nat.le_of_ble_eq_true rfl) ⟨Nat.le_of_ble_eq_true rfl, Nat.le_of_ble_eq_true rfl⟩ dX10_chosenOf_38 ⟨rfl, hk, rv, (by omega), (by omega), (by omega)⟩ (fun r_38 S2_38 h_38 => ?_)
      obtain ⟨v38, rfl, p_v38, b_v38, q_v38⟩ := h_38
      obtain rfl := q_v38.symm
      refine v_iconst (v := -1) C dX10_chosenOf_41 (by decide) ?_
      refine o_icmp_eq (tgt := 48) C (fun k z => by have := b_v38 k z; omega) dX10_chosenOf_42 (by decide) (fun c_42 => ?_) (fun k42 c_42 => ?_)
      · skip
        subst c_42
        refine v_iinc C dX10_chosenOf_48 rfl (nI_inc _) (by decide) rfl ?_
        refine v_goto (tgt := 22) C dX10_chosenOf_51 (by decide) ?_
        refine V.lits (lv' := [_, _, _, _, _]) rfl ?_
        exact ih_22 _ ((q + 1)) (by first | omega | (dsimp only; omega)) ⟨rfl, (by omega), (hs.trans (congrArg Option.isSome (sc_step (by omega) (by simp [anyF, ← p_v38]))))⟩
      · skip
        have b_k42 := b_v38 k42 c_42
        subst c_42
        refine v_bipush (v := -5) C dX10_chosenOf_45 (by decide) ?_
        refine v_iret C hr (Nat.le_of_ble_eq_true rfl) (Nat.le_of_ble_eq_true rfl) dX10_chosenOf_47 ?_
        exact ⟨_, rfl, (by simp only [chosenF, ← p_v3]; rw [hs, sc_hit (by omega) (by simp [anyF, ← p_v38])]; rfl), rfl⟩
  · skip
    have b_k9 := b_v3 k9 c_9
    subst c_9
    have g4 := (choose_some p_v3.symm).1
    refine v_aload_n C dX10_chosenOf_12 rfl ?_
    refine v_iload_n C dX10_chosenOf_13 rfl ?_
    refine v_iload_n C dX10_chosenOf_14 rfl ?_
    refine v_callV (As := [_, _]) (n := 2) C (rt_X10_tells l m0 ad _ _ _) rfl hk.1 (by decide) rfl ⟨wd605, wd606, wd607, wd5, wd608⟩ ⟨rfl, hy_X10_tells⟩ rfl ⟨Nat.le_of_ble_eq_true rfl, Nat.le_of_ble_eq_true rfl⟩ (Nat.le_of_ble_eq_true rfl) ⟨Nat.le_of_ble_eq_true rfl, Nat.le_of_ble_eq_true rfl⟩ dX10_chosenOf_15 ⟨rfl, hk, rv, (by omega), (by omega)⟩ (fun r_15 S4_15 h_15 => ?_)
    obtain ⟨v15, rfl, p_v15, b_v15, q_v15⟩ := h_15
    obtain rfl := q_v15.symm
    refine v_iret C hr (Nat.le_of_ble_eq_true rfl) (Nat.le_of_ble_eq_true rfl) dX10_chosenOf_18 ?_
    exact ⟨_, rfl, (by simp [chosenF, ← p_v3, ← p_v15]), rfl⟩
theorem is_step {P : Nat → Bool} {n q : Nat} (h : q < n) : (sc P (n - q) q).isSome = (P q || (sc P (n - (q + 1)) (q + 1)).isSome) := by
  cases hp : P q with
  | true => rw [sc_hit h hp]; rfl
  | false => rw [sc_step h hp]; rfl
theorem dX10_bridges_0 : decode cX10_bridges 0 = .ok (.iconst 0, 1) := by decide +kernel
theorem dX10_bridges_1 : decode cX10_bridges 1 = .ok (.istore 4, 2) := by decide +kernel
theorem dX10_bridges_3 : decode cX10_bridges 3 = .ok (.iconst 0, 1) := by decide +kernel
theorem dX10_bridges_4 : decode cX10_bridges 4 = .ok (.istore 5, 2) := by decide +kernel
theorem dX10_bridges_6 : decode cX10_bridges 6 = .ok (.iload 5, 2) := by decide +kernel
theorem dX10_bridges_8 : decode cX10_bridges 8 = .ok (.aload_n 0, 1) := by decide +kernel
theorem dX10_bridges_9 : decode cX10_bridges 9 = .ok (.getfield 45, 3) := by decide +kernel
theorem dX10_bridges_12 : decode cX10_bridges 12 = .ok (.iload_n 3, 1) := by decide +kernel
theorem dX10_bridges_13 : decode cX10_bridges 13 = .ok (.iaload, 1) := by decide +kernel
theorem dX10_bridges_14 : decode cX10_bridges 14 = .ok (.if_icmp .ge 87, 3) := by decide +kernel
theorem dX10_bridges_17 : decode cX10_bridges 17 = .ok (.iconst 0, 1) := by decide +kernel
theorem dX10_bridges_18 : decode cX10_bridges 18 = .ok (.istore 6, 2) := by decide +kernel
theorem dX10_bridges_20 : decode cX10_bridges 20 = .ok (.iconst 0, 1) := by decide +kernel
theorem dX10_bridges_21 : decode cX10_bridges 21 = .ok (.istore 7, 2) := by decide +kernel
theorem dX10_bridges_23 : decode cX10_bridges 23 = .ok (.iload 7, 2) := by decide +kernel
theorem dX10_bridges_25 : decode cX10_bridges 25 = .ok (.aload_n 0, 1) := by decide +kernel
theorem dX10_bridges_26 : decode cX10_bridges 26 = .ok (.getfield 28, 3) := by decide +kernel
theorem dX10_bridges_29 : decode cX10_bridges 29 = .ok (.iload_n 1, 1) := by decide +kernel
theorem dX10_bridges_30 : decode cX10_bridges 30 = .ok (.iaload, 1) := by decide +kernel
theorem dX10_bridges_31 : decode cX10_bridges 31 = .ok (.if_icmp .gt 49, 3) := by decide +kernel
theorem dX10_bridges_34 : decode cX10_bridges 34 = .ok (.aload_n 0, 1) := by decide +kernel
theorem dX10_bridges_35 : decode cX10_bridges 35 = .ok (.iload_n 1, 1) := by decide +kernel
theorem dX10_bridges_36 : decode cX10_bridges 36 = .ok (.iload 7, 2) := by decide +kernel
theorem dX10_bridges_38 : decode cX10_bridges 38 = .ok (.iload_n 2, 1) := by decide +kernel
theorem dX10_bridges_39 : decode cX10_bridges 39 = .ok (.invokevirtual 199, 3) := by decide +kernel
theorem dX10_bridges_42 : decode cX10_bridges 42 = .ok (.istore 8, 2) := by decide +kernel
theorem dX10_bridges_44 : decode cX10_bridges 44 = .ok (.iload 6, 2) := by decide +kernel
theorem dX10_bridges_46 : decode cX10_bridges 46 = .ok (.ifCond .ne 21, 3) := by decide +kernel
theorem dX10_bridges_49 : decode cX10_bridges 49 = .ok (.iload 8, 2) := by decide +kernel
theorem dX10_bridges_51 : decode cX10_bridges 51 = .ok (.iconst (-1), 1) := by decide +kernel
theorem dX10_bridges_52 : decode cX10_bridges 52 = .ok (.if_icmp .eq 19, 3) := by decide +kernel
theorem dX10_bridges_55 : decode cX10_bridges 55 = .ok (.aload_n 0, 1) := by decide +kernel
theorem dX10_bridges_56 : decode cX10_bridges 56 = .ok (.getfield 45, 3) := by decide +kernel
theorem dX10_bridges_59 : decode cX10_bridges 59 = .ok (.iload 8, 2) := by decide +kernel
theorem dX10_bridges_61 : decode cX10_bridges 61 = .ok (.iaload, 1) := by decide +kernel
theorem dX10_bridges_62 : decode cX10_bridges 62 = .ok (.iload 5, 2) := by decide +kernel
theorem dX10_bridges_64 : decode cX10_bridges 64 = .ok (.if_icmp .ne 7, 3) := by decide +kernel
theorem dX10_bridges_67 : decode cX10_bridges 67 = .ok (.iconst 1, 1) := by decide +kernel
theorem dX10_bridges_68 : decode cX10_bridges 68 = .ok (.goto 4, 3) := by decide +kernel
theorem dX10_bridges_71 : decode cX10_bridges 71 = .ok (.iconst 0, 1) := by decide +kernel
theorem dX10_bridges_72 : decode cX10_bridges 72 = .ok (.istore 6, 2) := by decide +kernel
theorem dX10_bridges_74 : decode cX10_bridges 74 = .ok (.iinc 7 1, 3) := by decide +kernel
theorem dX10_bridges_77 : decode cX10_bridges 77 = .ok (.goto (-54), 3) := by decide +kernel
theorem dX10_bridges_80 : decode cX10_bridges 80 = .ok (.iload 4, 2) := by decide +kernel
theorem dX10_bridges_82 : decode cX10_bridges 82 = .ok (.iload 6, 2) := by decide +kernel
theorem dX10_bridges_84 : decode cX10_bridges 84 = .ok (.ifCond .eq 7, 3) := by decide +kernel
theorem dX10_bridges_87 : decode cX10_bridges 87 = .ok (.iconst 1, 1) := by decide +kernel
theorem dX10_bridges_88 : decode cX10_bridges 88 = .ok (.goto 4, 3) := by decide +kernel
theorem dX10_bridges_91 : decode cX10_bridges 91 = .ok (.iconst 0, 1) := by decide +kernel
theorem dX10_bridges_92 : decode cX10_bridges 92 = .ok (.iadd, 1) := by decide +kernel
theorem dX10_bridges_93 : decode cX10_bridges 93 = .ok (.istore 4, 2) := by decide +kernel
theorem dX10_bridges_95 : decode cX10_bridges 95 = .ok (.iinc 5 1, 3) := by decide +kernel
theorem dX10_bridges_98 : decode cX10_bridges 98 = .ok (.goto (-92), 3) := by decide +kernel
theorem dX10_bridges_101 : decode cX10_bridges 101 = .ok (.iload 4, 2) := by decide +kernel
theorem dX10_bridges_103 : decode cX10_bridges 103 = .ok (.ireturn, 1) := by decide +kernel
set_option maxRecDepth 100000 in
set_option maxHeartbeats 4000000 in
theorem rt_X10_bridges (l : Launch) (m0 : Nat) (ad : Nat → Nat) (K : RS) (u : Nat) (n : Nat) (k : Nat) : Ct l yX10_bridges cX10_bridges 9 (some .int) 2 0 0 49 (fun S av => av = [.ref m0, .int (nI u), .int (nI n), .int (nI k)] ∧ mdR S m0 ad K ∧ RV K ∧ (u < 12) ∧ (n < 12) ∧ (k < 624)) (fun S _ r S' => ∃ v : Nat, r = some (.int (nI v)) ∧ v = bridgesF K u n k ∧ (v ≤ 4) ∧ S' = S) := by
  refine ct_of (by decide) (fun S av h => by obtain ⟨rfl, hk, rv, hu, hn, hk2⟩ := h; exact Nat.le_of_ble_eq_true rfl) ?_
  intro p e s m args below meth c D G bs S av C hr hin hpre
  obtain ⟨rfl, hk, rv, hu, hn, hk2⟩ := hpre
  obtain ⟨z1, z2⟩ := rv.p5 u hu
  obtain ⟨y1, y2⟩ := rv.p13 k hk2
  refine v_iconst (v := nI 0) C dX10_bridges_0 (by decide) ?_
  refine v_istore C dX10_bridges_1 (by decide) rfl ?_
  refine v_iconst (v := nI 0) C dX10_bridges_3 (by decide) ?_
  refine v_istore C dX10_bridges_4 (by decide) rfl ?_
  refine V.lits (lv' := [_, _, _, _, _, _, _, _, _]) rfl ?_
  refine v_loop (fun (tt : (Nat) × (Nat)) lv0 => ((lv0.set 5 (some (.int (nI tt.1)))).set 4 (some (.int (nI tt.2))))) (fun (S1 : Mem) (tt : (Nat) × (Nat)) => S1 = S ∧ (tt.1 ≤ 4 ∧ tt.2 ≤ tt.1) ∧ (bridgesF K u n k = tt.2 + cn (resF K u n) (rN K 13 k - tt.1) tt.1)) (fun (S1 : Mem) (tt : (Nat) × (Nat)) => rN K 13 k - tt.1) (t := (0, 0)) rfl ⟨rfl, (by omega), (by rw [Nat.zero_add]; rfl)⟩ ?_
  intro L6 tt h_6 ih_6
  obtain ⟨r, a⟩ := tt
  obtain ⟨e_S, hr2, ho⟩ := h_6
  subst e_S
  try dsimp only at *
  refine v_iload C dX10_bridges_6 rfl ?_
  refine v_aload_n C dX10_bridges_8 rfl ?_
  refine q10_45 C hk dX10_bridges_9 ?_
  refine v_iload_n C dX10_bridges_12 rfl ?_
  refine n_iald C hk (show (13, 11, 624) ∈ mTab by decide +kernel) (by omega) dX10_bridges_13 ?_
  refine v_val y1 ?_
  refine n_icmp_ge (tgt := 101) C (by omega) (by omega) dX10_bridges_14 (by decide) (fun c_14 => ?_) (fun c_14 => ?_)
  · skip
    refine v_iload C dX10_bridges_101 rfl ?_
    refine v_iret C hr (Nat.le_of_ble_eq_true rfl) (Nat.le_of_ble_eq_true rfl) dX10_bridges_103 ?_
    exact ⟨_, rfl, (by rw [ho, cn_end (by omega)]; rfl), (by omega), rfl⟩
  · skip
    refine v_iconst (v := nI 0) C dX10_bridges_17 (by decide) ?_
    refine v_istore C dX10_bridges_18 (by decide) rfl ?_
    refine v_iconst (v := nI 0) C dX10_bridges_20 (by decide) ?_
    refine v_istore C dX10_bridges_21 (by decide) rfl ?_
    refine V.lits (lv' := [_, _, _, _, _, _, _, _, _]) rfl ?_
    refine v_loop (fun (tt : (Nat) × (Bool)) lv0 => ((lv0.set 7 (some (.int (nI tt.1)))).set 6 (some (.int (bI tt.2))))) (fun (S1 : Mem) (tt : (Nat) × (Bool)) => S1 = L6 ∧ (tt.1 ≤ 21) ∧ (resF K u n r = (tt.2 || (sc (givesF K u n r) (rN K 8 u + 1 - tt.1) tt.1).isSome))) (fun (S1 : Mem) (tt : (Nat) × (Bool)) => rN K 8 u + 1 - tt.1) (t := (0, false)) rfl ⟨rfl, (by omega), rfl⟩ ?_
    intro L23 tt h_23 ih_23
    obtain ⟨q, iz⟩ := tt
    obtain ⟨e_S, hq, hi⟩ := h_23
    subst e_S
    try dsimp only at *
    refine v_iload C dX10_bridges_23 rfl ?_
    refine v_aload_n C dX10_bridges_25 rfl ?_
    refine q10_28 C hk dX10_bridges_26 ?_
    refine v_iload_n C dX10_bridges_29 rfl ?_
    refine n_iald C hk (show (8, 11, 12) ∈ mTab by decide +kernel) (by omega) dX10_bridges_30 ?_
    refine v_val z1 ?_
    refine n_icmp_gt (tgt := 80) C (by omega) (by omega) dX10_bridges_31 (by decide) (fun c_31 => ?_) (fun c_31 => ?_)
    · skip
      have hj : resF K u n r = iz := by rw [hi, sc_end (by omega)]; cases iz <;> rfl
      refine v_iload C dX10_bridges_80 rfl ?_
      refine v_iload C dX10_bridges_82 rfl ?_
      refine b_if_eq (tgt := 91) C dX10_bridges_84 (by decide) (fun c_84 => ?_) (fun c_84 => ?_)
      · skip
        have hb : resF K u n r = false := hj.trans c_84
        refine v_iconst (v := nI 0) C dX10_bridges_91 (by decide) ?_
        refine n_iadd C dX10_bridges_92 ?_
        refine v_istore C dX10_bridges_93 (by decide) rfl ?_
        refine v_iinc C dX10_bridges_95 rfl (nI_inc _) (by decide) rfl ?_
        refine v_goto (tgt := 6) C dX10_bridges_98 (by decide) ?_
        refine V.drop 6 ?_
        refine V.drop 7 ?_
        refine V.lits (lv' := [_, _, _, _, _, _, _, _, _]) rfl ?_
        exact ih_6 _ ((r + 1), (a + 0)) (by first | omega | (dsimp only; omega)) ⟨rfl, (by omega), (by rw [ho, cn_step (by omega : r < rN K 13 k)]; rw [hb]; simp <;> omega)⟩
      · skip
        have hb : resF K u n r = true := hj.trans c_84
        refine v_iconst (v := nI 1) C dX10_bridges_87 (by decide) ?_
        refine v_goto (tgt := 92) C dX10_bridges_88 (by decide) ?_
        refine n_iadd C dX10_bridges_92 ?_
        refine v_istore C dX10_bridges_93 (by decide) rfl ?_
        refine v_iinc C dX10_bridges_95 rfl (nI_inc _) (by decide) rfl ?_
        refine v_goto (tgt := 6) C dX10_bridges_98 (by decide) ?_
        refine V.drop 6 ?_
        refine V.drop 7 ?_
        refine V.lits (lv' := [_, _, _, _, _, _, _, _, _]) rfl ?_
        exact ih_6 _ ((r + 1), (a + 1)) (by first | omega | (dsimp only; omega)) ⟨rfl, (by omega), (by rw [ho, cn_step (by omega : r < rN K 13 k)]; rw [hb]; simp <;> omega)⟩
    · skip
      refine v_aload_n C dX10_bridges_34 rfl ?_
      refine v_iload_n C dX10_bridges_35 rfl ?_
      refine v_iload C dX10_bridges_36 rfl ?_
      refine v_iload_n C dX10_bridges_38 rfl ?_
      refine v_callV (As := [_, _, _]) (n := 3) C (rt_X10_offers l m0 ad _ _ _ _) rfl hk.1 (by decide) rfl ⟨wd593, wd594, wd595, wd5, wd596⟩ ⟨rfl, hy_X10_offers⟩ rfl ⟨Nat.le_of_ble_eq_true rfl, Nat.le_of_ble_eq_true rfl⟩ (Nat.le_of_ble_eq_true rfl) ⟨Nat.le_of_ble_eq_true rfl, Nat.le_of_ble_eq_true rfl⟩ dX10_bridges_39 ⟨rfl, hk, rv, (by omega), (by omega), (by omega)⟩ (fun r_39 S2_39 h_39 => ?_)
      obtain ⟨v39, rfl, p_v39, b_v39, q_v39⟩ := h_39
      obtain rfl := q_v39.symm
      refine v_istore C dX10_bridges_42 (by decide) rfl ?_
      refine v_iload C dX10_bridges_44 rfl ?_
      refine b_if_ne (tgt := 67) C dX10_bridges_46 (by decide) (fun c_46 => ?_) (fun c_46 => ?_)
      · skip
        refine v_iconst (v := nI 1) C dX10_bridges_67 (by decide) ?_
        refine v_goto (tgt := 72) C dX10_bridges_68 (by decide) ?_
        refine v_istore C dX10_bridges_72 (by decide) rfl ?_
        refine v_iinc C dX10_bridges_74 rfl (nI_inc _) (by decide) rfl ?_
        refine v_goto (tgt := 23) C dX10_bridges_77 (by decide) ?_
        refine V.drop 8 ?_
        refine V.lits (lv' := [_, _, _, _, _, _, _, _, _]) rfl ?_
        exact ih_23 _ ((q + 1), true) (by first | omega | (dsimp only; omega)) ⟨rfl, (by omega), (hi.trans (by rw [is_step (by omega : q < rN K 8 u + 1)]; simp [givesF, ← p_v39, c_46]))⟩
      · skip
        refine v_iload C dX10_bridges_49 rfl ?_
        refine v_iconst (v := -1) C dX10_bridges_51 (by decide) ?_
        refine o_icmp_eq (tgt := 71) C (fun k z => by have := b_v39 k z; omega) dX10_bridges_52 (by decide) (fun c_52 => ?_) (fun k52 c_52 => ?_)
        · skip
          subst c_52
          refine v_iconst (v := nI 0) C dX10_bridges_71 (by decide) ?_
          refine v_istore C dX10_bridges_72 (by decide) rfl ?_
          refine v_iinc C dX10_bridges_74 rfl (nI_inc _) (by decide) rfl ?_
          refine v_goto (tgt := 23) C dX10_bridges_77 (by decide) ?_
          refine V.drop 8 ?_
          refine V.lits (lv' := [_, _, _, _, _, _, _, _, _]) rfl ?_
          exact ih_23 _ ((q + 1), false) (by first | omega | (dsimp only; omega)) ⟨rfl, (by omega), (hi.trans (by rw [is_step (by omega : q < rN K 8 u + 1)]; simp [givesF, ← p_v39, c_46]))⟩
        · skip
          have b_k52 := b_v39 k52 c_52
          subst c_52
          refine v_aload_n C dX10_bridges_55 rfl ?_
          refine q10_45 C hk dX10_bridges_56 ?_
          refine v_iload C dX10_bridges_59 rfl ?_
          obtain ⟨y3, y4⟩ := rv.p13 k52 b_k52
          refine n_iald C hk (show (13, 11, 624) ∈ mTab by decide +kernel) (by omega) dX10_bridges_61 ?_
          refine v_val y3 ?_
          refine v_iload C dX10_bridges_62 rfl ?_
          refine n_icmp_ne (tgt := 71) C (by omega) (by omega) dX10_bridges_64 (by decide) (fun c_64 => ?_) (fun c_64 => ?_)
          · skip
            refine v_iconst (v := nI 0) C dX10_bridges_71 (by decide) ?_
            refine v_istore C dX10_bridges_72 (by decide) rfl ?_
            refine v_iinc C dX10_bridges_74 rfl (nI_inc _) (by decide) rfl ?_
            refine v_goto (tgt := 23) C dX10_bridges_77 (by decide) ?_
            refine V.drop 8 ?_
            refine V.lits (lv' := [_, _, _, _, _, _, _, _, _]) rfl ?_
            exact ih_23 _ ((q + 1), false) (by first | omega | (dsimp only; omega)) ⟨rfl, (by omega), (hi.trans (by rw [is_step (by omega : q < rN K 8 u + 1)]; simp [givesF, ← p_v39, c_46, c_64]))⟩
          · skip
            refine v_iconst (v := nI 1) C dX10_bridges_67 (by decide) ?_
            refine v_goto (tgt := 72) C dX10_bridges_68 (by decide) ?_
            refine v_istore C dX10_bridges_72 (by decide) rfl ?_
            refine v_iinc C dX10_bridges_74 rfl (nI_inc _) (by decide) rfl ?_
            refine v_goto (tgt := 23) C dX10_bridges_77 (by decide) ?_
            refine V.drop 8 ?_
            refine V.lits (lv' := [_, _, _, _, _, _, _, _, _]) rfl ?_
            exact ih_23 _ ((q + 1), true) (by first | omega | (dsimp only; omega)) ⟨rfl, (by omega), (hi.trans (by rw [is_step (by omega : q < rN K 8 u + 1)]; simp [givesF, ← p_v39, c_46, c_64]))⟩
theorem dX10_guardAt_0 : decode cX10_guardAt 0 = .ok (.iload_n 3, 1) := by decide +kernel
theorem dX10_guardAt_1 : decode cX10_guardAt 1 = .ok (.istore 4, 2) := by decide +kernel
theorem dX10_guardAt_3 : decode cX10_guardAt 3 = .ok (.iconst 1, 1) := by decide +kernel
theorem dX10_guardAt_4 : decode cX10_guardAt 4 = .ok (.istore 5, 2) := by decide +kernel
theorem dX10_guardAt_6 : decode cX10_guardAt 6 = .ok (.iload 5, 2) := by decide +kernel
theorem dX10_guardAt_8 : decode cX10_guardAt 8 = .ok (.aload_n 0, 1) := by decide +kernel
theorem dX10_guardAt_9 : decode cX10_guardAt 9 = .ok (.getfield 28, 3) := by decide +kernel
theorem dX10_guardAt_12 : decode cX10_guardAt 12 = .ok (.iload_n 1, 1) := by decide +kernel
theorem dX10_guardAt_13 : decode cX10_guardAt 13 = .ok (.iaload, 1) := by decide +kernel
theorem dX10_guardAt_14 : decode cX10_guardAt 14 = .ok (.if_icmp .gt 55, 3) := by decide +kernel
theorem dX10_guardAt_17 : decode cX10_guardAt 17 = .ok (.iload_n 3, 1) := by decide +kernel
theorem dX10_guardAt_18 : decode cX10_guardAt 18 = .ok (.ifCond .lt 51, 3) := by decide +kernel
theorem dX10_guardAt_21 : decode cX10_guardAt 21 = .ok (.aload_n 0, 1) := by decide +kernel
theorem dX10_guardAt_22 : decode cX10_guardAt 22 = .ok (.getfield 35, 3) := by decide +kernel
theorem dX10_guardAt_25 : decode cX10_guardAt 25 = .ok (.sipush 240, 3) := by decide +kernel
theorem dX10_guardAt_28 : decode cX10_guardAt 28 = .ok (.bipush 12, 2) := by decide +kernel
theorem dX10_guardAt_30 : decode cX10_guardAt 30 = .ok (.aload_n 0, 1) := by decide +kernel
theorem dX10_guardAt_31 : decode cX10_guardAt 31 = .ok (.getfield 25, 3) := by decide +kernel
theorem dX10_guardAt_34 : decode cX10_guardAt 34 = .ok (.bipush 20, 2) := by decide +kernel
theorem dX10_guardAt_36 : decode cX10_guardAt 36 = .ok (.iload_n 1, 1) := by decide +kernel
theorem dX10_guardAt_37 : decode cX10_guardAt 37 = .ok (.imul, 1) := by decide +kernel
theorem dX10_guardAt_38 : decode cX10_guardAt 38 = .ok (.iload 5, 2) := by decide +kernel
theorem dX10_guardAt_40 : decode cX10_guardAt 40 = .ok (.iadd, 1) := by decide +kernel
theorem dX10_guardAt_41 : decode cX10_guardAt 41 = .ok (.iconst 1, 1) := by decide +kernel
theorem dX10_guardAt_42 : decode cX10_guardAt 42 = .ok (.isub, 1) := by decide +kernel
theorem dX10_guardAt_43 : decode cX10_guardAt 43 = .ok (.iaload, 1) := by decide +kernel
theorem dX10_guardAt_44 : decode cX10_guardAt 44 = .ok (.imul, 1) := by decide +kernel
theorem dX10_guardAt_45 : decode cX10_guardAt 45 = .ok (.iadd, 1) := by decide +kernel
theorem dX10_guardAt_46 : decode cX10_guardAt 46 = .ok (.iload_n 2, 1) := by decide +kernel
theorem dX10_guardAt_47 : decode cX10_guardAt 47 = .ok (.iadd, 1) := by decide +kernel
theorem dX10_guardAt_48 : decode cX10_guardAt 48 = .ok (.baload, 1) := by decide +kernel
theorem dX10_guardAt_49 : decode cX10_guardAt 49 = .ok (.ifCond .eq 14, 3) := by decide +kernel
theorem dX10_guardAt_52 : decode cX10_guardAt 52 = .ok (.iload 4, 2) := by decide +kernel
theorem dX10_guardAt_54 : decode cX10_guardAt 54 = .ok (.ifCond .ne 6, 3) := by decide +kernel
theorem dX10_guardAt_57 : decode cX10_guardAt 57 = .ok (.iload 5, 2) := by decide +kernel
theorem dX10_guardAt_59 : decode cX10_guardAt 59 = .ok (.ireturn, 1) := by decide +kernel
theorem dX10_guardAt_60 : decode cX10_guardAt 60 = .ok (.iinc 4 (-1), 3) := by decide +kernel
theorem dX10_guardAt_63 : decode cX10_guardAt 63 = .ok (.iinc 5 1, 3) := by decide +kernel
theorem dX10_guardAt_66 : decode cX10_guardAt 66 = .ok (.goto (-60), 3) := by decide +kernel
theorem dX10_guardAt_69 : decode cX10_guardAt 69 = .ok (.iconst (-1), 1) := by decide +kernel
theorem dX10_guardAt_70 : decode cX10_guardAt 70 = .ok (.ireturn, 1) := by decide +kernel
set_option maxRecDepth 100000 in
set_option maxHeartbeats 4000000 in
theorem rt_X10_guardAt (l : Launch) (m0 : Nat) (ad : Nat → Nat) (K : RS) (u : Nat) (n : Nat) (i : Nat) : Ct l yX10_guardAt cX10_guardAt 6 (some .int) 0 0 0 0 (fun S av => av = [.ref m0, .int (nI u), .int (nI n), .int (nI i)] ∧ mdR S m0 ad K ∧ RV K ∧ (u < 12) ∧ (n < 12) ∧ (i < 2 ^ 31)) (fun S _ r S' => ∃ v : Option Nat, r = some (.int (oI v)) ∧ v = guardF K u n i ∧ (∀ k, v = some k → k ≤ rN K 8 u) ∧ S' = S) := by
  refine ct_of (by decide) (fun S av h => by obtain ⟨rfl, hk, rv, hu, hn, hi⟩ := h; exact Nat.le_of_ble_eq_true rfl) ?_
  intro p e s m args below meth c D G bs S av C hr hin hpre
  obtain ⟨rfl, hk, rv, hu, hn, hi⟩ := hpre
  obtain ⟨z1, z2⟩ := rv.p5 u hu
  have zt := rv.p1.2
  refine v_iload_n C dX10_guardAt_0 rfl ?_
  refine v_istore C dX10_guardAt_1 (by decide) rfl ?_
  refine v_iconst (v := nI 1) C dX10_guardAt_3 (by decide) ?_
  refine v_istore C dX10_guardAt_4 (by decide) rfl ?_
  refine V.lits (lv' := [_, _, _, _, _, _]) rfl ?_
  refine v_loop (fun (tt : (Nat) × (Nat)) lv0 => ((lv0.set 5 (some (.int (nI tt.1)))).set 4 (some (.int (nI tt.2))))) (fun (S1 : Mem) (tt : (Nat) × (Nat)) => S1 = S ∧ (1 ≤ tt.1 ∧ tt.1 ≤ 21 ∧ tt.2 ≤ i) ∧ (guardF K u n i = nth (hasG K u n) (rN K 8 u + 1 - tt.1) tt.1 tt.2)) (fun (S1 : Mem) (tt : (Nat) × (Nat)) => rN K 8 u + 1 - tt.1) (t := (1, i)) rfl ⟨rfl, (by omega), rfl⟩ ?_
  intro L6 tt h_6 ih_6
  obtain ⟨w, a⟩ := tt
  obtain ⟨e_S, hw, hs⟩ := h_6
  subst e_S
  try dsimp only at *
  refine v_iload C dX10_guardAt_6 rfl ?_
  refine v_aload_n C dX10_guardAt_8 rfl ?_
  refine q10_28 C hk dX10_guardAt_9 ?_
  refine v_iload_n C dX10_guardAt_12 rfl ?_
  refine n_iald C hk (show (8, 11, 12) ∈ mTab by decide +kernel) (by omega) dX10_guardAt_13 ?_
  refine v_val z1 ?_
  refine n_icmp_gt (tgt := 69) C (by omega) (by omega) dX10_guardAt_14 (by decide) (fun c_14 => ?_) (fun c_14 => ?_)
  · skip
    refine v_iconst (v := -1) C dX10_guardAt_69 (by decide) ?_
    refine v_iret C hr (Nat.le_of_ble_eq_true rfl) (Nat.le_of_ble_eq_true rfl) dX10_guardAt_70 ?_
    exact ⟨none, rfl, (by rw [hs, nth_end (by omega)]), (fun k z => (by cases z)), rfl⟩
  · skip
    refine v_iload_n C dX10_guardAt_17 rfl ?_
    refine n_if_lt (tgt := 69) C (by omega) dX10_guardAt_18 (by decide) ?_
    refine v_aload_n C dX10_guardAt_21 rfl ?_
    refine q10_35 C hk dX10_guardAt_22 ?_
    refine v_sipush (v := nI 240) C dX10_guardAt_25 (by decide) ?_
    refine v_bipush (v := nI 12) C dX10_guardAt_28 (by decide) ?_
    refine v_aload_n C dX10_guardAt_30 rfl ?_
    refine q10_25 C hk dX10_guardAt_31 ?_
    refine v_bipush (v := nI 20) C dX10_guardAt_34 (by decide) ?_
    refine v_iload_n C dX10_guardAt_36 rfl ?_
    refine n_imul C dX10_guardAt_37 ?_
    refine v_iload C dX10_guardAt_38 rfl ?_
    refine n_iadd C dX10_guardAt_40 ?_
    refine v_iconst (v := nI 1) C dX10_guardAt_41 (by decide) ?_
    refine n_isub C (by omega) dX10_guardAt_42 ?_
    obtain ⟨y1, y2⟩ := line_p rv hu (p := w) (by omega) (by omega)
    refine n_iald C hk (show (7, 11, 240) ∈ mTab by decide +kernel) (by omega) dX10_guardAt_43 ?_
    refine v_val y1 ?_
    refine n_imul C dX10_guardAt_44 ?_
    refine n_iadd C dX10_guardAt_45 ?_
    refine v_iload_n C dX10_guardAt_46 rfl ?_
    refine n_iadd C dX10_guardAt_47 ?_
    refine n_zald C hk (show (10, 13, 624) ∈ mTab by decide +kernel) (by omega) dX10_guardAt_48 ?_
    refine v_if_eq (tgt := 63) C dX10_guardAt_49 (by decide) (fun c_49 => ?_) (fun c_49 => ?_)
    · skip
      refine v_iinc C dX10_guardAt_63 rfl (nI_inc _) (by decide) rfl ?_
      refine v_goto (tgt := 6) C dX10_guardAt_66 (by decide) ?_
      refine V.lits (lv' := [_, _, _, _, _, _]) rfl ?_
      exact ih_6 _ ((w + 1), a) (by first | omega | (dsimp only; omega)) ⟨rfl, (by omega), (hs.trans (nth_step (by omega) (by simp [hasG, c_49])))⟩
    · skip
      refine v_iload C dX10_guardAt_52 rfl ?_
      refine n_if_ne (tgt := 60) C (by omega) dX10_guardAt_54 (by decide) (fun c_54 => ?_) (fun c_54 => ?_)
      · skip
        refine v_iinc C dX10_guardAt_60 rfl (nI_dec (by omega)) (by decide) rfl ?_
        refine v_iinc C dX10_guardAt_63 rfl (nI_inc _) (by decide) rfl ?_
        refine v_goto (tgt := 6) C dX10_guardAt_66 (by decide) ?_
        refine V.lits (lv' := [_, _, _, _, _, _]) rfl ?_
        exact ih_6 _ ((w + 1), (a - 1)) (by first | omega | (dsimp only; omega)) ⟨rfl, (by omega), (hs.trans (nth_pass (by omega) (by simp [hasG, c_49]) c_54))⟩
      · skip
        refine v_iload C dX10_guardAt_57 rfl ?_
        refine v_iret C hr (Nat.le_of_ble_eq_true rfl) (Nat.le_of_ble_eq_true rfl) dX10_guardAt_59 ?_
        exact ⟨some _, rfl, (by rw [hs, c_54, nth_hit (by omega) (by simp [hasG, c_49])]), (fun k z => by cases z; omega), rfl⟩
set_option maxRecDepth 100000 in
set_option maxHeartbeats 4000000 in
theorem rt_X10_guardAt_neg (l : Launch) (m0 : Nat) (ad : Nat → Nat) (K : RS) (u : Nat) (n : Nat) (x : Int32) : Ct l yX10_guardAt cX10_guardAt 6 (some .int) 0 0 0 0 (fun S av => av = [.ref m0, .int (nI u), .int (nI n), .int x] ∧ mdR S m0 ad K ∧ RV K ∧ (u < 12) ∧ (n < 12) ∧ (x < 0)) (fun S _ r S' => ∃ v : Option Nat, r = some (.int (oI v)) ∧ v = none ∧ (∀ k, v = some k → k ≤ rN K 8 u) ∧ S' = S) := by
  refine ct_of (by decide) (fun S av h => by obtain ⟨rfl, hk, rv, hu, hn, hi⟩ := h; exact Nat.le_of_ble_eq_true rfl) ?_
  intro p e s m args below meth c D G bs S av C hr hin hpre
  obtain ⟨rfl, hk, rv, hu, hn, hi⟩ := hpre
  obtain ⟨z1, z2⟩ := rv.p5 u hu
  refine v_iload_n C dX10_guardAt_0 rfl ?_
  refine v_istore C dX10_guardAt_1 (by decide) rfl ?_
  refine v_iconst (v := nI 1) C dX10_guardAt_3 (by decide) ?_
  refine v_istore C dX10_guardAt_4 (by decide) rfl ?_
  refine v_iload C dX10_guardAt_6 rfl ?_
  refine v_aload_n C dX10_guardAt_8 rfl ?_
  refine q10_28 C hk dX10_guardAt_9 ?_
  refine v_iload_n C dX10_guardAt_12 rfl ?_
  refine n_iald C hk (show (8, 11, 12) ∈ mTab by decide +kernel) (by omega) dX10_guardAt_13 ?_
  refine v_val z1 ?_
  refine n_icmp_gt (tgt := 69) C (by omega) (by omega) dX10_guardAt_14 (by decide) (fun c_14 => ?_) (fun c_14 => ?_)
  · skip
    refine v_iconst (v := -1) C dX10_guardAt_69 (by decide) ?_
    refine v_iret C hr (Nat.le_of_ble_eq_true rfl) (Nat.le_of_ble_eq_true rfl) dX10_guardAt_70 ?_
    exact ⟨none, rfl, (rfl), (fun k z => (by cases z)), rfl⟩
  · skip
    refine v_iload_n C dX10_guardAt_17 rfl ?_
    refine v_if_lt (tgt := 69) C dX10_guardAt_18 (by decide) (fun c_18 => ?_) (fun c_18 => ?_)
    · skip
      refine v_iconst (v := -1) C dX10_guardAt_69 (by decide) ?_
      refine v_iret C hr (Nat.le_of_ble_eq_true rfl) (Nat.le_of_ble_eq_true rfl) dX10_guardAt_70 ?_
      exact ⟨none, rfl, (rfl), (fun k z => (by cases z)), rfl⟩
    · skip
      exact absurd hi c_18
theorem dX10_aboutOf_0 : decode cX10_aboutOf 0 = .ok (.iload_n 3, 1) := by decide +kernel
theorem dX10_aboutOf_1 : decode cX10_aboutOf 1 = .ok (.iconst 4, 1) := by decide +kernel
theorem dX10_aboutOf_2 : decode cX10_aboutOf 2 = .ok (.if_icmp .ne 27, 3) := by decide +kernel
theorem dX10_aboutOf_5 : decode cX10_aboutOf 5 = .ok (.iconst 0, 1) := by decide +kernel
theorem dX10_aboutOf_6 : decode cX10_aboutOf 6 = .ok (.istore 4, 2) := by decide +kernel
theorem dX10_aboutOf_8 : decode cX10_aboutOf 8 = .ok (.aload_n 0, 1) := by decide +kernel
theorem dX10_aboutOf_9 : decode cX10_aboutOf 9 = .ok (.iload_n 1, 1) := by decide +kernel
theorem dX10_aboutOf_10 : decode cX10_aboutOf 10 = .ok (.iload_n 2, 1) := by decide +kernel
theorem dX10_aboutOf_11 : decode cX10_aboutOf 11 = .ok (.iload 4, 2) := by decide +kernel
theorem dX10_aboutOf_13 : decode cX10_aboutOf 13 = .ok (.invokevirtual 227, 3) := by decide +kernel
theorem dX10_aboutOf_16 : decode cX10_aboutOf 16 = .ok (.iconst (-1), 1) := by decide +kernel
theorem dX10_aboutOf_17 : decode cX10_aboutOf 17 = .ok (.if_icmp .eq 9, 3) := by decide +kernel
theorem dX10_aboutOf_20 : decode cX10_aboutOf 20 = .ok (.iinc 4 1, 3) := by decide +kernel
theorem dX10_aboutOf_23 : decode cX10_aboutOf 23 = .ok (.goto (-15), 3) := by decide +kernel
theorem dX10_aboutOf_26 : decode cX10_aboutOf 26 = .ok (.iload 4, 2) := by decide +kernel
theorem dX10_aboutOf_28 : decode cX10_aboutOf 28 = .ok (.ireturn, 1) := by decide +kernel
theorem dX10_aboutOf_29 : decode cX10_aboutOf 29 = .ok (.aload_n 0, 1) := by decide +kernel
theorem dX10_aboutOf_30 : decode cX10_aboutOf 30 = .ok (.iload_n 1, 1) := by decide +kernel
theorem dX10_aboutOf_31 : decode cX10_aboutOf 31 = .ok (.iload_n 2, 1) := by decide +kernel
theorem dX10_aboutOf_32 : decode cX10_aboutOf 32 = .ok (.invokevirtual 208, 3) := by decide +kernel
theorem dX10_aboutOf_35 : decode cX10_aboutOf 35 = .ok (.istore 4, 2) := by decide +kernel
theorem dX10_aboutOf_37 : decode cX10_aboutOf 37 = .ok (.iload 4, 2) := by decide +kernel
theorem dX10_aboutOf_39 : decode cX10_aboutOf 39 = .ok (.iconst (-1), 1) := by decide +kernel
theorem dX10_aboutOf_40 : decode cX10_aboutOf 40 = .ok (.if_icmp .ne 5, 3) := by decide +kernel
theorem dX10_aboutOf_43 : decode cX10_aboutOf 43 = .ok (.iconst (-1), 1) := by decide +kernel
theorem dX10_aboutOf_44 : decode cX10_aboutOf 44 = .ok (.ireturn, 1) := by decide +kernel
theorem dX10_aboutOf_45 : decode cX10_aboutOf 45 = .ok (.aload_n 0, 1) := by decide +kernel
theorem dX10_aboutOf_46 : decode cX10_aboutOf 46 = .ok (.iload_n 1, 1) := by decide +kernel
theorem dX10_aboutOf_47 : decode cX10_aboutOf 47 = .ok (.iload 4, 2) := by decide +kernel
theorem dX10_aboutOf_49 : decode cX10_aboutOf 49 = .ok (.iload_n 2, 1) := by decide +kernel
theorem dX10_aboutOf_50 : decode cX10_aboutOf 50 = .ok (.invokevirtual 199, 3) := by decide +kernel
theorem dX10_aboutOf_53 : decode cX10_aboutOf 53 = .ok (.istore 5, 2) := by decide +kernel
theorem dX10_aboutOf_55 : decode cX10_aboutOf 55 = .ok (.iload_n 3, 1) := by decide +kernel
theorem dX10_aboutOf_56 : decode cX10_aboutOf 56 = .ok (.ifCond .ne 13, 3) := by decide +kernel
theorem dX10_aboutOf_59 : decode cX10_aboutOf 59 = .ok (.aload_n 0, 1) := by decide +kernel
theorem dX10_aboutOf_60 : decode cX10_aboutOf 60 = .ok (.getfield 45, 3) := by decide +kernel
theorem dX10_aboutOf_63 : decode cX10_aboutOf 63 = .ok (.iload 5, 2) := by decide +kernel
theorem dX10_aboutOf_65 : decode cX10_aboutOf 65 = .ok (.iaload, 1) := by decide +kernel
theorem dX10_aboutOf_66 : decode cX10_aboutOf 66 = .ok (.goto 41, 3) := by decide +kernel
theorem dX10_aboutOf_69 : decode cX10_aboutOf 69 = .ok (.iload_n 3, 1) := by decide +kernel
theorem dX10_aboutOf_70 : decode cX10_aboutOf 70 = .ok (.iconst 1, 1) := by decide +kernel
theorem dX10_aboutOf_71 : decode cX10_aboutOf 71 = .ok (.if_icmp .ne 13, 3) := by decide +kernel
theorem dX10_aboutOf_74 : decode cX10_aboutOf 74 = .ok (.aload_n 0, 1) := by decide +kernel
theorem dX10_aboutOf_75 : decode cX10_aboutOf 75 = .ok (.getfield 42, 3) := by decide +kernel
theorem dX10_aboutOf_78 : decode cX10_aboutOf 78 = .ok (.iload 5, 2) := by decide +kernel
theorem dX10_aboutOf_80 : decode cX10_aboutOf 80 = .ok (.iaload, 1) := by decide +kernel
theorem dX10_aboutOf_81 : decode cX10_aboutOf 81 = .ok (.goto 26, 3) := by decide +kernel
theorem dX10_aboutOf_84 : decode cX10_aboutOf 84 = .ok (.iload_n 3, 1) := by decide +kernel
theorem dX10_aboutOf_85 : decode cX10_aboutOf 85 = .ok (.iconst 2, 1) := by decide +kernel
theorem dX10_aboutOf_86 : decode cX10_aboutOf 86 = .ok (.if_icmp .ne 13, 3) := by decide +kernel
theorem dX10_aboutOf_89 : decode cX10_aboutOf 89 = .ok (.aload_n 0, 1) := by decide +kernel
theorem dX10_aboutOf_90 : decode cX10_aboutOf 90 = .ok (.getfield 51, 3) := by decide +kernel
theorem dX10_aboutOf_93 : decode cX10_aboutOf 93 = .ok (.iload 5, 2) := by decide +kernel
theorem dX10_aboutOf_95 : decode cX10_aboutOf 95 = .ok (.iaload, 1) := by decide +kernel
theorem dX10_aboutOf_96 : decode cX10_aboutOf 96 = .ok (.goto 11, 3) := by decide +kernel
theorem dX10_aboutOf_99 : decode cX10_aboutOf 99 = .ok (.aload_n 0, 1) := by decide +kernel
theorem dX10_aboutOf_100 : decode cX10_aboutOf 100 = .ok (.iload_n 1, 1) := by decide +kernel
theorem dX10_aboutOf_101 : decode cX10_aboutOf 101 = .ok (.iload_n 2, 1) := by decide +kernel
theorem dX10_aboutOf_102 : decode cX10_aboutOf 102 = .ok (.iload 5, 2) := by decide +kernel
theorem dX10_aboutOf_104 : decode cX10_aboutOf 104 = .ok (.invokevirtual 230, 3) := by decide +kernel
theorem dX10_aboutOf_107 : decode cX10_aboutOf 107 = .ok (.ireturn, 1) := by decide +kernel
set_option maxRecDepth 100000 in
set_option maxHeartbeats 4000000 in
theorem rt_X10_aboutOf (l : Launch) (m0 : Nat) (ad : Nat → Nat) (K : RS) (u : Nat) (n : Nat) (w : Nat) : Ct l yX10_aboutOf cX10_aboutOf 6 (some .int) 4 0 0 99 (fun S av => av = [.ref m0, .int (nI u), .int (nI n), .int (nI w)] ∧ mdR S m0 ad K ∧ RV K ∧ (u < 12) ∧ (n < 12) ∧ (w < 5)) (fun S _ r S' => ∃ v : Int32, r = some (.int v) ∧ v = aboutF K u n w ∧ S' = S) := by
  refine ct_of (by decide) (fun S av h => by obtain ⟨rfl, hk, rv, hu, hn, hw⟩ := h; exact Nat.le_of_ble_eq_true rfl) ?_
  intro p e s m args below meth c D G bs S av C hr hin hpre
  obtain ⟨rfl, hk, rv, hu, hn, hw⟩ := hpre
  obtain ⟨z1, z2⟩ := rv.p5 u hu
  refine v_iload_n C dX10_aboutOf_0 rfl ?_
  refine v_iconst (v := nI 4) C dX10_aboutOf_1 (by decide) ?_
  refine n_icmp_ne (tgt := 29) C (by omega) (by omega) dX10_aboutOf_2 (by decide) (fun c_2 => ?_) (fun c_2 => ?_)
  · skip
    refine v_aload_n C dX10_aboutOf_29 rfl ?_
    refine v_iload_n C dX10_aboutOf_30 rfl ?_
    refine v_iload_n C dX10_aboutOf_31 rfl ?_
    refine v_callV (As := [_, _]) (n := 2) C (rt_X10_choose l m0 ad _ _ _) rfl hk.1 (by decide) rfl ⟨wd589, wd590, wd591, wd5, wd592⟩ ⟨rfl, hy_X10_choose⟩ rfl ⟨Nat.le_of_ble_eq_true rfl, Nat.le_of_ble_eq_true rfl⟩ (Nat.le_of_ble_eq_true rfl) ⟨Nat.le_of_ble_eq_true rfl, Nat.le_of_ble_eq_true rfl⟩ dX10_aboutOf_32 ⟨rfl, hk, rv, (by omega), (by omega)⟩ (fun r_32 S4_32 h_32 => ?_)
    obtain ⟨v32, rfl, p_v32, b_v32, q_v32⟩ := h_32
    obtain rfl := q_v32.symm
    refine v_istore C dX10_aboutOf_35 (by decide) rfl ?_
    refine v_iload C dX10_aboutOf_37 rfl ?_
    refine v_iconst (v := -1) C dX10_aboutOf_39 (by decide) ?_
    refine o_icmp_ne (tgt := 45) C (fun k z => by have := b_v32 k z; omega) dX10_aboutOf_40 (by decide) (fun k40 c_40 => ?_) (fun c_40 => ?_)
    · skip
      have b_k40 := b_v32 k40 c_40
      subst c_40
      have g4 := (choose_some p_v32.symm).1
      refine v_aload_n C dX10_aboutOf_45 rfl ?_
      refine v_iload_n C dX10_aboutOf_46 rfl ?_
      refine v_iload C dX10_aboutOf_47 rfl ?_
      refine v_iload_n C dX10_aboutOf_49 rfl ?_
      refine v_callV (As := [_, _, _]) (n := 3) C (rt_X10_offers l m0 ad _ _ _ _) rfl hk.1 (by decide) rfl ⟨wd593, wd594, wd595, wd5, wd596⟩ ⟨rfl, hy_X10_offers⟩ rfl ⟨Nat.le_of_ble_eq_true rfl, Nat.le_of_ble_eq_true rfl⟩ (Nat.le_of_ble_eq_true rfl) ⟨Nat.le_of_ble_eq_true rfl, Nat.le_of_ble_eq_true rfl⟩ dX10_aboutOf_50 ⟨rfl, hk, rv, (by omega), (by omega), (by omega)⟩ (fun r_50 S6_50 h_50 => ?_)
      obtain ⟨v50, rfl, p_v50, b_v50, q_v50⟩ := h_50
      obtain rfl := q_v50.symm
      obtain ⟨x50, hx⟩ := (choose_some p_v32.symm).2
      obtain rfl : v50 = some x50 := p_v50.trans hx
      have bx := b_v50 x50 rfl
      refine v_istore C dX10_aboutOf_53 (by decide) rfl ?_
      refine v_iload_n C dX10_aboutOf_55 rfl ?_
      refine n_if_ne (tgt := 69) C (by omega) dX10_aboutOf_56 (by decide) (fun c_56 => ?_) (fun c_56 => ?_)
      · skip
        have h0 : ¬ w = 0 := by omega
        refine v_iload_n C dX10_aboutOf_69 rfl ?_
        refine v_iconst (v := nI 1) C dX10_aboutOf_70 (by decide) ?_
        refine n_icmp_ne (tgt := 84) C (by omega) (by omega) dX10_aboutOf_71 (by decide) (fun c_71 => ?_) (fun c_71 => ?_)
        · skip
          refine v_iload_n C dX10_aboutOf_84 rfl ?_
          refine v_iconst (v := nI 2) C dX10_aboutOf_85 (by decide) ?_
          refine n_icmp_ne (tgt := 99) C (by omega) (by omega) dX10_aboutOf_86 (by decide) (fun c_86 => ?_) (fun c_86 => ?_)
          · skip
            refine v_aload_n C dX10_aboutOf_99 rfl ?_
            refine v_iload_n C dX10_aboutOf_100 rfl ?_
            refine v_iload_n C dX10_aboutOf_101 rfl ?_
            refine v_iload C dX10_aboutOf_102 rfl ?_
            refine v_callV (As := [_, _, _]) (n := 3) C (rt_X10_bridges l m0 ad _ _ _ _) rfl hk.1 (by decide) rfl ⟨wd668, wd669, wd670, wd5, wd671⟩ ⟨rfl, hy_X10_bridges⟩ rfl ⟨Nat.le_of_ble_eq_true rfl, Nat.le_of_ble_eq_true rfl⟩ (Nat.le_of_ble_eq_true rfl) ⟨Nat.le_of_ble_eq_true rfl, Nat.le_of_ble_eq_true rfl⟩ dX10_aboutOf_104 ⟨rfl, hk, rv, (by omega), (by omega), (by omega)⟩ (fun r_104 S12_104 h_104 => ?_)
            obtain ⟨v104, rfl, p_v104, b_v104, q_v104⟩ := h_104
            obtain rfl := q_v104.symm
            refine v_iret C hr (Nat.le_of_ble_eq_true rfl) (Nat.le_of_ble_eq_true rfl) dX10_aboutOf_107 ?_
            exact ⟨_, rfl, (by simp [aboutF, c_2, ← p_v32, ← p_v50, c_56, h0, c_71, c_86, ← p_v104]), rfl⟩
          · skip
            refine v_aload_n C dX10_aboutOf_89 rfl ?_
            refine q10_51 C hk dX10_aboutOf_90 ?_
            refine v_iload C dX10_aboutOf_93 rfl ?_
            refine n_iald C hk (show (15, 11, 624) ∈ mTab by decide +kernel) (by omega) dX10_aboutOf_95 ?_
            refine v_goto (tgt := 107) C dX10_aboutOf_96 (by decide) ?_
            refine v_iret C hr (Nat.le_of_ble_eq_true rfl) (Nat.le_of_ble_eq_true rfl) dX10_aboutOf_107 ?_
            exact ⟨_, rfl, (by simp [aboutF, c_2, ← p_v32, ← p_v50, c_56, h0, c_71, c_86]), rfl⟩
        · skip
          refine v_aload_n C dX10_aboutOf_74 rfl ?_
          refine q10_42 C hk dX10_aboutOf_75 ?_
          refine v_iload C dX10_aboutOf_78 rfl ?_
          refine n_iald C hk (show (12, 11, 624) ∈ mTab by decide +kernel) (by omega) dX10_aboutOf_80 ?_
          refine v_goto (tgt := 107) C dX10_aboutOf_81 (by decide) ?_
          refine v_iret C hr (Nat.le_of_ble_eq_true rfl) (Nat.le_of_ble_eq_true rfl) dX10_aboutOf_107 ?_
          exact ⟨_, rfl, (by simp [aboutF, c_2, ← p_v32, ← p_v50, c_56, h0, c_71]), rfl⟩
      · skip
        refine v_aload_n C dX10_aboutOf_59 rfl ?_
        refine q10_45 C hk dX10_aboutOf_60 ?_
        refine v_iload C dX10_aboutOf_63 rfl ?_
        refine n_iald C hk (show (13, 11, 624) ∈ mTab by decide +kernel) (by omega) dX10_aboutOf_65 ?_
        refine v_goto (tgt := 107) C dX10_aboutOf_66 (by decide) ?_
        refine v_iret C hr (Nat.le_of_ble_eq_true rfl) (Nat.le_of_ble_eq_true rfl) dX10_aboutOf_107 ?_
        exact ⟨_, rfl, (by simp [aboutF, c_2, ← p_v32, ← p_v50, c_56]), rfl⟩
    · skip
      subst c_40
      refine v_iconst (v := -1) C dX10_aboutOf_43 (by decide) ?_
      refine v_iret C hr (Nat.le_of_ble_eq_true rfl) (Nat.le_of_ble_eq_true rfl) dX10_aboutOf_44 ?_
      exact ⟨_, rfl, (by simp [aboutF, c_2, ← p_v32]), rfl⟩
  · skip
    refine v_iconst (v := nI 0) C dX10_aboutOf_5 (by decide) ?_
    refine v_istore C dX10_aboutOf_6 (by decide) rfl ?_
    refine V.lits (lv' := [_, _, _, _, _, _]) rfl ?_
    refine v_loop (fun (tt : (Nat)) lv0 => (lv0.set 4 (some (.int (nI tt))))) (fun (S1 : Mem) (tt : (Nat)) => S1 = S ∧ (tt ≤ guardsN K u n ∧ guardsN K u n ≤ 20)) (fun (S1 : Mem) (tt : (Nat)) => guardsN K u n - tt) (t := (0)) rfl ⟨rfl, ⟨Nat.zero_le _, Nat.le_trans (cn_le _ _) (by omega)⟩⟩ ?_
    intro L8 tt h_8 ih_8
    revert h_8 ih_8
    revert tt
    intro g h_8 ih_8
    obtain ⟨e_S, hg⟩ := h_8
    subst e_S
    try dsimp only at *
    refine v_aload_n C dX10_aboutOf_8 rfl ?_
    refine v_iload_n C dX10_aboutOf_9 rfl ?_
    refine v_iload_n C dX10_aboutOf_10 rfl ?_
    refine v_iload C dX10_aboutOf_11 rfl ?_
    refine v_callV (As := [_, _, _]) (n := 3) C (rt_X10_guardAt l m0 ad _ _ _ _) rfl hk.1 (by decide) rfl ⟨wd664, wd665, wd666, wd5, wd667⟩ ⟨rfl, hy_X10_guardAt⟩ rfl ⟨Nat.le_of_ble_eq_true rfl, Nat.le_of_ble_eq_true rfl⟩ (Nat.le_of_ble_eq_true rfl) ⟨Nat.le_of_ble_eq_true rfl, Nat.le_of_ble_eq_true rfl⟩ dX10_aboutOf_13 ⟨rfl, hk, rv, (by omega), (by omega), (by omega)⟩ (fun r_13 S0_13 h_13 => ?_)
    obtain ⟨v13, rfl, p_v13, b_v13, q_v13⟩ := h_13
    obtain rfl := q_v13.symm
    refine v_iconst (v := -1) C dX10_aboutOf_16 (by decide) ?_
    refine o_icmp_eq (tgt := 26) C (fun k z => by have := b_v13 k z; omega) dX10_aboutOf_17 (by decide) (fun c_17 => ?_) (fun k17 c_17 => ?_)
    · skip
      subst c_17
      refine v_iload C dX10_aboutOf_26 rfl ?_
      refine v_iret C hr (Nat.le_of_ble_eq_true rfl) (Nat.le_of_ble_eq_true rfl) dX10_aboutOf_28 ?_
      exact ⟨_, rfl, (by rw [aboutF, if_pos c_2, show guardsN K u n = g from Nat.le_antisymm (nth_none p_v13.symm) hg.1]), rfl⟩
    · skip
      have b_k17 := b_v13 k17 c_17
      subst c_17
      refine v_iinc C dX10_aboutOf_20 rfl (nI_inc _) (by decide) rfl ?_
      refine v_goto (tgt := 8) C dX10_aboutOf_23 (by decide) ?_
      refine V.lits (lv' := [_, _, _, _, _, _]) rfl ?_
      exact ih_8 _ ((g + 1)) (by have := nth_lt p_v13.symm; unfold guardsN; omega) ⟨rfl, ⟨nth_lt p_v13.symm, hg.2⟩⟩
theorem dX10_chosen_0 : decode cX10_chosen 0 = .ok (.aload_n 0, 1) := by decide +kernel
theorem dX10_chosen_1 : decode cX10_chosen 1 = .ok (.iload_n 1, 1) := by decide +kernel
theorem dX10_chosen_2 : decode cX10_chosen 2 = .ok (.invokevirtual 176, 3) := by decide +kernel
theorem dX10_chosen_5 : decode cX10_chosen 5 = .ok (.ifCond .eq 19, 3) := by decide +kernel
theorem dX10_chosen_8 : decode cX10_chosen 8 = .ok (.iload_n 2, 1) := by decide +kernel
theorem dX10_chosen_9 : decode cX10_chosen 9 = .ok (.invokestatic 179, 3) := by decide +kernel
theorem dX10_chosen_12 : decode cX10_chosen 12 = .ok (.ifCond .eq 12, 3) := by decide +kernel
theorem dX10_chosen_15 : decode cX10_chosen 15 = .ok (.aload_n 0, 1) := by decide +kernel
theorem dX10_chosen_16 : decode cX10_chosen 16 = .ok (.iload_n 1, 1) := by decide +kernel
theorem dX10_chosen_17 : decode cX10_chosen 17 = .ok (.iload_n 2, 1) := by decide +kernel
theorem dX10_chosen_18 : decode cX10_chosen 18 = .ok (.invokevirtual 221, 3) := by decide +kernel
theorem dX10_chosen_21 : decode cX10_chosen 21 = .ok (.goto 5, 3) := by decide +kernel
theorem dX10_chosen_24 : decode cX10_chosen 24 = .ok (.bipush (-2), 2) := by decide +kernel
theorem dX10_chosen_26 : decode cX10_chosen 26 = .ok (.ireturn, 1) := by decide +kernel
set_option maxRecDepth 100000 in
set_option maxHeartbeats 4000000 in
theorem rt_X10_chosen (l : Launch) (m0 : Nat) (ad : Nat → Nat) (K : RS) (x0 : Int32) (x1 : Int32) : Ct l yX10_chosen cX10_chosen 3 (some .int) 5 0 0 123 (fun S av => av = [.ref m0, .int x0, .int x1] ∧ mdR S m0 ad K ∧ RV K) (fun S _ r S' => ∃ v : Int32, r = some (.int v) ∧ v = chosenP K x0 x1 ∧ S' = S) := by
  refine ct_of (by decide) (fun S av h => by obtain ⟨rfl, hk, rv⟩ := h; exact Nat.le_of_ble_eq_true rfl) ?_
  intro p e s m args below meth c D G bs S av C hr hin hpre
  obtain ⟨rfl, hk, rv⟩ := hpre
  refine v_aload_n C dX10_chosen_0 rfl ?_
  refine v_iload_n C dX10_chosen_1 rfl ?_
  refine v_callV (As := [_]) (n := 1) C (rt_X10_isCharacter l m0 ad _ _) rfl hk.1 (by decide) rfl ⟨wd334, wd335, wd336, wd5, wd337⟩ ⟨rfl, hy_X10_isCharacter⟩ rfl ⟨Nat.le_of_ble_eq_true rfl, Nat.le_of_ble_eq_true rfl⟩ (Nat.le_of_ble_eq_true rfl) ⟨Nat.le_of_ble_eq_true rfl, Nat.le_of_ble_eq_true rfl⟩ dX10_chosen_2 ⟨rfl, hk, rv⟩ (fun r_2 S2_2 h_2 => ?_)
  obtain ⟨v2, rfl, p_v2, q_v2⟩ := h_2
  obtain rfl := q_v2.symm
  refine b_if_eq (tgt := 24) C dX10_chosen_5 (by decide) (fun c_5 => ?_) (fun c_5 => ?_)
  · skip
    refine v_bipush (v := -2) C dX10_chosen_24 (by decide) ?_
    refine v_iret C hr (Nat.le_of_ble_eq_true rfl) (Nat.le_of_ble_eq_true rfl) dX10_chosen_26 ?_
    exact ⟨_, rfl, (by simp [chosenP, ← p_v2, c_5]), rfl⟩
  · skip
    obtain ⟨u, h0u, rfl⟩ := below_some (p_v2.symm.trans c_5)
    have hu : u < 12 := by have := rv.p2.2; omega
    have e_u := nI_clamp (show u < 2 ^ 31 by omega)
    refine v_iload_n C dX10_chosen_8 rfl ?_
    refine v_callS (As := [_]) (n := 1) C (rt_X10_isAct l _) rfl ⟨wd368, wd369, wd5, wd370⟩ hy_X10_isAct rfl ⟨Nat.le_of_ble_eq_true rfl, Nat.le_of_ble_eq_true rfl⟩ (Nat.le_of_ble_eq_true rfl) ⟨Nat.le_of_ble_eq_true rfl, Nat.le_of_ble_eq_true rfl⟩ dX10_chosen_9 rfl (fun r_9 S4_9 h_9 => ?_)
    obtain ⟨v9, rfl, p_v9, q_v9⟩ := h_9
    obtain rfl := q_v9.symm
    refine b_if_eq (tgt := 24) C dX10_chosen_12 (by decide) (fun c_12 => ?_) (fun c_12 => ?_)
    · skip
      refine v_bipush (v := -2) C dX10_chosen_24 (by decide) ?_
      refine v_iret C hr (Nat.le_of_ble_eq_true rfl) (Nat.le_of_ble_eq_true rfl) dX10_chosen_26 ?_
      exact ⟨_, rfl, (by simp [chosenP, ← p_v2, c_5, e_u, ← p_v9, c_12]), rfl⟩
    · skip
      obtain ⟨n, hn, rfl⟩ := below_some (p_v9.symm.trans c_12)
      have e_n := nI_clamp (show n < 2 ^ 31 by omega)
      refine v_aload_n C dX10_chosen_15 rfl ?_
      refine v_iload_n C dX10_chosen_16 rfl ?_
      refine v_iload_n C dX10_chosen_17 rfl ?_
      refine v_callV (As := [_, _]) (n := 2) C (rt_X10_chosenOf l m0 ad _ _ _) rfl hk.1 (by decide) rfl ⟨wd585, wd586, wd587, wd5, wd588⟩ ⟨rfl, hy_X10_chosenOf⟩ rfl ⟨Nat.le_of_ble_eq_true rfl, Nat.le_of_ble_eq_true rfl⟩ (Nat.le_of_ble_eq_true rfl) ⟨Nat.le_of_ble_eq_true rfl, Nat.le_of_ble_eq_true rfl⟩ dX10_chosen_18 ⟨rfl, hk, rv, (by omega), (by omega)⟩ (fun r_18 S6_18 h_18 => ?_)
      obtain ⟨v18, rfl, p_v18, q_v18⟩ := h_18
      obtain rfl := q_v18.symm
      refine v_goto (tgt := 26) C dX10_chosen_21 (by decide) ?_
      refine v_iret C hr (Nat.le_of_ble_eq_true rfl) (Nat.le_of_ble_eq_true rfl) dX10_chosen_26 ?_
      exact ⟨_, rfl, (by simp [chosenP, ← p_v2, c_5, e_u, ← p_v9, c_12, e_n, ← p_v18]), rfl⟩
theorem dX10_clash_0 : decode cX10_clash 0 = .ok (.aload_n 0, 1) := by decide +kernel
theorem dX10_clash_1 : decode cX10_clash 1 = .ok (.iload_n 1, 1) := by decide +kernel
theorem dX10_clash_2 : decode cX10_clash 2 = .ok (.invokevirtual 176, 3) := by decide +kernel
theorem dX10_clash_5 : decode cX10_clash 5 = .ok (.ifCond .eq 19, 3) := by decide +kernel
theorem dX10_clash_8 : decode cX10_clash 8 = .ok (.iload_n 2, 1) := by decide +kernel
theorem dX10_clash_9 : decode cX10_clash 9 = .ok (.invokestatic 179, 3) := by decide +kernel
theorem dX10_clash_12 : decode cX10_clash 12 = .ok (.ifCond .eq 12, 3) := by decide +kernel
theorem dX10_clash_15 : decode cX10_clash 15 = .ok (.aload_n 0, 1) := by decide +kernel
theorem dX10_clash_16 : decode cX10_clash 16 = .ok (.iload_n 1, 1) := by decide +kernel
theorem dX10_clash_17 : decode cX10_clash 17 = .ok (.iload_n 2, 1) := by decide +kernel
theorem dX10_clash_18 : decode cX10_clash 18 = .ok (.invokevirtual 224, 3) := by decide +kernel
theorem dX10_clash_21 : decode cX10_clash 21 = .ok (.goto 5, 3) := by decide +kernel
theorem dX10_clash_24 : decode cX10_clash 24 = .ok (.bipush (-2), 2) := by decide +kernel
theorem dX10_clash_26 : decode cX10_clash 26 = .ok (.ireturn, 1) := by decide +kernel
set_option maxRecDepth 100000 in
set_option maxHeartbeats 4000000 in
theorem rt_X10_clash (l : Launch) (m0 : Nat) (ad : Nat → Nat) (K : RS) (x0 : Int32) (x1 : Int32) : Ct l yX10_clash cX10_clash 3 (some .int) 5 0 0 125 (fun S av => av = [.ref m0, .int x0, .int x1] ∧ mdR S m0 ad K ∧ RV K) (fun S _ r S' => ∃ v : Int32, r = some (.int v) ∧ v = clashP K x0 x1 ∧ S' = S) := by
  refine ct_of (by decide) (fun S av h => by obtain ⟨rfl, hk, rv⟩ := h; exact Nat.le_of_ble_eq_true rfl) ?_
  intro p e s m args below meth c D G bs S av C hr hin hpre
  obtain ⟨rfl, hk, rv⟩ := hpre
  refine v_aload_n C dX10_clash_0 rfl ?_
  refine v_iload_n C dX10_clash_1 rfl ?_
  refine v_callV (As := [_]) (n := 1) C (rt_X10_isCharacter l m0 ad _ _) rfl hk.1 (by decide) rfl ⟨wd334, wd335, wd336, wd5, wd337⟩ ⟨rfl, hy_X10_isCharacter⟩ rfl ⟨Nat.le_of_ble_eq_true rfl, Nat.le_of_ble_eq_true rfl⟩ (Nat.le_of_ble_eq_true rfl) ⟨Nat.le_of_ble_eq_true rfl, Nat.le_of_ble_eq_true rfl⟩ dX10_clash_2 ⟨rfl, hk, rv⟩ (fun r_2 S2_2 h_2 => ?_)
  obtain ⟨v2, rfl, p_v2, q_v2⟩ := h_2
  obtain rfl := q_v2.symm
  refine b_if_eq (tgt := 24) C dX10_clash_5 (by decide) (fun c_5 => ?_) (fun c_5 => ?_)
  · skip
    refine v_bipush (v := -2) C dX10_clash_24 (by decide) ?_
    refine v_iret C hr (Nat.le_of_ble_eq_true rfl) (Nat.le_of_ble_eq_true rfl) dX10_clash_26 ?_
    exact ⟨_, rfl, (by simp [clashP, ← p_v2, c_5]), rfl⟩
  · skip
    obtain ⟨u, h0u, rfl⟩ := below_some (p_v2.symm.trans c_5)
    have hu : u < 12 := by have := rv.p2.2; omega
    have e_u := nI_clamp (show u < 2 ^ 31 by omega)
    refine v_iload_n C dX10_clash_8 rfl ?_
    refine v_callS (As := [_]) (n := 1) C (rt_X10_isAct l _) rfl ⟨wd368, wd369, wd5, wd370⟩ hy_X10_isAct rfl ⟨Nat.le_of_ble_eq_true rfl, Nat.le_of_ble_eq_true rfl⟩ (Nat.le_of_ble_eq_true rfl) ⟨Nat.le_of_ble_eq_true rfl, Nat.le_of_ble_eq_true rfl⟩ dX10_clash_9 rfl (fun r_9 S4_9 h_9 => ?_)
    obtain ⟨v9, rfl, p_v9, q_v9⟩ := h_9
    obtain rfl := q_v9.symm
    refine b_if_eq (tgt := 24) C dX10_clash_12 (by decide) (fun c_12 => ?_) (fun c_12 => ?_)
    · skip
      refine v_bipush (v := -2) C dX10_clash_24 (by decide) ?_
      refine v_iret C hr (Nat.le_of_ble_eq_true rfl) (Nat.le_of_ble_eq_true rfl) dX10_clash_26 ?_
      exact ⟨_, rfl, (by simp [clashP, ← p_v2, c_5, e_u, ← p_v9, c_12]), rfl⟩
    · skip
      obtain ⟨n, hn, rfl⟩ := below_some (p_v9.symm.trans c_12)
      have e_n := nI_clamp (show n < 2 ^ 31 by omega)
      refine v_aload_n C dX10_clash_15 rfl ?_
      refine v_iload_n C dX10_clash_16 rfl ?_
      refine v_iload_n C dX10_clash_17 rfl ?_
      refine v_callV (As := [_, _]) (n := 2) C (rt_X10_clashOf l m0 ad _ _ _) rfl hk.1 (by decide) rfl ⟨wd618, wd619, wd620, wd5, wd621⟩ ⟨rfl, hy_X10_clashOf⟩ rfl ⟨Nat.le_of_ble_eq_true rfl, Nat.le_of_ble_eq_true rfl⟩ (Nat.le_of_ble_eq_true rfl) ⟨Nat.le_of_ble_eq_true rfl, Nat.le_of_ble_eq_true rfl⟩ dX10_clash_18 ⟨rfl, hk, rv, (by omega), (by omega)⟩ (fun r_18 S6_18 h_18 => ?_)
      obtain ⟨v18, rfl, p_v18, b_v18, q_v18⟩ := h_18
      obtain rfl := q_v18.symm
      refine v_goto (tgt := 26) C dX10_clash_21 (by decide) ?_
      refine v_iret C hr (Nat.le_of_ble_eq_true rfl) (Nat.le_of_ble_eq_true rfl) dX10_clash_26 ?_
      exact ⟨_, rfl, (by simp [clashP, ← p_v2, c_5, e_u, ← p_v9, c_12, e_n, ← p_v18]), rfl⟩
theorem dX10_about_0 : decode cX10_about 0 = .ok (.aload_n 0, 1) := by decide +kernel
theorem dX10_about_1 : decode cX10_about 1 = .ok (.iload_n 1, 1) := by decide +kernel
theorem dX10_about_2 : decode cX10_about 2 = .ok (.invokevirtual 176, 3) := by decide +kernel
theorem dX10_about_5 : decode cX10_about 5 = .ok (.ifCond .eq 29, 3) := by decide +kernel
theorem dX10_about_8 : decode cX10_about 8 = .ok (.iload_n 2, 1) := by decide +kernel
theorem dX10_about_9 : decode cX10_about 9 = .ok (.invokestatic 179, 3) := by decide +kernel
theorem dX10_about_12 : decode cX10_about 12 = .ok (.ifCond .eq 22, 3) := by decide +kernel
theorem dX10_about_15 : decode cX10_about 15 = .ok (.iload_n 3, 1) := by decide +kernel
theorem dX10_about_16 : decode cX10_about 16 = .ok (.iconst 0, 1) := by decide +kernel
theorem dX10_about_17 : decode cX10_about 17 = .ok (.iconst 4, 1) := by decide +kernel
theorem dX10_about_18 : decode cX10_about 18 = .ok (.invokestatic 148, 3) := by decide +kernel
theorem dX10_about_21 : decode cX10_about 21 = .ok (.ifCond .eq 13, 3) := by decide +kernel
theorem dX10_about_24 : decode cX10_about 24 = .ok (.aload_n 0, 1) := by decide +kernel
theorem dX10_about_25 : decode cX10_about 25 = .ok (.iload_n 1, 1) := by decide +kernel
theorem dX10_about_26 : decode cX10_about 26 = .ok (.iload_n 2, 1) := by decide +kernel
theorem dX10_about_27 : decode cX10_about 27 = .ok (.iload_n 3, 1) := by decide +kernel
theorem dX10_about_28 : decode cX10_about 28 = .ok (.invokevirtual 233, 3) := by decide +kernel
theorem dX10_about_31 : decode cX10_about 31 = .ok (.goto 5, 3) := by decide +kernel
theorem dX10_about_34 : decode cX10_about 34 = .ok (.bipush (-2), 2) := by decide +kernel
theorem dX10_about_36 : decode cX10_about 36 = .ok (.ireturn, 1) := by decide +kernel
set_option maxRecDepth 100000 in
set_option maxHeartbeats 4000000 in
theorem rt_X10_about (l : Launch) (m0 : Nat) (ad : Nat → Nat) (K : RS) (x0 : Int32) (x1 : Int32) (x2 : Int32) : Ct l yX10_about cX10_about 4 (some .int) 5 0 0 124 (fun S av => av = [.ref m0, .int x0, .int x1, .int x2] ∧ mdR S m0 ad K ∧ RV K) (fun S _ r S' => ∃ v : Int32, r = some (.int v) ∧ v = aboutP K x0 x1 x2 ∧ S' = S) := by
  refine ct_of (by decide) (fun S av h => by obtain ⟨rfl, hk, rv⟩ := h; exact Nat.le_of_ble_eq_true rfl) ?_
  intro p e s m args below meth c D G bs S av C hr hin hpre
  obtain ⟨rfl, hk, rv⟩ := hpre
  refine v_aload_n C dX10_about_0 rfl ?_
  refine v_iload_n C dX10_about_1 rfl ?_
  refine v_callV (As := [_]) (n := 1) C (rt_X10_isCharacter l m0 ad _ _) rfl hk.1 (by decide) rfl ⟨wd334, wd335, wd336, wd5, wd337⟩ ⟨rfl, hy_X10_isCharacter⟩ rfl ⟨Nat.le_of_ble_eq_true rfl, Nat.le_of_ble_eq_true rfl⟩ (Nat.le_of_ble_eq_true rfl) ⟨Nat.le_of_ble_eq_true rfl, Nat.le_of_ble_eq_true rfl⟩ dX10_about_2 ⟨rfl, hk, rv⟩ (fun r_2 S2_2 h_2 => ?_)
  obtain ⟨v2, rfl, p_v2, q_v2⟩ := h_2
  obtain rfl := q_v2.symm
  refine b_if_eq (tgt := 34) C dX10_about_5 (by decide) (fun c_5 => ?_) (fun c_5 => ?_)
  · skip
    refine v_bipush (v := -2) C dX10_about_34 (by decide) ?_
    refine v_iret C hr (Nat.le_of_ble_eq_true rfl) (Nat.le_of_ble_eq_true rfl) dX10_about_36 ?_
    exact ⟨_, rfl, (by simp [aboutP, ← p_v2, c_5]), rfl⟩
  · skip
    obtain ⟨u, h0u, rfl⟩ := below_some (p_v2.symm.trans c_5)
    have hu : u < 12 := by have := rv.p2.2; omega
    have e_u := nI_clamp (show u < 2 ^ 31 by omega)
    refine v_iload_n C dX10_about_8 rfl ?_
    refine v_callS (As := [_]) (n := 1) C (rt_X10_isAct l _) rfl ⟨wd368, wd369, wd5, wd370⟩ hy_X10_isAct rfl ⟨Nat.le_of_ble_eq_true rfl, Nat.le_of_ble_eq_true rfl⟩ (Nat.le_of_ble_eq_true rfl) ⟨Nat.le_of_ble_eq_true rfl, Nat.le_of_ble_eq_true rfl⟩ dX10_about_9 rfl (fun r_9 S4_9 h_9 => ?_)
    obtain ⟨v9, rfl, p_v9, q_v9⟩ := h_9
    obtain rfl := q_v9.symm
    refine b_if_eq (tgt := 34) C dX10_about_12 (by decide) (fun c_12 => ?_) (fun c_12 => ?_)
    · skip
      refine v_bipush (v := -2) C dX10_about_34 (by decide) ?_
      refine v_iret C hr (Nat.le_of_ble_eq_true rfl) (Nat.le_of_ble_eq_true rfl) dX10_about_36 ?_
      exact ⟨_, rfl, (by simp [aboutP, ← p_v2, c_5, e_u, ← p_v9, c_12]), rfl⟩
    · skip
      obtain ⟨n, hn, rfl⟩ := below_some (p_v9.symm.trans c_12)
      have e_n := nI_clamp (show n < 2 ^ 31 by omega)
      refine v_iload_n C dX10_about_15 rfl ?_
      refine v_iconst (v := nI 0) C dX10_about_16 (by decide) ?_
      refine v_iconst (v := nI 4) C dX10_about_17 (by decide) ?_
      refine v_callS (As := [_, _, _]) (n := 3) C (rt_X10_in l _ _ _) rfl ⟨wd244, wd245, wd5, wd246⟩ hy_X10_in rfl ⟨Nat.le_of_ble_eq_true rfl, Nat.le_of_ble_eq_true rfl⟩ (Nat.le_of_ble_eq_true rfl) ⟨Nat.le_of_ble_eq_true rfl, Nat.le_of_ble_eq_true rfl⟩ dX10_about_18 rfl (fun r_18 S6_18 h_18 => ?_)
      obtain ⟨v18, rfl, p_v18, q_v18⟩ := h_18
      obtain rfl := q_v18.symm
      rw [inB_below _ (n := 5) rfl] at p_v18
      refine b_if_eq (tgt := 34) C dX10_about_21 (by decide) (fun c_21 => ?_) (fun c_21 => ?_)
      · skip
        refine v_bipush (v := -2) C dX10_about_34 (by decide) ?_
        refine v_iret C hr (Nat.le_of_ble_eq_true rfl) (Nat.le_of_ble_eq_true rfl) dX10_about_36 ?_
        exact ⟨_, rfl, (by simp [aboutP, ← p_v2, c_5, e_u, ← p_v9, c_12, e_n, ← p_v18, c_21]), rfl⟩
      · skip
        obtain ⟨w, hw, rfl⟩ := below_some (p_v18.symm.trans c_21)
        have e_w := nI_clamp (show w < 2 ^ 31 by omega)
        refine v_aload_n C dX10_about_24 rfl ?_
        refine v_iload_n C dX10_about_25 rfl ?_
        refine v_iload_n C dX10_about_26 rfl ?_
        refine v_iload_n C dX10_about_27 rfl ?_
        refine v_callV (As := [_, _, _]) (n := 3) C (rt_X10_aboutOf l m0 ad _ _ _ _) rfl hk.1 (by decide) rfl ⟨wd660, wd661, wd662, wd5, wd663⟩ ⟨rfl, hy_X10_aboutOf⟩ rfl ⟨Nat.le_of_ble_eq_true rfl, Nat.le_of_ble_eq_true rfl⟩ (Nat.le_of_ble_eq_true rfl) ⟨Nat.le_of_ble_eq_true rfl, Nat.le_of_ble_eq_true rfl⟩ dX10_about_28 ⟨rfl, hk, rv, (by omega), (by omega), (by omega)⟩ (fun r_28 S8_28 h_28 => ?_)
        obtain ⟨v28, rfl, p_v28, q_v28⟩ := h_28
        obtain rfl := q_v28.symm
        refine v_goto (tgt := 36) C dX10_about_31 (by decide) ?_
        refine v_iret C hr (Nat.le_of_ble_eq_true rfl) (Nat.le_of_ble_eq_true rfl) dX10_about_36 ?_
        exact ⟨_, rfl, (by simp [aboutP, ← p_v2, c_5, e_u, ← p_v9, c_12, e_n, ← p_v18, c_21, e_w, ← p_v28]), rfl⟩
theorem dX10_above_0 : decode cX10_above 0 = .ok (.aload_n 0, 1) := by decide +kernel
theorem dX10_above_1 : decode cX10_above 1 = .ok (.iload_n 1, 1) := by decide +kernel
theorem dX10_above_2 : decode cX10_above 2 = .ok (.invokevirtual 176, 3) := by decide +kernel
theorem dX10_above_5 : decode cX10_above 5 = .ok (.ifCond .eq 20, 3) := by decide +kernel
theorem dX10_above_8 : decode cX10_above 8 = .ok (.iload_n 2, 1) := by decide +kernel
theorem dX10_above_9 : decode cX10_above 9 = .ok (.invokestatic 179, 3) := by decide +kernel
theorem dX10_above_12 : decode cX10_above 12 = .ok (.ifCond .eq 13, 3) := by decide +kernel
theorem dX10_above_15 : decode cX10_above 15 = .ok (.iload_n 3, 1) := by decide +kernel
theorem dX10_above_16 : decode cX10_above 16 = .ok (.iconst 0, 1) := by decide +kernel
theorem dX10_above_17 : decode cX10_above 17 = .ok (.bipush 30, 2) := by decide +kernel
theorem dX10_above_19 : decode cX10_above 19 = .ok (.invokestatic 148, 3) := by decide +kernel
theorem dX10_above_22 : decode cX10_above 22 = .ok (.ifCond .ne 6, 3) := by decide +kernel
theorem dX10_above_25 : decode cX10_above 25 = .ok (.bipush (-2), 2) := by decide +kernel
theorem dX10_above_27 : decode cX10_above 27 = .ok (.ireturn, 1) := by decide +kernel
theorem dX10_above_28 : decode cX10_above 28 = .ok (.aload_n 0, 1) := by decide +kernel
theorem dX10_above_29 : decode cX10_above 29 = .ok (.iload_n 1, 1) := by decide +kernel
theorem dX10_above_30 : decode cX10_above 30 = .ok (.iload_n 2, 1) := by decide +kernel
theorem dX10_above_31 : decode cX10_above 31 = .ok (.invokevirtual 208, 3) := by decide +kernel
theorem dX10_above_34 : decode cX10_above 34 = .ok (.istore 4, 2) := by decide +kernel
theorem dX10_above_36 : decode cX10_above 36 = .ok (.iconst 0, 1) := by decide +kernel
theorem dX10_above_37 : decode cX10_above 37 = .ok (.istore 5, 2) := by decide +kernel
theorem dX10_above_39 : decode cX10_above 39 = .ok (.iload 5, 2) := by decide +kernel
theorem dX10_above_41 : decode cX10_above 41 = .ok (.iload_n 3, 1) := by decide +kernel
theorem dX10_above_42 : decode cX10_above 42 = .ok (.if_icmp .ge 27, 3) := by decide +kernel
theorem dX10_above_45 : decode cX10_above 45 = .ok (.iload 4, 2) := by decide +kernel
theorem dX10_above_47 : decode cX10_above 47 = .ok (.iconst (-1), 1) := by decide +kernel
theorem dX10_above_48 : decode cX10_above 48 = .ok (.if_icmp .eq 21, 3) := by decide +kernel
theorem dX10_above_51 : decode cX10_above 51 = .ok (.aload_n 0, 1) := by decide +kernel
theorem dX10_above_52 : decode cX10_above 52 = .ok (.iload_n 1, 1) := by decide +kernel
theorem dX10_above_53 : decode cX10_above 53 = .ok (.iload 4, 2) := by decide +kernel
theorem dX10_above_55 : decode cX10_above 55 = .ok (.iconst 1, 1) := by decide +kernel
theorem dX10_above_56 : decode cX10_above 56 = .ok (.iadd, 1) := by decide +kernel
theorem dX10_above_57 : decode cX10_above 57 = .ok (.iload_n 2, 1) := by decide +kernel
theorem dX10_above_58 : decode cX10_above 58 = .ok (.invokevirtual 205, 3) := by decide +kernel
theorem dX10_above_61 : decode cX10_above 61 = .ok (.istore 4, 2) := by decide +kernel
theorem dX10_above_63 : decode cX10_above 63 = .ok (.iinc 5 1, 3) := by decide +kernel
theorem dX10_above_66 : decode cX10_above 66 = .ok (.goto (-27), 3) := by decide +kernel
theorem dX10_above_69 : decode cX10_above 69 = .ok (.iload 4, 2) := by decide +kernel
theorem dX10_above_71 : decode cX10_above 71 = .ok (.iconst (-1), 1) := by decide +kernel
theorem dX10_above_72 : decode cX10_above 72 = .ok (.if_icmp .ne 7, 3) := by decide +kernel
theorem dX10_above_75 : decode cX10_above 75 = .ok (.iconst (-1), 1) := by decide +kernel
theorem dX10_above_76 : decode cX10_above 76 = .ok (.goto 10, 3) := by decide +kernel
theorem dX10_above_79 : decode cX10_above 79 = .ok (.aload_n 0, 1) := by decide +kernel
theorem dX10_above_80 : decode cX10_above 80 = .ok (.iload_n 1, 1) := by decide +kernel
theorem dX10_above_81 : decode cX10_above 81 = .ok (.iload 4, 2) := by decide +kernel
theorem dX10_above_83 : decode cX10_above 83 = .ok (.invokevirtual 218, 3) := by decide +kernel
theorem dX10_above_86 : decode cX10_above 86 = .ok (.ireturn, 1) := by decide +kernel
set_option maxRecDepth 100000 in
set_option maxHeartbeats 4000000 in
theorem rt_X10_above (l : Launch) (m0 : Nat) (ad : Nat → Nat) (K : RS) (x0 : Int32) (x1 : Int32) (x2 : Int32) : Ct l yX10_above cX10_above 6 (some .int) 4 0 0 99 (fun S av => av = [.ref m0, .int x0, .int x1, .int x2] ∧ mdR S m0 ad K ∧ RV K) (fun S _ r S' => ∃ v : Int32, r = some (.int v) ∧ v = aboveP K x0 x1 x2 ∧ S' = S) := by
  refine ct_of (by decide) (fun S av h => by obtain ⟨rfl, hk, rv⟩ := h; exact Nat.le_of_ble_eq_true rfl) ?_
  intro p e s m args below meth c D G bs S av C hr hin hpre
  obtain ⟨rfl, hk, rv⟩ := hpre
  refine v_aload_n C dX10_above_0 rfl ?_
  refine v_iload_n C dX10_above_1 rfl ?_
  refine v_callV (As := [_]) (n := 1) C (rt_X10_isCharacter l m0 ad _ _) rfl hk.1 (by decide) rfl ⟨wd334, wd335, wd336, wd5, wd337⟩ ⟨rfl, hy_X10_isCharacter⟩ rfl ⟨Nat.le_of_ble_eq_true rfl, Nat.le_of_ble_eq_true rfl⟩ (Nat.le_of_ble_eq_true rfl) ⟨Nat.le_of_ble_eq_true rfl, Nat.le_of_ble_eq_true rfl⟩ dX10_above_2 ⟨rfl, hk, rv⟩ (fun r_2 S2_2 h_2 => ?_)
  obtain ⟨v2, rfl, p_v2, q_v2⟩ := h_2
  obtain rfl := q_v2.symm
  refine b_if_eq (tgt := 25) C dX10_above_5 (by decide) (fun c_5 => ?_) (fun c_5 => ?_)
  · skip
    refine v_bipush (v := -2) C dX10_above_25 (by decide) ?_
    refine v_iret C hr (Nat.le_of_ble_eq_true rfl) (Nat.le_of_ble_eq_true rfl) dX10_above_27 ?_
    exact ⟨_, rfl, (by simp [aboveP, ← p_v2, c_5]), rfl⟩
  · skip
    obtain ⟨u, h0u, rfl⟩ := below_some (p_v2.symm.trans c_5)
    have hu : u < 12 := by have := rv.p2.2; omega
    have e_u := nI_clamp (show u < 2 ^ 31 by omega)
    refine v_iload_n C dX10_above_8 rfl ?_
    refine v_callS (As := [_]) (n := 1) C (rt_X10_isAct l _) rfl ⟨wd368, wd369, wd5, wd370⟩ hy_X10_isAct rfl ⟨Nat.le_of_ble_eq_true rfl, Nat.le_of_ble_eq_true rfl⟩ (Nat.le_of_ble_eq_true rfl) ⟨Nat.le_of_ble_eq_true rfl, Nat.le_of_ble_eq_true rfl⟩ dX10_above_9 rfl (fun r_9 S4_9 h_9 => ?_)
    obtain ⟨v9, rfl, p_v9, q_v9⟩ := h_9
    obtain rfl := q_v9.symm
    refine b_if_eq (tgt := 25) C dX10_above_12 (by decide) (fun c_12 => ?_) (fun c_12 => ?_)
    · skip
      refine v_bipush (v := -2) C dX10_above_25 (by decide) ?_
      refine v_iret C hr (Nat.le_of_ble_eq_true rfl) (Nat.le_of_ble_eq_true rfl) dX10_above_27 ?_
      exact ⟨_, rfl, (by simp [aboveP, ← p_v2, c_5, e_u, ← p_v9, c_12]), rfl⟩
    · skip
      obtain ⟨n, hn, rfl⟩ := below_some (p_v9.symm.trans c_12)
      have e_n := nI_clamp (show n < 2 ^ 31 by omega)
      refine v_iload_n C dX10_above_15 rfl ?_
      refine v_iconst (v := nI 0) C dX10_above_16 (by decide) ?_
      refine v_bipush (v := nI 30) C dX10_above_17 (by decide) ?_
      refine v_callS (As := [_, _, _]) (n := 3) C (rt_X10_in l _ _ _) rfl ⟨wd244, wd245, wd5, wd246⟩ hy_X10_in rfl ⟨Nat.le_of_ble_eq_true rfl, Nat.le_of_ble_eq_true rfl⟩ (Nat.le_of_ble_eq_true rfl) ⟨Nat.le_of_ble_eq_true rfl, Nat.le_of_ble_eq_true rfl⟩ dX10_above_19 rfl (fun r_19 S6_19 h_19 => ?_)
      obtain ⟨v19, rfl, p_v19, q_v19⟩ := h_19
      obtain rfl := q_v19.symm
      rw [inB_below _ (n := 31) rfl] at p_v19
      refine b_if_ne (tgt := 28) C dX10_above_22 (by decide) (fun c_22 => ?_) (fun c_22 => ?_)
      · skip
        obtain ⟨w, hw, rfl⟩ := below_some (p_v19.symm.trans c_22)
        have e_w := nI_clamp (show w < 2 ^ 31 by omega)
        refine v_aload_n C dX10_above_28 rfl ?_
        refine v_iload_n C dX10_above_29 rfl ?_
        refine v_iload_n C dX10_above_30 rfl ?_
        refine v_callV (As := [_, _]) (n := 2) C (rt_X10_choose l m0 ad _ _ _) rfl hk.1 (by decide) rfl ⟨wd589, wd590, wd591, wd5, wd592⟩ ⟨rfl, hy_X10_choose⟩ rfl ⟨Nat.le_of_ble_eq_true rfl, Nat.le_of_ble_eq_true rfl⟩ (Nat.le_of_ble_eq_true rfl) ⟨Nat.le_of_ble_eq_true rfl, Nat.le_of_ble_eq_true rfl⟩ dX10_above_31 ⟨rfl, hk, rv, (by omega), (by omega)⟩ (fun r_31 S8_31 h_31 => ?_)
        obtain ⟨v31, rfl, p_v31, b_v31, q_v31⟩ := h_31
        obtain rfl := q_v31.symm
        obtain ⟨z1, z2⟩ := rv.p5 u hu
        refine v_istore C dX10_above_34 (by decide) rfl ?_
        refine v_iconst (v := nI 0) C dX10_above_36 (by decide) ?_
        refine v_istore C dX10_above_37 (by decide) rfl ?_
        refine V.lits (lv' := [_, _, _, _, _, _]) rfl ?_
        refine v_loop (fun (tt : (Nat) × (Option Nat)) lv0 => ((lv0.set 5 (some (.int (nI tt.1)))).set 4 (some (.int (oI tt.2))))) (fun (S1 : Mem) (tt : (Nat) × (Option Nat)) => S1 = S ∧ (tt.1 ≤ w) ∧ (∀ k, tt.2 = some k → k ≤ rN K 8 u) ∧ (climbF K u n w (chooseF K u n) = climbF K u n (w - tt.1) tt.2)) (fun (S1 : Mem) (tt : (Nat) × (Option Nat)) => w - tt.1) (t := (0, v31)) rfl ⟨rfl, (Nat.zero_le _), b_v31, (by rw [p_v31]; rfl)⟩ ?_
        intro L39 tt h_39 ih_39
        obtain ⟨i, o⟩ := tt
        obtain ⟨e_S, hi, b_o, hs⟩ := h_39
        subst e_S
        try dsimp only at *
        refine v_iload C dX10_above_39 rfl ?_
        refine v_iload_n C dX10_above_41 rfl ?_
        refine n_icmp_ge (tgt := 69) C (by omega) (by omega) dX10_above_42 (by decide) (fun c_42 => ?_) (fun c_42 => ?_)
        · skip
          refine v_iload C dX10_above_69 rfl ?_
          refine v_iconst (v := -1) C dX10_above_71 (by decide) ?_
          refine o_icmp_ne (tgt := 79) C (fun k z => by have := b_o k z; omega) dX10_above_72 (by decide) (fun k72 c_72 => ?_) (fun c_72 => ?_)
          · skip
            have b_k72 := b_o k72 c_72
            subst c_72
            refine v_aload_n C dX10_above_79 rfl ?_
            refine v_iload_n C dX10_above_80 rfl ?_
            refine v_iload C dX10_above_81 rfl ?_
            refine v_callV (As := [_, _]) (n := 2) C (rt_X10_tells l m0 ad _ _ _) rfl hk.1 (by decide) rfl ⟨wd605, wd606, wd607, wd5, wd608⟩ ⟨rfl, hy_X10_tells⟩ rfl ⟨Nat.le_of_ble_eq_true rfl, Nat.le_of_ble_eq_true rfl⟩ (Nat.le_of_ble_eq_true rfl) ⟨Nat.le_of_ble_eq_true rfl, Nat.le_of_ble_eq_true rfl⟩ dX10_above_83 ⟨rfl, hk, rv, (by omega), (by omega)⟩ (fun r_83 S4_83 h_83 => ?_)
            obtain ⟨v83, rfl, p_v83, b_v83, q_v83⟩ := h_83
            obtain rfl := q_v83.symm
            refine v_iret C hr (Nat.le_of_ble_eq_true rfl) (Nat.le_of_ble_eq_true rfl) dX10_above_86 ?_
            exact ⟨_, rfl, (by
              have hz : aboveP K (nI u) (nI n) (nI w) = tellO K u (climbF K u n w (chooseF K u n)) := by simp [aboveP, e_u, e_n, e_w, ← p_v2, ← p_v9, ← p_v19, c_5, c_12, c_22]
              rw [hz, hs]
              first
              | (rw [climb_none]; rfl)
              | (rw [climb_end (by omega)]; first | rfl | (rw [p_v83]; rfl))), rfl⟩
          · skip
            subst c_72
            refine v_iconst (v := -1) C dX10_above_75 (by decide) ?_
            refine v_goto (tgt := 86) C dX10_above_76 (by decide) ?_
            refine v_iret C hr (Nat.le_of_ble_eq_true rfl) (Nat.le_of_ble_eq_true rfl) dX10_above_86 ?_
            exact ⟨_, rfl, (by
              have hz : aboveP K (nI u) (nI n) (nI w) = tellO K u (climbF K u n w (chooseF K u n)) := by simp [aboveP, e_u, e_n, e_w, ← p_v2, ← p_v9, ← p_v19, c_5, c_12, c_22]
              rw [hz, hs]
              first
              | (rw [climb_none]; rfl)
              | (rw [climb_end (by omega)]; first | rfl | (rw [p_v83]; rfl))), rfl⟩
        · skip
          refine v_iload C dX10_above_45 rfl ?_
          refine v_iconst (v := -1) C dX10_above_47 (by decide) ?_
          refine o_icmp_eq (tgt := 69) C (fun k z => by have := b_o k z; omega) dX10_above_48 (by decide) (fun c_48 => ?_) (fun k48 c_48 => ?_)
          · skip
            subst c_48
            refine v_iload C dX10_above_69 rfl ?_
            refine v_iconst (v := -1) C dX10_above_71 (by decide) ?_
            refine v_icmp_ne (tgt := 79) C dX10_above_72 (by decide) (fun c_72 => ?_) (fun c_72 => ?_)
            · skip
              exact absurd c_72 (by decide)
            · skip
              refine v_iconst (v := -1) C dX10_above_75 (by decide) ?_
              refine v_goto (tgt := 86) C dX10_above_76 (by decide) ?_
              refine v_iret C hr (Nat.le_of_ble_eq_true rfl) (Nat.le_of_ble_eq_true rfl) dX10_above_86 ?_
              exact ⟨_, rfl, (by
                have hz : aboveP K (nI u) (nI n) (nI w) = tellO K u (climbF K u n w (chooseF K u n)) := by simp [aboveP, e_u, e_n, e_w, ← p_v2, ← p_v9, ← p_v19, c_5, c_12, c_22]
                rw [hz, hs]
                first
                | (rw [climb_none]; rfl)
                | (rw [climb_end (by omega)]; first | rfl | (rw [p_v83]; rfl))), rfl⟩
          · skip
            have b_k48 := b_o k48 c_48
            subst c_48
            refine v_aload_n C dX10_above_51 rfl ?_
            refine v_iload_n C dX10_above_52 rfl ?_
            refine v_iload C dX10_above_53 rfl ?_
            refine v_iconst (v := nI 1) C dX10_above_55 (by decide) ?_
            refine n_iadd C dX10_above_56 ?_
            refine v_iload_n C dX10_above_57 rfl ?_
            refine v_callV (As := [_, _, _]) (n := 3) C (rt_X10_firstFrom l m0 ad _ _ _ _) rfl hk.1 (by decide) rfl ⟨wd601, wd602, wd603, wd5, wd604⟩ ⟨rfl, hy_X10_firstFrom⟩ rfl ⟨Nat.le_of_ble_eq_true rfl, Nat.le_of_ble_eq_true rfl⟩ (Nat.le_of_ble_eq_true rfl) ⟨Nat.le_of_ble_eq_true rfl, Nat.le_of_ble_eq_true rfl⟩ dX10_above_58 ⟨rfl, hk, rv, (by omega), (by omega), (by omega)⟩ (fun r_58 S4_58 h_58 => ?_)
            obtain ⟨v58, rfl, p_v58, b_v58, q_v58⟩ := h_58
            obtain rfl := q_v58.symm
            refine v_istore C dX10_above_61 (by decide) rfl ?_
            refine v_iinc C dX10_above_63 rfl (nI_inc _) (by decide) rfl ?_
            refine v_goto (tgt := 39) C dX10_above_66 (by decide) ?_
            refine V.lits (lv' := [_, _, _, _, _, _]) rfl ?_
            exact ih_39 _ ((i + 1), v58) (by first | omega | (dsimp only; omega)) ⟨rfl, (by omega), b_v58, (hs.trans ((climb_step (by omega)).trans (by rw [p_v58])))⟩
      · skip
        refine v_bipush (v := -2) C dX10_above_25 (by decide) ?_
        refine v_iret C hr (Nat.le_of_ble_eq_true rfl) (Nat.le_of_ble_eq_true rfl) dX10_above_27 ?_
        exact ⟨_, rfl, (by simp [aboveP, ← p_v2, c_5, e_u, ← p_v9, c_12, e_n, ← p_v19, c_22]), rfl⟩
theorem dX10_isA_0 : decode cX10_isA 0 = .ok (.aload_n 0, 1) := by decide +kernel
theorem dX10_isA_1 : decode cX10_isA 1 = .ok (.iload_n 1, 1) := by decide +kernel
theorem dX10_isA_2 : decode cX10_isA 2 = .ok (.invokevirtual 176, 3) := by decide +kernel
theorem dX10_isA_5 : decode cX10_isA 5 = .ok (.ifCond .eq 11, 3) := by decide +kernel
theorem dX10_isA_8 : decode cX10_isA 8 = .ok (.aload_n 0, 1) := by decide +kernel
theorem dX10_isA_9 : decode cX10_isA 9 = .ok (.iload_n 2, 1) := by decide +kernel
theorem dX10_isA_10 : decode cX10_isA 10 = .ok (.invokevirtual 166, 3) := by decide +kernel
theorem dX10_isA_13 : decode cX10_isA 13 = .ok (.ifCond .ne 8, 3) := by decide +kernel
theorem dX10_isA_16 : decode cX10_isA 16 = .ok (.bipush (-2), 2) := by decide +kernel
theorem dX10_isA_18 : decode cX10_isA 18 = .ok (.goto 17, 3) := by decide +kernel
theorem dX10_isA_21 : decode cX10_isA 21 = .ok (.aload_n 0, 1) := by decide +kernel
theorem dX10_isA_22 : decode cX10_isA 22 = .ok (.iload_n 1, 1) := by decide +kernel
theorem dX10_isA_23 : decode cX10_isA 23 = .ok (.iload_n 2, 1) := by decide +kernel
theorem dX10_isA_24 : decode cX10_isA 24 = .ok (.invokevirtual 202, 3) := by decide +kernel
theorem dX10_isA_27 : decode cX10_isA 27 = .ok (.ifCond .le 7, 3) := by decide +kernel
theorem dX10_isA_30 : decode cX10_isA 30 = .ok (.iconst 1, 1) := by decide +kernel
theorem dX10_isA_31 : decode cX10_isA 31 = .ok (.goto 4, 3) := by decide +kernel
theorem dX10_isA_34 : decode cX10_isA 34 = .ok (.iconst 0, 1) := by decide +kernel
theorem dX10_isA_35 : decode cX10_isA 35 = .ok (.ireturn, 1) := by decide +kernel
set_option maxRecDepth 100000 in
set_option maxHeartbeats 4000000 in
theorem rt_X10_isA (l : Launch) (m0 : Nat) (ad : Nat → Nat) (K : RS) (x0 : Int32) (x1 : Int32) : Ct l yX10_isA cX10_isA 3 (some .int) 2 0 0 43 (fun S av => av = [.ref m0, .int x0, .int x1] ∧ mdR S m0 ad K ∧ RV K) (fun S _ r S' => ∃ v : Int32, r = some (.int v) ∧ v = isAP K x0 x1 ∧ S' = S) := by
  refine ct_of (by decide) (fun S av h => by obtain ⟨rfl, hk, rv⟩ := h; exact Nat.le_of_ble_eq_true rfl) ?_
  intro p e s m args below meth c D G bs S av C hr hin hpre
  obtain ⟨rfl, hk, rv⟩ := hpre
  refine v_aload_n C dX10_isA_0 rfl ?_
  refine v_iload_n C dX10_isA_1 rfl ?_
  refine v_callV (As := [_]) (n := 1) C (rt_X10_isCharacter l m0 ad _ _) rfl hk.1 (by decide) rfl ⟨wd334, wd335, wd336, wd5, wd337⟩ ⟨rfl, hy_X10_isCharacter⟩ rfl ⟨Nat.le_of_ble_eq_true rfl, Nat.le_of_ble_eq_true rfl⟩ (Nat.le_of_ble_eq_true rfl) ⟨Nat.le_of_ble_eq_true rfl, Nat.le_of_ble_eq_true rfl⟩ dX10_isA_2 ⟨rfl, hk, rv⟩ (fun r_2 S2_2 h_2 => ?_)
  obtain ⟨v2, rfl, p_v2, q_v2⟩ := h_2
  obtain rfl := q_v2.symm
  refine b_if_eq (tgt := 16) C dX10_isA_5 (by decide) (fun c_5 => ?_) (fun c_5 => ?_)
  · skip
    refine v_bipush (v := -2) C dX10_isA_16 (by decide) ?_
    refine v_goto (tgt := 35) C dX10_isA_18 (by decide) ?_
    refine v_iret C hr (Nat.le_of_ble_eq_true rfl) (Nat.le_of_ble_eq_true rfl) dX10_isA_35 ?_
    exact ⟨_, rfl, (by simp [isAP, ← p_v2, c_5]), rfl⟩
  · skip
    obtain ⟨u, h0u, rfl⟩ := below_some (p_v2.symm.trans c_5)
    have hu : u < 12 := by have := rv.p2.2; omega
    have e_u := nI_clamp (show u < 2 ^ 31 by omega)
    refine v_aload_n C dX10_isA_8 rfl ?_
    refine v_iload_n C dX10_isA_9 rfl ?_
    refine v_callV (As := [_]) (n := 1) C (rt_X10_isTrait l m0 ad _ _) rfl hk.1 (by decide) rfl ⟨wd240, wd241, wd242, wd5, wd243⟩ ⟨rfl, hy_X10_isTrait⟩ rfl ⟨Nat.le_of_ble_eq_true rfl, Nat.le_of_ble_eq_true rfl⟩ (Nat.le_of_ble_eq_true rfl) ⟨Nat.le_of_ble_eq_true rfl, Nat.le_of_ble_eq_true rfl⟩ dX10_isA_10 ⟨rfl, hk, rv⟩ (fun r_10 S4_10 h_10 => ?_)
    obtain ⟨v10, rfl, p_v10, q_v10⟩ := h_10
    obtain rfl := q_v10.symm
    refine b_if_ne (tgt := 21) C dX10_isA_13 (by decide) (fun c_13 => ?_) (fun c_13 => ?_)
    · skip
      obtain ⟨t, h0t, rfl⟩ := below_some (p_v10.symm.trans c_13)
      have ht : t < 20 := by have := rv.p1.2; omega
      have e_t := nI_clamp (show t < 2 ^ 31 by omega)
      refine v_aload_n C dX10_isA_21 rfl ?_
      refine v_iload_n C dX10_isA_22 rfl ?_
      refine v_iload_n C dX10_isA_23 rfl ?_
      obtain ⟨z1, z2⟩ := rv.p5 u hu
      refine v_callV (As := [_, _]) (n := 2) C (rt_X10_placeIn l m0 ad _ _ _) rfl hk.1 (by decide) rfl ⟨wd597, wd598, wd599, wd5, wd600⟩ ⟨rfl, hy_X10_placeIn⟩ rfl ⟨Nat.le_of_ble_eq_true rfl, Nat.le_of_ble_eq_true rfl⟩ (Nat.le_of_ble_eq_true rfl) ⟨Nat.le_of_ble_eq_true rfl, Nat.le_of_ble_eq_true rfl⟩ dX10_isA_24 ⟨rfl, hk, rv, (by omega)⟩ (fun r_24 S6_24 h_24 => ?_)
      obtain ⟨v24, rfl, p_v24, b_v24, q_v24⟩ := h_24
      obtain rfl := q_v24.symm
      have b2 : v24 ≤ 20 := Nat.le_trans b_v24 z2
      refine n_if_le (tgt := 34) C (by omega) dX10_isA_27 (by decide) (fun c_27 => ?_) (fun c_27 => ?_)
      · skip
        have h0 : ¬ 0 < v24 := by omega
        refine v_iconst (v := nI 0) C dX10_isA_34 (by decide) ?_
        refine v_iret C hr (Nat.le_of_ble_eq_true rfl) (Nat.le_of_ble_eq_true rfl) dX10_isA_35 ?_
        exact ⟨_, rfl, (by simp [isAP, ← p_v2, c_5, e_u, ← p_v10, c_13, e_t, ← p_v24, c_27, h0]), rfl⟩
      · skip
        refine v_iconst (v := nI 1) C dX10_isA_30 (by decide) ?_
        refine v_goto (tgt := 35) C dX10_isA_31 (by decide) ?_
        refine v_iret C hr (Nat.le_of_ble_eq_true rfl) (Nat.le_of_ble_eq_true rfl) dX10_isA_35 ?_
        exact ⟨_, rfl, (by simp [isAP, ← p_v2, c_5, e_u, ← p_v10, c_13, e_t, ← p_v24, c_27]), rfl⟩
    · skip
      refine v_bipush (v := -2) C dX10_isA_16 (by decide) ?_
      refine v_goto (tgt := 35) C dX10_isA_18 (by decide) ?_
      refine v_iret C hr (Nat.le_of_ble_eq_true rfl) (Nat.le_of_ble_eq_true rfl) dX10_isA_35 ?_
      exact ⟨_, rfl, (by simp [isAP, ← p_v2, c_5, e_u, ← p_v10, c_13]), rfl⟩
