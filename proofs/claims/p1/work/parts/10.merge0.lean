/-- only numbers in the cells have changed, no address, no reference in a field -/
def same (S S' : Mem) : Prop := mL S' = mL S ∧ mK S' = mK S ∧ mN S' = mN S ∧ mO S' = mO S
theorem same_tr {S S1 S2 : Mem} (h : same S S1) (k : same S1 S2) : same S S2 := ⟨k.1.trans h.1, k.2.1.trans h.2.1, k.2.2.1.trans h.2.2.1, k.2.2.2.trans h.2.2.2⟩
theorem is_same {S S' : Mem} {a k : Nat} (h : same S S') (x : is S a k) : is S' a k := ⟨by rw [h.1]; exact x.1, by rw [h.2.1]; exact x.2⟩
theorem isA_same {S S' : Mem} {a k n : Nat} (h : same S S') (x : isA S a k n) : isA S' a k n := ⟨by rw [h.1]; exact x.1, by rw [h.2.1]; exact x.2.1, by rw [h.2.2.1]; exact x.2.2⟩
theorem lineAt_same {S S' : Mem} {a r q : Nat} (h : same S S') (x : lineAt S a r q) : lineAt S' a r q := ⟨is_same h x.1, by rw [h.2.2.2]; exact x.2.1, isA_same h x.2.2.1, by rw [h.2.2.2]; exact x.2.2.2.1, isA_same h x.2.2.2.2⟩
theorem mergerAt_same {S S' : Mem} {h rw ft gl gr gq ml mr mq : Nat} (e : same S S') (k : mergerAt S h rw ft gl gr gq ml mr mq) : mergerAt S' h rw ft gl gr gq ml mr mq := by
  obtain ⟨k1, k2, k3, k4, k5, k6, k7, k8, k9⟩ := k
  exact ⟨is_same e k1, by rw [e.2.2.2]; exact k2, isA_same e k3, by rw [e.2.2.2]; exact k4, isA_same e k5, by rw [e.2.2.2]; exact k6, lineAt_same e k7, by rw [e.2.2.2]; exact k8, lineAt_same e k9⟩
theorem same_sI (S : Mem) (g a : Nat) (v : Int32) : same S (sI S g a v) := ⟨mL_sI .., mK_sI .., mN_sI .., mO_sI ..⟩
theorem same_sA (S : Mem) (a i : Nat) (v : Int32) : same S (sA S a i v) := ⟨mL_sA .., mK_sA .., mN_sA .., mO_sA ..⟩
theorem same_sP (S : Mem) (a i : Nat) (v : Option Nat) : same S (sP S a i v) := ⟨mL_sP .., mK_sP .., mN_sP .., mO_sP ..⟩
theorem same_sFill (S : Mem) (a n : Nat) (v : Int32) : same S (sFill S a n v) := ⟨mL_sFill .., mK_sFill .., mN_sFill .., mO_sFill ..⟩
def tN (S : Mem) (ts : Nat) (t : Int32) : Bool := (t == -1) || (trAt S ts t).isSome
def cSU (S : Mem) (ts : Nat) (a b c : Int32) : Bool := tN S ts a && tN S ts b && tN S ts c && !(((a == -1) && !(b == -1)) || ((b == -1) && !(c == -1))) && ((b == -1) || (!(a == b) && !(a == c) && !(b == c)))
theorem dX1_isTraitOrNone_0 : decode cX1_isTraitOrNone 0 = .ok (.iload_n 1, 1) := by decide +kernel
theorem dX1_isTraitOrNone_1 : decode cX1_isTraitOrNone 1 = .ok (.iconst (-1), 1) := by decide +kernel
theorem dX1_isTraitOrNone_2 : decode cX1_isTraitOrNone 2 = .ok (.if_icmp .eq 11, 3) := by decide +kernel
theorem dX1_isTraitOrNone_5 : decode cX1_isTraitOrNone 5 = .ok (.aload_n 0, 1) := by decide +kernel
theorem dX1_isTraitOrNone_6 : decode cX1_isTraitOrNone 6 = .ok (.iload_n 1, 1) := by decide +kernel
theorem dX1_isTraitOrNone_7 : decode cX1_isTraitOrNone 7 = .ok (.invokevirtual 45, 3) := by decide +kernel
theorem dX1_isTraitOrNone_10 : decode cX1_isTraitOrNone 10 = .ok (.ifnull 7, 3) := by decide +kernel
theorem dX1_isTraitOrNone_13 : decode cX1_isTraitOrNone 13 = .ok (.iconst 1, 1) := by decide +kernel
theorem dX1_isTraitOrNone_14 : decode cX1_isTraitOrNone 14 = .ok (.goto 4, 3) := by decide +kernel
theorem dX1_isTraitOrNone_17 : decode cX1_isTraitOrNone 17 = .ok (.iconst 0, 1) := by decide +kernel
theorem dX1_isTraitOrNone_18 : decode cX1_isTraitOrNone 18 = .ok (.ireturn, 1) := by decide +kernel
set_option maxRecDepth 100000 in
set_option maxHeartbeats 4000000 in
theorem ct_X1_isTraitOrNone (l : Launch) (co ts : Nat) (t : Int32) : Ct l yX1_isTraitOrNone cX1_isTraitOrNone 2 (some .boolean) 2 0 0 42 (fun S av => av = [.ref co, .int t] ∧ is S co 1 ∧ mO S 64 co = some ts ∧ isA S ts 17 20) (fun S _ r S' => r = some (.int (bI (tN S ts t))) ∧ S' = S) := by
  refine ct_of (by decide) (fun S av h => by obtain ⟨rfl, i_co, e_ts, i_ts⟩ := h; exact Nat.le_of_ble_eq_true rfl) ?_
  intro p e s m args below meth c D G bs S av C hr hin hpre
  obtain ⟨rfl, i_co, e_ts, i_ts⟩ := hpre
  refine v_iload_n C dX1_isTraitOrNone_0 rfl ?_
  refine v_iconst (v := -1) C dX1_isTraitOrNone_1 (by decide) ?_
  refine v_icmp_eq (tgt := 13) C dX1_isTraitOrNone_2 (by decide) (fun c_2 => ?_) (fun c_2 => ?_)
  · skip
    refine v_iconst (v := 1) C dX1_isTraitOrNone_13 (by decide) ?_
    refine v_goto (tgt := 18) C dX1_isTraitOrNone_14 (by decide) ?_
    refine v_zret C hr rfl (Nat.le_of_ble_eq_true rfl) (Nat.le_of_ble_eq_true rfl) dX1_isTraitOrNone_18 ?_
    refine ⟨?_, rfl⟩
    simp_all [tN, bI]
  · skip
    refine v_aload_n C dX1_isTraitOrNone_5 rfl ?_
    refine v_iload_n C dX1_isTraitOrNone_6 rfl ?_
    refine v_callV (As := [_]) (n := 1) C (ct_X1_traitAt l co ts _) rfl i_co (by decide) rfl ⟨wd137, wd138, wd139, wd15, wd140⟩ ⟨rfl, hy_X1_traitAt⟩ rfl ⟨Nat.le_of_ble_eq_true rfl, Nat.le_of_ble_eq_true rfl⟩ (Nat.le_of_ble_eq_true rfl) ⟨Nat.le_of_ble_eq_true rfl, Nat.le_of_ble_eq_true rfl⟩ dX1_isTraitOrNone_7 ⟨rfl, i_co, e_ts, i_ts⟩ (fun r_7 S_7 h_7 => ?_)
    obtain ⟨rfl, q_7⟩ := h_7
    obtain rfl := q_7.symm
    refine v_ifnull (tgt := 17) C dX1_isTraitOrNone_10 (by decide) (fun c_10 => ?_) (fun b_10 c_10 => ?_)
    · skip
      refine v_iconst (v := 0) C dX1_isTraitOrNone_17 (by decide) ?_
      refine v_zret C hr rfl (Nat.le_of_ble_eq_true rfl) (Nat.le_of_ble_eq_true rfl) dX1_isTraitOrNone_18 ?_
      refine ⟨?_, rfl⟩
      simp_all [tN, bI]
    · skip
      refine v_iconst (v := 1) C dX1_isTraitOrNone_13 (by decide) ?_
      refine v_goto (tgt := 18) C dX1_isTraitOrNone_14 (by decide) ?_
      refine v_zret C hr rfl (Nat.le_of_ble_eq_true rfl) (Nat.le_of_ble_eq_true rfl) dX1_isTraitOrNone_18 ?_
      refine ⟨?_, rfl⟩
      simp_all [tN, bI]

theorem dX1_canStandUnder_0 : decode cX1_canStandUnder 0 = .ok (.aload_n 0, 1) := by decide +kernel
theorem dX1_canStandUnder_1 : decode cX1_canStandUnder 1 = .ok (.iload_n 1, 1) := by decide +kernel
theorem dX1_canStandUnder_2 : decode cX1_canStandUnder 2 = .ok (.invokevirtual 41, 3) := by decide +kernel
theorem dX1_canStandUnder_5 : decode cX1_canStandUnder 5 = .ok (.ifCond .eq 19, 3) := by decide +kernel
theorem dX1_canStandUnder_8 : decode cX1_canStandUnder 8 = .ok (.aload_n 0, 1) := by decide +kernel
theorem dX1_canStandUnder_9 : decode cX1_canStandUnder 9 = .ok (.iload_n 2, 1) := by decide +kernel
theorem dX1_canStandUnder_10 : decode cX1_canStandUnder 10 = .ok (.invokevirtual 41, 3) := by decide +kernel
theorem dX1_canStandUnder_13 : decode cX1_canStandUnder 13 = .ok (.ifCond .eq 11, 3) := by decide +kernel
theorem dX1_canStandUnder_16 : decode cX1_canStandUnder 16 = .ok (.aload_n 0, 1) := by decide +kernel
theorem dX1_canStandUnder_17 : decode cX1_canStandUnder 17 = .ok (.iload_n 3, 1) := by decide +kernel
theorem dX1_canStandUnder_18 : decode cX1_canStandUnder 18 = .ok (.invokevirtual 41, 3) := by decide +kernel
theorem dX1_canStandUnder_21 : decode cX1_canStandUnder 21 = .ok (.ifCond .ne 5, 3) := by decide +kernel
theorem dX1_canStandUnder_24 : decode cX1_canStandUnder 24 = .ok (.iconst 0, 1) := by decide +kernel
theorem dX1_canStandUnder_25 : decode cX1_canStandUnder 25 = .ok (.ireturn, 1) := by decide +kernel
theorem dX1_canStandUnder_26 : decode cX1_canStandUnder 26 = .ok (.iload_n 1, 1) := by decide +kernel
theorem dX1_canStandUnder_27 : decode cX1_canStandUnder 27 = .ok (.iconst (-1), 1) := by decide +kernel
theorem dX1_canStandUnder_28 : decode cX1_canStandUnder 28 = .ok (.if_icmp .ne 8, 3) := by decide +kernel
theorem dX1_canStandUnder_31 : decode cX1_canStandUnder 31 = .ok (.iload_n 2, 1) := by decide +kernel
theorem dX1_canStandUnder_32 : decode cX1_canStandUnder 32 = .ok (.iconst (-1), 1) := by decide +kernel
theorem dX1_canStandUnder_33 : decode cX1_canStandUnder 33 = .ok (.if_icmp .ne 13, 3) := by decide +kernel
theorem dX1_canStandUnder_36 : decode cX1_canStandUnder 36 = .ok (.iload_n 2, 1) := by decide +kernel
theorem dX1_canStandUnder_37 : decode cX1_canStandUnder 37 = .ok (.iconst (-1), 1) := by decide +kernel
theorem dX1_canStandUnder_38 : decode cX1_canStandUnder 38 = .ok (.if_icmp .ne 10, 3) := by decide +kernel
theorem dX1_canStandUnder_41 : decode cX1_canStandUnder 41 = .ok (.iload_n 3, 1) := by decide +kernel
theorem dX1_canStandUnder_42 : decode cX1_canStandUnder 42 = .ok (.iconst (-1), 1) := by decide +kernel
theorem dX1_canStandUnder_43 : decode cX1_canStandUnder 43 = .ok (.if_icmp .eq 5, 3) := by decide +kernel
theorem dX1_canStandUnder_46 : decode cX1_canStandUnder 46 = .ok (.iconst 0, 1) := by decide +kernel
theorem dX1_canStandUnder_47 : decode cX1_canStandUnder 47 = .ok (.ireturn, 1) := by decide +kernel
theorem dX1_canStandUnder_48 : decode cX1_canStandUnder 48 = .ok (.iload_n 2, 1) := by decide +kernel
theorem dX1_canStandUnder_49 : decode cX1_canStandUnder 49 = .ok (.iconst (-1), 1) := by decide +kernel
theorem dX1_canStandUnder_50 : decode cX1_canStandUnder 50 = .ok (.if_icmp .eq 18, 3) := by decide +kernel
theorem dX1_canStandUnder_53 : decode cX1_canStandUnder 53 = .ok (.iload_n 1, 1) := by decide +kernel
theorem dX1_canStandUnder_54 : decode cX1_canStandUnder 54 = .ok (.iload_n 2, 1) := by decide +kernel
theorem dX1_canStandUnder_55 : decode cX1_canStandUnder 55 = .ok (.if_icmp .eq 17, 3) := by decide +kernel
theorem dX1_canStandUnder_58 : decode cX1_canStandUnder 58 = .ok (.iload_n 1, 1) := by decide +kernel
theorem dX1_canStandUnder_59 : decode cX1_canStandUnder 59 = .ok (.iload_n 3, 1) := by decide +kernel
theorem dX1_canStandUnder_60 : decode cX1_canStandUnder 60 = .ok (.if_icmp .eq 12, 3) := by decide +kernel
theorem dX1_canStandUnder_63 : decode cX1_canStandUnder 63 = .ok (.iload_n 2, 1) := by decide +kernel
theorem dX1_canStandUnder_64 : decode cX1_canStandUnder 64 = .ok (.iload_n 3, 1) := by decide +kernel
theorem dX1_canStandUnder_65 : decode cX1_canStandUnder 65 = .ok (.if_icmp .eq 7, 3) := by decide +kernel
theorem dX1_canStandUnder_68 : decode cX1_canStandUnder 68 = .ok (.iconst 1, 1) := by decide +kernel
theorem dX1_canStandUnder_69 : decode cX1_canStandUnder 69 = .ok (.goto 4, 3) := by decide +kernel
theorem dX1_canStandUnder_72 : decode cX1_canStandUnder 72 = .ok (.iconst 0, 1) := by decide +kernel
theorem dX1_canStandUnder_73 : decode cX1_canStandUnder 73 = .ok (.ireturn, 1) := by decide +kernel
set_option maxRecDepth 100000 in
set_option maxHeartbeats 4000000 in
theorem ct_X1_canStandUnder (l : Launch) (co ts : Nat) (a b d : Int32) : Ct l yX1_canStandUnder cX1_canStandUnder 4 (some .boolean) 3 0 0 63 (fun S av => av = [.ref co, .int a, .int b, .int d] ∧ is S co 1 ∧ mO S 64 co = some ts ∧ isA S ts 17 20) (fun S _ r S' => r = some (.int (bI (cSU S ts a b d))) ∧ S' = S) := by
  refine ct_of (by decide) (fun S av h => by obtain ⟨rfl, i_co, e_ts, i_ts⟩ := h; exact Nat.le_of_ble_eq_true rfl) ?_
  intro p e s m args below meth c D G bs S av C hr hin hpre
  obtain ⟨rfl, i_co, e_ts, i_ts⟩ := hpre
  refine v_aload_n C dX1_canStandUnder_0 rfl ?_
  refine v_iload_n C dX1_canStandUnder_1 rfl ?_
  refine v_callV (As := [_]) (n := 1) C (ct_X1_isTraitOrNone l co ts _) rfl i_co (by decide) rfl ⟨wd133, wd134, wd135, wd15, wd136⟩ ⟨rfl, hy_X1_isTraitOrNone⟩ rfl ⟨Nat.le_of_ble_eq_true rfl, Nat.le_of_ble_eq_true rfl⟩ (Nat.le_of_ble_eq_true rfl) ⟨Nat.le_of_ble_eq_true rfl, Nat.le_of_ble_eq_true rfl⟩ dX1_canStandUnder_2 ⟨rfl, i_co, e_ts, i_ts⟩ (fun r_2 S_2 h_2 => ?_)
  obtain ⟨rfl, q_2⟩ := h_2
  obtain rfl := q_2.symm
  refine v_if_eq (tgt := 24) C dX1_canStandUnder_5 (by decide) (fun c_5 => ?_) (fun c_5 => ?_)
  · skip
    refine v_iconst (v := 0) C dX1_canStandUnder_24 (by decide) ?_
    refine v_zret C hr rfl (Nat.le_of_ble_eq_true rfl) (Nat.le_of_ble_eq_true rfl) dX1_canStandUnder_25 ?_
    refine ⟨?_, rfl⟩
    simp_all [cSU, bI, bI_0]
  · skip
    refine v_aload_n C dX1_canStandUnder_8 rfl ?_
    refine v_iload_n C dX1_canStandUnder_9 rfl ?_
    refine v_callV (As := [_]) (n := 1) C (ct_X1_isTraitOrNone l co ts _) rfl i_co (by decide) rfl ⟨wd133, wd134, wd135, wd15, wd136⟩ ⟨rfl, hy_X1_isTraitOrNone⟩ rfl ⟨Nat.le_of_ble_eq_true rfl, Nat.le_of_ble_eq_true rfl⟩ (Nat.le_of_ble_eq_true rfl) ⟨Nat.le_of_ble_eq_true rfl, Nat.le_of_ble_eq_true rfl⟩ dX1_canStandUnder_10 ⟨rfl, i_co, e_ts, i_ts⟩ (fun r_10 S_10 h_10 => ?_)
    obtain ⟨rfl, q_10⟩ := h_10
    obtain rfl := q_10.symm
    refine v_if_eq (tgt := 24) C dX1_canStandUnder_13 (by decide) (fun c_13 => ?_) (fun c_13 => ?_)
    · skip
      refine v_iconst (v := 0) C dX1_canStandUnder_24 (by decide) ?_
      refine v_zret C hr rfl (Nat.le_of_ble_eq_true rfl) (Nat.le_of_ble_eq_true rfl) dX1_canStandUnder_25 ?_
      refine ⟨?_, rfl⟩
      simp_all [cSU, bI, bI_0]
    · skip
      refine v_aload_n C dX1_canStandUnder_16 rfl ?_
      refine v_iload_n C dX1_canStandUnder_17 rfl ?_
      refine v_callV (As := [_]) (n := 1) C (ct_X1_isTraitOrNone l co ts _) rfl i_co (by decide) rfl ⟨wd133, wd134, wd135, wd15, wd136⟩ ⟨rfl, hy_X1_isTraitOrNone⟩ rfl ⟨Nat.le_of_ble_eq_true rfl, Nat.le_of_ble_eq_true rfl⟩ (Nat.le_of_ble_eq_true rfl) ⟨Nat.le_of_ble_eq_true rfl, Nat.le_of_ble_eq_true rfl⟩ dX1_canStandUnder_18 ⟨rfl, i_co, e_ts, i_ts⟩ (fun r_18 S_18 h_18 => ?_)
      obtain ⟨rfl, q_18⟩ := h_18
      obtain rfl := q_18.symm
      refine v_if_ne (tgt := 26) C dX1_canStandUnder_21 (by decide) (fun c_21 => ?_) (fun c_21 => ?_)
      · skip
        refine v_iload_n C dX1_canStandUnder_26 rfl ?_
        refine v_iconst (v := -1) C dX1_canStandUnder_27 (by decide) ?_
        refine v_icmp_ne (tgt := 36) C dX1_canStandUnder_28 (by decide) (fun c_28 => ?_) (fun c_28 => ?_)
        · skip
          refine v_iload_n C dX1_canStandUnder_36 rfl ?_
          refine v_iconst (v := -1) C dX1_canStandUnder_37 (by decide) ?_
          refine v_icmp_ne (tgt := 48) C dX1_canStandUnder_38 (by decide) (fun c_38 => ?_) (fun c_38 => ?_)
          · skip
            refine v_iload_n C dX1_canStandUnder_48 rfl ?_
            refine v_iconst (v := -1) C dX1_canStandUnder_49 (by decide) ?_
            refine v_icmp_eq (tgt := 68) C dX1_canStandUnder_50 (by decide) (fun c_50 => ?_) (fun c_50 => ?_)
            · skip
              refine v_iconst (v := 1) C dX1_canStandUnder_68 (by decide) ?_
              refine v_goto (tgt := 73) C dX1_canStandUnder_69 (by decide) ?_
              refine v_zret C hr rfl (Nat.le_of_ble_eq_true rfl) (Nat.le_of_ble_eq_true rfl) dX1_canStandUnder_73 ?_
              refine ⟨?_, rfl⟩
              simp_all [cSU, bI, bI_0]
            · skip
              refine v_iload_n C dX1_canStandUnder_53 rfl ?_
              refine v_iload_n C dX1_canStandUnder_54 rfl ?_
              refine v_icmp_eq (tgt := 72) C dX1_canStandUnder_55 (by decide) (fun c_55 => ?_) (fun c_55 => ?_)
              · skip
                refine v_iconst (v := 0) C dX1_canStandUnder_72 (by decide) ?_
                refine v_zret C hr rfl (Nat.le_of_ble_eq_true rfl) (Nat.le_of_ble_eq_true rfl) dX1_canStandUnder_73 ?_
                refine ⟨?_, rfl⟩
                simp_all [cSU, bI, bI_0]
              · skip
                refine v_iload_n C dX1_canStandUnder_58 rfl ?_
                refine v_iload_n C dX1_canStandUnder_59 rfl ?_
                refine v_icmp_eq (tgt := 72) C dX1_canStandUnder_60 (by decide) (fun c_60 => ?_) (fun c_60 => ?_)
                · skip
                  refine v_iconst (v := 0) C dX1_canStandUnder_72 (by decide) ?_
                  refine v_zret C hr rfl (Nat.le_of_ble_eq_true rfl) (Nat.le_of_ble_eq_true rfl) dX1_canStandUnder_73 ?_
                  refine ⟨?_, rfl⟩
                  simp_all [cSU, bI, bI_0]
                · skip
                  refine v_iload_n C dX1_canStandUnder_63 rfl ?_
                  refine v_iload_n C dX1_canStandUnder_64 rfl ?_
                  refine v_icmp_eq (tgt := 72) C dX1_canStandUnder_65 (by decide) (fun c_65 => ?_) (fun c_65 => ?_)
                  · skip
                    refine v_iconst (v := 0) C dX1_canStandUnder_72 (by decide) ?_
                    refine v_zret C hr rfl (Nat.le_of_ble_eq_true rfl) (Nat.le_of_ble_eq_true rfl) dX1_canStandUnder_73 ?_
                    refine ⟨?_, rfl⟩
                    simp_all [cSU, bI, bI_0]
                  · skip
                    refine v_iconst (v := 1) C dX1_canStandUnder_68 (by decide) ?_
                    refine v_goto (tgt := 73) C dX1_canStandUnder_69 (by decide) ?_
                    refine v_zret C hr rfl (Nat.le_of_ble_eq_true rfl) (Nat.le_of_ble_eq_true rfl) dX1_canStandUnder_73 ?_
                    refine ⟨?_, rfl⟩
                    simp_all [cSU, bI, bI_0]
          · skip
            refine v_iload_n C dX1_canStandUnder_41 rfl ?_
            refine v_iconst (v := -1) C dX1_canStandUnder_42 (by decide) ?_
            refine v_icmp_eq (tgt := 48) C dX1_canStandUnder_43 (by decide) (fun c_43 => ?_) (fun c_43 => ?_)
            · skip
              refine v_iload_n C dX1_canStandUnder_48 rfl ?_
              refine v_iconst (v := -1) C dX1_canStandUnder_49 (by decide) ?_
              refine v_icmp_eq (tgt := 68) C dX1_canStandUnder_50 (by decide) (fun c_50 => ?_) (fun c_50 => ?_)
              · skip
                refine v_iconst (v := 1) C dX1_canStandUnder_68 (by decide) ?_
                refine v_goto (tgt := 73) C dX1_canStandUnder_69 (by decide) ?_
                refine v_zret C hr rfl (Nat.le_of_ble_eq_true rfl) (Nat.le_of_ble_eq_true rfl) dX1_canStandUnder_73 ?_
                refine ⟨?_, rfl⟩
                simp_all [cSU, bI, bI_0]
              · skip
                refine v_iload_n C dX1_canStandUnder_53 rfl ?_
                refine v_iload_n C dX1_canStandUnder_54 rfl ?_
                refine v_icmp_eq (tgt := 72) C dX1_canStandUnder_55 (by decide) (fun c_55 => ?_) (fun c_55 => ?_)
                · skip
                  refine v_iconst (v := 0) C dX1_canStandUnder_72 (by decide) ?_
                  refine v_zret C hr rfl (Nat.le_of_ble_eq_true rfl) (Nat.le_of_ble_eq_true rfl) dX1_canStandUnder_73 ?_
                  refine ⟨?_, rfl⟩
                  simp_all [cSU, bI, bI_0]
                · skip
                  refine v_iload_n C dX1_canStandUnder_58 rfl ?_
                  refine v_iload_n C dX1_canStandUnder_59 rfl ?_
                  refine v_icmp_eq (tgt := 72) C dX1_canStandUnder_60 (by decide) (fun c_60 => ?_) (fun c_60 => ?_)
                  · skip
                    refine v_iconst (v := 0) C dX1_canStandUnder_72 (by decide) ?_
                    refine v_zret C hr rfl (Nat.le_of_ble_eq_true rfl) (Nat.le_of_ble_eq_true rfl) dX1_canStandUnder_73 ?_
                    refine ⟨?_, rfl⟩
                    simp_all [cSU, bI, bI_0]
                  · skip
                    refine v_iload_n C dX1_canStandUnder_63 rfl ?_
                    refine v_iload_n C dX1_canStandUnder_64 rfl ?_
                    refine v_icmp_eq (tgt := 72) C dX1_canStandUnder_65 (by decide) (fun c_65 => ?_) (fun c_65 => ?_)
                    · skip
                      refine v_iconst (v := 0) C dX1_canStandUnder_72 (by decide) ?_
                      refine v_zret C hr rfl (Nat.le_of_ble_eq_true rfl) (Nat.le_of_ble_eq_true rfl) dX1_canStandUnder_73 ?_
                      refine ⟨?_, rfl⟩
                      simp_all [cSU, bI, bI_0]
                    · skip
                      refine v_iconst (v := 1) C dX1_canStandUnder_68 (by decide) ?_
                      refine v_goto (tgt := 73) C dX1_canStandUnder_69 (by decide) ?_
                      refine v_zret C hr rfl (Nat.le_of_ble_eq_true rfl) (Nat.le_of_ble_eq_true rfl) dX1_canStandUnder_73 ?_
                      refine ⟨?_, rfl⟩
                      simp_all [cSU, bI, bI_0]
            · skip
              refine v_iconst (v := 0) C dX1_canStandUnder_46 (by decide) ?_
              refine v_zret C hr rfl (Nat.le_of_ble_eq_true rfl) (Nat.le_of_ble_eq_true rfl) dX1_canStandUnder_47 ?_
              refine ⟨?_, rfl⟩
              simp_all [cSU, bI, bI_0]
        · skip
          refine v_iload_n C dX1_canStandUnder_31 rfl ?_
          refine v_iconst (v := -1) C dX1_canStandUnder_32 (by decide) ?_
          refine v_icmp_ne (tgt := 46) C dX1_canStandUnder_33 (by decide) (fun c_33 => ?_) (fun c_33 => ?_)
          · skip
            refine v_iconst (v := 0) C dX1_canStandUnder_46 (by decide) ?_
            refine v_zret C hr rfl (Nat.le_of_ble_eq_true rfl) (Nat.le_of_ble_eq_true rfl) dX1_canStandUnder_47 ?_
            refine ⟨?_, rfl⟩
            simp_all [cSU, bI, bI_0]
          · skip
            refine v_iload_n C dX1_canStandUnder_36 rfl ?_
            refine v_iconst (v := -1) C dX1_canStandUnder_37 (by decide) ?_
            refine v_icmp_ne (tgt := 48) C dX1_canStandUnder_38 (by decide) (fun c_38 => ?_) (fun c_38 => ?_)
            · skip
              refine v_iload_n C dX1_canStandUnder_48 rfl ?_
              refine v_iconst (v := -1) C dX1_canStandUnder_49 (by decide) ?_
              refine v_icmp_eq (tgt := 68) C dX1_canStandUnder_50 (by decide) (fun c_50 => ?_) (fun c_50 => ?_)
              · skip
                refine v_iconst (v := 1) C dX1_canStandUnder_68 (by decide) ?_
                refine v_goto (tgt := 73) C dX1_canStandUnder_69 (by decide) ?_
                refine v_zret C hr rfl (Nat.le_of_ble_eq_true rfl) (Nat.le_of_ble_eq_true rfl) dX1_canStandUnder_73 ?_
                refine ⟨?_, rfl⟩
                simp_all [cSU, bI, bI_0]
              · skip
                refine v_iload_n C dX1_canStandUnder_53 rfl ?_
                refine v_iload_n C dX1_canStandUnder_54 rfl ?_
                refine v_icmp_eq (tgt := 72) C dX1_canStandUnder_55 (by decide) (fun c_55 => ?_) (fun c_55 => ?_)
                · skip
                  refine v_iconst (v := 0) C dX1_canStandUnder_72 (by decide) ?_
                  refine v_zret C hr rfl (Nat.le_of_ble_eq_true rfl) (Nat.le_of_ble_eq_true rfl) dX1_canStandUnder_73 ?_
                  refine ⟨?_, rfl⟩
                  simp_all [cSU, bI, bI_0]
                · skip
                  refine v_iload_n C dX1_canStandUnder_58 rfl ?_
                  refine v_iload_n C dX1_canStandUnder_59 rfl ?_
                  refine v_icmp_eq (tgt := 72) C dX1_canStandUnder_60 (by decide) (fun c_60 => ?_) (fun c_60 => ?_)
                  · skip
                    refine v_iconst (v := 0) C dX1_canStandUnder_72 (by decide) ?_
                    refine v_zret C hr rfl (Nat.le_of_ble_eq_true rfl) (Nat.le_of_ble_eq_true rfl) dX1_canStandUnder_73 ?_
                    refine ⟨?_, rfl⟩
                    simp_all [cSU, bI, bI_0]
                  · skip
                    refine v_iload_n C dX1_canStandUnder_63 rfl ?_
                    refine v_iload_n C dX1_canStandUnder_64 rfl ?_
                    refine v_icmp_eq (tgt := 72) C dX1_canStandUnder_65 (by decide) (fun c_65 => ?_) (fun c_65 => ?_)
                    · skip
                      refine v_iconst (v := 0) C dX1_canStandUnder_72 (by decide) ?_
                      refine v_zret C hr rfl (Nat.le_of_ble_eq_true rfl) (Nat.le_of_ble_eq_true rfl) dX1_canStandUnder_73 ?_
                      refine ⟨?_, rfl⟩
                      simp_all [cSU, bI, bI_0]
                    · skip
                      refine v_iconst (v := 1) C dX1_canStandUnder_68 (by decide) ?_
                      refine v_goto (tgt := 73) C dX1_canStandUnder_69 (by decide) ?_
                      refine v_zret C hr rfl (Nat.le_of_ble_eq_true rfl) (Nat.le_of_ble_eq_true rfl) dX1_canStandUnder_73 ?_
                      refine ⟨?_, rfl⟩
                      simp_all [cSU, bI, bI_0]
            · skip
              refine v_iload_n C dX1_canStandUnder_41 rfl ?_
              refine v_iconst (v := -1) C dX1_canStandUnder_42 (by decide) ?_
              refine v_icmp_eq (tgt := 48) C dX1_canStandUnder_43 (by decide) (fun c_43 => ?_) (fun c_43 => ?_)
              · skip
                refine v_iload_n C dX1_canStandUnder_48 rfl ?_
                refine v_iconst (v := -1) C dX1_canStandUnder_49 (by decide) ?_
                refine v_icmp_eq (tgt := 68) C dX1_canStandUnder_50 (by decide) (fun c_50 => ?_) (fun c_50 => ?_)
                · skip
                  refine v_iconst (v := 1) C dX1_canStandUnder_68 (by decide) ?_
                  refine v_goto (tgt := 73) C dX1_canStandUnder_69 (by decide) ?_
                  refine v_zret C hr rfl (Nat.le_of_ble_eq_true rfl) (Nat.le_of_ble_eq_true rfl) dX1_canStandUnder_73 ?_
                  refine ⟨?_, rfl⟩
                  simp_all [cSU, bI, bI_0]
                · skip
                  refine v_iload_n C dX1_canStandUnder_53 rfl ?_
                  refine v_iload_n C dX1_canStandUnder_54 rfl ?_
                  refine v_icmp_eq (tgt := 72) C dX1_canStandUnder_55 (by decide) (fun c_55 => ?_) (fun c_55 => ?_)
                  · skip
                    refine v_iconst (v := 0) C dX1_canStandUnder_72 (by decide) ?_
                    refine v_zret C hr rfl (Nat.le_of_ble_eq_true rfl) (Nat.le_of_ble_eq_true rfl) dX1_canStandUnder_73 ?_
                    refine ⟨?_, rfl⟩
                    simp_all [cSU, bI, bI_0]
                  · skip
                    refine v_iload_n C dX1_canStandUnder_58 rfl ?_
                    refine v_iload_n C dX1_canStandUnder_59 rfl ?_
                    refine v_icmp_eq (tgt := 72) C dX1_canStandUnder_60 (by decide) (fun c_60 => ?_) (fun c_60 => ?_)
                    · skip
                      refine v_iconst (v := 0) C dX1_canStandUnder_72 (by decide) ?_
                      refine v_zret C hr rfl (Nat.le_of_ble_eq_true rfl) (Nat.le_of_ble_eq_true rfl) dX1_canStandUnder_73 ?_
                      refine ⟨?_, rfl⟩
                      simp_all [cSU, bI, bI_0]
                    · skip
                      refine v_iload_n C dX1_canStandUnder_63 rfl ?_
                      refine v_iload_n C dX1_canStandUnder_64 rfl ?_
                      refine v_icmp_eq (tgt := 72) C dX1_canStandUnder_65 (by decide) (fun c_65 => ?_) (fun c_65 => ?_)
                      · skip
                        refine v_iconst (v := 0) C dX1_canStandUnder_72 (by decide) ?_
                        refine v_zret C hr rfl (Nat.le_of_ble_eq_true rfl) (Nat.le_of_ble_eq_true rfl) dX1_canStandUnder_73 ?_
                        refine ⟨?_, rfl⟩
                        simp_all [cSU, bI, bI_0]
                      · skip
                        refine v_iconst (v := 1) C dX1_canStandUnder_68 (by decide) ?_
                        refine v_goto (tgt := 73) C dX1_canStandUnder_69 (by decide) ?_
                        refine v_zret C hr rfl (Nat.le_of_ble_eq_true rfl) (Nat.le_of_ble_eq_true rfl) dX1_canStandUnder_73 ?_
                        refine ⟨?_, rfl⟩
                        simp_all [cSU, bI, bI_0]
              · skip
                refine v_iconst (v := 0) C dX1_canStandUnder_46 (by decide) ?_
                refine v_zret C hr rfl (Nat.le_of_ble_eq_true rfl) (Nat.le_of_ble_eq_true rfl) dX1_canStandUnder_47 ?_
                refine ⟨?_, rfl⟩
                simp_all [cSU, bI, bI_0]
      · skip
        refine v_iconst (v := 0) C dX1_canStandUnder_24 (by decide) ?_
        refine v_zret C hr rfl (Nat.le_of_ble_eq_true rfl) (Nat.le_of_ble_eq_true rfl) dX1_canStandUnder_25 ?_
        refine ⟨?_, rfl⟩
        simp_all [cSU, bI, bI_0]

theorem dX3_empty_0 : decode cX3_empty 0 = .ok (.aload_n 0, 1) := by decide +kernel
theorem dX3_empty_1 : decode cX3_empty 1 = .ok (.getfield 15, 3) := by decide +kernel
theorem dX3_empty_4 : decode cX3_empty 4 = .ok (.iconst (-1), 1) := by decide +kernel
theorem dX3_empty_5 : decode cX3_empty 5 = .ok (.invokestatic 18, 3) := by decide +kernel
theorem dX3_empty_8 : decode cX3_empty 8 = .ok (.aload_n 0, 1) := by decide +kernel
theorem dX3_empty_9 : decode cX3_empty 9 = .ok (.iconst 0, 1) := by decide +kernel
theorem dX3_empty_10 : decode cX3_empty 10 = .ok (.putfield 24, 3) := by decide +kernel
theorem dX3_empty_13 : decode cX3_empty 13 = .ok (.return_, 1) := by decide +kernel
set_option maxRecDepth 100000 in
set_option maxHeartbeats 4000000 in
theorem ct_X3_empty (l : Launch) (h r q : Nat) : Ct l yX3_empty cX3_empty 1 none 1 0 0 23 (fun S av => av = [.ref h] ∧ lineAt S h r q) (fun S _ r0 S' => r0 = none ∧ S' = sI (sFill S q 20 (-1)) 194 h 0) := by
  refine ct_of (by decide) (fun S av h => by obtain ⟨rfl, ⟨i_h, e_r, i_r, e_q, i_q⟩⟩ := h; exact Nat.le_of_ble_eq_true rfl) ?_
  intro p e s m args below meth c D G bs S av C hr hin hpre
  obtain ⟨rfl, ⟨i_h, e_r, i_r, e_q, i_q⟩⟩ := hpre
  refine v_aload_n C dX3_empty_0 rfl ?_
  refine r3_15 (b := q) C i_h e_q dX3_empty_1 ?_
  refine v_iconst (v := -1) C dX3_empty_4 (by decide) ?_
  refine v_callS (As := [_, _]) (n := 2) C (ct_J7_fill_53178 l q 20 (-1)) rfl ⟨wd54, wd55, wd56, wd57⟩ hy_J7_fill_53178 rfl ⟨Nat.le_of_ble_eq_true rfl, Nat.le_of_ble_eq_true rfl⟩ (Nat.le_of_ble_eq_true rfl) ⟨Nat.le_of_ble_eq_true rfl, Nat.le_of_ble_eq_true rfl⟩ dX3_empty_5 ⟨rfl, i_q, by decide⟩ (fun r_5 S_5 h_5 => ?_)
  obtain ⟨rfl, e_5⟩ := h_5
  have i_h : is S_5 h 3 := by rw [e_5]; exact is_same (same_sFill ..) i_h
  refine v_aload_n C dX3_empty_8 rfl ?_
  refine v_iconst (v := 0) C dX3_empty_9 (by decide) ?_
  refine p3_24 C i_h dX3_empty_10 ?_
  refine V.gen (fun S_10 e_10 => ?_)
  have x_10 := x_sI e_10
  have i_h := is_ext x_10 i_h
  refine v_vret C hr (Nat.le_of_ble_eq_true rfl) (Nat.le_of_ble_eq_true rfl) dX3_empty_13 ?_
  exact ⟨rfl, by rw [e_10, e_5]⟩

def atV (S : Mem) (h r : Nat) (i : Int32) : Int32 := if isB i (mI S 194 h) = true ∧ i < 20 then mA S r i.toNatClampNeg else -1
theorem dX3_at_0 : decode cX3_at 0 = .ok (.iload_n 1, 1) := by decide +kernel
theorem dX3_at_1 : decode cX3_at 1 = .ok (.aload_n 0, 1) := by decide +kernel
theorem dX3_at_2 : decode cX3_at 2 = .ok (.getfield 24, 3) := by decide +kernel
theorem dX3_at_5 : decode cX3_at 5 = .ok (.invokestatic 28, 3) := by decide +kernel
theorem dX3_at_8 : decode cX3_at 8 = .ok (.ifCond .eq 18, 3) := by decide +kernel
theorem dX3_at_11 : decode cX3_at 11 = .ok (.iload_n 1, 1) := by decide +kernel
theorem dX3_at_12 : decode cX3_at 12 = .ok (.bipush 20, 2) := by decide +kernel
theorem dX3_at_14 : decode cX3_at 14 = .ok (.if_icmp .ge 12, 3) := by decide +kernel
theorem dX3_at_17 : decode cX3_at 17 = .ok (.aload_n 0, 1) := by decide +kernel
theorem dX3_at_18 : decode cX3_at 18 = .ok (.getfield 9, 3) := by decide +kernel
theorem dX3_at_21 : decode cX3_at 21 = .ok (.iload_n 1, 1) := by decide +kernel
theorem dX3_at_22 : decode cX3_at 22 = .ok (.iaload, 1) := by decide +kernel
theorem dX3_at_23 : decode cX3_at 23 = .ok (.goto 4, 3) := by decide +kernel
theorem dX3_at_26 : decode cX3_at 26 = .ok (.iconst (-1), 1) := by decide +kernel
theorem dX3_at_27 : decode cX3_at 27 = .ok (.ireturn, 1) := by decide +kernel
set_option maxRecDepth 100000 in
set_option maxHeartbeats 4000000 in
theorem ct_X3_at (l : Launch) (h r q : Nat) (i : Int32) : Ct l yX3_at cX3_at 2 (some .int) 1 0 0 21 (fun S av => av = [.ref h, .int i] ∧ lineAt S h r q) (fun S _ r0 S' => r0 = some (.int (atV S h r i)) ∧ S' = S) := by
  refine ct_of (by decide) (fun S av h => by obtain ⟨rfl, ⟨i_h, e_r, i_r, e_q, i_q⟩⟩ := h; exact Nat.le_of_ble_eq_true rfl) ?_
  intro p e s m args below meth c D G bs S av C hr hin hpre
  obtain ⟨rfl, ⟨i_h, e_r, i_r, e_q, i_q⟩⟩ := hpre
  refine v_iload_n C dX3_at_0 rfl ?_
  refine v_aload_n C dX3_at_1 rfl ?_
  refine g3_24 C i_h dX3_at_2 ?_
  refine v_callSN (As := [_, _]) (n := 2) C (ct_X9_isBelow l _ _) rfl ⟨(by decide +kernel), wd141, wd2, wd142⟩ hy_X9_isBelow rfl ⟨Nat.le_of_ble_eq_true rfl, Nat.le_of_ble_eq_true rfl⟩ (Nat.le_of_ble_eq_true rfl) ⟨Nat.le_of_ble_eq_true rfl, Nat.le_of_ble_eq_true rfl⟩ dX3_at_5 rfl (fun r_5 S_5 h_5 => ?_)
  obtain ⟨rfl, q_5⟩ := h_5
  obtain rfl := q_5.symm
  refine v_if_eq (tgt := 26) C dX3_at_8 (by decide) (fun c_8 => ?_) (fun c_8 => ?_)
  · skip
    refine v_iconst (v := -1) C dX3_at_26 (by decide) ?_
    refine v_iret C hr (Nat.le_of_ble_eq_true rfl) (Nat.le_of_ble_eq_true rfl) dX3_at_27 ?_
    refine ⟨?_, rfl⟩
    first
      | (rw [show atV S h r i = -1 from by unfold atV; rw [if_neg (fun z => by rw [bI_f c_8] at z; exact absurd z.1 (by decide))]])
      | (rw [show atV S h r i = -1 from by unfold atV; rw [if_neg (fun z => absurd z.2 (Int32.not_lt.mpr c_14))]])
      | (rw [show atV S h r i = mA S r i.toNatClampNeg from by unfold atV; rw [if_pos ⟨bI_t c_8, Int32.not_le.mp c_14⟩]])
  · skip
    refine v_iload_n C dX3_at_11 rfl ?_
    refine v_bipush (v := 20) C dX3_at_12 (by decide) ?_
    refine v_icmp_ge (tgt := 26) C dX3_at_14 (by decide) (fun c_14 => ?_) (fun c_14 => ?_)
    · skip
      refine v_iconst (v := -1) C dX3_at_26 (by decide) ?_
      refine v_iret C hr (Nat.le_of_ble_eq_true rfl) (Nat.le_of_ble_eq_true rfl) dX3_at_27 ?_
      refine ⟨?_, rfl⟩
      first
        | (rw [show atV S h r i = -1 from by unfold atV; rw [if_neg (fun z => by rw [bI_f c_8] at z; exact absurd z.1 (by decide))]])
        | (rw [show atV S h r i = -1 from by unfold atV; rw [if_neg (fun z => absurd z.2 (Int32.not_lt.mpr c_14))]])
        | (rw [show atV S h r i = mA S r i.toNatClampNeg from by unfold atV; rw [if_pos ⟨bI_t c_8, Int32.not_le.mp c_14⟩]])
    · skip
      refine v_aload_n C dX3_at_17 rfl ?_
      refine r3_9 (b := r) C i_h e_r dX3_at_18 ?_
      refine v_iload_n C dX3_at_21 rfl ?_
      refine v_iald C i_r (vp_in_b ⟨(isB_t (bI_t c_8)).1, Int32.not_le.mp c_14⟩ rfl) dX3_at_22 ?_
      refine v_goto (tgt := 27) C dX3_at_23 (by decide) ?_
      refine v_iret C hr (Nat.le_of_ble_eq_true rfl) (Nat.le_of_ble_eq_true rfl) dX3_at_27 ?_
      refine ⟨?_, rfl⟩
      first
        | (rw [show atV S h r i = -1 from by unfold atV; rw [if_neg (fun z => by rw [bI_f c_8] at z; exact absurd z.1 (by decide))]])
        | (rw [show atV S h r i = -1 from by unfold atV; rw [if_neg (fun z => absurd z.2 (Int32.not_lt.mpr c_14))]])
        | (rw [show atV S h r i = mA S r i.toNatClampNeg from by unfold atV; rw [if_pos ⟨bI_t c_8, Int32.not_le.mp c_14⟩]])

theorem isB_N {k n : Nat} {b : Int32} (hk : k < n) (hb : b.toInt = n) : isB (nI k) b = true := by
  have hn : n < 2 ^ 31 := by have := Int32.toInt_lt b; omega
  simp only [isB, Bool.and_eq_true, decide_eq_true_eq]
  exact ⟨nI_pos' (by omega), Int32.lt_iff_toInt_lt.mpr (by rw [hb, nI_toInt (by omega)]; omega)⟩
theorem dX3_add_0 : decode cX3_add 0 = .ok (.iload_n 1, 1) := by decide +kernel
theorem dX3_add_1 : decode cX3_add 1 = .ok (.bipush 20, 2) := by decide +kernel
theorem dX3_add_3 : decode cX3_add 3 = .ok (.invokestatic 28, 3) := by decide +kernel
theorem dX3_add_6 : decode cX3_add 6 = .ok (.ifCond .eq 45, 3) := by decide +kernel
theorem dX3_add_9 : decode cX3_add 9 = .ok (.aload_n 0, 1) := by decide +kernel
theorem dX3_add_10 : decode cX3_add 10 = .ok (.getfield 24, 3) := by decide +kernel
theorem dX3_add_13 : decode cX3_add 13 = .ok (.bipush 20, 2) := by decide +kernel
theorem dX3_add_15 : decode cX3_add 15 = .ok (.invokestatic 28, 3) := by decide +kernel
theorem dX3_add_18 : decode cX3_add 18 = .ok (.ifCond .eq 33, 3) := by decide +kernel
theorem dX3_add_21 : decode cX3_add 21 = .ok (.aload_n 0, 1) := by decide +kernel
theorem dX3_add_22 : decode cX3_add 22 = .ok (.getfield 9, 3) := by decide +kernel
theorem dX3_add_25 : decode cX3_add 25 = .ok (.aload_n 0, 1) := by decide +kernel
theorem dX3_add_26 : decode cX3_add 26 = .ok (.getfield 24, 3) := by decide +kernel
theorem dX3_add_29 : decode cX3_add 29 = .ok (.iload_n 1, 1) := by decide +kernel
theorem dX3_add_30 : decode cX3_add 30 = .ok (.iastore, 1) := by decide +kernel
theorem dX3_add_31 : decode cX3_add 31 = .ok (.aload_n 0, 1) := by decide +kernel
theorem dX3_add_32 : decode cX3_add 32 = .ok (.getfield 15, 3) := by decide +kernel
theorem dX3_add_35 : decode cX3_add 35 = .ok (.iload_n 1, 1) := by decide +kernel
theorem dX3_add_36 : decode cX3_add 36 = .ok (.aload_n 0, 1) := by decide +kernel
theorem dX3_add_37 : decode cX3_add 37 = .ok (.getfield 24, 3) := by decide +kernel
theorem dX3_add_40 : decode cX3_add 40 = .ok (.iastore, 1) := by decide +kernel
theorem dX3_add_41 : decode cX3_add 41 = .ok (.aload_n 0, 1) := by decide +kernel
theorem dX3_add_42 : decode cX3_add 42 = .ok (.dup, 1) := by decide +kernel
theorem dX3_add_43 : decode cX3_add 43 = .ok (.getfield 24, 3) := by decide +kernel
theorem dX3_add_46 : decode cX3_add 46 = .ok (.iconst 1, 1) := by decide +kernel
theorem dX3_add_47 : decode cX3_add 47 = .ok (.iadd, 1) := by decide +kernel
theorem dX3_add_48 : decode cX3_add 48 = .ok (.putfield 24, 3) := by decide +kernel
theorem dX3_add_51 : decode cX3_add 51 = .ok (.return_, 1) := by decide +kernel
set_option maxRecDepth 100000 in
set_option maxHeartbeats 4000000 in
theorem ct_X3_add (l : Launch) (h r q k j : Nat) : Ct l yX3_add cX3_add 2 none 1 0 0 21 (fun S av => av = [.ref h, .int (nI j)] ∧ lineAt S h r q ∧ mI S 194 h = nI k ∧ k < 20 ∧ j < 20) (fun S _ r0 S' => r0 = none ∧ S' = sI (sA (sA S r k (nI j)) q j (nI k)) 194 h (nI (k + 1))) := by
  refine ct_of (by decide) (fun S av h => by obtain ⟨rfl, ⟨i_h, e_r, i_r, e_q, i_q⟩, e_l, hk, hj⟩ := h; exact Nat.le_of_ble_eq_true rfl) ?_
  intro p e s m args below meth c D G bs S av C hr hin hpre
  obtain ⟨rfl, ⟨i_h, e_r, i_r, e_q, i_q⟩, e_l, hk, hj⟩ := hpre
  refine v_iload_n C dX3_add_0 rfl ?_
  refine v_bipush (v := 20) C dX3_add_1 (by decide) ?_
  refine v_callSN (As := [_, _]) (n := 2) C (ct_X9_isBelow l _ _) rfl ⟨(by decide +kernel), wd141, wd2, wd142⟩ hy_X9_isBelow rfl ⟨Nat.le_of_ble_eq_true rfl, Nat.le_of_ble_eq_true rfl⟩ (Nat.le_of_ble_eq_true rfl) ⟨Nat.le_of_ble_eq_true rfl, Nat.le_of_ble_eq_true rfl⟩ dX3_add_3 rfl (fun r_3 S_3 h_3 => ?_)
  obtain ⟨rfl, q_3⟩ := h_3
  obtain rfl := q_3.symm
  refine v_if_eq (tgt := 51) C dX3_add_6 (by decide) (fun c_6 => ?_) (fun c_6 => ?_)
  · skip
    exact absurd (bI_f c_6) (by rw [isB_N hj (by decide)]; decide)
  · skip
    refine v_aload_n C dX3_add_9 rfl ?_
    refine g3_24 C i_h dX3_add_10 ?_
    rw [e_l]
    refine v_bipush (v := 20) C dX3_add_13 (by decide) ?_
    refine v_callSN (As := [_, _]) (n := 2) C (ct_X9_isBelow l _ _) rfl ⟨(by decide +kernel), wd141, wd2, wd142⟩ hy_X9_isBelow rfl ⟨Nat.le_of_ble_eq_true rfl, Nat.le_of_ble_eq_true rfl⟩ (Nat.le_of_ble_eq_true rfl) ⟨Nat.le_of_ble_eq_true rfl, Nat.le_of_ble_eq_true rfl⟩ dX3_add_15 rfl (fun r_15 S_15 h_15 => ?_)
    obtain ⟨rfl, q_15⟩ := h_15
    obtain rfl := q_15.symm
    refine v_if_eq (tgt := 51) C dX3_add_18 (by decide) (fun c_18 => ?_) (fun c_18 => ?_)
    · skip
      exact absurd (bI_f c_18) (by rw [isB_N hk (by decide)]; decide)
    · skip
      refine v_aload_n C dX3_add_21 rfl ?_
      refine r3_9 (b := r) C i_h e_r dX3_add_22 ?_
      refine v_aload_n C dX3_add_25 rfl ?_
      refine g3_24 C i_h dX3_add_26 ?_
      rw [e_l]
      refine v_iload_n C dX3_add_29 rfl ?_
      refine v_iast C i_r (vp_in_nI hk (by decide)) dX3_add_30 ?_
      refine V.gen (fun S_30 e_30 => ?_)
      have x_30 := x_sA e_30
      have i_h := is_ext x_30 i_h
      have i_r := isA_ext x_30 i_r
      have i_q := isA_ext x_30 i_q
      refine v_aload_n C dX3_add_31 rfl ?_
      refine r3_15 (b := q) C i_h (by rw [e_30, mO_sA]; exact e_q) dX3_add_32 ?_
      refine v_iload_n C dX3_add_35 rfl ?_
      refine v_aload_n C dX3_add_36 rfl ?_
      refine g3_24 C i_h dX3_add_37 ?_
      rw [e_30, mI_sA, e_l, ← e_30]
      refine v_iast C i_q (vp_in_nI hj (by decide)) dX3_add_40 ?_
      refine V.gen (fun S_40 e_40 => ?_)
      have x_40 := x_sA e_40
      have i_h := is_ext x_40 i_h
      have i_r := isA_ext x_40 i_r
      have i_q := isA_ext x_40 i_q
      refine v_aload_n C dX3_add_41 rfl ?_
      refine v_dup C dX3_add_42 rfl ?_
      refine g3_24 C i_h dX3_add_43 ?_
      rw [show mI S_40 194 h = nI k from by rw [e_40, mI_sA, e_30, mI_sA, e_l]]
      refine v_iconst (v := 1) C dX3_add_46 (by decide) ?_
      refine v_iadd C dX3_add_47 ?_
      refine p3_24 C i_h dX3_add_48 ?_
      refine V.gen (fun S_48 e_48 => ?_)
      have x_48 := x_sI e_48
      have i_h := is_ext x_48 i_h
      have i_r := isA_ext x_48 i_r
      have i_q := isA_ext x_48 i_q
      refine v_vret C hr (Nat.le_of_ble_eq_true rfl) (Nat.le_of_ble_eq_true rfl) dX3_add_51 ?_
      refine ⟨rfl, ?_⟩
      rw [e_48, e_40, e_30, nI_clamp (by omega : k < 2 ^ 31), nI_clamp (by omega : j < 2 ^ 31), ← nI_1]

theorem dX3_addAll_0 : decode cX3_addAll 0 = .ok (.iconst 0, 1) := by decide +kernel
theorem dX3_addAll_1 : decode cX3_addAll 1 = .ok (.istore_n 2, 1) := by decide +kernel
theorem dX3_addAll_2 : decode cX3_addAll 2 = .ok (.iload_n 2, 1) := by decide +kernel
theorem dX3_addAll_3 : decode cX3_addAll 3 = .ok (.aload_n 1, 1) := by decide +kernel
theorem dX3_addAll_4 : decode cX3_addAll 4 = .ok (.getfield 24, 3) := by decide +kernel
theorem dX3_addAll_7 : decode cX3_addAll 7 = .ok (.if_icmp .ge 18, 3) := by decide +kernel
theorem dX3_addAll_25 : decode cX3_addAll 25 = .ok (.return_, 1) := by decide +kernel
set_option maxRecDepth 100000 in
set_option maxHeartbeats 4000000 in
theorem ct_X3_addAll (l : Launch) (h o : Nat) : Ct l yX3_addAll cX3_addAll 3 none 2 0 0 60 (fun S av => av = [.ref h, .ref o] ∧ is S h 3 ∧ is S o 3 ∧ mI S 194 o = 0) (fun S _ r0 S' => r0 = none ∧ S' = S) := by
  refine ct_of (by decide) (fun S av h => by obtain ⟨rfl, i_h, i_o, e_l⟩ := h; exact Nat.le_of_ble_eq_true rfl) ?_
  intro p e s m args below meth c D G bs S av C hr hin hpre
  obtain ⟨rfl, i_h, i_o, e_l⟩ := hpre
  refine v_iconst (v := 0) C dX3_addAll_0 (by decide) ?_
  refine v_istore_n C dX3_addAll_1 (by decide) rfl ?_
  refine v_iload_n C dX3_addAll_2 rfl ?_
  refine v_aload_n C dX3_addAll_3 rfl ?_
  refine g3_24 C i_o dX3_addAll_4 ?_
  rw [e_l]
  refine v_icmp_ge (tgt := 25) C dX3_addAll_7 (by decide) (fun c_7 => ?_) (fun c_7 => ?_)
  · skip
    refine v_vret C hr (Nat.le_of_ble_eq_true rfl) (Nat.le_of_ble_eq_true rfl) dX3_addAll_25 ?_
    exact ⟨rfl, rfl⟩
  · skip
    exact absurd (Int32.le_refl 0) c_7

def begS (S : Mem) (mg gl gq ml mq : Nat) : Mem := sI (sI (sFill (sI (sFill S gq 20 (-1)) 194 gl 0) mq 20 (-1)) 194 ml 0) 260 mg 0
theorem same_begS (S : Mem) (mg gl gq ml mq : Nat) : same S (begS S mg gl gq ml mq) := same_tr (same_tr (same_tr (same_tr (same_sFill ..) (same_sI ..)) (same_sFill ..)) (same_sI ..)) (same_sI ..)
theorem dX4_begin_0 : decode cX4_begin 0 = .ok (.aload_n 0, 1) := by decide +kernel
theorem dX4_begin_1 : decode cX4_begin 1 = .ok (.getfield 22, 3) := by decide +kernel
theorem dX4_begin_4 : decode cX4_begin 4 = .ok (.invokevirtual 29, 3) := by decide +kernel
theorem dX4_begin_7 : decode cX4_begin 7 = .ok (.aload_n 0, 1) := by decide +kernel
theorem dX4_begin_8 : decode cX4_begin 8 = .ok (.getfield 26, 3) := by decide +kernel
theorem dX4_begin_11 : decode cX4_begin 11 = .ok (.invokevirtual 29, 3) := by decide +kernel
theorem dX4_begin_14 : decode cX4_begin 14 = .ok (.aload_n 0, 1) := by decide +kernel
theorem dX4_begin_15 : decode cX4_begin 15 = .ok (.iconst 0, 1) := by decide +kernel
theorem dX4_begin_16 : decode cX4_begin 16 = .ok (.putfield 32, 3) := by decide +kernel
theorem dX4_begin_19 : decode cX4_begin 19 = .ok (.return_, 1) := by decide +kernel
set_option maxRecDepth 100000 in
set_option maxHeartbeats 4000000 in
theorem ct_X4_begin (l : Launch) (mg rw ft gl gr gq ml mr mq : Nat) : Ct l yX4_begin cX4_begin 1 none 2 0 0 43 (fun S av => av = [.ref mg] ∧ mergerAt S mg rw ft gl gr gq ml mr mq) (fun S _ r0 S' => r0 = none ∧ S' = begS S mg gl gq ml mq) := by
  refine ct_of (by decide) (fun S av h => by obtain ⟨rfl, ⟨i_mg, e_rw, i_rw, e_ft, i_ft, e_gl, k_gl, e_ml, k_ml⟩⟩ := h; exact Nat.le_of_ble_eq_true rfl) ?_
  intro p e s m args below meth c D G bs S av C hr hin hpre
  obtain ⟨rfl, ⟨i_mg, e_rw, i_rw, e_ft, i_ft, e_gl, k_gl, e_ml, k_ml⟩⟩ := hpre
  refine v_aload_n C dX4_begin_0 rfl ?_
  refine r4_22 (b := gl) C i_mg e_gl dX4_begin_1 ?_
  refine v_callV (As := []) (n := 0) C (ct_X3_empty l gl gr gq) rfl k_gl.1 (by decide) rfl ⟨wd152, wd153, wd154, wd45, wd155⟩ ⟨rfl, hy_X3_empty⟩ rfl ⟨Nat.le_of_ble_eq_true rfl, Nat.le_of_ble_eq_true rfl⟩ (Nat.le_of_ble_eq_true rfl) ⟨Nat.le_of_ble_eq_true rfl, Nat.le_of_ble_eq_true rfl⟩ dX4_begin_4 ⟨rfl, k_gl⟩ (fun r_4 S_4 h_4 => ?_)
  obtain ⟨rfl, e_4⟩ := h_4
  have sm : same S S_4 := by rw [e_4]; exact same_tr (same_sFill ..) (same_sI ..)
  have i_mg := is_same sm i_mg
  have k_ml := lineAt_same sm k_ml
  have e_ml : mO S_4 259 mg = some ml := by rw [sm.2.2.2]; exact e_ml
  refine v_aload_n C dX4_begin_7 rfl ?_
  refine r4_26 (b := ml) C i_mg e_ml dX4_begin_8 ?_
  refine v_callV (As := []) (n := 0) C (ct_X3_empty l ml mr mq) rfl k_ml.1 (by decide) rfl ⟨wd152, wd153, wd154, wd45, wd155⟩ ⟨rfl, hy_X3_empty⟩ rfl ⟨Nat.le_of_ble_eq_true rfl, Nat.le_of_ble_eq_true rfl⟩ (Nat.le_of_ble_eq_true rfl) ⟨Nat.le_of_ble_eq_true rfl, Nat.le_of_ble_eq_true rfl⟩ dX4_begin_11 ⟨rfl, k_ml⟩ (fun r_11 S_11 h_11 => ?_)
  obtain ⟨rfl, e_11⟩ := h_11
  have i_mg : is S_11 mg 4 := is_same (by rw [e_11]; exact same_tr (same_sFill ..) (same_sI ..)) i_mg
  refine v_aload_n C dX4_begin_14 rfl ?_
  refine v_iconst (v := 0) C dX4_begin_15 (by decide) ?_
  refine p4_32 C i_mg dX4_begin_16 ?_
  refine V.gen (fun S_16 e_16 => ?_)
  have x_16 := x_sI e_16
  refine v_vret C hr (Nat.le_of_ble_eq_true rfl) (Nat.le_of_ble_eq_true rfl) dX4_begin_19 ?_
  exact ⟨rfl, by rw [e_16, e_11, e_4]; rfl⟩

theorem dX4_addRow_0 : decode cX4_addRow 0 = .ok (.aload_n 0, 1) := by decide +kernel
theorem dX4_addRow_1 : decode cX4_addRow 1 = .ok (.getfield 32, 3) := by decide +kernel
theorem dX4_addRow_4 : decode cX4_addRow 4 = .ok (.bipush 7, 2) := by decide +kernel
theorem dX4_addRow_6 : decode cX4_addRow 6 = .ok (.invokestatic 44, 3) := by decide +kernel
theorem dX4_addRow_9 : decode cX4_addRow 9 = .ok (.ifCond .eq 33, 3) := by decide +kernel
theorem dX4_addRow_12 : decode cX4_addRow 12 = .ok (.aload_n 0, 1) := by decide +kernel
theorem dX4_addRow_13 : decode cX4_addRow 13 = .ok (.getfield 13, 3) := by decide +kernel
theorem dX4_addRow_16 : decode cX4_addRow 16 = .ok (.aload_n 0, 1) := by decide +kernel
theorem dX4_addRow_17 : decode cX4_addRow 17 = .ok (.getfield 32, 3) := by decide +kernel
theorem dX4_addRow_20 : decode cX4_addRow 20 = .ok (.aload_n 1, 1) := by decide +kernel
theorem dX4_addRow_21 : decode cX4_addRow 21 = .ok (.aastore, 1) := by decide +kernel
theorem dX4_addRow_22 : decode cX4_addRow 22 = .ok (.aload_n 0, 1) := by decide +kernel
theorem dX4_addRow_23 : decode cX4_addRow 23 = .ok (.getfield 17, 3) := by decide +kernel
theorem dX4_addRow_26 : decode cX4_addRow 26 = .ok (.aload_n 0, 1) := by decide +kernel
theorem dX4_addRow_27 : decode cX4_addRow 27 = .ok (.getfield 32, 3) := by decide +kernel
theorem dX4_addRow_30 : decode cX4_addRow 30 = .ok (.iconst 0, 1) := by decide +kernel
theorem dX4_addRow_31 : decode cX4_addRow 31 = .ok (.iastore, 1) := by decide +kernel
theorem dX4_addRow_32 : decode cX4_addRow 32 = .ok (.aload_n 0, 1) := by decide +kernel
theorem dX4_addRow_33 : decode cX4_addRow 33 = .ok (.dup, 1) := by decide +kernel
theorem dX4_addRow_34 : decode cX4_addRow 34 = .ok (.getfield 32, 3) := by decide +kernel
theorem dX4_addRow_37 : decode cX4_addRow 37 = .ok (.iconst 1, 1) := by decide +kernel
theorem dX4_addRow_38 : decode cX4_addRow 38 = .ok (.iadd, 1) := by decide +kernel
theorem dX4_addRow_39 : decode cX4_addRow 39 = .ok (.putfield 32, 3) := by decide +kernel
theorem dX4_addRow_42 : decode cX4_addRow 42 = .ok (.return_, 1) := by decide +kernel
set_option maxRecDepth 100000 in
set_option maxHeartbeats 4000000 in
theorem ct_X4_addRow (l : Launch) (mg rw ft gl gr gq ml mr mq k ln : Nat) : Ct l yX4_addRow cX4_addRow 2 none 1 0 0 21 (fun S av => av = [.ref mg, .ref ln] ∧ mergerAt S mg rw ft gl gr gq ml mr mq ∧ mI S 260 mg = nI k ∧ k < 7 ∧ is S ln 3) (fun S _ r0 S' => r0 = none ∧ S' = sI (sA (sP S rw k (some ln)) ft k 0) 260 mg (nI (k + 1))) := by
  refine ct_of (by decide) (fun S av h => by obtain ⟨rfl, ⟨i_mg, e_rw, i_rw, e_ft, i_ft, e_gl, k_gl, e_ml, k_ml⟩, e_c, hk, i_ln⟩ := h; exact Nat.le_of_ble_eq_true rfl) ?_
  intro p e s m args below meth c D G bs S av C hr hin hpre
  obtain ⟨rfl, ⟨i_mg, e_rw, i_rw, e_ft, i_ft, e_gl, k_gl, e_ml, k_ml⟩, e_c, hk, i_ln⟩ := hpre
  refine v_aload_n C dX4_addRow_0 rfl ?_
  refine g4_32 C i_mg dX4_addRow_1 ?_
  rw [e_c]
  refine v_bipush (v := 7) C dX4_addRow_4 (by decide) ?_
  refine v_callSN (As := [_, _]) (n := 2) C (ct_X9_isBelow l _ _) rfl ⟨(by decide +kernel), wd141, wd2, wd142⟩ hy_X9_isBelow rfl ⟨Nat.le_of_ble_eq_true rfl, Nat.le_of_ble_eq_true rfl⟩ (Nat.le_of_ble_eq_true rfl) ⟨Nat.le_of_ble_eq_true rfl, Nat.le_of_ble_eq_true rfl⟩ dX4_addRow_6 rfl (fun r_6 S_6 h_6 => ?_)
  obtain ⟨rfl, q_6⟩ := h_6
  obtain rfl := q_6.symm
  refine v_if_eq (tgt := 42) C dX4_addRow_9 (by decide) (fun c_9 => ?_) (fun c_9 => ?_)
  · skip
    exact absurd (bI_f c_9) (by rw [isB_N hk (by decide)]; decide)
  · skip
    refine v_aload_n C dX4_addRow_12 rfl ?_
    refine r4_13 (b := rw) C i_mg e_rw dX4_addRow_13 ?_
    refine v_aload_n C dX4_addRow_16 rfl ?_
    refine g4_32 C i_mg dX4_addRow_17 ?_
    rw [e_c]
    refine v_aload_n C dX4_addRow_20 rfl ?_
    refine v_aast (t0 := 4) C i_rw (by decide) i_ln (by decide) rfl rfl (vp_in_nI hk (by decide)) dX4_addRow_21 ?_
    refine V.gen (fun S_21 e_21 => ?_)
    have x_21 := x_sP e_21
    have i_mg := is_ext x_21 i_mg
    have i_ft := isA_ext x_21 i_ft
    refine v_aload_n C dX4_addRow_22 rfl ?_
    refine r4_17 (b := ft) C i_mg (by rw [e_21, mO_sP]; exact e_ft) dX4_addRow_23 ?_
    refine v_aload_n C dX4_addRow_26 rfl ?_
    refine g4_32 C i_mg dX4_addRow_27 ?_
    rw [e_21, mI_sP, e_c, ← e_21]
    refine v_iconst (v := 0) C dX4_addRow_30 (by decide) ?_
    refine v_iast C i_ft (vp_in_nI hk (by decide)) dX4_addRow_31 ?_
    refine V.gen (fun S_31 e_31 => ?_)
    have x_31 := x_sA e_31
    have i_mg := is_ext x_31 i_mg
    have i_ft := isA_ext x_31 i_ft
    refine v_aload_n C dX4_addRow_32 rfl ?_
    refine v_dup C dX4_addRow_33 rfl ?_
    refine g4_32 C i_mg dX4_addRow_34 ?_
    rw [show mI S_31 260 mg = nI k from by rw [e_31, mI_sA, e_21, mI_sP, e_c]]
    refine v_iconst (v := 1) C dX4_addRow_37 (by decide) ?_
    refine v_iadd C dX4_addRow_38 ?_
    refine p4_32 C i_mg dX4_addRow_39 ?_
    refine V.gen (fun S_39 e_39 => ?_)
    have x_39 := x_sI e_39
    have i_mg := is_ext x_39 i_mg
    have i_ft := isA_ext x_39 i_ft
    refine v_vret C hr (Nat.le_of_ble_eq_true rfl) (Nat.le_of_ble_eq_true rfl) dX4_addRow_42 ?_
    refine ⟨rfl, ?_⟩
    rw [e_39, e_31, e_21, nI_clamp (by omega : k < 2 ^ 31), ← nI_1]

theorem dX4_firstOf_0 : decode cX4_firstOf 0 = .ok (.iload_n 1, 1) := by decide +kernel
theorem dX4_firstOf_1 : decode cX4_firstOf 1 = .ok (.bipush 7, 2) := by decide +kernel
theorem dX4_firstOf_3 : decode cX4_firstOf 3 = .ok (.invokestatic 44, 3) := by decide +kernel
theorem dX4_firstOf_6 : decode cX4_firstOf 6 = .ok (.ifCond .eq 12, 3) := by decide +kernel
theorem dX4_firstOf_9 : decode cX4_firstOf 9 = .ok (.aload_n 0, 1) := by decide +kernel
theorem dX4_firstOf_10 : decode cX4_firstOf 10 = .ok (.getfield 13, 3) := by decide +kernel
theorem dX4_firstOf_13 : decode cX4_firstOf 13 = .ok (.iload_n 1, 1) := by decide +kernel
theorem dX4_firstOf_14 : decode cX4_firstOf 14 = .ok (.aaload, 1) := by decide +kernel
theorem dX4_firstOf_15 : decode cX4_firstOf 15 = .ok (.goto 4, 3) := by decide +kernel
theorem dX4_firstOf_19 : decode cX4_firstOf 19 = .ok (.astore_n 2, 1) := by decide +kernel
theorem dX4_firstOf_20 : decode cX4_firstOf 20 = .ok (.aload_n 2, 1) := by decide +kernel
theorem dX4_firstOf_21 : decode cX4_firstOf 21 = .ok (.ifnonnull 7, 3) := by decide +kernel
theorem dX4_firstOf_28 : decode cX4_firstOf 28 = .ok (.aload_n 2, 1) := by decide +kernel
theorem dX4_firstOf_29 : decode cX4_firstOf 29 = .ok (.aload_n 0, 1) := by decide +kernel
theorem dX4_firstOf_30 : decode cX4_firstOf 30 = .ok (.getfield 17, 3) := by decide +kernel
theorem dX4_firstOf_33 : decode cX4_firstOf 33 = .ok (.iload_n 1, 1) := by decide +kernel
theorem dX4_firstOf_34 : decode cX4_firstOf 34 = .ok (.iaload, 1) := by decide +kernel
theorem dX4_firstOf_35 : decode cX4_firstOf 35 = .ok (.invokevirtual 67, 3) := by decide +kernel
theorem dX4_firstOf_38 : decode cX4_firstOf 38 = .ok (.ireturn, 1) := by decide +kernel
set_option maxRecDepth 100000 in
set_option maxHeartbeats 4000000 in
theorem ct_X4_firstOf (l : Launch) (mg rw ft gl gr gq ml mr mq : Nat) : Ct l yX4_firstOf cX4_firstOf 3 (some .int) 2 0 0 42 (fun S av => av = [.ref mg, .int 0] ∧ mergerAt S mg rw ft gl gr gq ml mr mq ∧ mI S 260 mg = 1 ∧ mP S rw 0 = some gl ∧ mA S ft 0 = 0 ∧ mI S 194 gl = 0) (fun S _ r0 S' => r0 = some (.int (-1)) ∧ S' = S) := by
  refine ct_of (by decide) (fun S av h => by obtain ⟨rfl, ⟨i_mg, e_rw, i_rw, e_ft, i_ft, e_gl, k_gl, e_ml, k_ml⟩, e_c, e_p, e_f, e_l⟩ := h; exact Nat.le_of_ble_eq_true rfl) ?_
  intro p e s m args below meth c D G bs S av C hr hin hpre
  obtain ⟨rfl, ⟨i_mg, e_rw, i_rw, e_ft, i_ft, e_gl, k_gl, e_ml, k_ml⟩, e_c, e_p, e_f, e_l⟩ := hpre
  refine v_iload_n C dX4_firstOf_0 rfl ?_
  refine v_bipush (v := 7) C dX4_firstOf_1 (by decide) ?_
  refine v_callSN (As := [_, _]) (n := 2) C (ct_X9_isBelow l _ _) rfl ⟨(by decide +kernel), wd141, wd2, wd142⟩ hy_X9_isBelow rfl ⟨Nat.le_of_ble_eq_true rfl, Nat.le_of_ble_eq_true rfl⟩ (Nat.le_of_ble_eq_true rfl) ⟨Nat.le_of_ble_eq_true rfl, Nat.le_of_ble_eq_true rfl⟩ dX4_firstOf_3 rfl (fun r_3 S_3 h_3 => ?_)
  obtain ⟨rfl, q_3⟩ := h_3
  obtain rfl := q_3.symm
  refine v_if_eq (tgt := 18) C dX4_firstOf_6 (by decide) (fun c_6 => ?_) (fun c_6 => ?_)
  · skip
    exact absurd c_6 (by decide)
  · skip
    refine v_aload_n C dX4_firstOf_9 rfl ?_
    refine r4_13 (b := rw) C i_mg e_rw dX4_firstOf_10 ?_
    refine v_iload_n C dX4_firstOf_13 rfl ?_
    refine v_aald (t0 := 4) C i_rw (by decide) rfl (isB_in (i := 0) (b := 7) (by decide) rfl) dX4_firstOf_14 ?_
    rw [show mP S rw (Int32.toNatClampNeg 0) = some gl from e_p]
    refine v_goto (tgt := 19) C dX4_firstOf_15 (by decide) ?_
    refine v_qstore_n C dX4_firstOf_19 (by decide) rfl ?_
    refine v_qload_n C dX4_firstOf_20 rfl ?_
    refine v_ifnonnull (tgt := 28) C dX4_firstOf_21 (by decide) (fun b_21 c_21 => ?_) (fun c_21 => ?_)
    · skip
      refine v_aload_n C dX4_firstOf_28 rfl ?_
      refine v_aload_n C dX4_firstOf_29 rfl ?_
      refine r4_17 (b := ft) C i_mg e_ft dX4_firstOf_30 ?_
      refine v_iload_n C dX4_firstOf_33 rfl ?_
      refine v_iald C i_ft (isB_in (i := 0) (b := 7) (by decide) rfl) dX4_firstOf_34 ?_
      refine v_callV (As := [_]) (n := 1) C (ct_X3_at l gl gr gq _) rfl k_gl.1 (by decide) rfl ⟨wd186, wd187, wd188, wd45, wd189⟩ ⟨rfl, hy_X3_at⟩ rfl ⟨Nat.le_of_ble_eq_true rfl, Nat.le_of_ble_eq_true rfl⟩ (Nat.le_of_ble_eq_true rfl) ⟨Nat.le_of_ble_eq_true rfl, Nat.le_of_ble_eq_true rfl⟩ dX4_firstOf_35 ⟨rfl, k_gl⟩ (fun r_35 S_35 h_35 => ?_)
      obtain ⟨rfl, q_35⟩ := h_35
      obtain rfl := q_35.symm
      refine v_iret C hr (Nat.le_of_ble_eq_true rfl) (Nat.le_of_ble_eq_true rfl) dX4_firstOf_38 ?_
      refine ⟨?_, rfl⟩
      rw [show mA S ft (Int32.toNatClampNeg 0) = 0 from e_f, show atV S gl gr 0 = -1 from by unfold atV; rw [e_l]; rfl]
    · skip
      cases c_21

theorem dX4_nextTrait_0 : decode cX4_nextTrait 0 = .ok (.iconst 0, 1) := by decide +kernel
theorem dX4_nextTrait_1 : decode cX4_nextTrait 1 = .ok (.istore_n 1, 1) := by decide +kernel
theorem dX4_nextTrait_2 : decode cX4_nextTrait 2 = .ok (.iload_n 1, 1) := by decide +kernel
theorem dX4_nextTrait_3 : decode cX4_nextTrait 3 = .ok (.aload_n 0, 1) := by decide +kernel
theorem dX4_nextTrait_4 : decode cX4_nextTrait 4 = .ok (.getfield 32, 3) := by decide +kernel
theorem dX4_nextTrait_7 : decode cX4_nextTrait 7 = .ok (.if_icmp .ge 30, 3) := by decide +kernel
theorem dX4_nextTrait_10 : decode cX4_nextTrait 10 = .ok (.aload_n 0, 1) := by decide +kernel
theorem dX4_nextTrait_11 : decode cX4_nextTrait 11 = .ok (.iload_n 1, 1) := by decide +kernel
theorem dX4_nextTrait_12 : decode cX4_nextTrait 12 = .ok (.invokevirtual 59, 3) := by decide +kernel
theorem dX4_nextTrait_15 : decode cX4_nextTrait 15 = .ok (.istore_n 2, 1) := by decide +kernel
theorem dX4_nextTrait_16 : decode cX4_nextTrait 16 = .ok (.iload_n 2, 1) := by decide +kernel
theorem dX4_nextTrait_17 : decode cX4_nextTrait 17 = .ok (.iconst (-1), 1) := by decide +kernel
theorem dX4_nextTrait_18 : decode cX4_nextTrait 18 = .ok (.if_icmp .eq 13, 3) := by decide +kernel
theorem dX4_nextTrait_31 : decode cX4_nextTrait 31 = .ok (.iinc 1 1, 3) := by decide +kernel
theorem dX4_nextTrait_34 : decode cX4_nextTrait 34 = .ok (.goto (-32), 3) := by decide +kernel
theorem dX4_nextTrait_37 : decode cX4_nextTrait 37 = .ok (.iconst (-1), 1) := by decide +kernel
theorem dX4_nextTrait_38 : decode cX4_nextTrait 38 = .ok (.ireturn, 1) := by decide +kernel
set_option maxRecDepth 100000 in
set_option maxHeartbeats 4000000 in
theorem ct_X4_nextTrait (l : Launch) (mg rw ft gl gr gq ml mr mq : Nat) : Ct l yX4_nextTrait cX4_nextTrait 3 (some .int) 4 0 0 64 (fun S av => av = [.ref mg] ∧ mergerAt S mg rw ft gl gr gq ml mr mq ∧ mI S 260 mg = 1 ∧ mP S rw 0 = some gl ∧ mA S ft 0 = 0 ∧ mI S 194 gl = 0) (fun S _ r0 S' => r0 = some (.int (-1)) ∧ S' = S) := by
  refine ct_of (by decide) (fun S av h => by obtain ⟨rfl, ⟨i_mg, e_rw, i_rw, e_ft, i_ft, e_gl, k_gl, e_ml, k_ml⟩, e_c, e_p, e_f, e_l⟩ := h; exact Nat.le_of_ble_eq_true rfl) ?_
  intro p e s m args below meth c D G bs S av C hr hin hpre
  obtain ⟨rfl, ⟨i_mg, e_rw, i_rw, e_ft, i_ft, e_gl, k_gl, e_ml, k_ml⟩, e_c, e_p, e_f, e_l⟩ := hpre
  refine v_iconst (v := 0) C dX4_nextTrait_0 (by decide) ?_
  refine v_istore_n C dX4_nextTrait_1 (by decide) rfl ?_
  refine v_iload_n C dX4_nextTrait_2 rfl ?_
  refine v_aload_n C dX4_nextTrait_3 rfl ?_
  refine g4_32 C i_mg dX4_nextTrait_4 ?_
  rw [e_c]
  refine v_icmp_ge (tgt := 37) C dX4_nextTrait_7 (by decide) (fun c_7 => ?_) (fun c_7 => ?_)
  · skip
    exact absurd c_7 (by decide)
  · skip
    refine v_aload_n C dX4_nextTrait_10 rfl ?_
    refine v_iload_n C dX4_nextTrait_11 rfl ?_
    refine v_callV (As := [_]) (n := 1) C (ct_X4_firstOf l mg rw ft gl gr gq ml mr mq) rfl i_mg (by decide) rfl ⟨wd182, wd183, wd184, wd31, wd185⟩ ⟨rfl, hy_X4_firstOf⟩ rfl ⟨Nat.le_of_ble_eq_true rfl, Nat.le_of_ble_eq_true rfl⟩ (Nat.le_of_ble_eq_true rfl) ⟨Nat.le_of_ble_eq_true rfl, Nat.le_of_ble_eq_true rfl⟩ dX4_nextTrait_12 ⟨rfl, ⟨i_mg, e_rw, i_rw, e_ft, i_ft, e_gl, k_gl, e_ml, k_ml⟩, e_c, e_p, e_f, e_l⟩ (fun r_12 S_12 h_12 => ?_)
    obtain ⟨rfl, q_12⟩ := h_12
    obtain rfl := q_12.symm
    refine v_istore_n C dX4_nextTrait_15 (by decide) rfl ?_
    refine v_iload_n C dX4_nextTrait_16 rfl ?_
    refine v_iconst (v := -1) C dX4_nextTrait_17 (by decide) ?_
    refine v_icmp_eq (tgt := 31) C dX4_nextTrait_18 (by decide) (fun c_18 => ?_) (fun c_18 => ?_)
    · skip
      refine v_iinc C dX4_nextTrait_31 rfl rfl (by decide) rfl ?_
      refine v_goto (tgt := 2) C dX4_nextTrait_34 (by decide) ?_
      refine v_iload_n C dX4_nextTrait_2 rfl ?_
      refine v_aload_n C dX4_nextTrait_3 rfl ?_
      refine g4_32 C i_mg dX4_nextTrait_4 ?_
      rw [e_c]
      refine v_icmp_ge (tgt := 37) C dX4_nextTrait_7 (by decide) (fun c_7 => ?_) (fun c_7 => ?_)
      · skip
        refine v_iconst (v := -1) C dX4_nextTrait_37 (by decide) ?_
        refine v_iret C hr (Nat.le_of_ble_eq_true rfl) (Nat.le_of_ble_eq_true rfl) dX4_nextTrait_38 ?_
        exact ⟨rfl, rfl⟩
      · skip
        exact absurd (by decide) c_7
    · skip
      exact absurd rfl c_18

theorem dX4_allDone_0 : decode cX4_allDone 0 = .ok (.iconst 0, 1) := by decide +kernel
theorem dX4_allDone_1 : decode cX4_allDone 1 = .ok (.istore_n 1, 1) := by decide +kernel
theorem dX4_allDone_2 : decode cX4_allDone 2 = .ok (.iload_n 1, 1) := by decide +kernel
theorem dX4_allDone_3 : decode cX4_allDone 3 = .ok (.aload_n 0, 1) := by decide +kernel
theorem dX4_allDone_4 : decode cX4_allDone 4 = .ok (.getfield 32, 3) := by decide +kernel
theorem dX4_allDone_7 : decode cX4_allDone 7 = .ok (.if_icmp .ge 20, 3) := by decide +kernel
theorem dX4_allDone_10 : decode cX4_allDone 10 = .ok (.aload_n 0, 1) := by decide +kernel
theorem dX4_allDone_11 : decode cX4_allDone 11 = .ok (.iload_n 1, 1) := by decide +kernel
theorem dX4_allDone_12 : decode cX4_allDone 12 = .ok (.invokevirtual 59, 3) := by decide +kernel
theorem dX4_allDone_15 : decode cX4_allDone 15 = .ok (.iconst (-1), 1) := by decide +kernel
theorem dX4_allDone_16 : decode cX4_allDone 16 = .ok (.if_icmp .eq 5, 3) := by decide +kernel
theorem dX4_allDone_21 : decode cX4_allDone 21 = .ok (.iinc 1 1, 3) := by decide +kernel
theorem dX4_allDone_24 : decode cX4_allDone 24 = .ok (.goto (-22), 3) := by decide +kernel
theorem dX4_allDone_27 : decode cX4_allDone 27 = .ok (.iconst 1, 1) := by decide +kernel
theorem dX4_allDone_28 : decode cX4_allDone 28 = .ok (.ireturn, 1) := by decide +kernel
set_option maxRecDepth 100000 in
set_option maxHeartbeats 4000000 in
theorem ct_X4_allDone (l : Launch) (mg rw ft gl gr gq ml mr mq : Nat) : Ct l yX4_allDone cX4_allDone 2 (some .boolean) 3 0 0 64 (fun S av => av = [.ref mg] ∧ mergerAt S mg rw ft gl gr gq ml mr mq ∧ mI S 260 mg = 1 ∧ mP S rw 0 = some gl ∧ mA S ft 0 = 0 ∧ mI S 194 gl = 0) (fun S _ r0 S' => r0 = some (.int 1) ∧ S' = S) := by
  refine ct_of (by decide) (fun S av h => by obtain ⟨rfl, ⟨i_mg, e_rw, i_rw, e_ft, i_ft, e_gl, k_gl, e_ml, k_ml⟩, e_c, e_p, e_f, e_l⟩ := h; exact Nat.le_of_ble_eq_true rfl) ?_
  intro p e s m args below meth c D G bs S av C hr hin hpre
  obtain ⟨rfl, ⟨i_mg, e_rw, i_rw, e_ft, i_ft, e_gl, k_gl, e_ml, k_ml⟩, e_c, e_p, e_f, e_l⟩ := hpre
  refine v_iconst (v := 0) C dX4_allDone_0 (by decide) ?_
  refine v_istore_n C dX4_allDone_1 (by decide) rfl ?_
  refine v_iload_n C dX4_allDone_2 rfl ?_
  refine v_aload_n C dX4_allDone_3 rfl ?_
  refine g4_32 C i_mg dX4_allDone_4 ?_
  rw [e_c]
  refine v_icmp_ge (tgt := 27) C dX4_allDone_7 (by decide) (fun c_7 => ?_) (fun c_7 => ?_)
  · skip
    exact absurd c_7 (by decide)
  · skip
    refine v_aload_n C dX4_allDone_10 rfl ?_
    refine v_iload_n C dX4_allDone_11 rfl ?_
    refine v_callV (As := [_]) (n := 1) C (ct_X4_firstOf l mg rw ft gl gr gq ml mr mq) rfl i_mg (by decide) rfl ⟨wd182, wd183, wd184, wd31, wd185⟩ ⟨rfl, hy_X4_firstOf⟩ rfl ⟨Nat.le_of_ble_eq_true rfl, Nat.le_of_ble_eq_true rfl⟩ (Nat.le_of_ble_eq_true rfl) ⟨Nat.le_of_ble_eq_true rfl, Nat.le_of_ble_eq_true rfl⟩ dX4_allDone_12 ⟨rfl, ⟨i_mg, e_rw, i_rw, e_ft, i_ft, e_gl, k_gl, e_ml, k_ml⟩, e_c, e_p, e_f, e_l⟩ (fun r_12 S_12 h_12 => ?_)
    obtain ⟨rfl, q_12⟩ := h_12
    obtain rfl := q_12.symm
    refine v_iconst (v := -1) C dX4_allDone_15 (by decide) ?_
    refine v_icmp_eq (tgt := 21) C dX4_allDone_16 (by decide) (fun c_16 => ?_) (fun c_16 => ?_)
    · skip
      refine v_iinc C dX4_allDone_21 rfl rfl (by decide) rfl ?_
      refine v_goto (tgt := 2) C dX4_allDone_24 (by decide) ?_
      refine v_iload_n C dX4_allDone_2 rfl ?_
      refine v_aload_n C dX4_allDone_3 rfl ?_
      refine g4_32 C i_mg dX4_allDone_4 ?_
      rw [e_c]
      refine v_icmp_ge (tgt := 27) C dX4_allDone_7 (by decide) (fun c_7 => ?_) (fun c_7 => ?_)
      · skip
        refine v_iconst (v := 1) C dX4_allDone_27 (by decide) ?_
        refine v_zret C hr rfl (Nat.le_of_ble_eq_true rfl) (Nat.le_of_ble_eq_true rfl) dX4_allDone_28 ?_
        exact ⟨rfl, rfl⟩
      · skip
        exact absurd (by decide) c_7
    · skip
      exact absurd rfl c_16

def mrgS (S : Mem) (mg rw ft gl : Nat) : Mem := sI (sA (sP S rw 0 (some gl)) ft 0 0) 260 mg 1
theorem same_mrgS (S : Mem) (mg rw ft gl : Nat) : same S (mrgS S mg rw ft gl) := same_tr (same_tr (same_sP ..) (same_sA ..)) (same_sI ..)
theorem dX4_merges_0 : decode cX4_merges 0 = .ok (.aload_n 0, 1) := by decide +kernel
theorem dX4_merges_1 : decode cX4_merges 1 = .ok (.aload_n 0, 1) := by decide +kernel
theorem dX4_merges_2 : decode cX4_merges 2 = .ok (.getfield 22, 3) := by decide +kernel
theorem dX4_merges_5 : decode cX4_merges 5 = .ok (.invokevirtual 40, 3) := by decide +kernel
theorem dX4_merges_8 : decode cX4_merges 8 = .ok (.iconst 0, 1) := by decide +kernel
theorem dX4_merges_9 : decode cX4_merges 9 = .ok (.istore_n 1, 1) := by decide +kernel
theorem dX4_merges_10 : decode cX4_merges 10 = .ok (.iload_n 1, 1) := by decide +kernel
theorem dX4_merges_11 : decode cX4_merges 11 = .ok (.bipush 20, 2) := by decide +kernel
theorem dX4_merges_13 : decode cX4_merges 13 = .ok (.if_icmp .ge 35, 3) := by decide +kernel
theorem dX4_merges_16 : decode cX4_merges 16 = .ok (.aload_n 0, 1) := by decide +kernel
theorem dX4_merges_17 : decode cX4_merges 17 = .ok (.invokevirtual 48, 3) := by decide +kernel
theorem dX4_merges_20 : decode cX4_merges 20 = .ok (.istore_n 2, 1) := by decide +kernel
theorem dX4_merges_21 : decode cX4_merges 21 = .ok (.iload_n 2, 1) := by decide +kernel
theorem dX4_merges_22 : decode cX4_merges 22 = .ok (.iconst (-1), 1) := by decide +kernel
theorem dX4_merges_23 : decode cX4_merges 23 = .ok (.if_icmp .ne 6, 3) := by decide +kernel
theorem dX4_merges_26 : decode cX4_merges 26 = .ok (.goto 22, 3) := by decide +kernel
theorem dX4_merges_48 : decode cX4_merges 48 = .ok (.aload_n 0, 1) := by decide +kernel
theorem dX4_merges_49 : decode cX4_merges 49 = .ok (.invokevirtual 55, 3) := by decide +kernel
theorem dX4_merges_52 : decode cX4_merges 52 = .ok (.ireturn, 1) := by decide +kernel
set_option maxRecDepth 100000 in
set_option maxHeartbeats 4000000 in
theorem ct_X4_merges (l : Launch) (mg rw ft gl gr gq ml mr mq : Nat) : Ct l yX4_merges cX4_merges 3 (some .boolean) 5 0 0 86 (fun S av => av = [.ref mg] ∧ mergerAt S mg rw ft gl gr gq ml mr mq ∧ mI S 260 mg = 0 ∧ mI S 194 gl = 0) (fun S _ r0 S' => r0 = some (.int 1) ∧ S' = mrgS S mg rw ft gl) := by
  refine ct_of (by decide) (fun S av h => by obtain ⟨rfl, ⟨i_mg, e_rw, i_rw, e_ft, i_ft, e_gl, k_gl, e_ml, k_ml⟩, e_c, e_l⟩ := h; exact Nat.le_of_ble_eq_true rfl) ?_
  intro p e s m args below meth c D G bs S av C hr hin hpre
  obtain ⟨rfl, ⟨i_mg, e_rw, i_rw, e_ft, i_ft, e_gl, k_gl, e_ml, k_ml⟩, e_c, e_l⟩ := hpre
  refine v_aload_n C dX4_merges_0 rfl ?_
  refine v_aload_n C dX4_merges_1 rfl ?_
  refine r4_22 (b := gl) C i_mg e_gl dX4_merges_2 ?_
  refine v_callV (As := [_]) (n := 1) C (ct_X4_addRow l mg rw ft gl gr gq ml mr mq 0 gl) rfl i_mg (by decide) rfl ⟨wd170, wd171, wd172, wd31, wd173⟩ ⟨rfl, hy_X4_addRow⟩ rfl ⟨Nat.le_of_ble_eq_true rfl, Nat.le_of_ble_eq_true rfl⟩ (Nat.le_of_ble_eq_true rfl) ⟨Nat.le_of_ble_eq_true rfl, Nat.le_of_ble_eq_true rfl⟩ dX4_merges_5 ⟨rfl, ⟨i_mg, e_rw, i_rw, e_ft, i_ft, e_gl, k_gl, e_ml, k_ml⟩, e_c, by decide, k_gl.1⟩ (fun r_5 S_5 h_5 => ?_)
  obtain ⟨rfl, e_5⟩ := h_5
  have km : mergerAt S_5 mg rw ft gl gr gq ml mr mq := mergerAt_same (by rw [e_5]; exact same_mrgS S mg rw ft gl) ⟨i_mg, e_rw, i_rw, e_ft, i_ft, e_gl, k_gl, e_ml, k_ml⟩
  have e5 : S_5 = mrgS S mg rw ft gl := e_5
  have e_c : mI S_5 260 mg = 1 := by rw [e_5, mI_sI, if_pos ⟨rfl, rfl⟩]; rfl
  have e_p : mP S_5 rw 0 = some gl := by rw [e_5, mP_sI, mP_sA, mP_sP, if_pos ⟨rfl, rfl⟩]
  have e_f : mA S_5 ft 0 = 0 := by rw [e_5, mA_sI, mA_sA, if_pos ⟨rfl, rfl⟩]
  have e_l : mI S_5 194 gl = 0 := by rw [e_5, mI_sI, if_neg (fun z => absurd z.1 (by decide)), mI_sA, mI_sP]; exact e_l
  have i_mg := km.1
  refine v_iconst (v := 0) C dX4_merges_8 (by decide) ?_
  refine v_istore_n C dX4_merges_9 (by decide) rfl ?_
  refine v_iload_n C dX4_merges_10 rfl ?_
  refine v_bipush (v := 20) C dX4_merges_11 (by decide) ?_
  refine v_icmp_ge (tgt := 48) C dX4_merges_13 (by decide) (fun c_13 => ?_) (fun c_13 => ?_)
  · skip
    exact absurd c_13 (by decide)
  · skip
    refine v_aload_n C dX4_merges_16 rfl ?_
    refine v_callV (As := []) (n := 0) C (ct_X4_nextTrait l mg rw ft gl gr gq ml mr mq) rfl i_mg (by decide) rfl ⟨wd178, wd179, wd180, wd31, wd181⟩ ⟨rfl, hy_X4_nextTrait⟩ rfl ⟨Nat.le_of_ble_eq_true rfl, Nat.le_of_ble_eq_true rfl⟩ (Nat.le_of_ble_eq_true rfl) ⟨Nat.le_of_ble_eq_true rfl, Nat.le_of_ble_eq_true rfl⟩ dX4_merges_17 ⟨rfl, km, e_c, e_p, e_f, e_l⟩ (fun r_17 S_17 h_17 => ?_)
    obtain ⟨rfl, q_17⟩ := h_17
    obtain rfl := q_17.symm
    refine v_istore_n C dX4_merges_20 (by decide) rfl ?_
    refine v_iload_n C dX4_merges_21 rfl ?_
    refine v_iconst (v := -1) C dX4_merges_22 (by decide) ?_
    refine v_icmp_ne (tgt := 29) C dX4_merges_23 (by decide) (fun c_23 => ?_) (fun c_23 => ?_)
    · skip
      exact absurd rfl c_23
    · skip
      refine v_goto (tgt := 48) C dX4_merges_26 (by decide) ?_
      refine v_aload_n C dX4_merges_48 rfl ?_
      refine v_callV (As := []) (n := 0) C (ct_X4_allDone l mg rw ft gl gr gq ml mr mq) rfl i_mg (by decide) rfl ⟨wd202, wd203, wd204, wd31, wd205⟩ ⟨rfl, hy_X4_allDone⟩ rfl ⟨Nat.le_of_ble_eq_true rfl, Nat.le_of_ble_eq_true rfl⟩ (Nat.le_of_ble_eq_true rfl) ⟨Nat.le_of_ble_eq_true rfl, Nat.le_of_ble_eq_true rfl⟩ dX4_merges_49 ⟨rfl, km, e_c, e_p, e_f, e_l⟩ (fun r_49 S_49 h_49 => ?_)
      obtain ⟨rfl, q_49⟩ := h_49
      obtain rfl := q_49.symm
      refine v_zret C hr rfl (Nat.le_of_ble_eq_true rfl) (Nat.le_of_ble_eq_true rfl) dX4_merges_52 ?_
      exact ⟨rfl, e5⟩

