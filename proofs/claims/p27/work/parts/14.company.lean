theorem dX1_isTraitOrNone_0 : decode cX1_isTraitOrNone 0 = .ok (.iload_n 1, 1) := by decide +kernel
theorem dX1_isTraitOrNone_1 : decode cX1_isTraitOrNone 1 = .ok (.iconst (-1), 1) := by decide +kernel
theorem dX1_isTraitOrNone_2 : decode cX1_isTraitOrNone 2 = .ok (.if_icmp .eq 11, 3) := by decide +kernel
theorem dX1_isTraitOrNone_5 : decode cX1_isTraitOrNone 5 = .ok (.aload_n 0, 1) := by decide +kernel
theorem dX1_isTraitOrNone_6 : decode cX1_isTraitOrNone 6 = .ok (.iload_n 1, 1) := by decide +kernel
theorem dX1_isTraitOrNone_7 : decode cX1_isTraitOrNone 7 = .ok (.invokevirtual 45, 3) := by decide +kernel
theorem dX1_isTraitOrNone_10 : decode cX1_isTraitOrNone 10 = .ok (.ifnull 7, 3) := by decide +kernel
theorem dX1_isTraitOrNone_13 : decode cX1_isTraitOrNone 13 = .ok (.iconst 1, 1) := by decide +kernel
theorem dX1_isTraitOrNone_14 : decode cX1_isTraitOrNone 14 = .ok (.goto 4, 3) := by decide +kernel
theorem dX1_isTraitOrNone_17 : decode cX1_isTraitOrNone 17 = .ok (.iconst 0, 1) := by decide +kernel
theorem dX1_isTraitOrNone_18 : decode cX1_isTraitOrNone 18 = .ok (.ireturn, 1) := by decide +kernel
set_option maxRecDepth 100000 in
set_option maxHeartbeats 4000000 in
theorem st_X1_isTraitOrNone (l : Launch) (M : Nat → Prop) (h : Nat) (p0 : Int32) : Ct l yX1_isTraitOrNone cX1_isTraitOrNone 2 (some .boolean) 2 0 0 42 (fun S av => av = [.ref h, .int p0] ∧ INV M [] S ∧ is S h 1) (fun S _ r S' => ∃ v, r = some (.int (bI v)) ∧ S' = S) := by
  refine ct_of (by decide) (fun S av h => by obtain ⟨rfl, iv, i_this⟩ := h; exact Nat.le_of_ble_eq_true rfl) ?_
  intro p e s m args below meth c D G bs S av C hr hin hpre
  obtain ⟨rfl, iv, i_this⟩ := hpre
  refine v_iload_n C dX1_isTraitOrNone_0 rfl ?_
  refine v_iconst (v := -1) C dX1_isTraitOrNone_1 (by decide) ?_
  refine v_icmp_eq (tgt := 13) C dX1_isTraitOrNone_2 (by decide) (fun c_2 => ?_) (fun c_2 => ?_)
  · skip
    refine v_iconst (v := 1) C dX1_isTraitOrNone_13 (by decide) ?_
    refine v_goto (tgt := 18) C dX1_isTraitOrNone_14 (by decide) ?_
    refine v_zret C hr (by first | rfl | exact bI_nar _) (Nat.le_of_ble_eq_true rfl) (Nat.le_of_ble_eq_true rfl) dX1_isTraitOrNone_18 ?_
    first
      | exact ⟨true, rfl, rfl⟩
      | exact ⟨false, rfl, rfl⟩
      | exact ⟨_, rfl, rfl⟩
  · skip
    refine v_aload_n C dX1_isTraitOrNone_5 rfl ?_
    refine v_iload_n C dX1_isTraitOrNone_6 rfl ?_
    refine v_callV (As := [_]) (n := 1) C (st_X1_traitAt l _ _ _) rfl i_this (by decide) rfl ⟨wd137, wd138, wd139, wd15, wd140⟩ ⟨rfl, hy_X1_traitAt⟩ rfl ⟨Nat.le_of_ble_eq_true rfl, Nat.le_of_ble_eq_true rfl⟩ (Nat.le_of_ble_eq_true rfl) ⟨Nat.le_of_ble_eq_true rfl, Nat.le_of_ble_eq_true rfl⟩ dX1_isTraitOrNone_7 ⟨rfl, iv, i_this⟩ (fun r_7 S4_7 h_7 => ?_)
    obtain ⟨v7, rfl, n_v7, q_v7⟩ := h_7
    obtain rfl := q_v7.symm
    refine v_ifnull (tgt := 17) C dX1_isTraitOrNone_10 (by decide) (fun c_10 => ?_) (fun b10 c_10 => ?_)
    · skip
      subst c_10
      refine v_iconst (v := 0) C dX1_isTraitOrNone_17 (by decide) ?_
      refine v_zret C hr (by first | rfl | exact bI_nar _) (Nat.le_of_ble_eq_true rfl) (Nat.le_of_ble_eq_true rfl) dX1_isTraitOrNone_18 ?_
      first
        | exact ⟨true, rfl, rfl⟩
        | exact ⟨false, rfl, rfl⟩
        | exact ⟨_, rfl, rfl⟩
    · skip
      subst c_10
      have i_b10 := nOK_some n_v7 rfl
      refine v_iconst (v := 1) C dX1_isTraitOrNone_13 (by decide) ?_
      refine v_goto (tgt := 18) C dX1_isTraitOrNone_14 (by decide) ?_
      refine v_zret C hr (by first | rfl | exact bI_nar _) (Nat.le_of_ble_eq_true rfl) (Nat.le_of_ble_eq_true rfl) dX1_isTraitOrNone_18 ?_
      first
        | exact ⟨true, rfl, rfl⟩
        | exact ⟨false, rfl, rfl⟩
        | exact ⟨_, rfl, rfl⟩
theorem dX1_canStandUnder_0 : decode cX1_canStandUnder 0 = .ok (.aload_n 0, 1) := by decide +kernel
theorem dX1_canStandUnder_1 : decode cX1_canStandUnder 1 = .ok (.iload_n 1, 1) := by decide +kernel
theorem dX1_canStandUnder_2 : decode cX1_canStandUnder 2 = .ok (.invokevirtual 41, 3) := by decide +kernel
theorem dX1_canStandUnder_5 : decode cX1_canStandUnder 5 = .ok (.ifCond .eq 19, 3) := by decide +kernel
theorem dX1_canStandUnder_8 : decode cX1_canStandUnder 8 = .ok (.aload_n 0, 1) := by decide +kernel
theorem dX1_canStandUnder_9 : decode cX1_canStandUnder 9 = .ok (.iload_n 2, 1) := by decide +kernel
theorem dX1_canStandUnder_10 : decode cX1_canStandUnder 10 = .ok (.invokevirtual 41, 3) := by decide +kernel
theorem dX1_canStandUnder_13 : decode cX1_canStandUnder 13 = .ok (.ifCond .eq 11, 3) := by decide +kernel
theorem dX1_canStandUnder_16 : decode cX1_canStandUnder 16 = .ok (.aload_n 0, 1) := by decide +kernel
theorem dX1_canStandUnder_17 : decode cX1_canStandUnder 17 = .ok (.iload_n 3, 1) := by decide +kernel
theorem dX1_canStandUnder_18 : decode cX1_canStandUnder 18 = .ok (.invokevirtual 41, 3) := by decide +kernel
theorem dX1_canStandUnder_21 : decode cX1_canStandUnder 21 = .ok (.ifCond .ne 5, 3) := by decide +kernel
theorem dX1_canStandUnder_24 : decode cX1_canStandUnder 24 = .ok (.iconst 0, 1) := by decide +kernel
theorem dX1_canStandUnder_25 : decode cX1_canStandUnder 25 = .ok (.ireturn, 1) := by decide +kernel
theorem dX1_canStandUnder_26 : decode cX1_canStandUnder 26 = .ok (.iload_n 1, 1) := by decide +kernel
theorem dX1_canStandUnder_27 : decode cX1_canStandUnder 27 = .ok (.iconst (-1), 1) := by decide +kernel
theorem dX1_canStandUnder_28 : decode cX1_canStandUnder 28 = .ok (.if_icmp .ne 8, 3) := by decide +kernel
theorem dX1_canStandUnder_31 : decode cX1_canStandUnder 31 = .ok (.iload_n 2, 1) := by decide +kernel
theorem dX1_canStandUnder_32 : decode cX1_canStandUnder 32 = .ok (.iconst (-1), 1) := by decide +kernel
theorem dX1_canStandUnder_33 : decode cX1_canStandUnder 33 = .ok (.if_icmp .ne 13, 3) := by decide +kernel
theorem dX1_canStandUnder_36 : decode cX1_canStandUnder 36 = .ok (.iload_n 2, 1) := by decide +kernel
theorem dX1_canStandUnder_37 : decode cX1_canStandUnder 37 = .ok (.iconst (-1), 1) := by decide +kernel
theorem dX1_canStandUnder_38 : decode cX1_canStandUnder 38 = .ok (.if_icmp .ne 10, 3) := by decide +kernel
theorem dX1_canStandUnder_41 : decode cX1_canStandUnder 41 = .ok (.iload_n 3, 1) := by decide +kernel
theorem dX1_canStandUnder_42 : decode cX1_canStandUnder 42 = .ok (.iconst (-1), 1) := by decide +kernel
theorem dX1_canStandUnder_43 : decode cX1_canStandUnder 43 = .ok (.if_icmp .eq 5, 3) := by decide +kernel
theorem dX1_canStandUnder_46 : decode cX1_canStandUnder 46 = .ok (.iconst 0, 1) := by decide +kernel
theorem dX1_canStandUnder_47 : decode cX1_canStandUnder 47 = .ok (.ireturn, 1) := by decide +kernel
theorem dX1_canStandUnder_48 : decode cX1_canStandUnder 48 = .ok (.iload_n 2, 1) := by decide +kernel
theorem dX1_canStandUnder_49 : decode cX1_canStandUnder 49 = .ok (.iconst (-1), 1) := by decide +kernel
theorem dX1_canStandUnder_50 : decode cX1_canStandUnder 50 = .ok (.if_icmp .eq 18, 3) := by decide +kernel
theorem dX1_canStandUnder_53 : decode cX1_canStandUnder 53 = .ok (.iload_n 1, 1) := by decide +kernel
theorem dX1_canStandUnder_54 : decode cX1_canStandUnder 54 = .ok (.iload_n 2, 1) := by decide +kernel
theorem dX1_canStandUnder_55 : decode cX1_canStandUnder 55 = .ok (.if_icmp .eq 17, 3) := by decide +kernel
theorem dX1_canStandUnder_58 : decode cX1_canStandUnder 58 = .ok (.iload_n 1, 1) := by decide +kernel
theorem dX1_canStandUnder_59 : decode cX1_canStandUnder 59 = .ok (.iload_n 3, 1) := by decide +kernel
theorem dX1_canStandUnder_60 : decode cX1_canStandUnder 60 = .ok (.if_icmp .eq 12, 3) := by decide +kernel
theorem dX1_canStandUnder_63 : decode cX1_canStandUnder 63 = .ok (.iload_n 2, 1) := by decide +kernel
theorem dX1_canStandUnder_64 : decode cX1_canStandUnder 64 = .ok (.iload_n 3, 1) := by decide +kernel
theorem dX1_canStandUnder_65 : decode cX1_canStandUnder 65 = .ok (.if_icmp .eq 7, 3) := by decide +kernel
theorem dX1_canStandUnder_68 : decode cX1_canStandUnder 68 = .ok (.iconst 1, 1) := by decide +kernel
theorem dX1_canStandUnder_69 : decode cX1_canStandUnder 69 = .ok (.goto 4, 3) := by decide +kernel
theorem dX1_canStandUnder_72 : decode cX1_canStandUnder 72 = .ok (.iconst 0, 1) := by decide +kernel
theorem dX1_canStandUnder_73 : decode cX1_canStandUnder 73 = .ok (.ireturn, 1) := by decide +kernel
set_option maxRecDepth 100000 in
set_option maxHeartbeats 4000000 in
theorem st_X1_canStandUnder (l : Launch) (M : Nat → Prop) (h : Nat) (p0 : Int32) (p1 : Int32) (p2 : Int32) : Ct l yX1_canStandUnder cX1_canStandUnder 4 (some .boolean) 3 0 0 63 (fun S av => av = [.ref h, .int p0, .int p1, .int p2] ∧ INV M [] S ∧ is S h 1) (fun S _ r S' => ∃ v, r = some (.int (bI v)) ∧ S' = S) := by
  refine ct_of (by decide) (fun S av h => by obtain ⟨rfl, iv, i_this⟩ := h; exact Nat.le_of_ble_eq_true rfl) ?_
  intro p e s m args below meth c D G bs S av C hr hin hpre
  obtain ⟨rfl, iv, i_this⟩ := hpre
  refine v_aload_n C dX1_canStandUnder_0 rfl ?_
  refine v_iload_n C dX1_canStandUnder_1 rfl ?_
  refine v_callV (As := [_]) (n := 1) C (st_X1_isTraitOrNone l _ _ _) rfl i_this (by decide) rfl ⟨wd133, wd134, wd135, wd15, wd136⟩ ⟨rfl, hy_X1_isTraitOrNone⟩ rfl ⟨Nat.le_of_ble_eq_true rfl, Nat.le_of_ble_eq_true rfl⟩ (Nat.le_of_ble_eq_true rfl) ⟨Nat.le_of_ble_eq_true rfl, Nat.le_of_ble_eq_true rfl⟩ dX1_canStandUnder_2 ⟨rfl, iv, i_this⟩ (fun r_2 S2_2 h_2 => ?_)
  obtain ⟨v2, rfl, q_v2⟩ := h_2
  obtain rfl := q_v2.symm
  refine v_if_eq (tgt := 24) C dX1_canStandUnder_5 (by decide) (fun c_5 => ?_) (fun c_5 => ?_)
  · skip
    refine v_iconst (v := 0) C dX1_canStandUnder_24 (by decide) ?_
    refine v_zret C hr (by first | rfl | exact bI_nar _) (Nat.le_of_ble_eq_true rfl) (Nat.le_of_ble_eq_true rfl) dX1_canStandUnder_25 ?_
    first
      | exact ⟨true, rfl, rfl⟩
      | exact ⟨false, rfl, rfl⟩
      | exact ⟨_, rfl, rfl⟩
  · skip
    refine v_aload_n C dX1_canStandUnder_8 rfl ?_
    refine v_iload_n C dX1_canStandUnder_9 rfl ?_
    refine v_callV (As := [_]) (n := 1) C (st_X1_isTraitOrNone l _ _ _) rfl i_this (by decide) rfl ⟨wd133, wd134, wd135, wd15, wd136⟩ ⟨rfl, hy_X1_isTraitOrNone⟩ rfl ⟨Nat.le_of_ble_eq_true rfl, Nat.le_of_ble_eq_true rfl⟩ (Nat.le_of_ble_eq_true rfl) ⟨Nat.le_of_ble_eq_true rfl, Nat.le_of_ble_eq_true rfl⟩ dX1_canStandUnder_10 ⟨rfl, iv, i_this⟩ (fun r_10 S4_10 h_10 => ?_)
    obtain ⟨v10, rfl, q_v10⟩ := h_10
    obtain rfl := q_v10.symm
    refine v_if_eq (tgt := 24) C dX1_canStandUnder_13 (by decide) (fun c_13 => ?_) (fun c_13 => ?_)
    · skip
      refine v_iconst (v := 0) C dX1_canStandUnder_24 (by decide) ?_
      refine v_zret C hr (by first | rfl | exact bI_nar _) (Nat.le_of_ble_eq_true rfl) (Nat.le_of_ble_eq_true rfl) dX1_canStandUnder_25 ?_
      first
        | exact ⟨true, rfl, rfl⟩
        | exact ⟨false, rfl, rfl⟩
        | exact ⟨_, rfl, rfl⟩
    · skip
      refine v_aload_n C dX1_canStandUnder_16 rfl ?_
      refine v_iload_n C dX1_canStandUnder_17 rfl ?_
      refine v_callV (As := [_]) (n := 1) C (st_X1_isTraitOrNone l _ _ _) rfl i_this (by decide) rfl ⟨wd133, wd134, wd135, wd15, wd136⟩ ⟨rfl, hy_X1_isTraitOrNone⟩ rfl ⟨Nat.le_of_ble_eq_true rfl, Nat.le_of_ble_eq_true rfl⟩ (Nat.le_of_ble_eq_true rfl) ⟨Nat.le_of_ble_eq_true rfl, Nat.le_of_ble_eq_true rfl⟩ dX1_canStandUnder_18 ⟨rfl, iv, i_this⟩ (fun r_18 S6_18 h_18 => ?_)
      obtain ⟨v18, rfl, q_v18⟩ := h_18
      obtain rfl := q_v18.symm
      refine v_if_ne (tgt := 26) C dX1_canStandUnder_21 (by decide) (fun c_21 => ?_) (fun c_21 => ?_)
      · skip
        refine v_iload_n C dX1_canStandUnder_26 rfl ?_
        refine v_iconst (v := -1) C dX1_canStandUnder_27 (by decide) ?_
        refine v_icmp_ne (tgt := 36) C dX1_canStandUnder_28 (by decide) (fun c_28 => ?_) (fun c_28 => ?_)
        · skip
          refine v_iload_n C dX1_canStandUnder_36 rfl ?_
          refine v_iconst (v := -1) C dX1_canStandUnder_37 (by decide) ?_
          refine v_icmp_ne (tgt := 48) C dX1_canStandUnder_38 (by decide) (fun c_38 => ?_) (fun c_38 => ?_)
          · skip
            refine v_iload_n C dX1_canStandUnder_48 rfl ?_
            refine v_iconst (v := -1) C dX1_canStandUnder_49 (by decide) ?_
            refine v_icmp_eq (tgt := 68) C dX1_canStandUnder_50 (by decide) (fun c_50 => ?_) (fun c_50 => ?_)
            · skip
              refine v_iconst (v := 1) C dX1_canStandUnder_68 (by decide) ?_
              refine v_goto (tgt := 73) C dX1_canStandUnder_69 (by decide) ?_
              refine v_zret C hr (by first | rfl | exact bI_nar _) (Nat.le_of_ble_eq_true rfl) (Nat.le_of_ble_eq_true rfl) dX1_canStandUnder_73 ?_
              first
                | exact ⟨true, rfl, rfl⟩
                | exact ⟨false, rfl, rfl⟩
                | exact ⟨_, rfl, rfl⟩
            · skip
              refine v_iload_n C dX1_canStandUnder_53 rfl ?_
              refine v_iload_n C dX1_canStandUnder_54 rfl ?_
              refine v_icmp_eq (tgt := 72) C dX1_canStandUnder_55 (by decide) (fun c_55 => ?_) (fun c_55 => ?_)
              · skip
                refine v_iconst (v := 0) C dX1_canStandUnder_72 (by decide) ?_
                refine v_zret C hr (by first | rfl | exact bI_nar _) (Nat.le_of_ble_eq_true rfl) (Nat.le_of_ble_eq_true rfl) dX1_canStandUnder_73 ?_
                first
                  | exact ⟨true, rfl, rfl⟩
                  | exact ⟨false, rfl, rfl⟩
                  | exact ⟨_, rfl, rfl⟩
              · skip
                refine v_iload_n C dX1_canStandUnder_58 rfl ?_
                refine v_iload_n C dX1_canStandUnder_59 rfl ?_
                refine v_icmp_eq (tgt := 72) C dX1_canStandUnder_60 (by decide) (fun c_60 => ?_) (fun c_60 => ?_)
                · skip
                  refine v_iconst (v := 0) C dX1_canStandUnder_72 (by decide) ?_
                  refine v_zret C hr (by first | rfl | exact bI_nar _) (Nat.le_of_ble_eq_true rfl) (Nat.le_of_ble_eq_true rfl) dX1_canStandUnder_73 ?_
                  first
                    | exact ⟨true, rfl, rfl⟩
                    | exact ⟨false, rfl, rfl⟩
                    | exact ⟨_, rfl, rfl⟩
                · skip
                  refine v_iload_n C dX1_canStandUnder_63 rfl ?_
                  refine v_iload_n C dX1_canStandUnder_64 rfl ?_
                  refine v_icmp_eq (tgt := 72) C dX1_canStandUnder_65 (by decide) (fun c_65 => ?_) (fun c_65 => ?_)
                  · skip
                    refine v_iconst (v := 0) C dX1_canStandUnder_72 (by decide) ?_
                    refine v_zret C hr (by first | rfl | exact bI_nar _) (Nat.le_of_ble_eq_true rfl) (Nat.le_of_ble_eq_true rfl) dX1_canStandUnder_73 ?_
                    first
                      | exact ⟨true, rfl, rfl⟩
                      | exact ⟨false, rfl, rfl⟩
                      | exact ⟨_, rfl, rfl⟩
                  · skip
                    refine v_iconst (v := 1) C dX1_canStandUnder_68 (by decide) ?_
                    refine v_goto (tgt := 73) C dX1_canStandUnder_69 (by decide) ?_
                    refine v_zret C hr (by first | rfl | exact bI_nar _) (Nat.le_of_ble_eq_true rfl) (Nat.le_of_ble_eq_true rfl) dX1_canStandUnder_73 ?_
                    first
                      | exact ⟨true, rfl, rfl⟩
                      | exact ⟨false, rfl, rfl⟩
                      | exact ⟨_, rfl, rfl⟩
          · skip
            refine v_iload_n C dX1_canStandUnder_41 rfl ?_
            refine v_iconst (v := -1) C dX1_canStandUnder_42 (by decide) ?_
            refine v_icmp_eq (tgt := 48) C dX1_canStandUnder_43 (by decide) (fun c_43 => ?_) (fun c_43 => ?_)
            · skip
              refine v_iload_n C dX1_canStandUnder_48 rfl ?_
              refine v_iconst (v := -1) C dX1_canStandUnder_49 (by decide) ?_
              refine v_icmp_eq (tgt := 68) C dX1_canStandUnder_50 (by decide) (fun c_50 => ?_) (fun c_50 => ?_)
              · skip
                refine v_iconst (v := 1) C dX1_canStandUnder_68 (by decide) ?_
                refine v_goto (tgt := 73) C dX1_canStandUnder_69 (by decide) ?_
                refine v_zret C hr (by first | rfl | exact bI_nar _) (Nat.le_of_ble_eq_true rfl) (Nat.le_of_ble_eq_true rfl) dX1_canStandUnder_73 ?_
                first
                  | exact ⟨true, rfl, rfl⟩
                  | exact ⟨false, rfl, rfl⟩
                  | exact ⟨_, rfl, rfl⟩
              · skip
                refine v_iload_n C dX1_canStandUnder_53 rfl ?_
                refine v_iload_n C dX1_canStandUnder_54 rfl ?_
                refine v_icmp_eq (tgt := 72) C dX1_canStandUnder_55 (by decide) (fun c_55 => ?_) (fun c_55 => ?_)
                · skip
                  refine v_iconst (v := 0) C dX1_canStandUnder_72 (by decide) ?_
                  refine v_zret C hr (by first | rfl | exact bI_nar _) (Nat.le_of_ble_eq_true rfl) (Nat.le_of_ble_eq_true rfl) dX1_canStandUnder_73 ?_
                  first
                    | exact ⟨true, rfl, rfl⟩
                    | exact ⟨false, rfl, rfl⟩
                    | exact ⟨_, rfl, rfl⟩
                · skip
                  refine v_iload_n C dX1_canStandUnder_58 rfl ?_
                  refine v_iload_n C dX1_canStandUnder_59 rfl ?_
                  refine v_icmp_eq (tgt := 72) C dX1_canStandUnder_60 (by decide) (fun c_60 => ?_) (fun c_60 => ?_)
                  · skip
                    refine v_iconst (v := 0) C dX1_canStandUnder_72 (by decide) ?_
                    refine v_zret C hr (by first | rfl | exact bI_nar _) (Nat.le_of_ble_eq_true rfl) (Nat.le_of_ble_eq_true rfl) dX1_canStandUnder_73 ?_
                    first
                      | exact ⟨true, rfl, rfl⟩
                      | exact ⟨false, rfl, rfl⟩
                      | exact ⟨_, rfl, rfl⟩
                  · skip
                    refine v_iload_n C dX1_canStandUnder_63 rfl ?_
                    refine v_iload_n C dX1_canStandUnder_64 rfl ?_
                    refine v_icmp_eq (tgt := 72) C dX1_canStandUnder_65 (by decide) (fun c_65 => ?_) (fun c_65 => ?_)
                    · skip
                      refine v_iconst (v := 0) C dX1_canStandUnder_72 (by decide) ?_
                      refine v_zret C hr (by first | rfl | exact bI_nar _) (Nat.le_of_ble_eq_true rfl) (Nat.le_of_ble_eq_true rfl) dX1_canStandUnder_73 ?_
                      first
                        | exact ⟨true, rfl, rfl⟩
                        | exact ⟨false, rfl, rfl⟩
                        | exact ⟨_, rfl, rfl⟩
                    · skip
                      refine v_iconst (v := 1) C dX1_canStandUnder_68 (by decide) ?_
                      refine v_goto (tgt := 73) C dX1_canStandUnder_69 (by decide) ?_
                      refine v_zret C hr (by first | rfl | exact bI_nar _) (Nat.le_of_ble_eq_true rfl) (Nat.le_of_ble_eq_true rfl) dX1_canStandUnder_73 ?_
                      first
                        | exact ⟨true, rfl, rfl⟩
                        | exact ⟨false, rfl, rfl⟩
                        | exact ⟨_, rfl, rfl⟩
            · skip
              refine v_iconst (v := 0) C dX1_canStandUnder_46 (by decide) ?_
              refine v_zret C hr (by first | rfl | exact bI_nar _) (Nat.le_of_ble_eq_true rfl) (Nat.le_of_ble_eq_true rfl) dX1_canStandUnder_47 ?_
              first
                | exact ⟨true, rfl, rfl⟩
                | exact ⟨false, rfl, rfl⟩
                | exact ⟨_, rfl, rfl⟩
        · skip
          refine v_iload_n C dX1_canStandUnder_31 rfl ?_
          refine v_iconst (v := -1) C dX1_canStandUnder_32 (by decide) ?_
          refine v_icmp_ne (tgt := 46) C dX1_canStandUnder_33 (by decide) (fun c_33 => ?_) (fun c_33 => ?_)
          · skip
            refine v_iconst (v := 0) C dX1_canStandUnder_46 (by decide) ?_
            refine v_zret C hr (by first | rfl | exact bI_nar _) (Nat.le_of_ble_eq_true rfl) (Nat.le_of_ble_eq_true rfl) dX1_canStandUnder_47 ?_
            first
              | exact ⟨true, rfl, rfl⟩
              | exact ⟨false, rfl, rfl⟩
              | exact ⟨_, rfl, rfl⟩
          · skip
            refine v_iload_n C dX1_canStandUnder_36 rfl ?_
            refine v_iconst (v := -1) C dX1_canStandUnder_37 (by decide) ?_
            refine v_icmp_ne (tgt := 48) C dX1_canStandUnder_38 (by decide) (fun c_38 => ?_) (fun c_38 => ?_)
            · skip
              refine v_iload_n C dX1_canStandUnder_48 rfl ?_
              refine v_iconst (v := -1) C dX1_canStandUnder_49 (by decide) ?_
              refine v_icmp_eq (tgt := 68) C dX1_canStandUnder_50 (by decide) (fun c_50 => ?_) (fun c_50 => ?_)
              · skip
                refine v_iconst (v := 1) C dX1_canStandUnder_68 (by decide) ?_
                refine v_goto (tgt := 73) C dX1_canStandUnder_69 (by decide) ?_
                refine v_zret C hr (by first | rfl | exact bI_nar _) (Nat.le_of_ble_eq_true rfl) (Nat.le_of_ble_eq_true rfl) dX1_canStandUnder_73 ?_
                first
                  | exact ⟨true, rfl, rfl⟩
                  | exact ⟨false, rfl, rfl⟩
                  | exact ⟨_, rfl, rfl⟩
              · skip
                refine v_iload_n C dX1_canStandUnder_53 rfl ?_
                refine v_iload_n C dX1_canStandUnder_54 rfl ?_
                refine v_icmp_eq (tgt := 72) C dX1_canStandUnder_55 (by decide) (fun c_55 => ?_) (fun c_55 => ?_)
                · skip
                  refine v_iconst (v := 0) C dX1_canStandUnder_72 (by decide) ?_
                  refine v_zret C hr (by first | rfl | exact bI_nar _) (Nat.le_of_ble_eq_true rfl) (Nat.le_of_ble_eq_true rfl) dX1_canStandUnder_73 ?_
                  first
                    | exact ⟨true, rfl, rfl⟩
                    | exact ⟨false, rfl, rfl⟩
                    | exact ⟨_, rfl, rfl⟩
                · skip
                  refine v_iload_n C dX1_canStandUnder_58 rfl ?_
                  refine v_iload_n C dX1_canStandUnder_59 rfl ?_
                  refine v_icmp_eq (tgt := 72) C dX1_canStandUnder_60 (by decide) (fun c_60 => ?_) (fun c_60 => ?_)
                  · skip
                    refine v_iconst (v := 0) C dX1_canStandUnder_72 (by decide) ?_
                    refine v_zret C hr (by first | rfl | exact bI_nar _) (Nat.le_of_ble_eq_true rfl) (Nat.le_of_ble_eq_true rfl) dX1_canStandUnder_73 ?_
                    first
                      | exact ⟨true, rfl, rfl⟩
                      | exact ⟨false, rfl, rfl⟩
                      | exact ⟨_, rfl, rfl⟩
                  · skip
                    refine v_iload_n C dX1_canStandUnder_63 rfl ?_
                    refine v_iload_n C dX1_canStandUnder_64 rfl ?_
                    refine v_icmp_eq (tgt := 72) C dX1_canStandUnder_65 (by decide) (fun c_65 => ?_) (fun c_65 => ?_)
                    · skip
                      refine v_iconst (v := 0) C dX1_canStandUnder_72 (by decide) ?_
                      refine v_zret C hr (by first | rfl | exact bI_nar _) (Nat.le_of_ble_eq_true rfl) (Nat.le_of_ble_eq_true rfl) dX1_canStandUnder_73 ?_
                      first
                        | exact ⟨true, rfl, rfl⟩
                        | exact ⟨false, rfl, rfl⟩
                        | exact ⟨_, rfl, rfl⟩
                    · skip
                      refine v_iconst (v := 1) C dX1_canStandUnder_68 (by decide) ?_
                      refine v_goto (tgt := 73) C dX1_canStandUnder_69 (by decide) ?_
                      refine v_zret C hr (by first | rfl | exact bI_nar _) (Nat.le_of_ble_eq_true rfl) (Nat.le_of_ble_eq_true rfl) dX1_canStandUnder_73 ?_
                      first
                        | exact ⟨true, rfl, rfl⟩
                        | exact ⟨false, rfl, rfl⟩
                        | exact ⟨_, rfl, rfl⟩
            · skip
              refine v_iload_n C dX1_canStandUnder_41 rfl ?_
              refine v_iconst (v := -1) C dX1_canStandUnder_42 (by decide) ?_
              refine v_icmp_eq (tgt := 48) C dX1_canStandUnder_43 (by decide) (fun c_43 => ?_) (fun c_43 => ?_)
              · skip
                refine v_iload_n C dX1_canStandUnder_48 rfl ?_
                refine v_iconst (v := -1) C dX1_canStandUnder_49 (by decide) ?_
                refine v_icmp_eq (tgt := 68) C dX1_canStandUnder_50 (by decide) (fun c_50 => ?_) (fun c_50 => ?_)
                · skip
                  refine v_iconst (v := 1) C dX1_canStandUnder_68 (by decide) ?_
                  refine v_goto (tgt := 73) C dX1_canStandUnder_69 (by decide) ?_
                  refine v_zret C hr (by first | rfl | exact bI_nar _) (Nat.le_of_ble_eq_true rfl) (Nat.le_of_ble_eq_true rfl) dX1_canStandUnder_73 ?_
                  first
                    | exact ⟨true, rfl, rfl⟩
                    | exact ⟨false, rfl, rfl⟩
                    | exact ⟨_, rfl, rfl⟩
                · skip
                  refine v_iload_n C dX1_canStandUnder_53 rfl ?_
                  refine v_iload_n C dX1_canStandUnder_54 rfl ?_
                  refine v_icmp_eq (tgt := 72) C dX1_canStandUnder_55 (by decide) (fun c_55 => ?_) (fun c_55 => ?_)
                  · skip
                    refine v_iconst (v := 0) C dX1_canStandUnder_72 (by decide) ?_
                    refine v_zret C hr (by first | rfl | exact bI_nar _) (Nat.le_of_ble_eq_true rfl) (Nat.le_of_ble_eq_true rfl) dX1_canStandUnder_73 ?_
                    first
                      | exact ⟨true, rfl, rfl⟩
                      | exact ⟨false, rfl, rfl⟩
                      | exact ⟨_, rfl, rfl⟩
                  · skip
                    refine v_iload_n C dX1_canStandUnder_58 rfl ?_
                    refine v_iload_n C dX1_canStandUnder_59 rfl ?_
                    refine v_icmp_eq (tgt := 72) C dX1_canStandUnder_60 (by decide) (fun c_60 => ?_) (fun c_60 => ?_)
                    · skip
                      refine v_iconst (v := 0) C dX1_canStandUnder_72 (by decide) ?_
                      refine v_zret C hr (by first | rfl | exact bI_nar _) (Nat.le_of_ble_eq_true rfl) (Nat.le_of_ble_eq_true rfl) dX1_canStandUnder_73 ?_
                      first
                        | exact ⟨true, rfl, rfl⟩
                        | exact ⟨false, rfl, rfl⟩
                        | exact ⟨_, rfl, rfl⟩
                    · skip
                      refine v_iload_n C dX1_canStandUnder_63 rfl ?_
                      refine v_iload_n C dX1_canStandUnder_64 rfl ?_
                      refine v_icmp_eq (tgt := 72) C dX1_canStandUnder_65 (by decide) (fun c_65 => ?_) (fun c_65 => ?_)
                      · skip
                        refine v_iconst (v := 0) C dX1_canStandUnder_72 (by decide) ?_
                        refine v_zret C hr (by first | rfl | exact bI_nar _) (Nat.le_of_ble_eq_true rfl) (Nat.le_of_ble_eq_true rfl) dX1_canStandUnder_73 ?_
                        first
                          | exact ⟨true, rfl, rfl⟩
                          | exact ⟨false, rfl, rfl⟩
                          | exact ⟨_, rfl, rfl⟩
                      · skip
                        refine v_iconst (v := 1) C dX1_canStandUnder_68 (by decide) ?_
                        refine v_goto (tgt := 73) C dX1_canStandUnder_69 (by decide) ?_
                        refine v_zret C hr (by first | rfl | exact bI_nar _) (Nat.le_of_ble_eq_true rfl) (Nat.le_of_ble_eq_true rfl) dX1_canStandUnder_73 ?_
                        first
                          | exact ⟨true, rfl, rfl⟩
                          | exact ⟨false, rfl, rfl⟩
                          | exact ⟨_, rfl, rfl⟩
              · skip
                refine v_iconst (v := 0) C dX1_canStandUnder_46 (by decide) ?_
                refine v_zret C hr (by first | rfl | exact bI_nar _) (Nat.le_of_ble_eq_true rfl) (Nat.le_of_ble_eq_true rfl) dX1_canStandUnder_47 ?_
                first
                  | exact ⟨true, rfl, rfl⟩
                  | exact ⟨false, rfl, rfl⟩
                  | exact ⟨_, rfl, rfl⟩
      · skip
        refine v_iconst (v := 0) C dX1_canStandUnder_24 (by decide) ?_
        refine v_zret C hr (by first | rfl | exact bI_nar _) (Nat.le_of_ble_eq_true rfl) (Nat.le_of_ble_eq_true rfl) dX1_canStandUnder_25 ?_
        first
          | exact ⟨true, rfl, rfl⟩
          | exact ⟨false, rfl, rfl⟩
          | exact ⟨_, rfl, rfl⟩
theorem dX1_addToMerger_0 : decode cX1_addToMerger 0 = .ok (.aload_n 0, 1) := by decide +kernel
theorem dX1_addToMerger_1 : decode cX1_addToMerger 1 = .ok (.iload_n 1, 1) := by decide +kernel
theorem dX1_addToMerger_2 : decode cX1_addToMerger 2 = .ok (.invokevirtual 45, 3) := by decide +kernel
theorem dX1_addToMerger_5 : decode cX1_addToMerger 5 = .ok (.astore_n 2, 1) := by decide +kernel
theorem dX1_addToMerger_6 : decode cX1_addToMerger 6 = .ok (.aload_n 2, 1) := by decide +kernel
theorem dX1_addToMerger_7 : decode cX1_addToMerger 7 = .ok (.ifnull 15, 3) := by decide +kernel
theorem dX1_addToMerger_10 : decode cX1_addToMerger 10 = .ok (.aload_n 0, 1) := by decide +kernel
theorem dX1_addToMerger_11 : decode cX1_addToMerger 11 = .ok (.getfield 26, 3) := by decide +kernel
theorem dX1_addToMerger_14 : decode cX1_addToMerger 14 = .ok (.iload_n 1, 1) := by decide +kernel
theorem dX1_addToMerger_15 : decode cX1_addToMerger 15 = .ok (.aload_n 2, 1) := by decide +kernel
theorem dX1_addToMerger_16 : decode cX1_addToMerger 16 = .ok (.getfield 68, 3) := by decide +kernel
theorem dX1_addToMerger_19 : decode cX1_addToMerger 19 = .ok (.invokevirtual 72, 3) := by decide +kernel
theorem dX1_addToMerger_22 : decode cX1_addToMerger 22 = .ok (.return_, 1) := by decide +kernel
set_option maxRecDepth 100000 in
set_option maxHeartbeats 4000000 in
theorem st_X1_addToMerger (l : Launch) (M : Nat → Prop) (h : Nat) (p0 : Int32) : Ct l yX1_addToMerger cX1_addToMerger 3 none 3 0 0 64 (fun S av => av = [.ref h, .int p0] ∧ INV M [] S ∧ is S h 1) (fun S _ r S' => r = none ∧ INV M [] S' ∧ ext S S' (fun a => ¬ M a ∧ mK S a ∈ [3, 4, 11, 15])) := by
  refine ct_of (by decide) (fun S av h => by obtain ⟨rfl, iv, i_this⟩ := h; exact Nat.le_of_ble_eq_true rfl) ?_
  intro p e s m args below meth c D G bs S av C hr hin hpre
  obtain ⟨rfl, iv, i_this⟩ := hpre
  have E0 : ext S S (fun a => ¬ M a ∧ mK S a ∈ [3, 4, 11, 15]) := ext_rfl
  refine v_aload_n C dX1_addToMerger_0 rfl ?_
  refine v_iload_n C dX1_addToMerger_1 rfl ?_
  refine v_callV (As := [_]) (n := 1) C (st_X1_traitAt l _ _ _) rfl i_this (by decide) rfl ⟨wd137, wd138, wd139, wd15, wd140⟩ ⟨rfl, hy_X1_traitAt⟩ rfl ⟨Nat.le_of_ble_eq_true rfl, Nat.le_of_ble_eq_true rfl⟩ (Nat.le_of_ble_eq_true rfl) ⟨Nat.le_of_ble_eq_true rfl, Nat.le_of_ble_eq_true rfl⟩ dX1_addToMerger_2 ⟨rfl, iv, i_this⟩ (fun r_2 S2_2 h_2 => ?_)
  obtain ⟨v2, rfl, n_v2, q_v2⟩ := h_2
  obtain rfl := q_v2.symm
  refine v_qstore_n C dX1_addToMerger_5 (by decide) (by first | rfl | exact cat_ok _ | simp [okS, cat_rf]) ?_
  refine v_qload_n C dX1_addToMerger_6 rfl ?_
  refine v_ifnull (tgt := 22) C dX1_addToMerger_7 (by decide) (fun c_7 => ?_) (fun b7 c_7 => ?_)
  · skip
    subst c_7
    refine v_vret C hr (Nat.le_of_ble_eq_true rfl) (Nat.le_of_ble_eq_true rfl) dX1_addToMerger_22 ?_
    exact ⟨rfl, iv, E0⟩
  · skip
    subst c_7
    have i_b7 := nOK_some n_v2 rfl
    refine v_aload_n C dX1_addToMerger_10 rfl ?_
    obtain ⟨a11, e_a11, i_a11⟩ := T68 iv i_this List.not_mem_nil
    refine r1_26 (b := a11) C i_this e_a11 dX1_addToMerger_11 ?_
    refine v_iload_n C dX1_addToMerger_14 rfl ?_
    refine v_aload_n C dX1_addToMerger_15 rfl ?_
    obtain ⟨a16, e_a16, i_a16⟩ := T512 iv i_b7 List.not_mem_nil
    refine r1_68 (b := a16) C i_b7 e_a16 dX1_addToMerger_16 ?_
    refine v_callV (As := [_, _]) (n := 2) C (st_X4_addGiver l _ _ _ _) rfl i_a11 (by decide) rfl ⟨wd162, wd163, wd164, wd31, wd165⟩ ⟨rfl, hy_X4_addGiver⟩ rfl ⟨Nat.le_of_ble_eq_true rfl, Nat.le_of_ble_eq_true rfl⟩ (Nat.le_of_ble_eq_true rfl) ⟨Nat.le_of_ble_eq_true rfl, Nat.le_of_ble_eq_true rfl⟩ dX1_addToMerger_19 ⟨rfl, iv, i_a11, i_a16⟩ (fun r_19 S4_19 h_19 => ?_)
    obtain ⟨rfl, iv2, x_19⟩ := h_19
    have i_this := is_ext x_19 i_this
    have i_b7 := is_ext x_19 i_b7
    have i_a11 := is_ext x_19 i_a11
    have i_a16 := is_ext x_19 i_a16
    have E0' := ext_tr E0 x_19 (xk_call E0 (by decide))
    have E0 := E0'
    have iv := iv2
    refine v_vret C hr (Nat.le_of_ble_eq_true rfl) (Nat.le_of_ble_eq_true rfl) dX1_addToMerger_22 ?_
    exact ⟨rfl, iv, E0⟩
theorem dX1_alignsUnder_0 : decode cX1_alignsUnder 0 = .ok (.aload_n 0, 1) := by decide +kernel
theorem dX1_alignsUnder_1 : decode cX1_alignsUnder 1 = .ok (.getfield 26, 3) := by decide +kernel
theorem dX1_alignsUnder_4 : decode cX1_alignsUnder 4 = .ok (.invokevirtual 49, 3) := by decide +kernel
theorem dX1_alignsUnder_7 : decode cX1_alignsUnder 7 = .ok (.aload_n 0, 1) := by decide +kernel
theorem dX1_alignsUnder_8 : decode cX1_alignsUnder 8 = .ok (.iload_n 1, 1) := by decide +kernel
theorem dX1_alignsUnder_9 : decode cX1_alignsUnder 9 = .ok (.invokevirtual 52, 3) := by decide +kernel
theorem dX1_alignsUnder_12 : decode cX1_alignsUnder 12 = .ok (.aload_n 0, 1) := by decide +kernel
theorem dX1_alignsUnder_13 : decode cX1_alignsUnder 13 = .ok (.iload_n 2, 1) := by decide +kernel
theorem dX1_alignsUnder_14 : decode cX1_alignsUnder 14 = .ok (.invokevirtual 52, 3) := by decide +kernel
theorem dX1_alignsUnder_17 : decode cX1_alignsUnder 17 = .ok (.aload_n 0, 1) := by decide +kernel
theorem dX1_alignsUnder_18 : decode cX1_alignsUnder 18 = .ok (.iload_n 3, 1) := by decide +kernel
theorem dX1_alignsUnder_19 : decode cX1_alignsUnder 19 = .ok (.invokevirtual 52, 3) := by decide +kernel
theorem dX1_alignsUnder_22 : decode cX1_alignsUnder 22 = .ok (.aload_n 0, 1) := by decide +kernel
theorem dX1_alignsUnder_23 : decode cX1_alignsUnder 23 = .ok (.getfield 26, 3) := by decide +kernel
theorem dX1_alignsUnder_26 : decode cX1_alignsUnder 26 = .ok (.invokevirtual 56, 3) := by decide +kernel
theorem dX1_alignsUnder_29 : decode cX1_alignsUnder 29 = .ok (.ireturn, 1) := by decide +kernel
set_option maxRecDepth 100000 in
set_option maxHeartbeats 4000000 in
theorem st_X1_alignsUnder (l : Launch) (M : Nat → Prop) (h : Nat) (p0 : Int32) (p1 : Int32) (p2 : Int32) : Ct l yX1_alignsUnder cX1_alignsUnder 4 (some .boolean) 5 0 0 109 (fun S av => av = [.ref h, .int p0, .int p1, .int p2] ∧ INV M [] S ∧ is S h 1) (fun S _ r S' => ∃ v, r = some (.int (bI v)) ∧ INV M [] S' ∧ ext S S' (fun a => ¬ M a ∧ mK S a ∈ [3, 4, 11, 15])) := by
  refine ct_of (by decide) (fun S av h => by obtain ⟨rfl, iv, i_this⟩ := h; exact Nat.le_of_ble_eq_true rfl) ?_
  intro p e s m args below meth c D G bs S av C hr hin hpre
  obtain ⟨rfl, iv, i_this⟩ := hpre
  have E0 : ext S S (fun a => ¬ M a ∧ mK S a ∈ [3, 4, 11, 15]) := ext_rfl
  refine v_aload_n C dX1_alignsUnder_0 rfl ?_
  obtain ⟨a1, e_a1, i_a1⟩ := T68 iv i_this List.not_mem_nil
  refine r1_26 (b := a1) C i_this e_a1 dX1_alignsUnder_1 ?_
  refine v_callV (As := []) (n := 0) C (st_X4_begin l _ _) rfl i_a1 (by decide) rfl ⟨wd147, wd148, wd149, wd31, wd150⟩ ⟨rfl, hy_X4_begin⟩ rfl ⟨Nat.le_of_ble_eq_true rfl, Nat.le_of_ble_eq_true rfl⟩ (Nat.le_of_ble_eq_true rfl) ⟨Nat.le_of_ble_eq_true rfl, Nat.le_of_ble_eq_true rfl⟩ dX1_alignsUnder_4 ⟨rfl, iv, i_a1⟩ (fun r_4 S2_4 h_4 => ?_)
  obtain ⟨rfl, iv2, x_4⟩ := h_4
  have i_this := is_ext x_4 i_this
  have i_a1 := is_ext x_4 i_a1
  have E0' := ext_tr E0 x_4 (xk_call E0 (by decide))
  have E0 := E0'
  have iv := iv2
  refine v_aload_n C dX1_alignsUnder_7 rfl ?_
  refine v_iload_n C dX1_alignsUnder_8 rfl ?_
  refine v_callV (As := [_]) (n := 1) C (st_X1_addToMerger l _ _ _) rfl i_this (by decide) rfl ⟨wd157, wd158, wd159, wd15, wd160⟩ ⟨rfl, hy_X1_addToMerger⟩ rfl ⟨Nat.le_of_ble_eq_true rfl, Nat.le_of_ble_eq_true rfl⟩ (Nat.le_of_ble_eq_true rfl) ⟨Nat.le_of_ble_eq_true rfl, Nat.le_of_ble_eq_true rfl⟩ dX1_alignsUnder_9 ⟨rfl, iv, i_this⟩ (fun r_9 S2_9 h_9 => ?_)
  obtain ⟨rfl, iv2, x_9⟩ := h_9
  have i_this := is_ext x_9 i_this
  have i_a1 := is_ext x_9 i_a1
  have E0' := ext_tr E0 x_9 (xk_call E0 (by decide))
  have E0 := E0'
  have iv := iv2
  refine v_aload_n C dX1_alignsUnder_12 rfl ?_
  refine v_iload_n C dX1_alignsUnder_13 rfl ?_
  refine v_callV (As := [_]) (n := 1) C (st_X1_addToMerger l _ _ _) rfl i_this (by decide) rfl ⟨wd157, wd158, wd159, wd15, wd160⟩ ⟨rfl, hy_X1_addToMerger⟩ rfl ⟨Nat.le_of_ble_eq_true rfl, Nat.le_of_ble_eq_true rfl⟩ (Nat.le_of_ble_eq_true rfl) ⟨Nat.le_of_ble_eq_true rfl, Nat.le_of_ble_eq_true rfl⟩ dX1_alignsUnder_14 ⟨rfl, iv, i_this⟩ (fun r_14 S2_14 h_14 => ?_)
  obtain ⟨rfl, iv2, x_14⟩ := h_14
  have i_this := is_ext x_14 i_this
  have i_a1 := is_ext x_14 i_a1
  have E0' := ext_tr E0 x_14 (xk_call E0 (by decide))
  have E0 := E0'
  have iv := iv2
  refine v_aload_n C dX1_alignsUnder_17 rfl ?_
  refine v_iload_n C dX1_alignsUnder_18 rfl ?_
  refine v_callV (As := [_]) (n := 1) C (st_X1_addToMerger l _ _ _) rfl i_this (by decide) rfl ⟨wd157, wd158, wd159, wd15, wd160⟩ ⟨rfl, hy_X1_addToMerger⟩ rfl ⟨Nat.le_of_ble_eq_true rfl, Nat.le_of_ble_eq_true rfl⟩ (Nat.le_of_ble_eq_true rfl) ⟨Nat.le_of_ble_eq_true rfl, Nat.le_of_ble_eq_true rfl⟩ dX1_alignsUnder_19 ⟨rfl, iv, i_this⟩ (fun r_19 S2_19 h_19 => ?_)
  obtain ⟨rfl, iv2, x_19⟩ := h_19
  have i_this := is_ext x_19 i_this
  have i_a1 := is_ext x_19 i_a1
  have E0' := ext_tr E0 x_19 (xk_call E0 (by decide))
  have E0 := E0'
  have iv := iv2
  refine v_aload_n C dX1_alignsUnder_22 rfl ?_
  obtain ⟨a23, e_a23, i_a23⟩ := T68 iv i_this List.not_mem_nil
  refine r1_26 (b := a23) C i_this e_a23 dX1_alignsUnder_23 ?_
  refine v_callV (As := []) (n := 0) C (st_X4_merges l _ _) rfl i_a23 (by decide) rfl ⟨wd174, wd175, wd176, wd31, wd177⟩ ⟨rfl, hy_X4_merges⟩ rfl ⟨Nat.le_of_ble_eq_true rfl, Nat.le_of_ble_eq_true rfl⟩ (Nat.le_of_ble_eq_true rfl) ⟨Nat.le_of_ble_eq_true rfl, Nat.le_of_ble_eq_true rfl⟩ dX1_alignsUnder_26 ⟨rfl, iv, i_a23⟩ (fun r_26 S2_26 h_26 => ?_)
  obtain ⟨v26, rfl, iv2, x_26⟩ := h_26
  have i_this := is_ext x_26 i_this
  have i_a1 := is_ext x_26 i_a1
  have i_a23 := is_ext x_26 i_a23
  have E0' := ext_tr E0 x_26 (xk_call E0 (by decide))
  have E0 := E0'
  have iv := iv2
  refine v_zret C hr (by first | rfl | exact bI_nar _) (Nat.le_of_ble_eq_true rfl) (Nat.le_of_ble_eq_true rfl) dX1_alignsUnder_29 ?_
  first
    | exact ⟨true, rfl, iv, E0⟩
    | exact ⟨false, rfl, iv, E0⟩
    | exact ⟨_, rfl, iv, E0⟩
theorem dX1_alignsTaking_0 : decode cX1_alignsTaking 0 = .ok (.aload_n 0, 1) := by decide +kernel
theorem dX1_alignsTaking_1 : decode cX1_alignsTaking 1 = .ok (.getfield 26, 3) := by decide +kernel
theorem dX1_alignsTaking_4 : decode cX1_alignsTaking 4 = .ok (.invokevirtual 49, 3) := by decide +kernel
theorem dX1_alignsTaking_7 : decode cX1_alignsTaking 7 = .ok (.iconst 0, 1) := by decide +kernel
theorem dX1_alignsTaking_8 : decode cX1_alignsTaking 8 = .ok (.istore_n 3, 1) := by decide +kernel
theorem dX1_alignsTaking_9 : decode cX1_alignsTaking 9 = .ok (.iload_n 3, 1) := by decide +kernel
theorem dX1_alignsTaking_10 : decode cX1_alignsTaking 10 = .ok (.aload_n 1, 1) := by decide +kernel
theorem dX1_alignsTaking_11 : decode cX1_alignsTaking 11 = .ok (.getfield 60, 3) := by decide +kernel
theorem dX1_alignsTaking_14 : decode cX1_alignsTaking 14 = .ok (.if_icmp .ge 18, 3) := by decide +kernel
theorem dX1_alignsTaking_17 : decode cX1_alignsTaking 17 = .ok (.aload_n 0, 1) := by decide +kernel
theorem dX1_alignsTaking_18 : decode cX1_alignsTaking 18 = .ok (.aload_n 1, 1) := by decide +kernel
theorem dX1_alignsTaking_19 : decode cX1_alignsTaking 19 = .ok (.iload_n 3, 1) := by decide +kernel
theorem dX1_alignsTaking_20 : decode cX1_alignsTaking 20 = .ok (.invokevirtual 64, 3) := by decide +kernel
theorem dX1_alignsTaking_23 : decode cX1_alignsTaking 23 = .ok (.invokevirtual 52, 3) := by decide +kernel
theorem dX1_alignsTaking_26 : decode cX1_alignsTaking 26 = .ok (.iinc 3 1, 3) := by decide +kernel
theorem dX1_alignsTaking_29 : decode cX1_alignsTaking 29 = .ok (.goto (-20), 3) := by decide +kernel
theorem dX1_alignsTaking_32 : decode cX1_alignsTaking 32 = .ok (.aload_n 0, 1) := by decide +kernel
theorem dX1_alignsTaking_33 : decode cX1_alignsTaking 33 = .ok (.iload_n 2, 1) := by decide +kernel
theorem dX1_alignsTaking_34 : decode cX1_alignsTaking 34 = .ok (.invokevirtual 52, 3) := by decide +kernel
theorem dX1_alignsTaking_37 : decode cX1_alignsTaking 37 = .ok (.aload_n 0, 1) := by decide +kernel
theorem dX1_alignsTaking_38 : decode cX1_alignsTaking 38 = .ok (.getfield 26, 3) := by decide +kernel
theorem dX1_alignsTaking_41 : decode cX1_alignsTaking 41 = .ok (.invokevirtual 56, 3) := by decide +kernel
theorem dX1_alignsTaking_44 : decode cX1_alignsTaking 44 = .ok (.ireturn, 1) := by decide +kernel
set_option maxRecDepth 100000 in
set_option maxHeartbeats 4000000 in
theorem st_X1_alignsTaking (l : Launch) (M : Nat → Prop) (h : Nat) (p0 : Nat) (p1 : Int32) : Ct l yX1_alignsTaking cX1_alignsTaking 4 (some .boolean) 5 0 0 109 (fun S av => av = [.ref h, .ref p0, .int p1] ∧ INV M [] S ∧ is S h 1 ∧ is S p0 2) (fun S _ r S' => ∃ v, r = some (.int (bI v)) ∧ INV M [] S' ∧ ext S S' (fun a => ¬ M a ∧ mK S a ∈ [3, 4, 11, 15])) := by
  refine ct_of (by decide) (fun S av h => by obtain ⟨rfl, iv, i_this, i_p0⟩ := h; exact Nat.le_of_ble_eq_true rfl) ?_
  intro p e s m args below meth c D G bs S av C hr hin hpre
  obtain ⟨rfl, iv, i_this, i_p0⟩ := hpre
  have E0 : ext S S (fun a => ¬ M a ∧ mK S a ∈ [3, 4, 11, 15]) := ext_rfl
  refine v_aload_n C dX1_alignsTaking_0 rfl ?_
  obtain ⟨a1, e_a1, i_a1⟩ := T68 iv i_this List.not_mem_nil
  refine r1_26 (b := a1) C i_this e_a1 dX1_alignsTaking_1 ?_
  refine v_callV (As := []) (n := 0) C (st_X4_begin l _ _) rfl i_a1 (by decide) rfl ⟨wd147, wd148, wd149, wd31, wd150⟩ ⟨rfl, hy_X4_begin⟩ rfl ⟨Nat.le_of_ble_eq_true rfl, Nat.le_of_ble_eq_true rfl⟩ (Nat.le_of_ble_eq_true rfl) ⟨Nat.le_of_ble_eq_true rfl, Nat.le_of_ble_eq_true rfl⟩ dX1_alignsTaking_4 ⟨rfl, iv, i_a1⟩ (fun r_4 S2_4 h_4 => ?_)
  obtain ⟨rfl, iv2, x_4⟩ := h_4
  have i_this := is_ext x_4 i_this
  have i_p0 := is_ext x_4 i_p0
  have i_a1 := is_ext x_4 i_a1
  have E0' := ext_tr E0 x_4 (xk_call E0 (by decide))
  have E0 := E0'
  have iv := iv2
  refine v_iconst (v := 0) C dX1_alignsTaking_7 (by decide) ?_
  refine v_istore_n C dX1_alignsTaking_8 (by decide) (by first | rfl | exact cat_ok _ | simp [okS, cat_rf]) ?_
  refine V.lits (lv' := [_, _, _, _]) rfl ?_
  refine v_loop (fun (t : Int32) lv0 => (lv0.set 3 (some (.int t)))) (fun (S1 : Mem) (t : Int32) => INV M [] S1 ∧ is S1 h 1 ∧ is S1 p0 2 ∧ ext S S1 (fun a => ¬ M a ∧ mK S a ∈ [3, 4, 11, 15])) (fun (S1 : Mem) (t : Int32) => upm t) (t := _) rfl ⟨iv, i_this, i_p0, E0⟩ ?_
  intro L9 t h_9 ih_9
  revert h_9 ih_9
  revert t
  intro t0_9 h_9 ih_9
  obtain ⟨iv, i_this, i_p0, E0⟩ := h_9
  try dsimp only
  refine v_iload_n C dX1_alignsTaking_9 rfl ?_
  refine v_aload_n C dX1_alignsTaking_10 rfl ?_
  refine g1_60 C i_p0 dX1_alignsTaking_11 ?_
  refine v_topi (fun v11 e_v11 => ?_)
  refine v_icmp_ge (tgt := 32) C dX1_alignsTaking_14 (by decide) (fun c_14 => ?_) (fun c_14 => ?_)
  · skip
    refine v_aload_n C dX1_alignsTaking_32 rfl ?_
    refine v_iload_n C dX1_alignsTaking_33 rfl ?_
    refine v_callV (As := [_]) (n := 1) C (st_X1_addToMerger l _ _ _) rfl i_this (by decide) rfl ⟨wd157, wd158, wd159, wd15, wd160⟩ ⟨rfl, hy_X1_addToMerger⟩ rfl ⟨Nat.le_of_ble_eq_true rfl, Nat.le_of_ble_eq_true rfl⟩ (Nat.le_of_ble_eq_true rfl) ⟨Nat.le_of_ble_eq_true rfl, Nat.le_of_ble_eq_true rfl⟩ dX1_alignsTaking_34 ⟨rfl, iv, i_this⟩ (fun r_34 S2_34 h_34 => ?_)
    obtain ⟨rfl, iv2, x_34⟩ := h_34
    have i_this := is_ext x_34 i_this
    have i_p0 := is_ext x_34 i_p0
    have E0' := ext_tr E0 x_34 (xk_call E0 (by decide))
    have E0 := E0'
    have iv := iv2
    refine v_aload_n C dX1_alignsTaking_37 rfl ?_
    obtain ⟨a38, e_a38, i_a38⟩ := T68 iv i_this List.not_mem_nil
    refine r1_26 (b := a38) C i_this e_a38 dX1_alignsTaking_38 ?_
    refine v_callV (As := []) (n := 0) C (st_X4_merges l _ _) rfl i_a38 (by decide) rfl ⟨wd174, wd175, wd176, wd31, wd177⟩ ⟨rfl, hy_X4_merges⟩ rfl ⟨Nat.le_of_ble_eq_true rfl, Nat.le_of_ble_eq_true rfl⟩ (Nat.le_of_ble_eq_true rfl) ⟨Nat.le_of_ble_eq_true rfl, Nat.le_of_ble_eq_true rfl⟩ dX1_alignsTaking_41 ⟨rfl, iv, i_a38⟩ (fun r_41 S2_41 h_41 => ?_)
    obtain ⟨v41, rfl, iv2, x_41⟩ := h_41
    have i_this := is_ext x_41 i_this
    have i_p0 := is_ext x_41 i_p0
    have i_a38 := is_ext x_41 i_a38
    have E0' := ext_tr E0 x_41 (xk_call E0 (by decide))
    have E0 := E0'
    have iv := iv2
    refine v_zret C hr (by first | rfl | exact bI_nar _) (Nat.le_of_ble_eq_true rfl) (Nat.le_of_ble_eq_true rfl) dX1_alignsTaking_44 ?_
    first
      | exact ⟨true, rfl, iv, E0⟩
      | exact ⟨false, rfl, iv, E0⟩
      | exact ⟨_, rfl, iv, E0⟩
  · skip
    refine v_aload_n C dX1_alignsTaking_17 rfl ?_
    refine v_aload_n C dX1_alignsTaking_18 rfl ?_
    refine v_iload_n C dX1_alignsTaking_19 rfl ?_
    refine v_callV (As := [_]) (n := 1) C (st_X2_takenAt l _ _ _) rfl i_p0 (by decide) rfl ⟨wd319, wd311, wd312, wd271, wd313⟩ ⟨rfl, hy_X2_takenAt⟩ rfl ⟨Nat.le_of_ble_eq_true rfl, Nat.le_of_ble_eq_true rfl⟩ (Nat.le_of_ble_eq_true rfl) ⟨Nat.le_of_ble_eq_true rfl, Nat.le_of_ble_eq_true rfl⟩ dX1_alignsTaking_20 ⟨rfl, iv, i_p0⟩ (fun r_20 S2_20 h_20 => ?_)
    obtain ⟨v20, rfl, q_v20⟩ := h_20
    obtain rfl := q_v20.symm
    refine v_callV (As := [_]) (n := 1) C (st_X1_addToMerger l _ _ _) rfl i_this (by decide) rfl ⟨wd157, wd158, wd159, wd15, wd160⟩ ⟨rfl, hy_X1_addToMerger⟩ rfl ⟨Nat.le_of_ble_eq_true rfl, Nat.le_of_ble_eq_true rfl⟩ (Nat.le_of_ble_eq_true rfl) ⟨Nat.le_of_ble_eq_true rfl, Nat.le_of_ble_eq_true rfl⟩ dX1_alignsTaking_23 ⟨rfl, iv, i_this⟩ (fun r_23 S2_23 h_23 => ?_)
    obtain ⟨rfl, iv2, x_23⟩ := h_23
    have i_this := is_ext x_23 i_this
    have i_p0 := is_ext x_23 i_p0
    have E0' := ext_tr E0 x_23 (xk_call E0 (by decide))
    have E0 := E0'
    have iv := iv2
    refine v_iinc C dX1_alignsTaking_26 rfl rfl (by decide) (by first | rfl | exact cat_ok _ | simp [okS, cat_rf]) ?_
    refine v_goto (tgt := 9) C dX1_alignsTaking_29 (by decide) ?_
    refine V.lits (lv' := [_, _, _, _]) rfl ?_
    exact ih_9 _ _ (upm_lt c_14) ⟨iv, i_this, i_p0, E0⟩
theorem dX1_addTrait_0 : decode cX1_addTrait 0 = .ok (.aload_n 0, 1) := by decide +kernel
theorem dX1_addTrait_1 : decode cX1_addTrait 1 = .ok (.getfield 76, 3) := by decide +kernel
theorem dX1_addTrait_4 : decode cX1_addTrait 4 = .ok (.istore_n 1, 1) := by decide +kernel
theorem dX1_addTrait_5 : decode cX1_addTrait 5 = .ok (.iload_n 1, 1) := by decide +kernel
theorem dX1_addTrait_6 : decode cX1_addTrait 6 = .ok (.bipush 20, 2) := by decide +kernel
theorem dX1_addTrait_8 : decode cX1_addTrait 8 = .ok (.invokestatic 37, 3) := by decide +kernel
theorem dX1_addTrait_11 : decode cX1_addTrait 11 = .ok (.ifCond .eq 50, 3) := by decide +kernel
theorem dX1_addTrait_14 : decode cX1_addTrait 14 = .ok (.new 9, 3) := by decide +kernel
theorem dX1_addTrait_17 : decode cX1_addTrait 17 = .ok (.dup, 1) := by decide +kernel
theorem dX1_addTrait_18 : decode cX1_addTrait 18 = .ok (.invokespecial 79, 3) := by decide +kernel
theorem dX1_addTrait_21 : decode cX1_addTrait 21 = .ok (.astore_n 2, 1) := by decide +kernel
theorem dX1_addTrait_22 : decode cX1_addTrait 22 = .ok (.aload_n 2, 1) := by decide +kernel
theorem dX1_addTrait_23 : decode cX1_addTrait 23 = .ok (.getfield 68, 3) := by decide +kernel
theorem dX1_addTrait_26 : decode cX1_addTrait 26 = .ok (.iload_n 1, 1) := by decide +kernel
theorem dX1_addTrait_27 : decode cX1_addTrait 27 = .ok (.invokevirtual 80, 3) := by decide +kernel
theorem dX1_addTrait_30 : decode cX1_addTrait 30 = .ok (.aload_n 2, 1) := by decide +kernel
theorem dX1_addTrait_31 : decode cX1_addTrait 31 = .ok (.getfield 68, 3) := by decide +kernel
theorem dX1_addTrait_34 : decode cX1_addTrait 34 = .ok (.aload_n 0, 1) := by decide +kernel
theorem dX1_addTrait_35 : decode cX1_addTrait 35 = .ok (.getfield 26, 3) := by decide +kernel
theorem dX1_addTrait_38 : decode cX1_addTrait 38 = .ok (.getfield 85, 3) := by decide +kernel
theorem dX1_addTrait_41 : decode cX1_addTrait 41 = .ok (.invokevirtual 88, 3) := by decide +kernel
theorem dX1_addTrait_44 : decode cX1_addTrait 44 = .ok (.aload_n 0, 1) := by decide +kernel
theorem dX1_addTrait_45 : decode cX1_addTrait 45 = .ok (.getfield 11, 3) := by decide +kernel
theorem dX1_addTrait_48 : decode cX1_addTrait 48 = .ok (.iload_n 1, 1) := by decide +kernel
theorem dX1_addTrait_49 : decode cX1_addTrait 49 = .ok (.aload_n 2, 1) := by decide +kernel
theorem dX1_addTrait_50 : decode cX1_addTrait 50 = .ok (.aastore, 1) := by decide +kernel
theorem dX1_addTrait_51 : decode cX1_addTrait 51 = .ok (.aload_n 0, 1) := by decide +kernel
theorem dX1_addTrait_52 : decode cX1_addTrait 52 = .ok (.dup, 1) := by decide +kernel
theorem dX1_addTrait_53 : decode cX1_addTrait 53 = .ok (.getfield 76, 3) := by decide +kernel
theorem dX1_addTrait_56 : decode cX1_addTrait 56 = .ok (.iconst 1, 1) := by decide +kernel
theorem dX1_addTrait_57 : decode cX1_addTrait 57 = .ok (.iadd, 1) := by decide +kernel
theorem dX1_addTrait_58 : decode cX1_addTrait 58 = .ok (.putfield 76, 3) := by decide +kernel
theorem dX1_addTrait_61 : decode cX1_addTrait 61 = .ok (.iload_n 1, 1) := by decide +kernel
theorem dX1_addTrait_62 : decode cX1_addTrait 62 = .ok (.ireturn, 1) := by decide +kernel
set_option maxRecDepth 100000 in
set_option maxHeartbeats 4000000 in
theorem st_X1_addTrait (l : Launch) (M : Nat → Prop) (h : Nat) : Ct l yX1_addTrait cX1_addTrait 3 (some .int) 3 6 70 64 (fun S av => av = [.ref h] ∧ INV M [] S ∧ is S h 1) (fun S _ r S' => ∃ v, r = some (.int v) ∧ INV M [] S' ∧ ext S S' (fun a => ¬ M a ∧ mK S a ∈ [1, 3, 11, 17])) := by
  refine ct_of (by decide) (fun S av h => by obtain ⟨rfl, iv, i_this⟩ := h; exact Nat.le_of_ble_eq_true rfl) ?_
  intro p e s m args below meth c D G bs S av C hr hin hpre
  obtain ⟨rfl, iv, i_this⟩ := hpre
  have E0 : ext S S (fun a => ¬ M a ∧ mK S a ∈ [1, 3, 11, 17]) := ext_rfl
  refine v_aload_n C dX1_addTrait_0 rfl ?_
  refine g1_76 C i_this dX1_addTrait_1 ?_
  refine v_topi (fun v1 e_v1 => ?_)
  refine v_istore_n C dX1_addTrait_4 (by decide) (by first | rfl | exact cat_ok _ | simp [okS, cat_rf]) ?_
  refine v_iload_n C dX1_addTrait_5 rfl ?_
  refine v_bipush (v := 20) C dX1_addTrait_6 (by decide) ?_
  refine v_callSN (As := [_, _]) (n := 2) C (sb_isBelow l _ _) rfl ⟨(by decide +kernel), wd141, wd2, wd142⟩ hy_X9_isBelow rfl ⟨Nat.le_of_ble_eq_true rfl, Nat.le_of_ble_eq_true rfl⟩ (Nat.le_of_ble_eq_true rfl) ⟨Nat.le_of_ble_eq_true rfl, Nat.le_of_ble_eq_true rfl⟩ dX1_addTrait_8 rfl (fun r_8 S2_8 h_8 => ?_)
  obtain ⟨v8, rfl, p_v8, q_v8⟩ := h_8
  obtain rfl := q_v8.symm
  refine v_if_eq (tgt := 61) C dX1_addTrait_11 (by decide) (fun c_11 => ?_) (fun c_11 => ?_)
  · skip
    refine v_iload_n C dX1_addTrait_61 rfl ?_
    refine v_iret C hr (Nat.le_of_ble_eq_true rfl) (Nat.le_of_ble_eq_true rfl) dX1_addTrait_62 ?_
    exact ⟨_, rfl, iv, E0⟩
  · skip
    refine v_new C (ci := 8) (by decide) rfl inlX8 tyX8_ok wd25 wd211 wd212 nfX8 (Nat.le_of_ble_eq_true rfl) (Nat.le_of_ble_eq_true rfl) dX1_addTrait_14 (fun a14 n_a14 => ?_)
    have nn_a14 := fun z => n_a14 (E0.1 a14 z).1
    refine V.gen (fun S4_14 e_14 => ?_)
    have iv' := inv_sNew e_14 iv n_a14 (by decide)
    have x_14 := x_sNew e_14 n_a14
    have E0' := ext_tr E0 x_14 (fun _ _ z => z.elim)
    have E0 := E0'
    have i_this := is_ext x_14 i_this
    have iv := iv'
    have i_a14 := is_sNewE e_14 n_a14
    have z_a14 := mI_newE e_14
    refine v_dup C dX1_addTrait_17 rfl ?_
    refine v_callIN (As := []) (n := 0) C (st_X8_init l _ _ _) rfl ⟨(by decide +kernel), wd214, wd212, wd215⟩ rfl hy_X8_init rfl ⟨Nat.le_of_ble_eq_true rfl, Nat.le_of_ble_eq_true rfl⟩ (Nat.le_of_ble_eq_true rfl) ⟨Nat.le_of_ble_eq_true rfl, Nat.le_of_ble_eq_true rfl⟩ dX1_addTrait_18 ⟨rfl, iv, i_a14⟩ (fun r_18 S4_18 h_18 => ?_)
    obtain ⟨rfl, iv2, x_18⟩ := h_18
    have E0' := ext_tr E0 x_18 (xn nn_a14)
    have E0 := E0'
    have i_this := is_ext x_18 i_this
    have i_a14 := is_ext x_18 i_a14
    have iv := iv2
    refine v_astore_n C dX1_addTrait_21 (by decide) (by first | rfl | exact cat_ok _ | simp [okS, cat_rf]) ?_
    refine v_aload_n C dX1_addTrait_22 rfl ?_
    obtain ⟨a23, e_a23, i_a23⟩ := T512 iv i_a14 List.not_mem_nil
    refine r1_68 (b := a23) C i_a14 e_a23 dX1_addTrait_23 ?_
    refine v_iload_n C dX1_addTrait_26 rfl ?_
    refine v_callV (As := [_]) (n := 1) C (st_X3_add l _ _ _) rfl i_a23 (by decide) rfl ⟨wd223, wd167, wd168, wd45, wd169⟩ ⟨rfl, hy_X3_add⟩ rfl ⟨Nat.le_of_ble_eq_true rfl, Nat.le_of_ble_eq_true rfl⟩ (Nat.le_of_ble_eq_true rfl) ⟨Nat.le_of_ble_eq_true rfl, Nat.le_of_ble_eq_true rfl⟩ dX1_addTrait_27 ⟨rfl, iv, i_a23⟩ (fun r_27 S4_27 h_27 => ?_)
    obtain ⟨rfl, iv2, x_27⟩ := h_27
    have i_this := is_ext x_27 i_this
    have i_a14 := is_ext x_27 i_a14
    have i_a23 := is_ext x_27 i_a23
    have E0' := ext_tr E0 x_27 (xk_call E0 (by decide))
    have E0 := E0'
    have iv := iv2
    refine v_aload_n C dX1_addTrait_30 rfl ?_
    obtain ⟨a31, e_a31, i_a31⟩ := T512 iv i_a14 List.not_mem_nil
    refine r1_68 (b := a31) C i_a14 e_a31 dX1_addTrait_31 ?_
    refine v_aload_n C dX1_addTrait_34 rfl ?_
    obtain ⟨a35, e_a35, i_a35⟩ := T68 iv i_this List.not_mem_nil
    refine r1_26 (b := a35) C i_this e_a35 dX1_addTrait_35 ?_
    obtain ⟨a38, e_a38, i_a38⟩ := T259 iv i_a35 List.not_mem_nil
    refine r1_85 (b := a38) C i_a35 e_a38 dX1_addTrait_38 ?_
    refine v_callV (As := [_]) (n := 1) C (st_X3_addAll l _ _ _) rfl i_a31 (by decide) rfl ⟨wd224, wd225, wd226, wd45, wd227⟩ ⟨rfl, hy_X3_addAll⟩ rfl ⟨Nat.le_of_ble_eq_true rfl, Nat.le_of_ble_eq_true rfl⟩ (Nat.le_of_ble_eq_true rfl) ⟨Nat.le_of_ble_eq_true rfl, Nat.le_of_ble_eq_true rfl⟩ dX1_addTrait_41 ⟨rfl, iv, i_a31, i_a38⟩ (fun r_41 S4_41 h_41 => ?_)
    obtain ⟨rfl, iv2, x_41⟩ := h_41
    have i_this := is_ext x_41 i_this
    have i_a14 := is_ext x_41 i_a14
    have i_a23 := is_ext x_41 i_a23
    have i_a31 := is_ext x_41 i_a31
    have i_a35 := is_ext x_41 i_a35
    have i_a38 := is_ext x_41 i_a38
    have E0' := ext_tr E0 x_41 (xk_call E0 (by decide))
    have E0 := E0'
    have iv := iv2
    refine v_aload_n C dX1_addTrait_44 rfl ?_
    obtain ⟨r45, e_r45, i_r45, m_r45⟩ := T64 iv i_this List.not_mem_nil
    refine r1_11 (b := r45) C i_this e_r45 dX1_addTrait_45 ?_
    refine v_iload_n C dX1_addTrait_48 rfl ?_
    refine v_aload_n C dX1_addTrait_49 rfl ?_
    refine v_aast (t0 := 6) C i_r45 (by decide) i_a14 (by decide) rfl rfl (bI_ne p_v8 c_11 rfl) dX1_addTrait_50 ?_
    refine V.gen (fun S4_50 e_50 => ?_)
    have iv' := inv_sP e_50 iv i_r45.2.1 (by decide) (nOK_is i_a14)
    have x_50 := x_sP e_50
    have E0' := ext_tr E0 x_50 (xk_P E0 i_r45 iv (by decide) (by decide))
    have E0 := E0'
    have i_this := is_ext x_50 i_this
    have i_a14 := is_ext x_50 i_a14
    have i_a23 := is_ext x_50 i_a23
    have i_a31 := is_ext x_50 i_a31
    have i_a35 := is_ext x_50 i_a35
    have i_a38 := is_ext x_50 i_a38
    have i_r45 := isA_ext x_50 i_r45
    have iv := iv'
    refine v_aload_n C dX1_addTrait_51 rfl ?_
    refine v_dup C dX1_addTrait_52 rfl ?_
    refine g1_76 C i_this dX1_addTrait_53 ?_
    refine v_topi (fun v53 e_v53 => ?_)
    refine v_iconst (v := 1) C dX1_addTrait_56 (by decide) ?_
    refine v_iadd C dX1_addTrait_57 ?_
    refine p1_76 C i_this dX1_addTrait_58 ?_
    refine V.gen (fun S4_58 e_58 => ?_)
    have iv' := inv_sI e_58 iv (by decide) (by decide)
    have x_58 := x_sI e_58
    have E0' := ext_tr E0 x_58 (xk_is E0 i_this iv (by decide) (by decide))
    have E0 := E0'
    have i_this := is_ext x_58 i_this
    have i_a14 := is_ext x_58 i_a14
    have i_a23 := is_ext x_58 i_a23
    have i_a31 := is_ext x_58 i_a31
    have i_a35 := is_ext x_58 i_a35
    have i_a38 := is_ext x_58 i_a38
    have i_r45 := isA_ext x_58 i_r45
    have iv := iv'
    refine v_iload_n C dX1_addTrait_61 rfl ?_
    refine v_iret C hr (Nat.le_of_ble_eq_true rfl) (Nat.le_of_ble_eq_true rfl) dX1_addTrait_62 ?_
    exact ⟨_, rfl, iv, E0⟩
theorem dX1_addFigure_0 : decode cX1_addFigure 0 = .ok (.aload_n 0, 1) := by decide +kernel
theorem dX1_addFigure_1 : decode cX1_addFigure 1 = .ok (.getfield 92, 3) := by decide +kernel
theorem dX1_addFigure_4 : decode cX1_addFigure 4 = .ok (.istore_n 2, 1) := by decide +kernel
theorem dX1_addFigure_5 : decode cX1_addFigure 5 = .ok (.iload_n 2, 1) := by decide +kernel
theorem dX1_addFigure_6 : decode cX1_addFigure 6 = .ok (.bipush 12, 2) := by decide +kernel
theorem dX1_addFigure_8 : decode cX1_addFigure 8 = .ok (.invokestatic 37, 3) := by decide +kernel
theorem dX1_addFigure_11 : decode cX1_addFigure 11 = .ok (.ifCond .eq 28, 3) := by decide +kernel
theorem dX1_addFigure_14 : decode cX1_addFigure 14 = .ok (.aload_n 0, 1) := by decide +kernel
theorem dX1_addFigure_15 : decode cX1_addFigure 15 = .ok (.getfield 19, 3) := by decide +kernel
theorem dX1_addFigure_18 : decode cX1_addFigure 18 = .ok (.iload_n 2, 1) := by decide +kernel
theorem dX1_addFigure_19 : decode cX1_addFigure 19 = .ok (.new 17, 3) := by decide +kernel
theorem dX1_addFigure_22 : decode cX1_addFigure 22 = .ok (.dup, 1) := by decide +kernel
theorem dX1_addFigure_23 : decode cX1_addFigure 23 = .ok (.iload_n 2, 1) := by decide +kernel
theorem dX1_addFigure_24 : decode cX1_addFigure 24 = .ok (.iload_n 1, 1) := by decide +kernel
theorem dX1_addFigure_25 : decode cX1_addFigure 25 = .ok (.invokespecial 95, 3) := by decide +kernel
theorem dX1_addFigure_28 : decode cX1_addFigure 28 = .ok (.aastore, 1) := by decide +kernel
theorem dX1_addFigure_29 : decode cX1_addFigure 29 = .ok (.aload_n 0, 1) := by decide +kernel
theorem dX1_addFigure_30 : decode cX1_addFigure 30 = .ok (.dup, 1) := by decide +kernel
theorem dX1_addFigure_31 : decode cX1_addFigure 31 = .ok (.getfield 92, 3) := by decide +kernel
theorem dX1_addFigure_34 : decode cX1_addFigure 34 = .ok (.iconst 1, 1) := by decide +kernel
theorem dX1_addFigure_35 : decode cX1_addFigure 35 = .ok (.iadd, 1) := by decide +kernel
theorem dX1_addFigure_36 : decode cX1_addFigure 36 = .ok (.putfield 92, 3) := by decide +kernel
theorem dX1_addFigure_39 : decode cX1_addFigure 39 = .ok (.iload_n 2, 1) := by decide +kernel
theorem dX1_addFigure_40 : decode cX1_addFigure 40 = .ok (.ireturn, 1) := by decide +kernel
set_option maxRecDepth 100000 in
set_option maxHeartbeats 4000000 in
theorem st_X1_addFigure (l : Launch) (M : Nat → Prop) (h : Nat) (p0 : Int32) : Ct l yX1_addFigure cX1_addFigure 3 (some .int) 3 11 809 65 (fun S av => av = [.ref h, .int p0] ∧ INV M [] S ∧ is S h 1) (fun S _ r S' => ∃ v, r = some (.int v) ∧ INV M [] S' ∧ ext S S' (fun a => ¬ M a ∧ mK S a ∈ [1, 14])) := by
  refine ct_of (by decide) (fun S av h => by obtain ⟨rfl, iv, i_this⟩ := h; exact Nat.le_of_ble_eq_true rfl) ?_
  intro p e s m args below meth c D G bs S av C hr hin hpre
  obtain ⟨rfl, iv, i_this⟩ := hpre
  have E0 : ext S S (fun a => ¬ M a ∧ mK S a ∈ [1, 14]) := ext_rfl
  refine v_aload_n C dX1_addFigure_0 rfl ?_
  refine g1_92 C i_this dX1_addFigure_1 ?_
  refine v_topi (fun v1 e_v1 => ?_)
  refine v_istore_n C dX1_addFigure_4 (by decide) (by first | rfl | exact cat_ok _ | simp [okS, cat_rf]) ?_
  refine v_iload_n C dX1_addFigure_5 rfl ?_
  refine v_bipush (v := 12) C dX1_addFigure_6 (by decide) ?_
  refine v_callSN (As := [_, _]) (n := 2) C (sb_isBelow l _ _) rfl ⟨(by decide +kernel), wd141, wd2, wd142⟩ hy_X9_isBelow rfl ⟨Nat.le_of_ble_eq_true rfl, Nat.le_of_ble_eq_true rfl⟩ (Nat.le_of_ble_eq_true rfl) ⟨Nat.le_of_ble_eq_true rfl, Nat.le_of_ble_eq_true rfl⟩ dX1_addFigure_8 rfl (fun r_8 S2_8 h_8 => ?_)
  obtain ⟨v8, rfl, p_v8, q_v8⟩ := h_8
  obtain rfl := q_v8.symm
  refine v_if_eq (tgt := 39) C dX1_addFigure_11 (by decide) (fun c_11 => ?_) (fun c_11 => ?_)
  · skip
    refine v_iload_n C dX1_addFigure_39 rfl ?_
    refine v_iret C hr (Nat.le_of_ble_eq_true rfl) (Nat.le_of_ble_eq_true rfl) dX1_addFigure_40 ?_
    exact ⟨_, rfl, iv, E0⟩
  · skip
    refine v_aload_n C dX1_addFigure_14 rfl ?_
    obtain ⟨r15, e_r15, i_r15, m_r15⟩ := T66 iv i_this List.not_mem_nil
    refine r1_19 (b := r15) C i_this e_r15 dX1_addFigure_15 ?_
    refine v_iload_n C dX1_addFigure_18 rfl ?_
    refine v_new C (ci := 2) (by decide) rfl inlX2 tyX2_ok wd27 wd270 wd271 nfX2 (Nat.le_of_ble_eq_true rfl) (Nat.le_of_ble_eq_true rfl) dX1_addFigure_19 (fun a19 n_a19 => ?_)
    have nn_a19 := fun z => n_a19 (E0.1 a19 z).1
    refine V.gen (fun S4_19 e_19 => ?_)
    have iv' := inv_sNew e_19 iv n_a19 (by decide)
    have x_19 := x_sNew e_19 n_a19
    have E0' := ext_tr E0 x_19 (fun _ _ z => z.elim)
    have E0 := E0'
    have i_this := is_ext x_19 i_this
    have i_r15 := isA_ext x_19 i_r15
    have iv := iv'
    have i_a19 := is_sNewE e_19 n_a19
    have z_a19 := mI_newE e_19
    refine v_dup C dX1_addFigure_22 rfl ?_
    refine v_iload_n C dX1_addFigure_23 rfl ?_
    refine v_iload_n C dX1_addFigure_24 rfl ?_
    refine v_callI (As := [_, _]) (n := 2) C (st_X2_init l _ _ _ _ _) rfl ⟨wd272, wd273, wd271, wd274⟩ rfl hy_X2_init rfl ⟨Nat.le_of_ble_eq_true rfl, Nat.le_of_ble_eq_true rfl⟩ (Nat.le_of_ble_eq_true rfl) ⟨Nat.le_of_ble_eq_true rfl, Nat.le_of_ble_eq_true rfl⟩ dX1_addFigure_25 ⟨rfl, iv, i_a19⟩ (fun r_25 S4_25 h_25 => ?_)
    obtain ⟨rfl, iv2, x_25⟩ := h_25
    have E0' := ext_tr E0 x_25 (xn nn_a19)
    have E0 := E0'
    have i_this := is_ext x_25 i_this
    have i_r15 := isA_ext x_25 i_r15
    have i_a19 := is_ext x_25 i_a19
    have iv := iv2
    refine v_aast (t0 := 3) C i_r15 (by decide) i_a19 (by decide) rfl rfl (bI_ne p_v8 c_11 rfl) dX1_addFigure_28 ?_
    refine V.gen (fun S4_28 e_28 => ?_)
    have iv' := inv_sP e_28 iv i_r15.2.1 (by decide) (nOK_is i_a19)
    have x_28 := x_sP e_28
    have E0' := ext_tr E0 x_28 (xk_P E0 i_r15 iv (by decide) (by decide))
    have E0 := E0'
    have i_this := is_ext x_28 i_this
    have i_r15 := isA_ext x_28 i_r15
    have i_a19 := is_ext x_28 i_a19
    have iv := iv'
    refine v_aload_n C dX1_addFigure_29 rfl ?_
    refine v_dup C dX1_addFigure_30 rfl ?_
    refine g1_92 C i_this dX1_addFigure_31 ?_
    refine v_topi (fun v31 e_v31 => ?_)
    refine v_iconst (v := 1) C dX1_addFigure_34 (by decide) ?_
    refine v_iadd C dX1_addFigure_35 ?_
    refine p1_92 C i_this dX1_addFigure_36 ?_
    refine V.gen (fun S4_36 e_36 => ?_)
    have iv' := inv_sI e_36 iv (by decide) (by decide)
    have x_36 := x_sI e_36
    have E0' := ext_tr E0 x_36 (xk_is E0 i_this iv (by decide) (by decide))
    have E0 := E0'
    have i_this := is_ext x_36 i_this
    have i_r15 := isA_ext x_36 i_r15
    have i_a19 := is_ext x_36 i_a19
    have iv := iv'
    refine v_iload_n C dX1_addFigure_39 rfl ?_
    refine v_iret C hr (Nat.le_of_ble_eq_true rfl) (Nat.le_of_ble_eq_true rfl) dX1_addFigure_40 ?_
    exact ⟨_, rfl, iv, E0⟩
theorem dX1_addTaken_0 : decode cX1_addTaken 0 = .ok (.aload_n 1, 1) := by decide +kernel
theorem dX1_addTaken_1 : decode cX1_addTaken 1 = .ok (.iload_n 2, 1) := by decide +kernel
theorem dX1_addTaken_2 : decode cX1_addTaken 2 = .ok (.invokevirtual 98, 3) := by decide +kernel
theorem dX1_addTaken_5 : decode cX1_addTaken 5 = .ok (.aload_n 1, 1) := by decide +kernel
theorem dX1_addTaken_6 : decode cX1_addTaken 6 = .ok (.getfield 101, 3) := by decide +kernel
theorem dX1_addTaken_9 : decode cX1_addTaken 9 = .ok (.invokevirtual 102, 3) := by decide +kernel
theorem dX1_addTaken_12 : decode cX1_addTaken 12 = .ok (.aload_n 1, 1) := by decide +kernel
theorem dX1_addTaken_13 : decode cX1_addTaken 13 = .ok (.getfield 101, 3) := by decide +kernel
theorem dX1_addTaken_16 : decode cX1_addTaken 16 = .ok (.aload_n 0, 1) := by decide +kernel
theorem dX1_addTaken_17 : decode cX1_addTaken 17 = .ok (.getfield 26, 3) := by decide +kernel
theorem dX1_addTaken_20 : decode cX1_addTaken 20 = .ok (.getfield 85, 3) := by decide +kernel
theorem dX1_addTaken_23 : decode cX1_addTaken 23 = .ok (.invokevirtual 88, 3) := by decide +kernel
theorem dX1_addTaken_26 : decode cX1_addTaken 26 = .ok (.aload_n 1, 1) := by decide +kernel
theorem dX1_addTaken_27 : decode cX1_addTaken 27 = .ok (.getfield 60, 3) := by decide +kernel
theorem dX1_addTaken_30 : decode cX1_addTaken 30 = .ok (.ireturn, 1) := by decide +kernel
set_option maxRecDepth 100000 in
set_option maxHeartbeats 4000000 in
theorem st_X1_addTaken (l : Launch) (M : Nat → Prop) (h : Nat) (p0 : Nat) (p1 : Int32) : Ct l yX1_addTaken cX1_addTaken 3 (some .int) 3 0 0 64 (fun S av => av = [.ref h, .ref p0, .int p1] ∧ INV M [] S ∧ is S h 1 ∧ is S p0 2) (fun S _ r S' => ∃ v, r = some (.int v) ∧ INV M [] S' ∧ ext S S' (fun a => ¬ M a ∧ mK S a ∈ [2, 3, 11])) := by
  refine ct_of (by decide) (fun S av h => by obtain ⟨rfl, iv, i_this, i_p0⟩ := h; exact Nat.le_of_ble_eq_true rfl) ?_
  intro p e s m args below meth c D G bs S av C hr hin hpre
  obtain ⟨rfl, iv, i_this, i_p0⟩ := hpre
  have E0 : ext S S (fun a => ¬ M a ∧ mK S a ∈ [2, 3, 11]) := ext_rfl
  refine v_aload_n C dX1_addTaken_0 rfl ?_
  refine v_iload_n C dX1_addTaken_1 rfl ?_
  refine v_callV (As := [_]) (n := 1) C (st_X2_addTaken l _ _ _) rfl i_p0 (by decide) rfl ⟨wd325, wd326, wd327, wd271, wd328⟩ ⟨rfl, hy_X2_addTaken⟩ rfl ⟨Nat.le_of_ble_eq_true rfl, Nat.le_of_ble_eq_true rfl⟩ (Nat.le_of_ble_eq_true rfl) ⟨Nat.le_of_ble_eq_true rfl, Nat.le_of_ble_eq_true rfl⟩ dX1_addTaken_2 ⟨rfl, iv, i_p0⟩ (fun r_2 S2_2 h_2 => ?_)
  obtain ⟨rfl, iv2, x_2⟩ := h_2
  have i_this := is_ext x_2 i_this
  have i_p0 := is_ext x_2 i_p0
  have E0' := ext_tr E0 x_2 (xk_call E0 (by decide))
  have E0 := E0'
  have iv := iv2
  refine v_aload_n C dX1_addTaken_5 rfl ?_
  obtain ⟨a6, e_a6, i_a6⟩ := T130 iv i_p0 List.not_mem_nil
  refine r1_101 (b := a6) C i_p0 e_a6 dX1_addTaken_6 ?_
  refine v_callV (As := []) (n := 0) C (st_X3_empty l _ _) rfl i_a6 (by decide) rfl ⟨wd329, wd153, wd154, wd45, wd155⟩ ⟨rfl, hy_X3_empty⟩ rfl ⟨Nat.le_of_ble_eq_true rfl, Nat.le_of_ble_eq_true rfl⟩ (Nat.le_of_ble_eq_true rfl) ⟨Nat.le_of_ble_eq_true rfl, Nat.le_of_ble_eq_true rfl⟩ dX1_addTaken_9 ⟨rfl, iv, i_a6⟩ (fun r_9 S2_9 h_9 => ?_)
  obtain ⟨rfl, iv2, x_9⟩ := h_9
  have i_this := is_ext x_9 i_this
  have i_p0 := is_ext x_9 i_p0
  have i_a6 := is_ext x_9 i_a6
  have E0' := ext_tr E0 x_9 (xk_call E0 (by decide))
  have E0 := E0'
  have iv := iv2
  refine v_aload_n C dX1_addTaken_12 rfl ?_
  obtain ⟨a13, e_a13, i_a13⟩ := T130 iv i_p0 List.not_mem_nil
  refine r1_101 (b := a13) C i_p0 e_a13 dX1_addTaken_13 ?_
  refine v_aload_n C dX1_addTaken_16 rfl ?_
  obtain ⟨a17, e_a17, i_a17⟩ := T68 iv i_this List.not_mem_nil
  refine r1_26 (b := a17) C i_this e_a17 dX1_addTaken_17 ?_
  obtain ⟨a20, e_a20, i_a20⟩ := T259 iv i_a17 List.not_mem_nil
  refine r1_85 (b := a20) C i_a17 e_a20 dX1_addTaken_20 ?_
  refine v_callV (As := [_]) (n := 1) C (st_X3_addAll l _ _ _) rfl i_a13 (by decide) rfl ⟨wd224, wd225, wd226, wd45, wd227⟩ ⟨rfl, hy_X3_addAll⟩ rfl ⟨Nat.le_of_ble_eq_true rfl, Nat.le_of_ble_eq_true rfl⟩ (Nat.le_of_ble_eq_true rfl) ⟨Nat.le_of_ble_eq_true rfl, Nat.le_of_ble_eq_true rfl⟩ dX1_addTaken_23 ⟨rfl, iv, i_a13, i_a20⟩ (fun r_23 S2_23 h_23 => ?_)
  obtain ⟨rfl, iv2, x_23⟩ := h_23
  have i_this := is_ext x_23 i_this
  have i_p0 := is_ext x_23 i_p0
  have i_a6 := is_ext x_23 i_a6
  have i_a13 := is_ext x_23 i_a13
  have i_a17 := is_ext x_23 i_a17
  have i_a20 := is_ext x_23 i_a20
  have E0' := ext_tr E0 x_23 (xk_call E0 (by decide))
  have E0 := E0'
  have iv := iv2
  refine v_aload_n C dX1_addTaken_26 rfl ?_
  refine g1_60 C i_p0 dX1_addTaken_27 ?_
  refine v_topi (fun v27 e_v27 => ?_)
  refine v_iret C hr (Nat.le_of_ble_eq_true rfl) (Nat.le_of_ble_eq_true rfl) dX1_addTaken_30 ?_
  exact ⟨_, rfl, iv, E0⟩
theorem dX1_offered_0 : decode cX1_offered 0 = .ok (.aload_n 0, 1) := by decide +kernel
theorem dX1_offered_1 : decode cX1_offered 1 = .ok (.iload_n 2, 1) := by decide +kernel
theorem dX1_offered_2 : decode cX1_offered 2 = .ok (.invokevirtual 45, 3) := by decide +kernel
theorem dX1_offered_5 : decode cX1_offered 5 = .ok (.astore 4, 2) := by decide +kernel
theorem dX1_offered_7 : decode cX1_offered 7 = .ok (.aload 4, 2) := by decide +kernel
theorem dX1_offered_9 : decode cX1_offered 9 = .ok (.ifnonnull 7, 3) := by decide +kernel
theorem dX1_offered_12 : decode cX1_offered 12 = .ok (.aconst_null, 1) := by decide +kernel
theorem dX1_offered_13 : decode cX1_offered 13 = .ok (.goto 14, 3) := by decide +kernel
theorem dX1_offered_16 : decode cX1_offered 16 = .ok (.aload 4, 2) := by decide +kernel
theorem dX1_offered_18 : decode cX1_offered 18 = .ok (.aload_n 1, 1) := by decide +kernel
theorem dX1_offered_19 : decode cX1_offered 19 = .ok (.iload_n 2, 1) := by decide +kernel
theorem dX1_offered_20 : decode cX1_offered 20 = .ok (.iload_n 3, 1) := by decide +kernel
theorem dX1_offered_21 : decode cX1_offered 21 = .ok (.invokevirtual 105, 3) := by decide +kernel
theorem dX1_offered_24 : decode cX1_offered 24 = .ok (.invokevirtual 109, 3) := by decide +kernel
theorem dX1_offered_27 : decode cX1_offered 27 = .ok (.areturn, 1) := by decide +kernel
set_option maxRecDepth 100000 in
set_option maxHeartbeats 4000000 in
theorem st_X1_offered (l : Launch) (M : Nat → Prop) (h : Nat) (p0 : Nat) (p1 : Int32) (p2 : Int32) : Ct l yX1_offered cX1_offered 5 (some (.object "PuppetCast$Part")) 2 0 0 45 (fun S av => av = [.ref h, .ref p0, .int p1, .int p2] ∧ INV M [] S ∧ is S h 1 ∧ is S p0 2) (fun S _ r S' => ∃ v, r = some (va_rf v) ∧ nOK S' 5 v ∧ S' = S) := by
  refine ct_of (by decide) (fun S av h => by obtain ⟨rfl, iv, i_this, i_p0⟩ := h; exact Nat.le_of_ble_eq_true rfl) ?_
  intro p e s m args below meth c D G bs S av C hr hin hpre
  obtain ⟨rfl, iv, i_this, i_p0⟩ := hpre
  refine v_aload_n C dX1_offered_0 rfl ?_
  refine v_iload_n C dX1_offered_1 rfl ?_
  refine v_callV (As := [_]) (n := 1) C (st_X1_traitAt l _ _ _) rfl i_this (by decide) rfl ⟨wd137, wd138, wd139, wd15, wd140⟩ ⟨rfl, hy_X1_traitAt⟩ rfl ⟨Nat.le_of_ble_eq_true rfl, Nat.le_of_ble_eq_true rfl⟩ (Nat.le_of_ble_eq_true rfl) ⟨Nat.le_of_ble_eq_true rfl, Nat.le_of_ble_eq_true rfl⟩ dX1_offered_2 ⟨rfl, iv, i_this⟩ (fun r_2 S2_2 h_2 => ?_)
  obtain ⟨v2, rfl, n_v2, q_v2⟩ := h_2
  obtain rfl := q_v2.symm
  refine v_qstore C dX1_offered_5 (by decide) (by first | rfl | exact cat_ok _ | simp [okS, cat_rf]) ?_
  refine v_qload C dX1_offered_7 rfl ?_
  refine v_ifnonnull (tgt := 16) C dX1_offered_9 (by decide) (fun b9 c_9 => ?_) (fun c_9 => ?_)
  · skip
    subst c_9
    have i_b9 := nOK_some n_v2 rfl
    refine v_aload C dX1_offered_16 rfl ?_
    refine v_aload_n C dX1_offered_18 rfl ?_
    refine v_iload_n C dX1_offered_19 rfl ?_
    refine v_iload_n C dX1_offered_20 rfl ?_
    refine v_callV (As := [_, _]) (n := 2) C (st_X2_sourceOf l _ _ _ _) rfl i_p0 (by decide) rfl ⟨wd543, wd544, wd545, wd271, wd546⟩ ⟨rfl, hy_X2_sourceOf⟩ rfl ⟨Nat.le_of_ble_eq_true rfl, Nat.le_of_ble_eq_true rfl⟩ (Nat.le_of_ble_eq_true rfl) ⟨Nat.le_of_ble_eq_true rfl, Nat.le_of_ble_eq_true rfl⟩ dX1_offered_21 ⟨rfl, iv, i_p0⟩ (fun r_21 S4_21 h_21 => ?_)
    obtain ⟨v21, rfl, q_v21⟩ := h_21
    obtain rfl := q_v21.symm
    refine v_callV (As := [_]) (n := 1) C (st_X8_bodyFor l _ _ _) rfl i_b9 (by decide) rfl ⟨wd547, wd548, wd549, wd212, wd550⟩ ⟨rfl, hy_X8_bodyFor⟩ rfl ⟨Nat.le_of_ble_eq_true rfl, Nat.le_of_ble_eq_true rfl⟩ (Nat.le_of_ble_eq_true rfl) ⟨Nat.le_of_ble_eq_true rfl, Nat.le_of_ble_eq_true rfl⟩ dX1_offered_24 ⟨rfl, iv, i_b9⟩ (fun r_24 S4_24 h_24 => ?_)
    obtain ⟨v24, rfl, n_v24, q_v24⟩ := h_24
    obtain rfl := q_v24.symm
    refine v_aret C hr (Nat.le_of_ble_eq_true rfl) (Nat.le_of_ble_eq_true rfl) dX1_offered_27 ?_
    exact ⟨_, rfl, n_v24, rfl⟩
  · skip
    subst c_9
    refine v_null C dX1_offered_12 ?_
    refine v_goto (tgt := 27) C dX1_offered_13 (by decide) ?_
    refine v_aret C hr (Nat.le_of_ble_eq_true rfl) (Nat.le_of_ble_eq_true rfl) dX1_offered_27 ?_
    exact ⟨_, rfl, nOK_none, rfl⟩
theorem dX1_bodyBy_0 : decode cX1_bodyBy 0 = .ok (.aload_n 1, 1) := by decide +kernel
theorem dX1_bodyBy_1 : decode cX1_bodyBy 1 = .ok (.getfield 101, 3) := by decide +kernel
theorem dX1_bodyBy_4 : decode cX1_bodyBy 4 = .ok (.iload_n 2, 1) := by decide +kernel
theorem dX1_bodyBy_5 : decode cX1_bodyBy 5 = .ok (.invokevirtual 113, 3) := by decide +kernel
theorem dX1_bodyBy_8 : decode cX1_bodyBy 8 = .ok (.ifCond .eq 13, 3) := by decide +kernel
theorem dX1_bodyBy_11 : decode cX1_bodyBy 11 = .ok (.aload_n 0, 1) := by decide +kernel
theorem dX1_bodyBy_12 : decode cX1_bodyBy 12 = .ok (.aload_n 1, 1) := by decide +kernel
theorem dX1_bodyBy_13 : decode cX1_bodyBy 13 = .ok (.iload_n 2, 1) := by decide +kernel
theorem dX1_bodyBy_14 : decode cX1_bodyBy 14 = .ok (.iload_n 3, 1) := by decide +kernel
theorem dX1_bodyBy_15 : decode cX1_bodyBy 15 = .ok (.invokevirtual 116, 3) := by decide +kernel
theorem dX1_bodyBy_18 : decode cX1_bodyBy 18 = .ok (.goto 4, 3) := by decide +kernel
theorem dX1_bodyBy_21 : decode cX1_bodyBy 21 = .ok (.aconst_null, 1) := by decide +kernel
theorem dX1_bodyBy_22 : decode cX1_bodyBy 22 = .ok (.astore 4, 2) := by decide +kernel
theorem dX1_bodyBy_24 : decode cX1_bodyBy 24 = .ok (.aload 4, 2) := by decide +kernel
theorem dX1_bodyBy_26 : decode cX1_bodyBy 26 = .ok (.ifnull 11, 3) := by decide +kernel
theorem dX1_bodyBy_29 : decode cX1_bodyBy 29 = .ok (.aload 4, 2) := by decide +kernel
theorem dX1_bodyBy_31 : decode cX1_bodyBy 31 = .ok (.getfield 120, 3) := by decide +kernel
theorem dX1_bodyBy_34 : decode cX1_bodyBy 34 = .ok (.ifCond .eq 7, 3) := by decide +kernel
theorem dX1_bodyBy_37 : decode cX1_bodyBy 37 = .ok (.aconst_null, 1) := by decide +kernel
theorem dX1_bodyBy_38 : decode cX1_bodyBy 38 = .ok (.goto 5, 3) := by decide +kernel
theorem dX1_bodyBy_41 : decode cX1_bodyBy 41 = .ok (.aload 4, 2) := by decide +kernel
theorem dX1_bodyBy_43 : decode cX1_bodyBy 43 = .ok (.areturn, 1) := by decide +kernel
set_option maxRecDepth 100000 in
set_option maxHeartbeats 4000000 in
theorem st_X1_bodyBy (l : Launch) (M : Nat → Prop) (h : Nat) (p0 : Nat) (p1 : Int32) (p2 : Int32) : Ct l yX1_bodyBy cX1_bodyBy 5 (some (.object "PuppetCast$Part")) 3 0 0 69 (fun S av => av = [.ref h, .ref p0, .int p1, .int p2] ∧ INV M [] S ∧ is S h 1 ∧ is S p0 2) (fun S _ r S' => ∃ v, r = some (va_rf v) ∧ nOK S' 5 v ∧ S' = S) := by
  refine ct_of (by decide) (fun S av h => by obtain ⟨rfl, iv, i_this, i_p0⟩ := h; exact Nat.le_of_ble_eq_true rfl) ?_
  intro p e s m args below meth c D G bs S av C hr hin hpre
  obtain ⟨rfl, iv, i_this, i_p0⟩ := hpre
  refine v_aload_n C dX1_bodyBy_0 rfl ?_
  obtain ⟨a1, e_a1, i_a1⟩ := T130 iv i_p0 List.not_mem_nil
  refine r1_101 (b := a1) C i_p0 e_a1 dX1_bodyBy_1 ?_
  refine v_iload_n C dX1_bodyBy_4 rfl ?_
  refine v_callV (As := [_]) (n := 1) C (st_X3_has l _ _ _) rfl i_a1 (by decide) rfl ⟨wd772, wd559, wd560, wd45, wd561⟩ ⟨rfl, hy_X3_has⟩ rfl ⟨Nat.le_of_ble_eq_true rfl, Nat.le_of_ble_eq_true rfl⟩ (Nat.le_of_ble_eq_true rfl) ⟨Nat.le_of_ble_eq_true rfl, Nat.le_of_ble_eq_true rfl⟩ dX1_bodyBy_5 ⟨rfl, iv, i_a1⟩ (fun r_5 S2_5 h_5 => ?_)
  obtain ⟨v5, rfl, q_v5⟩ := h_5
  obtain rfl := q_v5.symm
  refine v_if_eq (tgt := 21) C dX1_bodyBy_8 (by decide) (fun c_8 => ?_) (fun c_8 => ?_)
  · skip
    refine v_null C dX1_bodyBy_21 ?_
    refine v_qstore C dX1_bodyBy_22 (by decide) (by first | rfl | exact cat_ok _ | simp [okS, cat_rf]) ?_
    refine v_qload C dX1_bodyBy_24 rfl ?_
    refine v_ifnull (tgt := 37) C dX1_bodyBy_26 (by decide) (fun c_26 => ?_) (fun b26 c_26 => ?_)
    · skip
      refine v_null C dX1_bodyBy_37 ?_
      refine v_goto (tgt := 43) C dX1_bodyBy_38 (by decide) ?_
      refine v_aret C hr (Nat.le_of_ble_eq_true rfl) (Nat.le_of_ble_eq_true rfl) dX1_bodyBy_43 ?_
      exact ⟨_, rfl, nOK_none, rfl⟩
    · skip
      cases c_26
  · skip
    refine v_aload_n C dX1_bodyBy_11 rfl ?_
    refine v_aload_n C dX1_bodyBy_12 rfl ?_
    refine v_iload_n C dX1_bodyBy_13 rfl ?_
    refine v_iload_n C dX1_bodyBy_14 rfl ?_
    refine v_callV (As := [_, _, _]) (n := 3) C (st_X1_offered l _ _ _ _ _) rfl i_this (by decide) rfl ⟨wd539, wd540, wd541, wd15, wd542⟩ ⟨rfl, hy_X1_offered⟩ rfl ⟨Nat.le_of_ble_eq_true rfl, Nat.le_of_ble_eq_true rfl⟩ (Nat.le_of_ble_eq_true rfl) ⟨Nat.le_of_ble_eq_true rfl, Nat.le_of_ble_eq_true rfl⟩ dX1_bodyBy_15 ⟨rfl, iv, i_this, i_p0⟩ (fun r_15 S4_15 h_15 => ?_)
    obtain ⟨v15, rfl, n_v15, q_v15⟩ := h_15
    obtain rfl := q_v15.symm
    refine v_goto (tgt := 22) C dX1_bodyBy_18 (by decide) ?_
    refine v_qstore C dX1_bodyBy_22 (by decide) (by first | rfl | exact cat_ok _ | simp [okS, cat_rf]) ?_
    refine v_qload C dX1_bodyBy_24 rfl ?_
    refine v_ifnull (tgt := 37) C dX1_bodyBy_26 (by decide) (fun c_26 => ?_) (fun b26 c_26 => ?_)
    · skip
      subst c_26
      refine v_null C dX1_bodyBy_37 ?_
      refine v_goto (tgt := 43) C dX1_bodyBy_38 (by decide) ?_
      refine v_aret C hr (Nat.le_of_ble_eq_true rfl) (Nat.le_of_ble_eq_true rfl) dX1_bodyBy_43 ?_
      exact ⟨_, rfl, nOK_none, rfl⟩
    · skip
      subst c_26
      have i_b26 := nOK_some n_v15 rfl
      refine v_aload C dX1_bodyBy_29 rfl ?_
      refine g1_120 C i_b26 dX1_bodyBy_31 ?_
      refine v_topi (fun v31 e_v31 => ?_)
      refine v_if_eq (tgt := 41) C dX1_bodyBy_34 (by decide) (fun c_34 => ?_) (fun c_34 => ?_)
      · skip
        refine v_aload C dX1_bodyBy_41 rfl ?_
        refine v_aret (o := some _) C hr (Nat.le_of_ble_eq_true rfl) (Nat.le_of_ble_eq_true rfl) dX1_bodyBy_43 ?_
        exact ⟨_, rfl, (nOK_is i_b26), rfl⟩
      · skip
        refine v_null C dX1_bodyBy_37 ?_
        refine v_goto (tgt := 43) C dX1_bodyBy_38 (by decide) ?_
        refine v_aret C hr (Nat.le_of_ble_eq_true rfl) (Nat.le_of_ble_eq_true rfl) dX1_bodyBy_43 ?_
        exact ⟨_, rfl, nOK_none, rfl⟩
theorem dX1_bodyAbove_0 : decode cX1_bodyAbove 0 = .ok (.iload_n 2, 1) := by decide +kernel
theorem dX1_bodyAbove_1 : decode cX1_bodyAbove 1 = .ok (.iconst (-1), 1) := by decide +kernel
theorem dX1_bodyAbove_2 : decode cX1_bodyAbove 2 = .ok (.if_icmp .ne 7, 3) := by decide +kernel
theorem dX1_bodyAbove_5 : decode cX1_bodyAbove 5 = .ok (.iconst 0, 1) := by decide +kernel
theorem dX1_bodyAbove_6 : decode cX1_bodyAbove 6 = .ok (.goto 13, 3) := by decide +kernel
theorem dX1_bodyAbove_9 : decode cX1_bodyAbove 9 = .ok (.aload_n 1, 1) := by decide +kernel
theorem dX1_bodyAbove_10 : decode cX1_bodyAbove 10 = .ok (.getfield 101, 3) := by decide +kernel
theorem dX1_bodyAbove_13 : decode cX1_bodyAbove 13 = .ok (.iload_n 2, 1) := by decide +kernel
theorem dX1_bodyAbove_14 : decode cX1_bodyAbove 14 = .ok (.invokevirtual 126, 3) := by decide +kernel
theorem dX1_bodyAbove_17 : decode cX1_bodyAbove 17 = .ok (.iconst 1, 1) := by decide +kernel
theorem dX1_bodyAbove_18 : decode cX1_bodyAbove 18 = .ok (.iadd, 1) := by decide +kernel
theorem dX1_bodyAbove_19 : decode cX1_bodyAbove 19 = .ok (.istore 4, 2) := by decide +kernel
theorem dX1_bodyAbove_21 : decode cX1_bodyAbove 21 = .ok (.iload 4, 2) := by decide +kernel
theorem dX1_bodyAbove_23 : decode cX1_bodyAbove 23 = .ok (.istore 5, 2) := by decide +kernel
theorem dX1_bodyAbove_25 : decode cX1_bodyAbove 25 = .ok (.iload 5, 2) := by decide +kernel
theorem dX1_bodyAbove_27 : decode cX1_bodyAbove 27 = .ok (.aload_n 1, 1) := by decide +kernel
theorem dX1_bodyAbove_28 : decode cX1_bodyAbove 28 = .ok (.getfield 101, 3) := by decide +kernel
theorem dX1_bodyAbove_31 : decode cX1_bodyAbove 31 = .ok (.getfield 129, 3) := by decide +kernel
theorem dX1_bodyAbove_34 : decode cX1_bodyAbove 34 = .ok (.if_icmp .ge 42, 3) := by decide +kernel
theorem dX1_bodyAbove_37 : decode cX1_bodyAbove 37 = .ok (.aload_n 0, 1) := by decide +kernel
theorem dX1_bodyAbove_38 : decode cX1_bodyAbove 38 = .ok (.aload_n 1, 1) := by decide +kernel
theorem dX1_bodyAbove_39 : decode cX1_bodyAbove 39 = .ok (.aload_n 1, 1) := by decide +kernel
theorem dX1_bodyAbove_40 : decode cX1_bodyAbove 40 = .ok (.getfield 101, 3) := by decide +kernel
theorem dX1_bodyAbove_43 : decode cX1_bodyAbove 43 = .ok (.iload 5, 2) := by decide +kernel
theorem dX1_bodyAbove_45 : decode cX1_bodyAbove 45 = .ok (.invokevirtual 132, 3) := by decide +kernel
theorem dX1_bodyAbove_48 : decode cX1_bodyAbove 48 = .ok (.iload_n 3, 1) := by decide +kernel
theorem dX1_bodyAbove_49 : decode cX1_bodyAbove 49 = .ok (.invokevirtual 116, 3) := by decide +kernel
theorem dX1_bodyAbove_52 : decode cX1_bodyAbove 52 = .ok (.astore 6, 2) := by decide +kernel
theorem dX1_bodyAbove_54 : decode cX1_bodyAbove 54 = .ok (.aload 6, 2) := by decide +kernel
theorem dX1_bodyAbove_56 : decode cX1_bodyAbove 56 = .ok (.ifnull 14, 3) := by decide +kernel
theorem dX1_bodyAbove_59 : decode cX1_bodyAbove 59 = .ok (.aload 6, 2) := by decide +kernel
theorem dX1_bodyAbove_61 : decode cX1_bodyAbove 61 = .ok (.getfield 120, 3) := by decide +kernel
theorem dX1_bodyAbove_64 : decode cX1_bodyAbove 64 = .ok (.ifCond .ne 6, 3) := by decide +kernel
theorem dX1_bodyAbove_67 : decode cX1_bodyAbove 67 = .ok (.aload 6, 2) := by decide +kernel
theorem dX1_bodyAbove_69 : decode cX1_bodyAbove 69 = .ok (.areturn, 1) := by decide +kernel
theorem dX1_bodyAbove_70 : decode cX1_bodyAbove 70 = .ok (.iinc 5 1, 3) := by decide +kernel
theorem dX1_bodyAbove_73 : decode cX1_bodyAbove 73 = .ok (.goto (-48), 3) := by decide +kernel
theorem dX1_bodyAbove_76 : decode cX1_bodyAbove 76 = .ok (.aconst_null, 1) := by decide +kernel
theorem dX1_bodyAbove_77 : decode cX1_bodyAbove 77 = .ok (.areturn, 1) := by decide +kernel
set_option maxRecDepth 100000 in
set_option maxHeartbeats 4000000 in
theorem st_X1_bodyAbove (l : Launch) (M : Nat → Prop) (h : Nat) (p0 : Nat) (p1 : Int32) (p2 : Int32) : Ct l yX1_bodyAbove cX1_bodyAbove 7 (some (.object "PuppetCast$Part")) 3 0 0 69 (fun S av => av = [.ref h, .ref p0, .int p1, .int p2] ∧ INV M [] S ∧ is S h 1 ∧ is S p0 2) (fun S _ r S' => ∃ v, r = some (va_rf v) ∧ nOK S' 5 v ∧ S' = S) := by
  refine ct_of (by decide) (fun S av h => by obtain ⟨rfl, iv, i_this, i_p0⟩ := h; exact Nat.le_of_ble_eq_true rfl) ?_
  intro p e s m args below meth c D G bs S av C hr hin hpre
  obtain ⟨rfl, iv, i_this, i_p0⟩ := hpre
  refine v_iload_n C dX1_bodyAbove_0 rfl ?_
  refine v_iconst (v := -1) C dX1_bodyAbove_1 (by decide) ?_
  refine v_icmp_ne (tgt := 9) C dX1_bodyAbove_2 (by decide) (fun c_2 => ?_) (fun c_2 => ?_)
  · skip
    refine v_aload_n C dX1_bodyAbove_9 rfl ?_
    obtain ⟨a10, e_a10, i_a10⟩ := T130 iv i_p0 List.not_mem_nil
    refine r1_101 (b := a10) C i_p0 e_a10 dX1_bodyAbove_10 ?_
    refine v_iload_n C dX1_bodyAbove_13 rfl ?_
    refine v_callV (As := [_]) (n := 1) C (st_X3_placeOf l _ _ _) rfl i_a10 (by decide) rfl ⟨wd686, wd195, wd196, wd45, wd197⟩ ⟨rfl, hy_X3_placeOf⟩ rfl ⟨Nat.le_of_ble_eq_true rfl, Nat.le_of_ble_eq_true rfl⟩ (Nat.le_of_ble_eq_true rfl) ⟨Nat.le_of_ble_eq_true rfl, Nat.le_of_ble_eq_true rfl⟩ dX1_bodyAbove_14 ⟨rfl, iv, i_a10⟩ (fun r_14 S4_14 h_14 => ?_)
    obtain ⟨v14, rfl, q_v14⟩ := h_14
    obtain rfl := q_v14.symm
    refine v_iconst (v := 1) C dX1_bodyAbove_17 (by decide) ?_
    refine v_iadd C dX1_bodyAbove_18 ?_
    refine v_istore C dX1_bodyAbove_19 (by decide) (by first | rfl | exact cat_ok _ | simp [okS, cat_rf]) ?_
    refine v_iload C dX1_bodyAbove_21 rfl ?_
    refine v_istore C dX1_bodyAbove_23 (by decide) (by first | rfl | exact cat_ok _ | simp [okS, cat_rf]) ?_
    refine V.lits (lv' := [_, _, _, _, _, _, _]) rfl ?_
    refine v_loop (fun (t : Int32) lv0 => (lv0.set 5 (some (.int t)))) (fun (S1 : Mem) (t : Int32) => INV M [] S1 ∧ is S1 h 1 ∧ is S1 p0 2 ∧ S1 = S) (fun (S1 : Mem) (t : Int32) => upm t) (t := _) rfl ⟨iv, i_this, i_p0, rfl⟩ ?_
    intro L25 t h_25 ih_25
    revert h_25 ih_25
    revert t
    intro t0_25 h_25 ih_25
    obtain ⟨iv, i_this, i_p0, e_S⟩ := h_25
    subst e_S
    try dsimp only
    refine v_iload C dX1_bodyAbove_25 rfl ?_
    refine v_aload_n C dX1_bodyAbove_27 rfl ?_
    obtain ⟨a28, e_a28, i_a28⟩ := T130 iv i_p0 List.not_mem_nil
    refine r1_101 (b := a28) C i_p0 e_a28 dX1_bodyAbove_28 ?_
    refine g1_129 C i_a28 dX1_bodyAbove_31 ?_
    refine v_topi (fun v31 e_v31 => ?_)
    refine v_icmp_ge (tgt := 76) C dX1_bodyAbove_34 (by decide) (fun c_34 => ?_) (fun c_34 => ?_)
    · skip
      refine v_null C dX1_bodyAbove_76 ?_
      refine v_aret C hr (Nat.le_of_ble_eq_true rfl) (Nat.le_of_ble_eq_true rfl) dX1_bodyAbove_77 ?_
      exact ⟨_, rfl, nOK_none, rfl⟩
    · skip
      refine v_aload_n C dX1_bodyAbove_37 rfl ?_
      refine v_aload_n C dX1_bodyAbove_38 rfl ?_
      refine v_aload_n C dX1_bodyAbove_39 rfl ?_
      obtain ⟨a40, e_a40, i_a40⟩ := T130 iv i_p0 List.not_mem_nil
      refine r1_101 (b := a40) C i_p0 e_a40 dX1_bodyAbove_40 ?_
      refine v_iload C dX1_bodyAbove_43 rfl ?_
      refine v_callV (As := [_]) (n := 1) C (st_X3_at l _ _ _) rfl i_a40 (by decide) rfl ⟨wd538, wd187, wd188, wd45, wd189⟩ ⟨rfl, hy_X3_at⟩ rfl ⟨Nat.le_of_ble_eq_true rfl, Nat.le_of_ble_eq_true rfl⟩ (Nat.le_of_ble_eq_true rfl) ⟨Nat.le_of_ble_eq_true rfl, Nat.le_of_ble_eq_true rfl⟩ dX1_bodyAbove_45 ⟨rfl, iv, i_a40⟩ (fun r_45 S2_45 h_45 => ?_)
      obtain ⟨v45, rfl, q_v45⟩ := h_45
      obtain rfl := q_v45.symm
      refine v_iload_n C dX1_bodyAbove_48 rfl ?_
      refine v_callV (As := [_, _, _]) (n := 3) C (st_X1_offered l _ _ _ _ _) rfl i_this (by decide) rfl ⟨wd539, wd540, wd541, wd15, wd542⟩ ⟨rfl, hy_X1_offered⟩ rfl ⟨Nat.le_of_ble_eq_true rfl, Nat.le_of_ble_eq_true rfl⟩ (Nat.le_of_ble_eq_true rfl) ⟨Nat.le_of_ble_eq_true rfl, Nat.le_of_ble_eq_true rfl⟩ dX1_bodyAbove_49 ⟨rfl, iv, i_this, i_p0⟩ (fun r_49 S2_49 h_49 => ?_)
      obtain ⟨v49, rfl, n_v49, q_v49⟩ := h_49
      obtain rfl := q_v49.symm
      refine v_qstore C dX1_bodyAbove_52 (by decide) (by first | rfl | exact cat_ok _ | simp [okS, cat_rf]) ?_
      refine v_qload C dX1_bodyAbove_54 rfl ?_
      refine v_ifnull (tgt := 70) C dX1_bodyAbove_56 (by decide) (fun c_56 => ?_) (fun b56 c_56 => ?_)
      · skip
        subst c_56
        refine v_iinc C dX1_bodyAbove_70 rfl rfl (by decide) (by first | rfl | exact cat_ok _ | simp [okS, cat_rf]) ?_
        refine v_goto (tgt := 25) C dX1_bodyAbove_73 (by decide) ?_
        refine V.drop 6 ?_
        refine V.lits (lv' := [_, _, _, _, _, _, _]) rfl ?_
        exact ih_25 _ _ (upm_lt c_34) ⟨iv, i_this, i_p0, rfl⟩
      · skip
        subst c_56
        have i_b56 := nOK_some n_v49 rfl
        refine v_aload C dX1_bodyAbove_59 rfl ?_
        refine g1_120 C i_b56 dX1_bodyAbove_61 ?_
        refine v_topi (fun v61 e_v61 => ?_)
        refine v_if_ne (tgt := 70) C dX1_bodyAbove_64 (by decide) (fun c_64 => ?_) (fun c_64 => ?_)
        · skip
          refine v_iinc C dX1_bodyAbove_70 rfl rfl (by decide) (by first | rfl | exact cat_ok _ | simp [okS, cat_rf]) ?_
          refine v_goto (tgt := 25) C dX1_bodyAbove_73 (by decide) ?_
          refine V.drop 6 ?_
          refine V.lits (lv' := [_, _, _, _, _, _, _]) rfl ?_
          exact ih_25 _ _ (upm_lt c_34) ⟨iv, i_this, i_p0, rfl⟩
        · skip
          refine v_aload C dX1_bodyAbove_67 rfl ?_
          refine v_aret (o := some _) C hr (Nat.le_of_ble_eq_true rfl) (Nat.le_of_ble_eq_true rfl) dX1_bodyAbove_69 ?_
          exact ⟨_, rfl, (nOK_is i_b56), rfl⟩
  · skip
    refine v_iconst (v := 0) C dX1_bodyAbove_5 (by decide) ?_
    refine v_goto (tgt := 19) C dX1_bodyAbove_6 (by decide) ?_
    refine v_istore C dX1_bodyAbove_19 (by decide) (by first | rfl | exact cat_ok _ | simp [okS, cat_rf]) ?_
    refine v_iload C dX1_bodyAbove_21 rfl ?_
    refine v_istore C dX1_bodyAbove_23 (by decide) (by first | rfl | exact cat_ok _ | simp [okS, cat_rf]) ?_
    refine V.lits (lv' := [_, _, _, _, _, _, _]) rfl ?_
    refine v_loop (fun (t : Int32) lv0 => (lv0.set 5 (some (.int t)))) (fun (S1 : Mem) (t : Int32) => INV M [] S1 ∧ is S1 h 1 ∧ is S1 p0 2 ∧ S1 = S) (fun (S1 : Mem) (t : Int32) => upm t) (t := _) rfl ⟨iv, i_this, i_p0, rfl⟩ ?_
    intro L25 t h_25 ih_25
    revert h_25 ih_25
    revert t
    intro t0_25 h_25 ih_25
    obtain ⟨iv, i_this, i_p0, e_S⟩ := h_25
    subst e_S
    try dsimp only
    refine v_iload C dX1_bodyAbove_25 rfl ?_
    refine v_aload_n C dX1_bodyAbove_27 rfl ?_
    obtain ⟨a28, e_a28, i_a28⟩ := T130 iv i_p0 List.not_mem_nil
    refine r1_101 (b := a28) C i_p0 e_a28 dX1_bodyAbove_28 ?_
    refine g1_129 C i_a28 dX1_bodyAbove_31 ?_
    refine v_topi (fun v31 e_v31 => ?_)
    refine v_icmp_ge (tgt := 76) C dX1_bodyAbove_34 (by decide) (fun c_34 => ?_) (fun c_34 => ?_)
    · skip
      refine v_null C dX1_bodyAbove_76 ?_
      refine v_aret C hr (Nat.le_of_ble_eq_true rfl) (Nat.le_of_ble_eq_true rfl) dX1_bodyAbove_77 ?_
      exact ⟨_, rfl, nOK_none, rfl⟩
    · skip
      refine v_aload_n C dX1_bodyAbove_37 rfl ?_
      refine v_aload_n C dX1_bodyAbove_38 rfl ?_
      refine v_aload_n C dX1_bodyAbove_39 rfl ?_
      obtain ⟨a40, e_a40, i_a40⟩ := T130 iv i_p0 List.not_mem_nil
      refine r1_101 (b := a40) C i_p0 e_a40 dX1_bodyAbove_40 ?_
      refine v_iload C dX1_bodyAbove_43 rfl ?_
      refine v_callV (As := [_]) (n := 1) C (st_X3_at l _ _ _) rfl i_a40 (by decide) rfl ⟨wd538, wd187, wd188, wd45, wd189⟩ ⟨rfl, hy_X3_at⟩ rfl ⟨Nat.le_of_ble_eq_true rfl, Nat.le_of_ble_eq_true rfl⟩ (Nat.le_of_ble_eq_true rfl) ⟨Nat.le_of_ble_eq_true rfl, Nat.le_of_ble_eq_true rfl⟩ dX1_bodyAbove_45 ⟨rfl, iv, i_a40⟩ (fun r_45 S2_45 h_45 => ?_)
      obtain ⟨v45, rfl, q_v45⟩ := h_45
      obtain rfl := q_v45.symm
      refine v_iload_n C dX1_bodyAbove_48 rfl ?_
      refine v_callV (As := [_, _, _]) (n := 3) C (st_X1_offered l _ _ _ _ _) rfl i_this (by decide) rfl ⟨wd539, wd540, wd541, wd15, wd542⟩ ⟨rfl, hy_X1_offered⟩ rfl ⟨Nat.le_of_ble_eq_true rfl, Nat.le_of_ble_eq_true rfl⟩ (Nat.le_of_ble_eq_true rfl) ⟨Nat.le_of_ble_eq_true rfl, Nat.le_of_ble_eq_true rfl⟩ dX1_bodyAbove_49 ⟨rfl, iv, i_this, i_p0⟩ (fun r_49 S2_49 h_49 => ?_)
      obtain ⟨v49, rfl, n_v49, q_v49⟩ := h_49
      obtain rfl := q_v49.symm
      refine v_qstore C dX1_bodyAbove_52 (by decide) (by first | rfl | exact cat_ok _ | simp [okS, cat_rf]) ?_
      refine v_qload C dX1_bodyAbove_54 rfl ?_
      refine v_ifnull (tgt := 70) C dX1_bodyAbove_56 (by decide) (fun c_56 => ?_) (fun b56 c_56 => ?_)
      · skip
        subst c_56
        refine v_iinc C dX1_bodyAbove_70 rfl rfl (by decide) (by first | rfl | exact cat_ok _ | simp [okS, cat_rf]) ?_
        refine v_goto (tgt := 25) C dX1_bodyAbove_73 (by decide) ?_
        refine V.drop 6 ?_
        refine V.lits (lv' := [_, _, _, _, _, _, _]) rfl ?_
        exact ih_25 _ _ (upm_lt c_34) ⟨iv, i_this, i_p0, rfl⟩
      · skip
        subst c_56
        have i_b56 := nOK_some n_v49 rfl
        refine v_aload C dX1_bodyAbove_59 rfl ?_
        refine g1_120 C i_b56 dX1_bodyAbove_61 ?_
        refine v_topi (fun v61 e_v61 => ?_)
        refine v_if_ne (tgt := 70) C dX1_bodyAbove_64 (by decide) (fun c_64 => ?_) (fun c_64 => ?_)
        · skip
          refine v_iinc C dX1_bodyAbove_70 rfl rfl (by decide) (by first | rfl | exact cat_ok _ | simp [okS, cat_rf]) ?_
          refine v_goto (tgt := 25) C dX1_bodyAbove_73 (by decide) ?_
          refine V.drop 6 ?_
          refine V.lits (lv' := [_, _, _, _, _, _, _]) rfl ?_
          exact ih_25 _ _ (upm_lt c_34) ⟨iv, i_this, i_p0, rfl⟩
        · skip
          refine v_aload C dX1_bodyAbove_67 rfl ?_
          refine v_aret (o := some _) C hr (Nat.le_of_ble_eq_true rfl) (Nat.le_of_ble_eq_true rfl) dX1_bodyAbove_69 ?_
          exact ⟨_, rfl, (nOK_is i_b56), rfl⟩
theorem dX1_guardAt_0 : decode cX1_guardAt 0 = .ok (.aload_n 0, 1) := by decide +kernel
theorem dX1_guardAt_1 : decode cX1_guardAt 1 = .ok (.aload_n 1, 1) := by decide +kernel
theorem dX1_guardAt_2 : decode cX1_guardAt 2 = .ok (.getfield 101, 3) := by decide +kernel
theorem dX1_guardAt_5 : decode cX1_guardAt 5 = .ok (.iload_n 2, 1) := by decide +kernel
theorem dX1_guardAt_6 : decode cX1_guardAt 6 = .ok (.invokevirtual 132, 3) := by decide +kernel
theorem dX1_guardAt_9 : decode cX1_guardAt 9 = .ok (.invokevirtual 45, 3) := by decide +kernel
theorem dX1_guardAt_12 : decode cX1_guardAt 12 = .ok (.astore 4, 2) := by decide +kernel
theorem dX1_guardAt_14 : decode cX1_guardAt 14 = .ok (.aload 4, 2) := by decide +kernel
theorem dX1_guardAt_16 : decode cX1_guardAt 16 = .ok (.ifnonnull 7, 3) := by decide +kernel
theorem dX1_guardAt_19 : decode cX1_guardAt 19 = .ok (.aconst_null, 1) := by decide +kernel
theorem dX1_guardAt_20 : decode cX1_guardAt 20 = .ok (.goto 9, 3) := by decide +kernel
theorem dX1_guardAt_23 : decode cX1_guardAt 23 = .ok (.aload 4, 2) := by decide +kernel
theorem dX1_guardAt_25 : decode cX1_guardAt 25 = .ok (.iload_n 3, 1) := by decide +kernel
theorem dX1_guardAt_26 : decode cX1_guardAt 26 = .ok (.invokevirtual 176, 3) := by decide +kernel
theorem dX1_guardAt_29 : decode cX1_guardAt 29 = .ok (.areturn, 1) := by decide +kernel
set_option maxRecDepth 100000 in
set_option maxHeartbeats 4000000 in
theorem st_X1_guardAt (l : Launch) (M : Nat → Prop) (h : Nat) (p0 : Nat) (p1 : Int32) (p2 : Int32) : Ct l yX1_guardAt cX1_guardAt 5 (some (.object "PuppetCast$Part")) 2 0 0 42 (fun S av => av = [.ref h, .ref p0, .int p1, .int p2] ∧ INV M [] S ∧ is S h 1 ∧ is S p0 2) (fun S _ r S' => ∃ v, r = some (va_rf v) ∧ nOK S' 5 v ∧ S' = S) := by
  refine ct_of (by decide) (fun S av h => by obtain ⟨rfl, iv, i_this, i_p0⟩ := h; exact Nat.le_of_ble_eq_true rfl) ?_
  intro p e s m args below meth c D G bs S av C hr hin hpre
  obtain ⟨rfl, iv, i_this, i_p0⟩ := hpre
  refine v_aload_n C dX1_guardAt_0 rfl ?_
  refine v_aload_n C dX1_guardAt_1 rfl ?_
  obtain ⟨a2, e_a2, i_a2⟩ := T130 iv i_p0 List.not_mem_nil
  refine r1_101 (b := a2) C i_p0 e_a2 dX1_guardAt_2 ?_
  refine v_iload_n C dX1_guardAt_5 rfl ?_
  refine v_callV (As := [_]) (n := 1) C (st_X3_at l _ _ _) rfl i_a2 (by decide) rfl ⟨wd538, wd187, wd188, wd45, wd189⟩ ⟨rfl, hy_X3_at⟩ rfl ⟨Nat.le_of_ble_eq_true rfl, Nat.le_of_ble_eq_true rfl⟩ (Nat.le_of_ble_eq_true rfl) ⟨Nat.le_of_ble_eq_true rfl, Nat.le_of_ble_eq_true rfl⟩ dX1_guardAt_6 ⟨rfl, iv, i_a2⟩ (fun r_6 S2_6 h_6 => ?_)
  obtain ⟨v6, rfl, q_v6⟩ := h_6
  obtain rfl := q_v6.symm
  refine v_callV (As := [_]) (n := 1) C (st_X1_traitAt l _ _ _) rfl i_this (by decide) rfl ⟨wd137, wd138, wd139, wd15, wd140⟩ ⟨rfl, hy_X1_traitAt⟩ rfl ⟨Nat.le_of_ble_eq_true rfl, Nat.le_of_ble_eq_true rfl⟩ (Nat.le_of_ble_eq_true rfl) ⟨Nat.le_of_ble_eq_true rfl, Nat.le_of_ble_eq_true rfl⟩ dX1_guardAt_9 ⟨rfl, iv, i_this⟩ (fun r_9 S2_9 h_9 => ?_)
  obtain ⟨v9, rfl, n_v9, q_v9⟩ := h_9
  obtain rfl := q_v9.symm
  refine v_qstore C dX1_guardAt_12 (by decide) (by first | rfl | exact cat_ok _ | simp [okS, cat_rf]) ?_
  refine v_qload C dX1_guardAt_14 rfl ?_
  refine v_ifnonnull (tgt := 23) C dX1_guardAt_16 (by decide) (fun b16 c_16 => ?_) (fun c_16 => ?_)
  · skip
    subst c_16
    have i_b16 := nOK_some n_v9 rfl
    refine v_aload C dX1_guardAt_23 rfl ?_
    refine v_iload_n C dX1_guardAt_25 rfl ?_
    refine v_callV (As := [_]) (n := 1) C (st_X8_guardFor l _ _ _) rfl i_b16 (by decide) rfl ⟨wd642, wd643, wd644, wd212, wd645⟩ ⟨rfl, hy_X8_guardFor⟩ rfl ⟨Nat.le_of_ble_eq_true rfl, Nat.le_of_ble_eq_true rfl⟩ (Nat.le_of_ble_eq_true rfl) ⟨Nat.le_of_ble_eq_true rfl, Nat.le_of_ble_eq_true rfl⟩ dX1_guardAt_26 ⟨rfl, iv, i_b16⟩ (fun r_26 S4_26 h_26 => ?_)
    obtain ⟨v26, rfl, n_v26, q_v26⟩ := h_26
    obtain rfl := q_v26.symm
    refine v_aret C hr (Nat.le_of_ble_eq_true rfl) (Nat.le_of_ble_eq_true rfl) dX1_guardAt_29 ?_
    exact ⟨_, rfl, n_v26, rfl⟩
  · skip
    subst c_16
    refine v_null C dX1_guardAt_19 ?_
    refine v_goto (tgt := 29) C dX1_guardAt_20 (by decide) ?_
    refine v_aret C hr (Nat.le_of_ble_eq_true rfl) (Nat.le_of_ble_eq_true rfl) dX1_guardAt_29 ?_
    exact ⟨_, rfl, nOK_none, rfl⟩
theorem dX1_guardCount_0 : decode cX1_guardCount 0 = .ok (.iconst 0, 1) := by decide +kernel
theorem dX1_guardCount_1 : decode cX1_guardCount 1 = .ok (.istore_n 3, 1) := by decide +kernel
theorem dX1_guardCount_2 : decode cX1_guardCount 2 = .ok (.iconst 0, 1) := by decide +kernel
theorem dX1_guardCount_3 : decode cX1_guardCount 3 = .ok (.istore 4, 2) := by decide +kernel
theorem dX1_guardCount_5 : decode cX1_guardCount 5 = .ok (.iload 4, 2) := by decide +kernel
theorem dX1_guardCount_7 : decode cX1_guardCount 7 = .ok (.aload_n 1, 1) := by decide +kernel
theorem dX1_guardCount_8 : decode cX1_guardCount 8 = .ok (.getfield 101, 3) := by decide +kernel
theorem dX1_guardCount_11 : decode cX1_guardCount 11 = .ok (.getfield 129, 3) := by decide +kernel
theorem dX1_guardCount_14 : decode cX1_guardCount 14 = .ok (.if_icmp .ge 28, 3) := by decide +kernel
theorem dX1_guardCount_17 : decode cX1_guardCount 17 = .ok (.iload_n 3, 1) := by decide +kernel
theorem dX1_guardCount_18 : decode cX1_guardCount 18 = .ok (.aload_n 0, 1) := by decide +kernel
theorem dX1_guardCount_19 : decode cX1_guardCount 19 = .ok (.aload_n 1, 1) := by decide +kernel
theorem dX1_guardCount_20 : decode cX1_guardCount 20 = .ok (.iload 4, 2) := by decide +kernel
theorem dX1_guardCount_22 : decode cX1_guardCount 22 = .ok (.iload_n 2, 1) := by decide +kernel
theorem dX1_guardCount_23 : decode cX1_guardCount 23 = .ok (.invokevirtual 179, 3) := by decide +kernel
theorem dX1_guardCount_26 : decode cX1_guardCount 26 = .ok (.ifnonnull 7, 3) := by decide +kernel
theorem dX1_guardCount_29 : decode cX1_guardCount 29 = .ok (.iconst 0, 1) := by decide +kernel
theorem dX1_guardCount_30 : decode cX1_guardCount 30 = .ok (.goto 4, 3) := by decide +kernel
theorem dX1_guardCount_33 : decode cX1_guardCount 33 = .ok (.iconst 1, 1) := by decide +kernel
theorem dX1_guardCount_34 : decode cX1_guardCount 34 = .ok (.iadd, 1) := by decide +kernel
theorem dX1_guardCount_35 : decode cX1_guardCount 35 = .ok (.istore_n 3, 1) := by decide +kernel
theorem dX1_guardCount_36 : decode cX1_guardCount 36 = .ok (.iinc 4 1, 3) := by decide +kernel
theorem dX1_guardCount_39 : decode cX1_guardCount 39 = .ok (.goto (-34), 3) := by decide +kernel
theorem dX1_guardCount_42 : decode cX1_guardCount 42 = .ok (.iload_n 3, 1) := by decide +kernel
theorem dX1_guardCount_43 : decode cX1_guardCount 43 = .ok (.ireturn, 1) := by decide +kernel
set_option maxRecDepth 100000 in
set_option maxHeartbeats 4000000 in
theorem st_X1_guardCount (l : Launch) (M : Nat → Prop) (h : Nat) (p0 : Nat) (p1 : Int32) : Ct l yX1_guardCount cX1_guardCount 5 (some .int) 3 0 0 66 (fun S av => av = [.ref h, .ref p0, .int p1] ∧ INV M [] S ∧ is S h 1 ∧ is S p0 2) (fun S _ r S' => ∃ v, r = some (.int v) ∧ S' = S) := by
  refine ct_of (by decide) (fun S av h => by obtain ⟨rfl, iv, i_this, i_p0⟩ := h; exact Nat.le_of_ble_eq_true rfl) ?_
  intro p e s m args below meth c D G bs S av C hr hin hpre
  obtain ⟨rfl, iv, i_this, i_p0⟩ := hpre
  refine v_iconst (v := 0) C dX1_guardCount_0 (by decide) ?_
  refine v_istore_n C dX1_guardCount_1 (by decide) (by first | rfl | exact cat_ok _ | simp [okS, cat_rf]) ?_
  refine v_iconst (v := 0) C dX1_guardCount_2 (by decide) ?_
  refine v_istore C dX1_guardCount_3 (by decide) (by first | rfl | exact cat_ok _ | simp [okS, cat_rf]) ?_
  refine V.lits (lv' := [_, _, _, _, _]) rfl ?_
  refine v_loop (fun (t : Int32 × Int32) lv0 => ((lv0.set 3 (some (.int t.1))).set 4 (some (.int t.2)))) (fun (S1 : Mem) (t : Int32 × Int32) => INV M [] S1 ∧ is S1 h 1 ∧ is S1 p0 2 ∧ S1 = S) (fun (S1 : Mem) (t : Int32 × Int32) => upm t.2) (t := (_, _)) rfl ⟨iv, i_this, i_p0, rfl⟩ ?_
  intro L5 t h_5 ih_5
  obtain ⟨t0_5, t1_5⟩ := t
  obtain ⟨iv, i_this, i_p0, e_S⟩ := h_5
  subst e_S
  try dsimp only
  refine v_iload C dX1_guardCount_5 rfl ?_
  refine v_aload_n C dX1_guardCount_7 rfl ?_
  obtain ⟨a8, e_a8, i_a8⟩ := T130 iv i_p0 List.not_mem_nil
  refine r1_101 (b := a8) C i_p0 e_a8 dX1_guardCount_8 ?_
  refine g1_129 C i_a8 dX1_guardCount_11 ?_
  refine v_topi (fun v11 e_v11 => ?_)
  refine v_icmp_ge (tgt := 42) C dX1_guardCount_14 (by decide) (fun c_14 => ?_) (fun c_14 => ?_)
  · skip
    refine v_iload_n C dX1_guardCount_42 rfl ?_
    refine v_iret C hr (Nat.le_of_ble_eq_true rfl) (Nat.le_of_ble_eq_true rfl) dX1_guardCount_43 ?_
    exact ⟨_, rfl, rfl⟩
  · skip
    refine v_iload_n C dX1_guardCount_17 rfl ?_
    refine v_aload_n C dX1_guardCount_18 rfl ?_
    refine v_aload_n C dX1_guardCount_19 rfl ?_
    refine v_iload C dX1_guardCount_20 rfl ?_
    refine v_iload_n C dX1_guardCount_22 rfl ?_
    refine v_callV (As := [_, _, _]) (n := 3) C (st_X1_guardAt l _ _ _ _ _) rfl i_this (by decide) rfl ⟨wd638, wd639, wd640, wd15, wd641⟩ ⟨rfl, hy_X1_guardAt⟩ rfl ⟨Nat.le_of_ble_eq_true rfl, Nat.le_of_ble_eq_true rfl⟩ (Nat.le_of_ble_eq_true rfl) ⟨Nat.le_of_ble_eq_true rfl, Nat.le_of_ble_eq_true rfl⟩ dX1_guardCount_23 ⟨rfl, iv, i_this, i_p0⟩ (fun r_23 S2_23 h_23 => ?_)
    obtain ⟨v23, rfl, n_v23, q_v23⟩ := h_23
    obtain rfl := q_v23.symm
    refine v_ifnonnull (tgt := 33) C dX1_guardCount_26 (by decide) (fun b26 c_26 => ?_) (fun c_26 => ?_)
    · skip
      subst c_26
      have i_b26 := nOK_some n_v23 rfl
      refine v_iconst (v := 1) C dX1_guardCount_33 (by decide) ?_
      refine v_iadd C dX1_guardCount_34 ?_
      refine v_istore_n C dX1_guardCount_35 (by decide) (by first | rfl | exact cat_ok _ | simp [okS, cat_rf]) ?_
      refine v_iinc C dX1_guardCount_36 rfl rfl (by decide) (by first | rfl | exact cat_ok _ | simp [okS, cat_rf]) ?_
      refine v_goto (tgt := 5) C dX1_guardCount_39 (by decide) ?_
      refine V.lits (lv' := [_, _, _, _, _]) rfl ?_
      exact ih_5 _ (_, _) (upm_lt c_14) ⟨iv, i_this, i_p0, rfl⟩
    · skip
      subst c_26
      refine v_iconst (v := 0) C dX1_guardCount_29 (by decide) ?_
      refine v_goto (tgt := 34) C dX1_guardCount_30 (by decide) ?_
      refine v_iadd C dX1_guardCount_34 ?_
      refine v_istore_n C dX1_guardCount_35 (by decide) (by first | rfl | exact cat_ok _ | simp [okS, cat_rf]) ?_
      refine v_iinc C dX1_guardCount_36 rfl rfl (by decide) (by first | rfl | exact cat_ok _ | simp [okS, cat_rf]) ?_
      refine v_goto (tgt := 5) C dX1_guardCount_39 (by decide) ?_
      refine V.lits (lv' := [_, _, _, _, _]) rfl ?_
      exact ih_5 _ (_, _) (upm_lt c_14) ⟨iv, i_this, i_p0, rfl⟩
theorem dX1_guardingTrait_0 : decode cX1_guardingTrait 0 = .ok (.iconst 0, 1) := by decide +kernel
theorem dX1_guardingTrait_1 : decode cX1_guardingTrait 1 = .ok (.istore 4, 2) := by decide +kernel
theorem dX1_guardingTrait_3 : decode cX1_guardingTrait 3 = .ok (.iconst 0, 1) := by decide +kernel
theorem dX1_guardingTrait_4 : decode cX1_guardingTrait 4 = .ok (.istore 5, 2) := by decide +kernel
theorem dX1_guardingTrait_6 : decode cX1_guardingTrait 6 = .ok (.iload 5, 2) := by decide +kernel
theorem dX1_guardingTrait_8 : decode cX1_guardingTrait 8 = .ok (.aload_n 1, 1) := by decide +kernel
theorem dX1_guardingTrait_9 : decode cX1_guardingTrait 9 = .ok (.getfield 101, 3) := by decide +kernel
theorem dX1_guardingTrait_12 : decode cX1_guardingTrait 12 = .ok (.getfield 129, 3) := by decide +kernel
theorem dX1_guardingTrait_15 : decode cX1_guardingTrait 15 = .ok (.if_icmp .ge 39, 3) := by decide +kernel
theorem dX1_guardingTrait_18 : decode cX1_guardingTrait 18 = .ok (.aload_n 0, 1) := by decide +kernel
theorem dX1_guardingTrait_19 : decode cX1_guardingTrait 19 = .ok (.aload_n 1, 1) := by decide +kernel
theorem dX1_guardingTrait_20 : decode cX1_guardingTrait 20 = .ok (.iload 5, 2) := by decide +kernel
theorem dX1_guardingTrait_22 : decode cX1_guardingTrait 22 = .ok (.iload_n 2, 1) := by decide +kernel
theorem dX1_guardingTrait_23 : decode cX1_guardingTrait 23 = .ok (.invokevirtual 179, 3) := by decide +kernel
theorem dX1_guardingTrait_26 : decode cX1_guardingTrait 26 = .ok (.ifnull 22, 3) := by decide +kernel
theorem dX1_guardingTrait_29 : decode cX1_guardingTrait 29 = .ok (.iload 4, 2) := by decide +kernel
theorem dX1_guardingTrait_31 : decode cX1_guardingTrait 31 = .ok (.iload_n 3, 1) := by decide +kernel
theorem dX1_guardingTrait_32 : decode cX1_guardingTrait 32 = .ok (.if_icmp .ne 13, 3) := by decide +kernel
theorem dX1_guardingTrait_35 : decode cX1_guardingTrait 35 = .ok (.aload_n 1, 1) := by decide +kernel
theorem dX1_guardingTrait_36 : decode cX1_guardingTrait 36 = .ok (.getfield 101, 3) := by decide +kernel
theorem dX1_guardingTrait_39 : decode cX1_guardingTrait 39 = .ok (.iload 5, 2) := by decide +kernel
theorem dX1_guardingTrait_41 : decode cX1_guardingTrait 41 = .ok (.invokevirtual 132, 3) := by decide +kernel
theorem dX1_guardingTrait_44 : decode cX1_guardingTrait 44 = .ok (.ireturn, 1) := by decide +kernel
theorem dX1_guardingTrait_45 : decode cX1_guardingTrait 45 = .ok (.iinc 4 1, 3) := by decide +kernel
theorem dX1_guardingTrait_48 : decode cX1_guardingTrait 48 = .ok (.iinc 5 1, 3) := by decide +kernel
theorem dX1_guardingTrait_51 : decode cX1_guardingTrait 51 = .ok (.goto (-45), 3) := by decide +kernel
theorem dX1_guardingTrait_54 : decode cX1_guardingTrait 54 = .ok (.iconst (-1), 1) := by decide +kernel
theorem dX1_guardingTrait_55 : decode cX1_guardingTrait 55 = .ok (.ireturn, 1) := by decide +kernel
set_option maxRecDepth 100000 in
set_option maxHeartbeats 4000000 in
theorem st_X1_guardingTrait (l : Launch) (M : Nat → Prop) (h : Nat) (p0 : Nat) (p1 : Int32) (p2 : Int32) : Ct l yX1_guardingTrait cX1_guardingTrait 6 (some .int) 3 0 0 66 (fun S av => av = [.ref h, .ref p0, .int p1, .int p2] ∧ INV M [] S ∧ is S h 1 ∧ is S p0 2) (fun S _ r S' => ∃ v, r = some (.int v) ∧ S' = S) := by
  refine ct_of (by decide) (fun S av h => by obtain ⟨rfl, iv, i_this, i_p0⟩ := h; exact Nat.le_of_ble_eq_true rfl) ?_
  intro p e s m args below meth c D G bs S av C hr hin hpre
  obtain ⟨rfl, iv, i_this, i_p0⟩ := hpre
  refine v_iconst (v := 0) C dX1_guardingTrait_0 (by decide) ?_
  refine v_istore C dX1_guardingTrait_1 (by decide) (by first | rfl | exact cat_ok _ | simp [okS, cat_rf]) ?_
  refine v_iconst (v := 0) C dX1_guardingTrait_3 (by decide) ?_
  refine v_istore C dX1_guardingTrait_4 (by decide) (by first | rfl | exact cat_ok _ | simp [okS, cat_rf]) ?_
  refine V.lits (lv' := [_, _, _, _, _, _]) rfl ?_
  refine v_loop (fun (t : Int32 × Int32) lv0 => ((lv0.set 4 (some (.int t.1))).set 5 (some (.int t.2)))) (fun (S1 : Mem) (t : Int32 × Int32) => INV M [] S1 ∧ is S1 h 1 ∧ is S1 p0 2 ∧ S1 = S) (fun (S1 : Mem) (t : Int32 × Int32) => upm t.2) (t := (_, _)) rfl ⟨iv, i_this, i_p0, rfl⟩ ?_
  intro L6 t h_6 ih_6
  obtain ⟨t0_6, t1_6⟩ := t
  obtain ⟨iv, i_this, i_p0, e_S⟩ := h_6
  subst e_S
  try dsimp only
  refine v_iload C dX1_guardingTrait_6 rfl ?_
  refine v_aload_n C dX1_guardingTrait_8 rfl ?_
  obtain ⟨a9, e_a9, i_a9⟩ := T130 iv i_p0 List.not_mem_nil
  refine r1_101 (b := a9) C i_p0 e_a9 dX1_guardingTrait_9 ?_
  refine g1_129 C i_a9 dX1_guardingTrait_12 ?_
  refine v_topi (fun v12 e_v12 => ?_)
  refine v_icmp_ge (tgt := 54) C dX1_guardingTrait_15 (by decide) (fun c_15 => ?_) (fun c_15 => ?_)
  · skip
    refine v_iconst (v := -1) C dX1_guardingTrait_54 (by decide) ?_
    refine v_iret C hr (Nat.le_of_ble_eq_true rfl) (Nat.le_of_ble_eq_true rfl) dX1_guardingTrait_55 ?_
    exact ⟨_, rfl, rfl⟩
  · skip
    refine v_aload_n C dX1_guardingTrait_18 rfl ?_
    refine v_aload_n C dX1_guardingTrait_19 rfl ?_
    refine v_iload C dX1_guardingTrait_20 rfl ?_
    refine v_iload_n C dX1_guardingTrait_22 rfl ?_
    refine v_callV (As := [_, _, _]) (n := 3) C (st_X1_guardAt l _ _ _ _ _) rfl i_this (by decide) rfl ⟨wd638, wd639, wd640, wd15, wd641⟩ ⟨rfl, hy_X1_guardAt⟩ rfl ⟨Nat.le_of_ble_eq_true rfl, Nat.le_of_ble_eq_true rfl⟩ (Nat.le_of_ble_eq_true rfl) ⟨Nat.le_of_ble_eq_true rfl, Nat.le_of_ble_eq_true rfl⟩ dX1_guardingTrait_23 ⟨rfl, iv, i_this, i_p0⟩ (fun r_23 S2_23 h_23 => ?_)
    obtain ⟨v23, rfl, n_v23, q_v23⟩ := h_23
    obtain rfl := q_v23.symm
    refine v_ifnull (tgt := 48) C dX1_guardingTrait_26 (by decide) (fun c_26 => ?_) (fun b26 c_26 => ?_)
    · skip
      subst c_26
      refine v_iinc C dX1_guardingTrait_48 rfl rfl (by decide) (by first | rfl | exact cat_ok _ | simp [okS, cat_rf]) ?_
      refine v_goto (tgt := 6) C dX1_guardingTrait_51 (by decide) ?_
      refine V.lits (lv' := [_, _, _, _, _, _]) rfl ?_
      exact ih_6 _ (_, _) (upm_lt c_15) ⟨iv, i_this, i_p0, rfl⟩
    · skip
      subst c_26
      have i_b26 := nOK_some n_v23 rfl
      refine v_iload C dX1_guardingTrait_29 rfl ?_
      refine v_iload_n C dX1_guardingTrait_31 rfl ?_
      refine v_icmp_ne (tgt := 45) C dX1_guardingTrait_32 (by decide) (fun c_32 => ?_) (fun c_32 => ?_)
      · skip
        refine v_iinc C dX1_guardingTrait_45 rfl rfl (by decide) (by first | rfl | exact cat_ok _ | simp [okS, cat_rf]) ?_
        refine v_iinc C dX1_guardingTrait_48 rfl rfl (by decide) (by first | rfl | exact cat_ok _ | simp [okS, cat_rf]) ?_
        refine v_goto (tgt := 6) C dX1_guardingTrait_51 (by decide) ?_
        refine V.lits (lv' := [_, _, _, _, _, _]) rfl ?_
        exact ih_6 _ (_, _) (upm_lt c_15) ⟨iv, i_this, i_p0, rfl⟩
      · skip
        refine v_aload_n C dX1_guardingTrait_35 rfl ?_
        obtain ⟨a36, e_a36, i_a36⟩ := T130 iv i_p0 List.not_mem_nil
        refine r1_101 (b := a36) C i_p0 e_a36 dX1_guardingTrait_36 ?_
        refine v_iload C dX1_guardingTrait_39 rfl ?_
        refine v_callV (As := [_]) (n := 1) C (st_X3_at l _ _ _) rfl i_a36 (by decide) rfl ⟨wd538, wd187, wd188, wd45, wd189⟩ ⟨rfl, hy_X3_at⟩ rfl ⟨Nat.le_of_ble_eq_true rfl, Nat.le_of_ble_eq_true rfl⟩ (Nat.le_of_ble_eq_true rfl) ⟨Nat.le_of_ble_eq_true rfl, Nat.le_of_ble_eq_true rfl⟩ dX1_guardingTrait_41 ⟨rfl, iv, i_a36⟩ (fun r_41 S6_41 h_41 => ?_)
        obtain ⟨v41, rfl, q_v41⟩ := h_41
        obtain rfl := q_v41.symm
        refine v_iret C hr (Nat.le_of_ble_eq_true rfl) (Nat.le_of_ble_eq_true rfl) dX1_guardingTrait_44 ?_
        exact ⟨_, rfl, rfl⟩
theorem dX1_insteadPlace_0 : decode cX1_insteadPlace 0 = .ok (.iload_n 3, 1) := by decide +kernel
theorem dX1_insteadPlace_1 : decode cX1_insteadPlace 1 = .ok (.istore 4, 2) := by decide +kernel
theorem dX1_insteadPlace_3 : decode cX1_insteadPlace 3 = .ok (.iload 4, 2) := by decide +kernel
theorem dX1_insteadPlace_5 : decode cX1_insteadPlace 5 = .ok (.aload_n 1, 1) := by decide +kernel
theorem dX1_insteadPlace_6 : decode cX1_insteadPlace 6 = .ok (.getfield 101, 3) := by decide +kernel
theorem dX1_insteadPlace_9 : decode cX1_insteadPlace 9 = .ok (.getfield 129, 3) := by decide +kernel
theorem dX1_insteadPlace_12 : decode cX1_insteadPlace 12 = .ok (.if_icmp .ge 36, 3) := by decide +kernel
theorem dX1_insteadPlace_15 : decode cX1_insteadPlace 15 = .ok (.aload_n 0, 1) := by decide +kernel
theorem dX1_insteadPlace_16 : decode cX1_insteadPlace 16 = .ok (.aload_n 1, 1) := by decide +kernel
theorem dX1_insteadPlace_17 : decode cX1_insteadPlace 17 = .ok (.iload 4, 2) := by decide +kernel
theorem dX1_insteadPlace_19 : decode cX1_insteadPlace 19 = .ok (.iload_n 2, 1) := by decide +kernel
theorem dX1_insteadPlace_20 : decode cX1_insteadPlace 20 = .ok (.invokevirtual 179, 3) := by decide +kernel
theorem dX1_insteadPlace_23 : decode cX1_insteadPlace 23 = .ok (.astore 5, 2) := by decide +kernel
theorem dX1_insteadPlace_25 : decode cX1_insteadPlace 25 = .ok (.aload 5, 2) := by decide +kernel
theorem dX1_insteadPlace_27 : decode cX1_insteadPlace 27 = .ok (.ifnull 15, 3) := by decide +kernel
theorem dX1_insteadPlace_30 : decode cX1_insteadPlace 30 = .ok (.aload 5, 2) := by decide +kernel
theorem dX1_insteadPlace_32 : decode cX1_insteadPlace 32 = .ok (.getfield 182, 3) := by decide +kernel
theorem dX1_insteadPlace_35 : decode cX1_insteadPlace 35 = .ok (.iconst 1, 1) := by decide +kernel
theorem dX1_insteadPlace_36 : decode cX1_insteadPlace 36 = .ok (.if_icmp .ne 6, 3) := by decide +kernel
theorem dX1_insteadPlace_39 : decode cX1_insteadPlace 39 = .ok (.iload 4, 2) := by decide +kernel
theorem dX1_insteadPlace_41 : decode cX1_insteadPlace 41 = .ok (.ireturn, 1) := by decide +kernel
theorem dX1_insteadPlace_42 : decode cX1_insteadPlace 42 = .ok (.iinc 4 1, 3) := by decide +kernel
theorem dX1_insteadPlace_45 : decode cX1_insteadPlace 45 = .ok (.goto (-42), 3) := by decide +kernel
theorem dX1_insteadPlace_48 : decode cX1_insteadPlace 48 = .ok (.aload_n 1, 1) := by decide +kernel
theorem dX1_insteadPlace_49 : decode cX1_insteadPlace 49 = .ok (.getfield 101, 3) := by decide +kernel
theorem dX1_insteadPlace_52 : decode cX1_insteadPlace 52 = .ok (.getfield 129, 3) := by decide +kernel
theorem dX1_insteadPlace_55 : decode cX1_insteadPlace 55 = .ok (.ireturn, 1) := by decide +kernel
set_option maxRecDepth 100000 in
set_option maxHeartbeats 4000000 in
theorem st_X1_insteadPlace (l : Launch) (M : Nat → Prop) (h : Nat) (p0 : Nat) (p1 : Int32) (p2 : Int32) : Ct l yX1_insteadPlace cX1_insteadPlace 6 (some .int) 3 0 0 66 (fun S av => av = [.ref h, .ref p0, .int p1, .int p2] ∧ INV M [] S ∧ is S h 1 ∧ is S p0 2) (fun S _ r S' => ∃ v, r = some (.int v) ∧ (0 ≤ p2.toInt → 0 ≤ v.toInt ∧ v.toInt ≤ 20) ∧ S' = S) := by
  refine ct_of (by decide) (fun S av h => by obtain ⟨rfl, iv, i_this, i_p0⟩ := h; exact Nat.le_of_ble_eq_true rfl) ?_
  intro p e s m args below meth c D G bs S av C hr hin hpre
  obtain ⟨rfl, iv, i_this, i_p0⟩ := hpre
  refine v_iload_n C dX1_insteadPlace_0 rfl ?_
  refine v_istore C dX1_insteadPlace_1 (by decide) (by first | rfl | exact cat_ok _ | simp [okS, cat_rf]) ?_
  refine V.lits (lv' := [_, _, _, _, _, _]) rfl ?_
  refine v_loop (fun (t : Int32) lv0 => (lv0.set 4 (some (.int t)))) (fun (S1 : Mem) (t : Int32) => INV M [] S1 ∧ is S1 h 1 ∧ is S1 p0 2 ∧ (0 ≤ p2.toInt → 0 ≤ t.toInt) ∧ S1 = S) (fun (S1 : Mem) (t : Int32) => upm t) (t := _) rfl ⟨iv, i_this, i_p0, id, rfl⟩ ?_
  intro L3 t h_3 ih_3
  revert h_3 ih_3
  revert t
  intro t0_3 h_3 ih_3
  obtain ⟨iv, i_this, i_p0, z0, e_S⟩ := h_3
  subst e_S
  try dsimp only
  refine v_iload C dX1_insteadPlace_3 rfl ?_
  refine v_aload_n C dX1_insteadPlace_5 rfl ?_
  obtain ⟨a6, e_a6, i_a6⟩ := T130 iv i_p0 List.not_mem_nil
  refine r1_101 (b := a6) C i_p0 e_a6 dX1_insteadPlace_6 ?_
  refine g1_129 C i_a6 dX1_insteadPlace_9 ?_
  refine v_topi (fun v9 e_v9 => ?_)
  refine v_icmp_ge (tgt := 48) C dX1_insteadPlace_12 (by decide) (fun c_12 => ?_) (fun c_12 => ?_)
  · skip
    refine v_aload_n C dX1_insteadPlace_48 rfl ?_
    obtain ⟨a49, e_a49, i_a49⟩ := T130 iv i_p0 List.not_mem_nil
    refine r1_101 (b := a49) C i_p0 e_a49 dX1_insteadPlace_49 ?_
    refine g1_129 C i_a49 dX1_insteadPlace_52 ?_
    refine v_topi (fun v52 e_v52 => ?_)
    refine v_iret C hr (Nat.le_of_ble_eq_true rfl) (Nat.le_of_ble_eq_true rfl) dX1_insteadPlace_55 ?_
    exact ⟨_, rfl, (fun _ => len20 iv i_a49 e_v52), rfl⟩
  · skip
    refine v_aload_n C dX1_insteadPlace_15 rfl ?_
    refine v_aload_n C dX1_insteadPlace_16 rfl ?_
    refine v_iload C dX1_insteadPlace_17 rfl ?_
    refine v_iload_n C dX1_insteadPlace_19 rfl ?_
    refine v_callV (As := [_, _, _]) (n := 3) C (st_X1_guardAt l _ _ _ _ _) rfl i_this (by decide) rfl ⟨wd638, wd639, wd640, wd15, wd641⟩ ⟨rfl, hy_X1_guardAt⟩ rfl ⟨Nat.le_of_ble_eq_true rfl, Nat.le_of_ble_eq_true rfl⟩ (Nat.le_of_ble_eq_true rfl) ⟨Nat.le_of_ble_eq_true rfl, Nat.le_of_ble_eq_true rfl⟩ dX1_insteadPlace_20 ⟨rfl, iv, i_this, i_p0⟩ (fun r_20 S2_20 h_20 => ?_)
    obtain ⟨v20, rfl, n_v20, q_v20⟩ := h_20
    obtain rfl := q_v20.symm
    refine v_qstore C dX1_insteadPlace_23 (by decide) (by first | rfl | exact cat_ok _ | simp [okS, cat_rf]) ?_
    refine v_qload C dX1_insteadPlace_25 rfl ?_
    refine v_ifnull (tgt := 42) C dX1_insteadPlace_27 (by decide) (fun c_27 => ?_) (fun b27 c_27 => ?_)
    · skip
      subst c_27
      refine v_iinc C dX1_insteadPlace_42 rfl rfl (by decide) (by first | rfl | exact cat_ok _ | simp [okS, cat_rf]) ?_
      refine v_goto (tgt := 3) C dX1_insteadPlace_45 (by decide) ?_
      refine V.drop 5 ?_
      refine V.lits (lv' := [_, _, _, _, _, _]) rfl ?_
      exact ih_3 _ _ (upm_lt c_12) ⟨iv, i_this, i_p0, (fun z => up0 (z0 z) c_12), rfl⟩
    · skip
      subst c_27
      have i_b27 := nOK_some n_v20 rfl
      refine v_aload C dX1_insteadPlace_30 rfl ?_
      refine g1_182 C i_b27 dX1_insteadPlace_32 ?_
      refine v_topi (fun v32 e_v32 => ?_)
      refine v_iconst (v := 1) C dX1_insteadPlace_35 (by decide) ?_
      refine v_icmp_ne (tgt := 42) C dX1_insteadPlace_36 (by decide) (fun c_36 => ?_) (fun c_36 => ?_)
      · skip
        refine v_iinc C dX1_insteadPlace_42 rfl rfl (by decide) (by first | rfl | exact cat_ok _ | simp [okS, cat_rf]) ?_
        refine v_goto (tgt := 3) C dX1_insteadPlace_45 (by decide) ?_
        refine V.drop 5 ?_
        refine V.lits (lv' := [_, _, _, _, _, _]) rfl ?_
        exact ih_3 _ _ (upm_lt c_12) ⟨iv, i_this, i_p0, (fun z => up0 (z0 z) c_12), rfl⟩
      · skip
        refine v_iload C dX1_insteadPlace_39 rfl ?_
        refine v_iret C hr (Nat.le_of_ble_eq_true rfl) (Nat.le_of_ble_eq_true rfl) dX1_insteadPlace_41 ?_
        exact ⟨_, rfl, (fun z => ip_mid (z0 z) c_12 (len20 iv i_a6 e_v9)), rfl⟩
theorem dX1_countBodies_0 : decode cX1_countBodies 0 = .ok (.iconst 0, 1) := by decide +kernel
theorem dX1_countBodies_1 : decode cX1_countBodies 1 = .ok (.istore_n 1, 1) := by decide +kernel
theorem dX1_countBodies_2 : decode cX1_countBodies 2 = .ok (.iconst 0, 1) := by decide +kernel
theorem dX1_countBodies_3 : decode cX1_countBodies 3 = .ok (.istore_n 2, 1) := by decide +kernel
theorem dX1_countBodies_4 : decode cX1_countBodies 4 = .ok (.iload_n 2, 1) := by decide +kernel
theorem dX1_countBodies_5 : decode cX1_countBodies 5 = .ok (.aload_n 0, 1) := by decide +kernel
theorem dX1_countBodies_6 : decode cX1_countBodies 6 = .ok (.getfield 76, 3) := by decide +kernel
theorem dX1_countBodies_9 : decode cX1_countBodies 9 = .ok (.if_icmp .ge 30, 3) := by decide +kernel
theorem dX1_countBodies_12 : decode cX1_countBodies 12 = .ok (.aload_n 0, 1) := by decide +kernel
theorem dX1_countBodies_13 : decode cX1_countBodies 13 = .ok (.iload_n 2, 1) := by decide +kernel
theorem dX1_countBodies_14 : decode cX1_countBodies 14 = .ok (.invokevirtual 45, 3) := by decide +kernel
theorem dX1_countBodies_17 : decode cX1_countBodies 17 = .ok (.astore_n 3, 1) := by decide +kernel
theorem dX1_countBodies_18 : decode cX1_countBodies 18 = .ok (.iload_n 1, 1) := by decide +kernel
theorem dX1_countBodies_19 : decode cX1_countBodies 19 = .ok (.aload_n 3, 1) := by decide +kernel
theorem dX1_countBodies_20 : decode cX1_countBodies 20 = .ok (.ifnonnull 7, 3) := by decide +kernel
theorem dX1_countBodies_23 : decode cX1_countBodies 23 = .ok (.iconst 0, 1) := by decide +kernel
theorem dX1_countBodies_24 : decode cX1_countBodies 24 = .ok (.goto 7, 3) := by decide +kernel
theorem dX1_countBodies_27 : decode cX1_countBodies 27 = .ok (.aload_n 3, 1) := by decide +kernel
theorem dX1_countBodies_28 : decode cX1_countBodies 28 = .ok (.invokevirtual 185, 3) := by decide +kernel
theorem dX1_countBodies_31 : decode cX1_countBodies 31 = .ok (.iadd, 1) := by decide +kernel
theorem dX1_countBodies_32 : decode cX1_countBodies 32 = .ok (.istore_n 1, 1) := by decide +kernel
theorem dX1_countBodies_33 : decode cX1_countBodies 33 = .ok (.iinc 2 1, 3) := by decide +kernel
theorem dX1_countBodies_36 : decode cX1_countBodies 36 = .ok (.goto (-32), 3) := by decide +kernel
theorem dX1_countBodies_39 : decode cX1_countBodies 39 = .ok (.iload_n 1, 1) := by decide +kernel
theorem dX1_countBodies_40 : decode cX1_countBodies 40 = .ok (.ireturn, 1) := by decide +kernel
set_option maxRecDepth 100000 in
set_option maxHeartbeats 4000000 in
theorem st_X1_countBodies (l : Launch) (M : Nat → Prop) (h : Nat) : Ct l yX1_countBodies cX1_countBodies 4 (some .int) 3 0 0 64 (fun S av => av = [.ref h] ∧ INV M [] S ∧ is S h 1) (fun S _ r S' => ∃ v, r = some (.int v) ∧ S' = S) := by
  refine ct_of (by decide) (fun S av h => by obtain ⟨rfl, iv, i_this⟩ := h; exact Nat.le_of_ble_eq_true rfl) ?_
  intro p e s m args below meth c D G bs S av C hr hin hpre
  obtain ⟨rfl, iv, i_this⟩ := hpre
  refine v_iconst (v := 0) C dX1_countBodies_0 (by decide) ?_
  refine v_istore_n C dX1_countBodies_1 (by decide) (by first | rfl | exact cat_ok _ | simp [okS, cat_rf]) ?_
  refine v_iconst (v := 0) C dX1_countBodies_2 (by decide) ?_
  refine v_istore_n C dX1_countBodies_3 (by decide) (by first | rfl | exact cat_ok _ | simp [okS, cat_rf]) ?_
  refine V.lits (lv' := [_, _, _, _]) rfl ?_
  refine v_loop (fun (t : Int32 × Int32) lv0 => ((lv0.set 1 (some (.int t.1))).set 2 (some (.int t.2)))) (fun (S1 : Mem) (t : Int32 × Int32) => INV M [] S1 ∧ is S1 h 1 ∧ S1 = S) (fun (S1 : Mem) (t : Int32 × Int32) => upm t.2) (t := (_, _)) rfl ⟨iv, i_this, rfl⟩ ?_
  intro L4 t h_4 ih_4
  obtain ⟨t0_4, t1_4⟩ := t
  obtain ⟨iv, i_this, e_S⟩ := h_4
  subst e_S
  try dsimp only
  refine v_iload_n C dX1_countBodies_4 rfl ?_
  refine v_aload_n C dX1_countBodies_5 rfl ?_
  refine g1_76 C i_this dX1_countBodies_6 ?_
  refine v_topi (fun v6 e_v6 => ?_)
  refine v_icmp_ge (tgt := 39) C dX1_countBodies_9 (by decide) (fun c_9 => ?_) (fun c_9 => ?_)
  · skip
    refine v_iload_n C dX1_countBodies_39 rfl ?_
    refine v_iret C hr (Nat.le_of_ble_eq_true rfl) (Nat.le_of_ble_eq_true rfl) dX1_countBodies_40 ?_
    exact ⟨_, rfl, rfl⟩
  · skip
    refine v_aload_n C dX1_countBodies_12 rfl ?_
    refine v_iload_n C dX1_countBodies_13 rfl ?_
    refine v_callV (As := [_]) (n := 1) C (st_X1_traitAt l _ _ _) rfl i_this (by decide) rfl ⟨wd137, wd138, wd139, wd15, wd140⟩ ⟨rfl, hy_X1_traitAt⟩ rfl ⟨Nat.le_of_ble_eq_true rfl, Nat.le_of_ble_eq_true rfl⟩ (Nat.le_of_ble_eq_true rfl) ⟨Nat.le_of_ble_eq_true rfl, Nat.le_of_ble_eq_true rfl⟩ dX1_countBodies_14 ⟨rfl, iv, i_this⟩ (fun r_14 S2_14 h_14 => ?_)
    obtain ⟨v14, rfl, n_v14, q_v14⟩ := h_14
    obtain rfl := q_v14.symm
    refine v_qstore_n C dX1_countBodies_17 (by decide) (by first | rfl | exact cat_ok _ | simp [okS, cat_rf]) ?_
    refine v_iload_n C dX1_countBodies_18 rfl ?_
    refine v_qload_n C dX1_countBodies_19 rfl ?_
    refine v_ifnonnull (tgt := 27) C dX1_countBodies_20 (by decide) (fun b20 c_20 => ?_) (fun c_20 => ?_)
    · skip
      subst c_20
      have i_b20 := nOK_some n_v14 rfl
      refine v_aload_n C dX1_countBodies_27 rfl ?_
      refine v_callV (As := []) (n := 0) C (st_X8_countBodies l _ _) rfl i_b20 (by decide) rfl ⟨wd939, wd940, wd941, wd212, wd942⟩ ⟨rfl, hy_X8_countBodies⟩ rfl ⟨Nat.le_of_ble_eq_true rfl, Nat.le_of_ble_eq_true rfl⟩ (Nat.le_of_ble_eq_true rfl) ⟨Nat.le_of_ble_eq_true rfl, Nat.le_of_ble_eq_true rfl⟩ dX1_countBodies_28 ⟨rfl, iv, i_b20⟩ (fun r_28 S4_28 h_28 => ?_)
      obtain ⟨v28, rfl, q_v28⟩ := h_28
      obtain rfl := q_v28.symm
      refine v_iadd C dX1_countBodies_31 ?_
      refine v_istore_n C dX1_countBodies_32 (by decide) (by first | rfl | exact cat_ok _ | simp [okS, cat_rf]) ?_
      refine v_iinc C dX1_countBodies_33 rfl rfl (by decide) (by first | rfl | exact cat_ok _ | simp [okS, cat_rf]) ?_
      refine v_goto (tgt := 4) C dX1_countBodies_36 (by decide) ?_
      refine V.drop 3 ?_
      refine V.lits (lv' := [_, _, _, _]) rfl ?_
      exact ih_4 _ (_, _) (upm_lt c_9) ⟨iv, i_this, rfl⟩
    · skip
      subst c_20
      refine v_iconst (v := 0) C dX1_countBodies_23 (by decide) ?_
      refine v_goto (tgt := 31) C dX1_countBodies_24 (by decide) ?_
      refine v_iadd C dX1_countBodies_31 ?_
      refine v_istore_n C dX1_countBodies_32 (by decide) (by first | rfl | exact cat_ok _ | simp [okS, cat_rf]) ?_
      refine v_iinc C dX1_countBodies_33 rfl rfl (by decide) (by first | rfl | exact cat_ok _ | simp [okS, cat_rf]) ?_
      refine v_goto (tgt := 4) C dX1_countBodies_36 (by decide) ?_
      refine V.drop 3 ?_
      refine V.lits (lv' := [_, _, _, _]) rfl ?_
      exact ih_4 _ (_, _) (upm_lt c_9) ⟨iv, i_this, rfl⟩
theorem dX1_countGuards_0 : decode cX1_countGuards 0 = .ok (.iconst 0, 1) := by decide +kernel
theorem dX1_countGuards_1 : decode cX1_countGuards 1 = .ok (.istore_n 1, 1) := by decide +kernel
theorem dX1_countGuards_2 : decode cX1_countGuards 2 = .ok (.iconst 0, 1) := by decide +kernel
theorem dX1_countGuards_3 : decode cX1_countGuards 3 = .ok (.istore_n 2, 1) := by decide +kernel
theorem dX1_countGuards_4 : decode cX1_countGuards 4 = .ok (.iload_n 2, 1) := by decide +kernel
theorem dX1_countGuards_5 : decode cX1_countGuards 5 = .ok (.aload_n 0, 1) := by decide +kernel
theorem dX1_countGuards_6 : decode cX1_countGuards 6 = .ok (.getfield 76, 3) := by decide +kernel
theorem dX1_countGuards_9 : decode cX1_countGuards 9 = .ok (.if_icmp .ge 30, 3) := by decide +kernel
theorem dX1_countGuards_12 : decode cX1_countGuards 12 = .ok (.aload_n 0, 1) := by decide +kernel
theorem dX1_countGuards_13 : decode cX1_countGuards 13 = .ok (.iload_n 2, 1) := by decide +kernel
theorem dX1_countGuards_14 : decode cX1_countGuards 14 = .ok (.invokevirtual 45, 3) := by decide +kernel
theorem dX1_countGuards_17 : decode cX1_countGuards 17 = .ok (.astore_n 3, 1) := by decide +kernel
theorem dX1_countGuards_18 : decode cX1_countGuards 18 = .ok (.iload_n 1, 1) := by decide +kernel
theorem dX1_countGuards_19 : decode cX1_countGuards 19 = .ok (.aload_n 3, 1) := by decide +kernel
theorem dX1_countGuards_20 : decode cX1_countGuards 20 = .ok (.ifnonnull 7, 3) := by decide +kernel
theorem dX1_countGuards_23 : decode cX1_countGuards 23 = .ok (.iconst 0, 1) := by decide +kernel
theorem dX1_countGuards_24 : decode cX1_countGuards 24 = .ok (.goto 7, 3) := by decide +kernel
theorem dX1_countGuards_27 : decode cX1_countGuards 27 = .ok (.aload_n 3, 1) := by decide +kernel
theorem dX1_countGuards_28 : decode cX1_countGuards 28 = .ok (.invokevirtual 189, 3) := by decide +kernel
theorem dX1_countGuards_31 : decode cX1_countGuards 31 = .ok (.iadd, 1) := by decide +kernel
theorem dX1_countGuards_32 : decode cX1_countGuards 32 = .ok (.istore_n 1, 1) := by decide +kernel
theorem dX1_countGuards_33 : decode cX1_countGuards 33 = .ok (.iinc 2 1, 3) := by decide +kernel
theorem dX1_countGuards_36 : decode cX1_countGuards 36 = .ok (.goto (-32), 3) := by decide +kernel
theorem dX1_countGuards_39 : decode cX1_countGuards 39 = .ok (.iload_n 1, 1) := by decide +kernel
theorem dX1_countGuards_40 : decode cX1_countGuards 40 = .ok (.ireturn, 1) := by decide +kernel
set_option maxRecDepth 100000 in
set_option maxHeartbeats 4000000 in
theorem st_X1_countGuards (l : Launch) (M : Nat → Prop) (h : Nat) : Ct l yX1_countGuards cX1_countGuards 4 (some .int) 3 0 0 64 (fun S av => av = [.ref h] ∧ INV M [] S ∧ is S h 1) (fun S _ r S' => ∃ v, r = some (.int v) ∧ S' = S) := by
  refine ct_of (by decide) (fun S av h => by obtain ⟨rfl, iv, i_this⟩ := h; exact Nat.le_of_ble_eq_true rfl) ?_
  intro p e s m args below meth c D G bs S av C hr hin hpre
  obtain ⟨rfl, iv, i_this⟩ := hpre
  refine v_iconst (v := 0) C dX1_countGuards_0 (by decide) ?_
  refine v_istore_n C dX1_countGuards_1 (by decide) (by first | rfl | exact cat_ok _ | simp [okS, cat_rf]) ?_
  refine v_iconst (v := 0) C dX1_countGuards_2 (by decide) ?_
  refine v_istore_n C dX1_countGuards_3 (by decide) (by first | rfl | exact cat_ok _ | simp [okS, cat_rf]) ?_
  refine V.lits (lv' := [_, _, _, _]) rfl ?_
  refine v_loop (fun (t : Int32 × Int32) lv0 => ((lv0.set 1 (some (.int t.1))).set 2 (some (.int t.2)))) (fun (S1 : Mem) (t : Int32 × Int32) => INV M [] S1 ∧ is S1 h 1 ∧ S1 = S) (fun (S1 : Mem) (t : Int32 × Int32) => upm t.2) (t := (_, _)) rfl ⟨iv, i_this, rfl⟩ ?_
  intro L4 t h_4 ih_4
  obtain ⟨t0_4, t1_4⟩ := t
  obtain ⟨iv, i_this, e_S⟩ := h_4
  subst e_S
  try dsimp only
  refine v_iload_n C dX1_countGuards_4 rfl ?_
  refine v_aload_n C dX1_countGuards_5 rfl ?_
  refine g1_76 C i_this dX1_countGuards_6 ?_
  refine v_topi (fun v6 e_v6 => ?_)
  refine v_icmp_ge (tgt := 39) C dX1_countGuards_9 (by decide) (fun c_9 => ?_) (fun c_9 => ?_)
  · skip
    refine v_iload_n C dX1_countGuards_39 rfl ?_
    refine v_iret C hr (Nat.le_of_ble_eq_true rfl) (Nat.le_of_ble_eq_true rfl) dX1_countGuards_40 ?_
    exact ⟨_, rfl, rfl⟩
  · skip
    refine v_aload_n C dX1_countGuards_12 rfl ?_
    refine v_iload_n C dX1_countGuards_13 rfl ?_
    refine v_callV (As := [_]) (n := 1) C (st_X1_traitAt l _ _ _) rfl i_this (by decide) rfl ⟨wd137, wd138, wd139, wd15, wd140⟩ ⟨rfl, hy_X1_traitAt⟩ rfl ⟨Nat.le_of_ble_eq_true rfl, Nat.le_of_ble_eq_true rfl⟩ (Nat.le_of_ble_eq_true rfl) ⟨Nat.le_of_ble_eq_true rfl, Nat.le_of_ble_eq_true rfl⟩ dX1_countGuards_14 ⟨rfl, iv, i_this⟩ (fun r_14 S2_14 h_14 => ?_)
    obtain ⟨v14, rfl, n_v14, q_v14⟩ := h_14
    obtain rfl := q_v14.symm
    refine v_qstore_n C dX1_countGuards_17 (by decide) (by first | rfl | exact cat_ok _ | simp [okS, cat_rf]) ?_
    refine v_iload_n C dX1_countGuards_18 rfl ?_
    refine v_qload_n C dX1_countGuards_19 rfl ?_
    refine v_ifnonnull (tgt := 27) C dX1_countGuards_20 (by decide) (fun b20 c_20 => ?_) (fun c_20 => ?_)
    · skip
      subst c_20
      have i_b20 := nOK_some n_v14 rfl
      refine v_aload_n C dX1_countGuards_27 rfl ?_
      refine v_callV (As := []) (n := 0) C (st_X8_countGuards l _ _) rfl i_b20 (by decide) rfl ⟨wd948, wd949, wd950, wd212, wd951⟩ ⟨rfl, hy_X8_countGuards⟩ rfl ⟨Nat.le_of_ble_eq_true rfl, Nat.le_of_ble_eq_true rfl⟩ (Nat.le_of_ble_eq_true rfl) ⟨Nat.le_of_ble_eq_true rfl, Nat.le_of_ble_eq_true rfl⟩ dX1_countGuards_28 ⟨rfl, iv, i_b20⟩ (fun r_28 S4_28 h_28 => ?_)
      obtain ⟨v28, rfl, q_v28⟩ := h_28
      obtain rfl := q_v28.symm
      refine v_iadd C dX1_countGuards_31 ?_
      refine v_istore_n C dX1_countGuards_32 (by decide) (by first | rfl | exact cat_ok _ | simp [okS, cat_rf]) ?_
      refine v_iinc C dX1_countGuards_33 rfl rfl (by decide) (by first | rfl | exact cat_ok _ | simp [okS, cat_rf]) ?_
      refine v_goto (tgt := 4) C dX1_countGuards_36 (by decide) ?_
      refine V.drop 3 ?_
      refine V.lits (lv' := [_, _, _, _]) rfl ?_
      exact ih_4 _ (_, _) (upm_lt c_9) ⟨iv, i_this, rfl⟩
    · skip
      subst c_20
      refine v_iconst (v := 0) C dX1_countGuards_23 (by decide) ?_
      refine v_goto (tgt := 31) C dX1_countGuards_24 (by decide) ?_
      refine v_iadd C dX1_countGuards_31 ?_
      refine v_istore_n C dX1_countGuards_32 (by decide) (by first | rfl | exact cat_ok _ | simp [okS, cat_rf]) ?_
      refine v_iinc C dX1_countGuards_33 rfl rfl (by decide) (by first | rfl | exact cat_ok _ | simp [okS, cat_rf]) ?_
      refine v_goto (tgt := 4) C dX1_countGuards_36 (by decide) ?_
      refine V.drop 3 ?_
      refine V.lits (lv' := [_, _, _, _]) rfl ?_
      exact ih_4 _ (_, _) (upm_lt c_9) ⟨iv, i_this, rfl⟩
