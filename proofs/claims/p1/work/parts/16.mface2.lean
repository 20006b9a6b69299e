theorem dX10_count_0 : decode cX10_count 0 = .ok (.iload_n 1, 1) := by decide +kernel
theorem dX10_count_1 : decode cX10_count 1 = .ok (.iconst 0, 1) := by decide +kernel
theorem dX10_count_2 : decode cX10_count 2 = .ok (.iconst 5, 1) := by decide +kernel
theorem dX10_count_3 : decode cX10_count 3 = .ok (.invokestatic 148, 3) := by decide +kernel
theorem dX10_count_6 : decode cX10_count 6 = .ok (.ifCond .ne 6, 3) := by decide +kernel
theorem dX10_count_9 : decode cX10_count 9 = .ok (.bipush (-2), 2) := by decide +kernel
theorem dX10_count_11 : decode cX10_count 11 = .ok (.ireturn, 1) := by decide +kernel
theorem dX10_count_12 : decode cX10_count 12 = .ok (.iload_n 1, 1) := by decide +kernel
theorem dX10_count_13 : decode cX10_count 13 = .ok (.iconst 2, 1) := by decide +kernel
theorem dX10_count_14 : decode cX10_count 14 = .ok (.if_icmp .ge 19, 3) := by decide +kernel
theorem dX10_count_17 : decode cX10_count 17 = .ok (.iload_n 1, 1) := by decide +kernel
theorem dX10_count_18 : decode cX10_count 18 = .ok (.ifCond .ne 10, 3) := by decide +kernel
theorem dX10_count_21 : decode cX10_count 21 = .ok (.aload_n 0, 1) := by decide +kernel
theorem dX10_count_22 : decode cX10_count 22 = .ok (.getfield 145, 3) := by decide +kernel
theorem dX10_count_25 : decode cX10_count 25 = .ok (.goto 7, 3) := by decide +kernel
theorem dX10_count_28 : decode cX10_count 28 = .ok (.aload_n 0, 1) := by decide +kernel
theorem dX10_count_29 : decode cX10_count 29 = .ok (.getfield 152, 3) := by decide +kernel
theorem dX10_count_32 : decode cX10_count 32 = .ok (.ireturn, 1) := by decide +kernel
theorem dX10_count_33 : decode cX10_count 33 = .ok (.iconst 0, 1) := by decide +kernel
theorem dX10_count_34 : decode cX10_count 34 = .ok (.istore_n 2, 1) := by decide +kernel
theorem dX10_count_35 : decode cX10_count 35 = .ok (.iload_n 1, 1) := by decide +kernel
theorem dX10_count_36 : decode cX10_count 36 = .ok (.iconst 4, 1) := by decide +kernel
theorem dX10_count_37 : decode cX10_count 37 = .ok (.if_icmp .ge 50, 3) := by decide +kernel
theorem dX10_count_40 : decode cX10_count 40 = .ok (.iconst 0, 1) := by decide +kernel
theorem dX10_count_41 : decode cX10_count 41 = .ok (.istore_n 3, 1) := by decide +kernel
theorem dX10_count_42 : decode cX10_count 42 = .ok (.iload_n 3, 1) := by decide +kernel
theorem dX10_count_43 : decode cX10_count 43 = .ok (.sipush 240, 3) := by decide +kernel
theorem dX10_count_46 : decode cX10_count 46 = .ok (.if_icmp .ge 39, 3) := by decide +kernel
theorem dX10_count_49 : decode cX10_count 49 = .ok (.iload_n 2, 1) := by decide +kernel
theorem dX10_count_50 : decode cX10_count 50 = .ok (.aload_n 0, 1) := by decide +kernel
theorem dX10_count_51 : decode cX10_count 51 = .ok (.getfield 35, 3) := by decide +kernel
theorem dX10_count_54 : decode cX10_count 54 = .ok (.iload_n 3, 1) := by decide +kernel
theorem dX10_count_55 : decode cX10_count 55 = .ok (.iload_n 1, 1) := by decide +kernel
theorem dX10_count_56 : decode cX10_count 56 = .ok (.iconst 2, 1) := by decide +kernel
theorem dX10_count_57 : decode cX10_count 57 = .ok (.if_icmp .ne 7, 3) := by decide +kernel
theorem dX10_count_60 : decode cX10_count 60 = .ok (.iconst 0, 1) := by decide +kernel
theorem dX10_count_61 : decode cX10_count 61 = .ok (.goto 6, 3) := by decide +kernel
theorem dX10_count_64 : decode cX10_count 64 = .ok (.sipush 240, 3) := by decide +kernel
theorem dX10_count_67 : decode cX10_count 67 = .ok (.iadd, 1) := by decide +kernel
theorem dX10_count_68 : decode cX10_count 68 = .ok (.baload, 1) := by decide +kernel
theorem dX10_count_69 : decode cX10_count 69 = .ok (.ifCond .eq 7, 3) := by decide +kernel
theorem dX10_count_76 : decode cX10_count 76 = .ok (.iconst 0, 1) := by decide +kernel
theorem dX10_count_77 : decode cX10_count 77 = .ok (.iadd, 1) := by decide +kernel
theorem dX10_count_78 : decode cX10_count 78 = .ok (.istore_n 2, 1) := by decide +kernel
theorem dX10_count_79 : decode cX10_count 79 = .ok (.iinc 3 1, 3) := by decide +kernel
theorem dX10_count_82 : decode cX10_count 82 = .ok (.goto (-40), 3) := by decide +kernel
theorem dX10_count_85 : decode cX10_count 85 = .ok (.iload_n 2, 1) := by decide +kernel
theorem dX10_count_86 : decode cX10_count 86 = .ok (.ireturn, 1) := by decide +kernel
theorem dX10_count_87 : decode cX10_count 87 = .ok (.iconst 0, 1) := by decide +kernel
theorem dX10_count_88 : decode cX10_count 88 = .ok (.istore_n 3, 1) := by decide +kernel
theorem dX10_count_89 : decode cX10_count 89 = .ok (.iload_n 3, 1) := by decide +kernel
theorem dX10_count_90 : decode cX10_count 90 = .ok (.aload_n 0, 1) := by decide +kernel
theorem dX10_count_91 : decode cX10_count 91 = .ok (.getfield 152, 3) := by decide +kernel
theorem dX10_count_94 : decode cX10_count 94 = .ok (.if_icmp .ge 63, 3) := by decide +kernel
theorem dX10_count_157 : decode cX10_count 157 = .ok (.iload_n 2, 1) := by decide +kernel
theorem dX10_count_158 : decode cX10_count 158 = .ok (.ireturn, 1) := by decide +kernel
set_option maxRecDepth 100000 in
set_option maxHeartbeats 4000000 in
theorem ct_X10_count (l : Launch) (m0 : Nat) (ad : Nat → Nat) (w : Int32) : Ct l yX10_count cX10_count 5 (some .int) 1 0 0 22 (fun S av => av = [.ref m0, .int w] ∧ mdNew S m0 ad) (fun _ _ r _ => r = some (.int (if isB w 6 = true then 0 else -2))) := by
  refine ct_of (by decide) (fun S av h => by obtain ⟨rfl, hm, kK, kZ, hI, hL, hJ⟩ := h; exact Nat.le_of_ble_eq_true rfl) ?_
  intro p e s m args below meth c D G bs S av C hr hin hpre
  obtain ⟨rfl, hm, kK, kZ, hI, hL, hJ⟩ := hpre
  have kh : ∀ i, mA S (ad 10) i = 0 := kZ (10, 13, 624) (by decide)
  have hl : isB w 6 = true → ∀ (k i : Nat), i + k = 240 → V p l e ({ frames := 1, cells := 0, slots := 0, locals := 22 } : Room) s m args below meth c D G bs 5 (MQ below (QcT D G bs S [.ref m0, .int w] (fun _ _ r _ => r = some (.int (if isB w 6 = true then 0 else -2)))) args s 0 0 (fun q => bs ≤ q)) 0 0 S 42 [some (.ref m0), some (.int w), some (.int 0), some (.int (nI i)), none] [] := by
    intro hw k
    induction k with
    | zero =>
      intro i hi
      obtain rfl : i = 240 := by omega
      refine v_iload_n C dX10_count_42 rfl ?_
      refine v_sipush (v := 240) C dX10_count_43 (by decide) ?_
      refine v_icmp_ge (tgt := 85) C dX10_count_46 (by decide) (fun c_46 => ?_) (fun c_46 => ?_)
      · skip
        refine v_iload_n C dX10_count_85 rfl ?_
        refine v_iret C hr (Nat.le_of_ble_eq_true rfl) (Nat.le_of_ble_eq_true rfl) dX10_count_86 ?_
        rw [hw]; rfl
      · skip
        exact absurd (by decide) c_46
    | succ k ih =>
      intro i hi
      have hlt : i < 240 := by omega
      refine v_iload_n C dX10_count_42 rfl ?_
      refine v_sipush (v := 240) C dX10_count_43 (by decide) ?_
      refine v_icmp_ge (tgt := 85) C dX10_count_46 (by decide) (fun c_46 => ?_) (fun c_46 => ?_)
      · skip
        exact absurd c_46 (show ¬ nI 240 ≤ nI i from nI_ge hlt (by decide))
      · skip
        refine v_iload_n C dX10_count_49 rfl ?_
        refine v_aload_n C dX10_count_50 rfl ?_
        refine r10_35 (b := (ad 10)) C hm (kK.2 (10, 13, 624) (by decide)).1 dX10_count_51 ?_
        refine v_iload_n C dX10_count_54 rfl ?_
        refine v_iload_n C dX10_count_55 rfl ?_
        refine v_iconst (v := 2) C dX10_count_56 (by decide) ?_
        refine v_icmp_ne (tgt := 64) C dX10_count_57 (by decide) (fun c_57 => ?_) (fun c_57 => ?_)
        · skip
          refine v_sipush (v := 240) C dX10_count_64 (by decide) ?_
          refine v_iadd C dX10_count_67 ?_
          refine v_zald C (kK.2 (10, 13, 624) (by decide)).2 (by first | (rw [show nI i + 0 = nI (i + 0) from nI_add i 0]; exact vp_in_nI (N := 624) (by omega) (by decide)) | (rw [show nI i + 240 = nI (i + 240) from nI_add i 240]; exact vp_in_nI (N := 624) (by omega) (by decide))) dX10_count_68 ?_
          rw [kh]
          refine v_if_eq (tgt := 76) C dX10_count_69 (by decide) (fun c_69 => ?_) (fun c_69 => ?_)
          · skip
            refine v_iconst (v := 0) C dX10_count_76 (by decide) ?_
            refine v_iadd C dX10_count_77 ?_
            rw [show (0 : Int32) + 0 = 0 from rfl]
            refine v_istore_n C dX10_count_78 (by decide) rfl ?_
            refine v_iinc C dX10_count_79 rfl rfl (by decide) rfl ?_
            refine v_goto (tgt := 42) C dX10_count_82 (by decide) ?_
            rw [show nI i + Int32.ofInt 1 = nI (i + 1) from nI_1 i]
            exact ih (i + 1) (by omega)
          · skip
            exact absurd rfl c_69
        · skip
          refine v_iconst (v := 0) C dX10_count_60 (by decide) ?_
          refine v_goto (tgt := 67) C dX10_count_61 (by decide) ?_
          refine v_iadd C dX10_count_67 ?_
          refine v_zald C (kK.2 (10, 13, 624) (by decide)).2 (by first | (rw [show nI i + 0 = nI (i + 0) from nI_add i 0]; exact vp_in_nI (N := 624) (by omega) (by decide)) | (rw [show nI i + 240 = nI (i + 240) from nI_add i 240]; exact vp_in_nI (N := 624) (by omega) (by decide))) dX10_count_68 ?_
          rw [kh]
          refine v_if_eq (tgt := 76) C dX10_count_69 (by decide) (fun c_69 => ?_) (fun c_69 => ?_)
          · skip
            refine v_iconst (v := 0) C dX10_count_76 (by decide) ?_
            refine v_iadd C dX10_count_77 ?_
            rw [show (0 : Int32) + 0 = 0 from rfl]
            refine v_istore_n C dX10_count_78 (by decide) rfl ?_
            refine v_iinc C dX10_count_79 rfl rfl (by decide) rfl ?_
            refine v_goto (tgt := 42) C dX10_count_82 (by decide) ?_
            rw [show nI i + Int32.ofInt 1 = nI (i + 1) from nI_1 i]
            exact ih (i + 1) (by omega)
          · skip
            exact absurd rfl c_69
  refine v_iload_n C dX10_count_0 rfl ?_
  refine v_iconst (v := 0) C dX10_count_1 (by decide) ?_
  refine v_iconst (v := 5) C dX10_count_2 (by decide) ?_
  refine v_callS (As := [_, _, _]) (n := 3) C (ct_X10_in l _ _ _) rfl ⟨wd244, wd245, wd5, wd246⟩ hy_X10_in rfl ⟨Nat.le_of_ble_eq_true rfl, Nat.le_of_ble_eq_true rfl⟩ (Nat.le_of_ble_eq_true rfl) ⟨Nat.le_of_ble_eq_true rfl, Nat.le_of_ble_eq_true rfl⟩ dX10_count_3 rfl (fun r_3 S_3 h_3 => ?_)
  obtain ⟨rfl, q_3⟩ := h_3
  obtain rfl := q_3.symm
  rw [inB_isB w (b := 6) rfl]
  refine v_if_ne (tgt := 12) C dX10_count_6 (by decide) (fun c_6 => ?_) (fun c_6 => ?_)
  · skip
    refine v_iload_n C dX10_count_12 rfl ?_
    refine v_iconst (v := 2) C dX10_count_13 (by decide) ?_
    refine v_icmp_ge (tgt := 33) C dX10_count_14 (by decide) (fun c_14 => ?_) (fun c_14 => ?_)
    · skip
      refine v_iconst (v := 0) C dX10_count_33 (by decide) ?_
      refine v_istore_n C dX10_count_34 (by decide) rfl ?_
      refine v_iload_n C dX10_count_35 rfl ?_
      refine v_iconst (v := 4) C dX10_count_36 (by decide) ?_
      refine v_icmp_ge (tgt := 87) C dX10_count_37 (by decide) (fun c_37 => ?_) (fun c_37 => ?_)
      · skip
        refine v_iconst (v := 0) C dX10_count_87 (by decide) ?_
        refine v_istore_n C dX10_count_88 (by decide) rfl ?_
        refine v_iload_n C dX10_count_89 rfl ?_
        refine v_aload_n C dX10_count_90 rfl ?_
        refine g10_152 C hm dX10_count_91 ?_
        rw [hI 643 (by decide) (by decide) (by decide)]
        refine v_icmp_ge (tgt := 157) C dX10_count_94 (by decide) (fun c_94 => ?_) (fun c_94 => ?_)
        · skip
          refine v_iload_n C dX10_count_157 rfl ?_
          refine v_iret C hr (Nat.le_of_ble_eq_true rfl) (Nat.le_of_ble_eq_true rfl) dX10_count_158 ?_
          first
            | (rw [bI_f c_6]; rfl)
            | (rw [bI_t c_6]; rfl)
        · skip
          exact absurd (by decide) c_94
      · skip
        refine v_iconst (v := 0) C dX10_count_40 (by decide) ?_
        refine v_istore_n C dX10_count_41 (by decide) rfl ?_
        exact hl (bI_t c_6) 240 0 rfl
    · skip
      refine v_iload_n C dX10_count_17 rfl ?_
      refine v_if_ne (tgt := 28) C dX10_count_18 (by decide) (fun c_18 => ?_) (fun c_18 => ?_)
      · skip
        refine v_aload_n C dX10_count_28 rfl ?_
        refine g10_152 C hm dX10_count_29 ?_
        rw [hI 643 (by decide) (by decide) (by decide)]
        refine v_iret C hr (Nat.le_of_ble_eq_true rfl) (Nat.le_of_ble_eq_true rfl) dX10_count_32 ?_
        first
          | (rw [bI_f c_6]; rfl)
          | (rw [bI_t c_6]; rfl)
      · skip
        refine v_aload_n C dX10_count_21 rfl ?_
        refine g10_145 C hm dX10_count_22 ?_
        rw [hI 640 (by decide) (by decide) (by decide)]
        refine v_goto (tgt := 32) C dX10_count_25 (by decide) ?_
        refine v_iret C hr (Nat.le_of_ble_eq_true rfl) (Nat.le_of_ble_eq_true rfl) dX10_count_32 ?_
        first
          | (rw [bI_f c_6]; rfl)
          | (rw [bI_t c_6]; rfl)
  · skip
    refine v_bipush (v := -2) C dX10_count_9 (by decide) ?_
    refine v_iret C hr (Nat.le_of_ble_eq_true rfl) (Nat.le_of_ble_eq_true rfl) dX10_count_11 ?_
    first
      | (rw [bI_f c_6]; rfl)
      | (rw [bI_t c_6]; rfl)

theorem dX10_character_0 : decode cX10_character 0 = .ok (.iload_n 1, 1) := by decide +kernel
theorem dX10_character_1 : decode cX10_character 1 = .ok (.iconst 0, 1) := by decide +kernel
theorem dX10_character_2 : decode cX10_character 2 = .ok (.iconst 3, 1) := by decide +kernel
theorem dX10_character_3 : decode cX10_character 3 = .ok (.invokestatic 148, 3) := by decide +kernel
theorem dX10_character_6 : decode cX10_character 6 = .ok (.ifCond .ne 6, 3) := by decide +kernel
theorem dX10_character_9 : decode cX10_character 9 = .ok (.bipush (-2), 2) := by decide +kernel
theorem dX10_character_11 : decode cX10_character 11 = .ok (.ireturn, 1) := by decide +kernel
theorem dX10_character_12 : decode cX10_character 12 = .ok (.aload_n 0, 1) := by decide +kernel
theorem dX10_character_13 : decode cX10_character 13 = .ok (.getfield 152, 3) := by decide +kernel
theorem dX10_character_16 : decode cX10_character 16 = .ok (.bipush 12, 2) := by decide +kernel
theorem dX10_character_18 : decode cX10_character 18 = .ok (.if_icmp .ne 6, 3) := by decide +kernel
theorem dX10_character_24 : decode cX10_character 24 = .ok (.aload_n 0, 1) := by decide +kernel
theorem dX10_character_25 : decode cX10_character 25 = .ok (.getfield 16, 3) := by decide +kernel
theorem dX10_character_28 : decode cX10_character 28 = .ok (.aload_n 0, 1) := by decide +kernel
theorem dX10_character_29 : decode cX10_character 29 = .ok (.getfield 152, 3) := by decide +kernel
theorem dX10_character_32 : decode cX10_character 32 = .ok (.iload_n 1, 1) := by decide +kernel
theorem dX10_character_33 : decode cX10_character 33 = .ok (.iastore, 1) := by decide +kernel
theorem dX10_character_34 : decode cX10_character 34 = .ok (.iconst 0, 1) := by decide +kernel
theorem dX10_character_35 : decode cX10_character 35 = .ok (.istore_n 2, 1) := by decide +kernel
theorem dX10_character_36 : decode cX10_character 36 = .ok (.iload_n 2, 1) := by decide +kernel
theorem dX10_character_37 : decode cX10_character 37 = .ok (.bipush 12, 2) := by decide +kernel
theorem dX10_character_39 : decode cX10_character 39 = .ok (.if_icmp .ge 24, 3) := by decide +kernel
theorem dX10_character_42 : decode cX10_character 42 = .ok (.aload_n 0, 1) := by decide +kernel
theorem dX10_character_43 : decode cX10_character 43 = .ok (.getfield 88, 3) := by decide +kernel
theorem dX10_character_46 : decode cX10_character 46 = .ok (.bipush 12, 2) := by decide +kernel
theorem dX10_character_48 : decode cX10_character 48 = .ok (.aload_n 0, 1) := by decide +kernel
theorem dX10_character_49 : decode cX10_character 49 = .ok (.getfield 152, 3) := by decide +kernel
theorem dX10_character_52 : decode cX10_character 52 = .ok (.imul, 1) := by decide +kernel
theorem dX10_character_53 : decode cX10_character 53 = .ok (.iload_n 2, 1) := by decide +kernel
theorem dX10_character_54 : decode cX10_character 54 = .ok (.iadd, 1) := by decide +kernel
theorem dX10_character_55 : decode cX10_character 55 = .ok (.iconst (-1), 1) := by decide +kernel
theorem dX10_character_56 : decode cX10_character 56 = .ok (.iastore, 1) := by decide +kernel
theorem dX10_character_57 : decode cX10_character 57 = .ok (.iinc 2 1, 3) := by decide +kernel
theorem dX10_character_60 : decode cX10_character 60 = .ok (.goto (-24), 3) := by decide +kernel
theorem dX10_character_63 : decode cX10_character 63 = .ok (.aload_n 0, 1) := by decide +kernel
theorem dX10_character_64 : decode cX10_character 64 = .ok (.dup, 1) := by decide +kernel
theorem dX10_character_65 : decode cX10_character 65 = .ok (.getfield 152, 3) := by decide +kernel
theorem dX10_character_68 : decode cX10_character 68 = .ok (.iconst 1, 1) := by decide +kernel
theorem dX10_character_69 : decode cX10_character 69 = .ok (.iadd, 1) := by decide +kernel
theorem dX10_character_70 : decode cX10_character 70 = .ok (.putfield 152, 3) := by decide +kernel
theorem dX10_character_73 : decode cX10_character 73 = .ok (.aload_n 0, 1) := by decide +kernel
theorem dX10_character_74 : decode cX10_character 74 = .ok (.getfield 152, 3) := by decide +kernel
theorem dX10_character_77 : decode cX10_character 77 = .ok (.iconst 1, 1) := by decide +kernel
theorem dX10_character_78 : decode cX10_character 78 = .ok (.isub, 1) := by decide +kernel
theorem dX10_character_79 : decode cX10_character 79 = .ok (.ireturn, 1) := by decide +kernel
set_option maxRecDepth 100000 in
set_option maxHeartbeats 4000000 in
theorem ct_X10_character (l : Launch) (m0 : Nat) (ad : Nat → Nat) (t : Int32) : Ct l yX10_character cX10_character 3 (some .int) 1 0 0 22 (fun S av => av = [.ref m0, .int t] ∧ mdNew S m0 ad) (fun _ _ r _ => r = some (.int (if isB t 4 = true then 0 else -2))) := by
  refine ct_of (by decide) (fun S av h => by obtain ⟨rfl, hm, kK, kZ, hI, hL, hJ⟩ := h; exact Nat.le_of_ble_eq_true rfl) ?_
  intro p e s m args below meth c D G bs S av C hr hin hpre
  obtain ⟨rfl, hm, kK, kZ, hI, hL, hJ⟩ := hpre
  have hC : mI S 643 m0 = 0 := hI 643 (by decide) (by decide) (by decide)
  have hl : isB t 4 = true → ∀ (k i : Nat) (T : Mem), i + k = 12 → mdK T m0 ad → mI T 643 m0 = 0 → V p l e ({ frames := 1, cells := 0, slots := 0, locals := 22 } : Room) s m args below meth c D G bs 3 (MQ below (QcT D G bs S [.ref m0, .int t] (fun _ _ r _ => r = some (.int (if isB t 4 = true then 0 else -2)))) args s 0 0 (fun q => bs ≤ q)) 0 0 T 36 [some (.ref m0), some (.int t), some (.int (nI i))] [] := by
    intro hw k
    induction k with
    | zero =>
      intro i T hi kK hC
      have hm := kK.1
      obtain rfl : i = 12 := by omega
      refine v_iload_n C dX10_character_36 rfl ?_
      refine v_bipush (v := 12) C dX10_character_37 (by decide) ?_
      refine v_icmp_ge (tgt := 63) C dX10_character_39 (by decide) (fun c_39 => ?_) (fun c_39 => ?_)
      · skip
        refine v_aload_n C dX10_character_63 rfl ?_
        refine v_dup C dX10_character_64 rfl ?_
        refine g10_152 C hm dX10_character_65 ?_
        rw [hC]
        refine v_iconst (v := 1) C dX10_character_68 (by decide) ?_
        refine v_iadd C dX10_character_69 ?_
        refine p10_152 C hm dX10_character_70 ?_
        refine V.gen (fun S_70 e_70 => ?_)
        have x_70 := x_sI e_70
        have hm : is S_70 m0 10 := is_same (S := T) (by rw [e_70]; exact same_sI ..) hm
        refine v_aload_n C dX10_character_73 rfl ?_
        refine g10_152 C hm dX10_character_74 ?_
        rw [show mI S_70 643 m0 = 0 + 1 from by rw [e_70, mI_sI, if_pos ⟨rfl, rfl⟩]]
        refine v_iconst (v := 1) C dX10_character_77 (by decide) ?_
        refine v_isub C dX10_character_78 ?_
        refine v_iret C hr (Nat.le_of_ble_eq_true rfl) (Nat.le_of_ble_eq_true rfl) dX10_character_79 ?_
        rw [hw]; rfl
      · skip
        exact absurd (by decide) c_39
    | succ k ih =>
      intro i T hi kK hC
      have hm := kK.1
      have hlt : i < 12 := by omega
      refine v_iload_n C dX10_character_36 rfl ?_
      refine v_bipush (v := 12) C dX10_character_37 (by decide) ?_
      refine v_icmp_ge (tgt := 63) C dX10_character_39 (by decide) (fun c_39 => ?_) (fun c_39 => ?_)
      · skip
        exact absurd c_39 (show ¬ nI 12 ≤ nI i from nI_ge hlt (by decide))
      · skip
        refine v_aload_n C dX10_character_42 rfl ?_
        refine r10_88 (b := (ad 27)) C hm (kK.2 (27, 11, 144) (by decide)).1 dX10_character_43 ?_
        refine v_bipush (v := 12) C dX10_character_46 (by decide) ?_
        refine v_aload_n C dX10_character_48 rfl ?_
        refine g10_152 C hm dX10_character_49 ?_
        rw [hC]
        refine v_imul C dX10_character_52 ?_
        refine v_iload_n C dX10_character_53 rfl ?_
        refine v_iadd C dX10_character_54 ?_
        refine v_iconst (v := -1) C dX10_character_55 (by decide) ?_
        refine v_iast C (kK.2 (27, 11, 144) (by decide)).2 (by rw [show (12 : Int32) * 0 + nI i = nI (0 + i) from nI_add 0 i]; exact vp_in_nI (N := 144) (by omega) (by decide)) dX10_character_56 ?_
        refine V.gen (fun S_56 e_56 => ?_)
        have x_56 := x_sA e_56
        have sm : same T S_56 := by rw [e_56]; exact same_sA ..
        have kK := mdK_same sm kK
        have hm := kK.1
        have hC : mI S_56 643 m0 = 0 := by rw [e_56, mI_sA]; exact hC
        refine v_iinc C dX10_character_57 rfl rfl (by decide) rfl ?_
        refine v_goto (tgt := 36) C dX10_character_60 (by decide) ?_
        rw [show nI i + Int32.ofInt 1 = nI (i + 1) from nI_1 i]
        exact ih (i + 1) _ (by omega) kK hC
  refine v_iload_n C dX10_character_0 rfl ?_
  refine v_iconst (v := 0) C dX10_character_1 (by decide) ?_
  refine v_iconst (v := 3) C dX10_character_2 (by decide) ?_
  refine v_callS (As := [_, _, _]) (n := 3) C (ct_X10_in l _ _ _) rfl ⟨wd244, wd245, wd5, wd246⟩ hy_X10_in rfl ⟨Nat.le_of_ble_eq_true rfl, Nat.le_of_ble_eq_true rfl⟩ (Nat.le_of_ble_eq_true rfl) ⟨Nat.le_of_ble_eq_true rfl, Nat.le_of_ble_eq_true rfl⟩ dX10_character_3 rfl (fun r_3 S_3 h_3 => ?_)
  obtain ⟨rfl, q_3⟩ := h_3
  obtain rfl := q_3.symm
  rw [inB_isB t (b := 4) rfl]
  refine v_if_ne (tgt := 12) C dX10_character_6 (by decide) (fun c_6 => ?_) (fun c_6 => ?_)
  · skip
    refine v_aload_n C dX10_character_12 rfl ?_
    refine g10_152 C hm dX10_character_13 ?_
    rw [hC]
    refine v_bipush (v := 12) C dX10_character_16 (by decide) ?_
    refine v_icmp_ne (tgt := 24) C dX10_character_18 (by decide) (fun c_18 => ?_) (fun c_18 => ?_)
    · skip
      refine v_aload_n C dX10_character_24 rfl ?_
      refine r10_16 (b := (ad 4)) C hm (kK.2 (4, 11, 12) (by decide)).1 dX10_character_25 ?_
      refine v_aload_n C dX10_character_28 rfl ?_
      refine g10_152 C hm dX10_character_29 ?_
      rw [hC]
      refine v_iload_n C dX10_character_32 rfl ?_
      refine v_iast C (kK.2 (4, 11, 12) (by decide)).2 (isB_in (i := 0) (b := 12) (by decide) rfl) dX10_character_33 ?_
      refine V.gen (fun S_33 e_33 => ?_)
      have x_33 := x_sA e_33
      have sm : same S S_33 := by rw [e_33]; exact same_sA ..
      have kK := mdK_same sm kK
      have hm := kK.1
      have hC : mI S_33 643 m0 = 0 := by rw [e_33, mI_sA]; exact hC
      refine v_iconst (v := 0) C dX10_character_34 (by decide) ?_
      refine v_istore_n C dX10_character_35 (by decide) rfl ?_
      exact hl (bI_t c_6) 12 0 _ rfl kK hC
    · skip
      exact absurd c_18 (by decide)
  · skip
    refine v_bipush (v := -2) C dX10_character_9 (by decide) ?_
    refine v_iret C hr (Nat.le_of_ble_eq_true rfl) (Nat.le_of_ble_eq_true rfl) dX10_character_11 ?_
    rw [bI_f c_6]; rfl

theorem dX10_mayBeUnder_0 : decode cX10_mayBeUnder 0 = .ok (.iload_n 1, 1) := by decide +kernel
theorem dX10_mayBeUnder_1 : decode cX10_mayBeUnder 1 = .ok (.iconst (-1), 1) := by decide +kernel
theorem dX10_mayBeUnder_2 : decode cX10_mayBeUnder 2 = .ok (.if_icmp .eq 11, 3) := by decide +kernel
theorem dX10_mayBeUnder_5 : decode cX10_mayBeUnder 5 = .ok (.aload_n 0, 1) := by decide +kernel
theorem dX10_mayBeUnder_6 : decode cX10_mayBeUnder 6 = .ok (.iload_n 1, 1) := by decide +kernel
theorem dX10_mayBeUnder_7 : decode cX10_mayBeUnder 7 = .ok (.invokevirtual 166, 3) := by decide +kernel
theorem dX10_mayBeUnder_10 : decode cX10_mayBeUnder 10 = .ok (.ifCond .eq 7, 3) := by decide +kernel
theorem dX10_mayBeUnder_13 : decode cX10_mayBeUnder 13 = .ok (.iconst 1, 1) := by decide +kernel
theorem dX10_mayBeUnder_14 : decode cX10_mayBeUnder 14 = .ok (.goto 4, 3) := by decide +kernel
theorem dX10_mayBeUnder_17 : decode cX10_mayBeUnder 17 = .ok (.iconst 0, 1) := by decide +kernel
theorem dX10_mayBeUnder_18 : decode cX10_mayBeUnder 18 = .ok (.ireturn, 1) := by decide +kernel
set_option maxRecDepth 100000 in
set_option maxHeartbeats 4000000 in
theorem ct_X10_mayBeUnder (l : Launch) (m0 : Nat) (t : Int32) : Ct l yX10_mayBeUnder cX10_mayBeUnder 2 (some .boolean) 2 0 0 43 (fun S av => av = [.ref m0, .int t] ∧ is S m0 10 ∧ mI S 640 m0 = 0) (fun S _ r S' => r = some (.int (bI (t == -1))) ∧ S' = S) := by
  refine ct_of (by decide) (fun S av h => by obtain ⟨rfl, hm, e_n⟩ := h; exact Nat.le_of_ble_eq_true rfl) ?_
  intro p e s m args below meth c D G bs S av C hr hin hpre
  obtain ⟨rfl, hm, e_n⟩ := hpre
  refine v_iload_n C dX10_mayBeUnder_0 rfl ?_
  refine v_iconst (v := -1) C dX10_mayBeUnder_1 (by decide) ?_
  refine v_icmp_eq (tgt := 13) C dX10_mayBeUnder_2 (by decide) (fun c_2 => ?_) (fun c_2 => ?_)
  · skip
    refine v_iconst (v := 1) C dX10_mayBeUnder_13 (by decide) ?_
    refine v_goto (tgt := 18) C dX10_mayBeUnder_14 (by decide) ?_
    refine v_zret C hr rfl (Nat.le_of_ble_eq_true rfl) (Nat.le_of_ble_eq_true rfl) dX10_mayBeUnder_18 ?_
    refine ⟨?_, rfl⟩
    simp_all [bI]
  · skip
    refine v_aload_n C dX10_mayBeUnder_5 rfl ?_
    refine v_iload_n C dX10_mayBeUnder_6 rfl ?_
    refine v_callV (As := [_]) (n := 1) C (ct_X10_isTrait l m0 _) rfl hm (by decide) rfl ⟨wd240, wd241, wd242, wd5, wd243⟩ ⟨rfl, hy_X10_isTrait⟩ rfl ⟨Nat.le_of_ble_eq_true rfl, Nat.le_of_ble_eq_true rfl⟩ (Nat.le_of_ble_eq_true rfl) ⟨Nat.le_of_ble_eq_true rfl, Nat.le_of_ble_eq_true rfl⟩ dX10_mayBeUnder_7 ⟨rfl, hm, e_n⟩ (fun r_7 S_7 h_7 => ?_)
    obtain ⟨rfl, q_7⟩ := h_7
    obtain rfl := q_7.symm
    refine v_if_eq (tgt := 17) C dX10_mayBeUnder_10 (by decide) (fun c_10 => ?_) (fun c_10 => ?_)
    · skip
      refine v_iconst (v := 0) C dX10_mayBeUnder_17 (by decide) ?_
      refine v_zret C hr rfl (Nat.le_of_ble_eq_true rfl) (Nat.le_of_ble_eq_true rfl) dX10_mayBeUnder_18 ?_
      refine ⟨?_, rfl⟩
      simp_all [bI]
    · skip
      exact absurd rfl c_10

theorem dX10_placeOf_0 : decode cX10_placeOf 0 = .ok (.iload_n 1, 1) := by decide +kernel
theorem dX10_placeOf_1 : decode cX10_placeOf 1 = .ok (.aload_n 0, 1) := by decide +kernel
theorem dX10_placeOf_2 : decode cX10_placeOf 2 = .ok (.getfield 155, 3) := by decide +kernel
theorem dX10_placeOf_5 : decode cX10_placeOf 5 = .ok (.if_icmp .ne 22, 3) := by decide +kernel
theorem dX10_placeOf_8 : decode cX10_placeOf 8 = .ok (.iload_n 2, 1) := by decide +kernel
theorem dX10_placeOf_9 : decode cX10_placeOf 9 = .ok (.aload_n 0, 1) := by decide +kernel
theorem dX10_placeOf_10 : decode cX10_placeOf 10 = .ok (.getfield 155, 3) := by decide +kernel
theorem dX10_placeOf_13 : decode cX10_placeOf 13 = .ok (.if_icmp .ge 12, 3) := by decide +kernel
theorem dX10_placeOf_25 : decode cX10_placeOf 25 = .ok (.iconst (-1), 1) := by decide +kernel
theorem dX10_placeOf_26 : decode cX10_placeOf 26 = .ok (.ireturn, 1) := by decide +kernel
set_option maxRecDepth 100000 in
set_option maxHeartbeats 4000000 in
theorem ct_X10_placeOf (l : Launch) (m0 : Nat) : Ct l yX10_placeOf cX10_placeOf 3 (some .int) 0 0 0 0 (fun S av => av = [.ref m0, .int 0, .int 0] ∧ is S m0 10 ∧ mI S 669 m0 = 0) (fun S _ r S' => r = some (.int (-1)) ∧ S' = S) := by
  refine ct_of (by decide) (fun S av h => by obtain ⟨rfl, hm, e_n⟩ := h; exact Nat.le_of_ble_eq_true rfl) ?_
  intro p e s m args below meth c D G bs S av C hr hin hpre
  obtain ⟨rfl, hm, e_n⟩ := hpre
  refine v_iload_n C dX10_placeOf_0 rfl ?_
  refine v_aload_n C dX10_placeOf_1 rfl ?_
  refine g10_155 C hm dX10_placeOf_2 ?_
  rw [e_n]
  refine v_icmp_ne (tgt := 27) C dX10_placeOf_5 (by decide) (fun c_5 => ?_) (fun c_5 => ?_)
  · skip
    exact absurd rfl c_5
  · skip
    refine v_iload_n C dX10_placeOf_8 rfl ?_
    refine v_aload_n C dX10_placeOf_9 rfl ?_
    refine g10_155 C hm dX10_placeOf_10 ?_
    rw [e_n]
    refine v_icmp_ge (tgt := 25) C dX10_placeOf_13 (by decide) (fun c_13 => ?_) (fun c_13 => ?_)
    · skip
      refine v_iconst (v := -1) C dX10_placeOf_25 (by decide) ?_
      refine v_iret C hr (Nat.le_of_ble_eq_true rfl) (Nat.le_of_ble_eq_true rfl) dX10_placeOf_26 ?_
      exact ⟨rfl, rfl⟩
    · skip
      exact absurd (by decide) c_13

theorem dX10_merge_0 : decode cX10_merge 0 = .ok (.iconst 0, 1) := by decide +kernel
theorem dX10_merge_1 : decode cX10_merge 1 = .ok (.istore_n 1, 1) := by decide +kernel
theorem dX10_merge_2 : decode cX10_merge 2 = .ok (.iload_n 1, 1) := by decide +kernel
theorem dX10_merge_3 : decode cX10_merge 3 = .ok (.aload_n 0, 1) := by decide +kernel
theorem dX10_merge_4 : decode cX10_merge 4 = .ok (.getfield 155, 3) := by decide +kernel
theorem dX10_merge_7 : decode cX10_merge 7 = .ok (.if_icmp .gt 16, 3) := by decide +kernel
theorem dX10_merge_10 : decode cX10_merge 10 = .ok (.aload_n 0, 1) := by decide +kernel
theorem dX10_merge_11 : decode cX10_merge 11 = .ok (.getfield 94, 3) := by decide +kernel
theorem dX10_merge_14 : decode cX10_merge 14 = .ok (.iload_n 1, 1) := by decide +kernel
theorem dX10_merge_15 : decode cX10_merge 15 = .ok (.iconst 0, 1) := by decide +kernel
theorem dX10_merge_16 : decode cX10_merge 16 = .ok (.iastore, 1) := by decide +kernel
theorem dX10_merge_17 : decode cX10_merge 17 = .ok (.iinc 1 1, 3) := by decide +kernel
theorem dX10_merge_20 : decode cX10_merge 20 = .ok (.goto (-18), 3) := by decide +kernel
theorem dX10_merge_23 : decode cX10_merge 23 = .ok (.iconst 0, 1) := by decide +kernel
theorem dX10_merge_24 : decode cX10_merge 24 = .ok (.istore_n 1, 1) := by decide +kernel
theorem dX10_merge_25 : decode cX10_merge 25 = .ok (.iconst 1, 1) := by decide +kernel
theorem dX10_merge_26 : decode cX10_merge 26 = .ok (.istore_n 2, 1) := by decide +kernel
theorem dX10_merge_27 : decode cX10_merge 27 = .ok (.iload_n 2, 1) := by decide +kernel
theorem dX10_merge_28 : decode cX10_merge 28 = .ok (.ifCond .eq 161, 3) := by decide +kernel
theorem dX10_merge_31 : decode cX10_merge 31 = .ok (.iconst 0, 1) := by decide +kernel
theorem dX10_merge_32 : decode cX10_merge 32 = .ok (.istore_n 2, 1) := by decide +kernel
theorem dX10_merge_33 : decode cX10_merge 33 = .ok (.iconst (-1), 1) := by decide +kernel
theorem dX10_merge_34 : decode cX10_merge 34 = .ok (.istore_n 3, 1) := by decide +kernel
theorem dX10_merge_35 : decode cX10_merge 35 = .ok (.iconst 0, 1) := by decide +kernel
theorem dX10_merge_36 : decode cX10_merge 36 = .ok (.istore 4, 2) := by decide +kernel
theorem dX10_merge_38 : decode cX10_merge 38 = .ok (.iload 4, 2) := by decide +kernel
theorem dX10_merge_40 : decode cX10_merge 40 = .ok (.aload_n 0, 1) := by decide +kernel
theorem dX10_merge_41 : decode cX10_merge 41 = .ok (.getfield 155, 3) := by decide +kernel
theorem dX10_merge_44 : decode cX10_merge 44 = .ok (.if_icmp .gt 67, 3) := by decide +kernel
theorem dX10_merge_47 : decode cX10_merge 47 = .ok (.iload_n 3, 1) := by decide +kernel
theorem dX10_merge_48 : decode cX10_merge 48 = .ok (.iconst (-1), 1) := by decide +kernel
theorem dX10_merge_49 : decode cX10_merge 49 = .ok (.if_icmp .ne 62, 3) := by decide +kernel
theorem dX10_merge_52 : decode cX10_merge 52 = .ok (.aload_n 0, 1) := by decide +kernel
theorem dX10_merge_53 : decode cX10_merge 53 = .ok (.iload 4, 2) := by decide +kernel
theorem dX10_merge_55 : decode cX10_merge 55 = .ok (.aload_n 0, 1) := by decide +kernel
theorem dX10_merge_56 : decode cX10_merge 56 = .ok (.getfield 94, 3) := by decide +kernel
theorem dX10_merge_59 : decode cX10_merge 59 = .ok (.iload 4, 2) := by decide +kernel
theorem dX10_merge_61 : decode cX10_merge 61 = .ok (.iaload, 1) := by decide +kernel
theorem dX10_merge_62 : decode cX10_merge 62 = .ok (.invokevirtual 158, 3) := by decide +kernel
theorem dX10_merge_65 : decode cX10_merge 65 = .ok (.istore 5, 2) := by decide +kernel
theorem dX10_merge_67 : decode cX10_merge 67 = .ok (.iload_n 2, 1) := by decide +kernel
theorem dX10_merge_68 : decode cX10_merge 68 = .ok (.ifCond .ne 9, 3) := by decide +kernel
theorem dX10_merge_71 : decode cX10_merge 71 = .ok (.iload 5, 2) := by decide +kernel
theorem dX10_merge_73 : decode cX10_merge 73 = .ok (.iconst (-1), 1) := by decide +kernel
theorem dX10_merge_74 : decode cX10_merge 74 = .ok (.if_icmp .eq 7, 3) := by decide +kernel
theorem dX10_merge_81 : decode cX10_merge 81 = .ok (.iconst 0, 1) := by decide +kernel
theorem dX10_merge_82 : decode cX10_merge 82 = .ok (.istore_n 2, 1) := by decide +kernel
theorem dX10_merge_83 : decode cX10_merge 83 = .ok (.iload 5, 2) := by decide +kernel
theorem dX10_merge_85 : decode cX10_merge 85 = .ok (.iconst (-1), 1) := by decide +kernel
theorem dX10_merge_86 : decode cX10_merge 86 = .ok (.if_icmp .eq 17, 3) := by decide +kernel
theorem dX10_merge_103 : decode cX10_merge 103 = .ok (.iconst (-1), 1) := by decide +kernel
theorem dX10_merge_104 : decode cX10_merge 104 = .ok (.istore_n 3, 1) := by decide +kernel
theorem dX10_merge_105 : decode cX10_merge 105 = .ok (.iinc 4 1, 3) := by decide +kernel
theorem dX10_merge_108 : decode cX10_merge 108 = .ok (.goto (-70), 3) := by decide +kernel
theorem dX10_merge_111 : decode cX10_merge 111 = .ok (.iload_n 2, 1) := by decide +kernel
theorem dX10_merge_112 : decode cX10_merge 112 = .ok (.ifCond .eq 10, 3) := by decide +kernel
theorem dX10_merge_122 : decode cX10_merge 122 = .ok (.iload_n 2, 1) := by decide +kernel
theorem dX10_merge_123 : decode cX10_merge 123 = .ok (.ifCond .eq 63, 3) := by decide +kernel
theorem dX10_merge_186 : decode cX10_merge 186 = .ok (.goto (-159), 3) := by decide +kernel
theorem dX10_merge_189 : decode cX10_merge 189 = .ok (.iload_n 1, 1) := by decide +kernel
theorem dX10_merge_190 : decode cX10_merge 190 = .ok (.ireturn, 1) := by decide +kernel
set_option maxRecDepth 100000 in
set_option maxHeartbeats 4000000 in
theorem ct_X10_merge (l : Launch) (m0 : Nat) (ad : Nat → Nat) : Ct l yX10_merge cX10_merge 6 (some .int) 1 0 0 22 (fun S av => av = [.ref m0] ∧ is S m0 10 ∧ mdK S m0 ad ∧ mI S 669 m0 = 0) (fun S _ r S' => r = some (.int 0) ∧ same S S' ∧ ∀ g, mI S' g m0 = mI S g m0) := by
  refine ct_of (by decide) (fun S av h => by obtain ⟨rfl, hm, kK, e_n⟩ := h; exact Nat.le_of_ble_eq_true rfl) ?_
  intro p e s m args below meth c D G bs S av C hr hin hpre
  obtain ⟨rfl, hm, kK, e_n⟩ := hpre
  refine v_iconst (v := 0) C dX10_merge_0 (by decide) ?_
  refine v_istore_n C dX10_merge_1 (by decide) rfl ?_
  refine v_iload_n C dX10_merge_2 rfl ?_
  refine v_aload_n C dX10_merge_3 rfl ?_
  refine g10_155 C hm dX10_merge_4 ?_
  rw [e_n]
  refine v_icmp_gt (tgt := 23) C dX10_merge_7 (by decide) (fun c_7 => ?_) (fun c_7 => ?_)
  · skip
    exact absurd c_7 (by decide)
  · skip
    refine v_aload_n C dX10_merge_10 rfl ?_
    refine r10_94 (b := (ad 30)) C hm (kK.2 (30, 11, 7) (by decide)).1 dX10_merge_11 ?_
    refine v_iload_n C dX10_merge_14 rfl ?_
    refine v_iconst (v := 0) C dX10_merge_15 (by decide) ?_
    refine v_iast C (kK.2 (30, 11, 7) (by decide)).2 (isB_in (i := 0) (b := 7) (by decide) rfl) dX10_merge_16 ?_
    refine V.gen (fun S_16 e_16 => ?_)
    have x_16 := x_sA e_16
    have sm : same S S_16 := by rw [e_16]; exact same_sA ..
    have kK := mdK_same sm kK
    have hm := kK.1
    have e_n : mI S_16 669 m0 = 0 := by rw [e_16, mI_sA]; exact e_n
    refine v_iinc C dX10_merge_17 rfl rfl (by decide) rfl ?_
    refine v_goto (tgt := 2) C dX10_merge_20 (by decide) ?_
    refine v_iload_n C dX10_merge_2 rfl ?_
    refine v_aload_n C dX10_merge_3 rfl ?_
    refine g10_155 C hm dX10_merge_4 ?_
    rw [e_n]
    refine v_icmp_gt (tgt := 23) C dX10_merge_7 (by decide) (fun c_7 => ?_) (fun c_7 => ?_)
    · skip
      refine v_iconst (v := 0) C dX10_merge_23 (by decide) ?_
      refine v_istore_n C dX10_merge_24 (by decide) rfl ?_
      refine v_iconst (v := 1) C dX10_merge_25 (by decide) ?_
      refine v_istore_n C dX10_merge_26 (by decide) rfl ?_
      refine v_iload_n C dX10_merge_27 rfl ?_
      refine v_if_eq (tgt := 189) C dX10_merge_28 (by decide) (fun c_28 => ?_) (fun c_28 => ?_)
      · skip
        exact absurd c_28 (by decide)
      · skip
        refine v_iconst (v := 0) C dX10_merge_31 (by decide) ?_
        refine v_istore_n C dX10_merge_32 (by decide) rfl ?_
        refine v_iconst (v := -1) C dX10_merge_33 (by decide) ?_
        refine v_istore_n C dX10_merge_34 (by decide) rfl ?_
        refine v_iconst (v := 0) C dX10_merge_35 (by decide) ?_
        refine v_istore C dX10_merge_36 (by decide) rfl ?_
        refine v_iload C dX10_merge_38 rfl ?_
        refine v_aload_n C dX10_merge_40 rfl ?_
        refine g10_155 C hm dX10_merge_41 ?_
        rw [e_n]
        refine v_icmp_gt (tgt := 111) C dX10_merge_44 (by decide) (fun c_44 => ?_) (fun c_44 => ?_)
        · skip
          exact absurd c_44 (by decide)
        · skip
          refine v_iload_n C dX10_merge_47 rfl ?_
          refine v_iconst (v := -1) C dX10_merge_48 (by decide) ?_
          refine v_icmp_ne (tgt := 111) C dX10_merge_49 (by decide) (fun c_49 => ?_) (fun c_49 => ?_)
          · skip
            exact absurd rfl c_49
          · skip
            refine v_aload_n C dX10_merge_52 rfl ?_
            refine v_iload C dX10_merge_53 rfl ?_
            refine v_aload_n C dX10_merge_55 rfl ?_
            refine r10_94 (b := (ad 30)) C hm (kK.2 (30, 11, 7) (by decide)).1 dX10_merge_56 ?_
            refine v_iload C dX10_merge_59 rfl ?_
            refine v_iald C (kK.2 (30, 11, 7) (by decide)).2 (isB_in (i := 0) (b := 7) (by decide) rfl) dX10_merge_61 ?_
            rw [show mA S_16 (ad 30) (Int32.toNatClampNeg 0) = 0 from by rw [e_16, mA_sA, if_pos ⟨rfl, rfl⟩]]
            refine v_callV (As := [_, _]) (n := 2) C (ct_X10_placeOf l m0) rfl hm (by decide) rfl ⟨wd251, wd252, wd253, wd5, wd254⟩ ⟨rfl, hy_X10_placeOf⟩ rfl ⟨Nat.le_of_ble_eq_true rfl, Nat.le_of_ble_eq_true rfl⟩ (Nat.le_of_ble_eq_true rfl) ⟨Nat.le_of_ble_eq_true rfl, Nat.le_of_ble_eq_true rfl⟩ dX10_merge_62 ⟨rfl, hm, e_n⟩ (fun r_62 S_62 h_62 => ?_)
            obtain ⟨rfl, q_62⟩ := h_62
            obtain rfl := q_62.symm
            refine v_istore C dX10_merge_65 (by decide) rfl ?_
            refine v_iload_n C dX10_merge_67 rfl ?_
            refine v_if_ne (tgt := 77) C dX10_merge_68 (by decide) (fun c_68 => ?_) (fun c_68 => ?_)
            · skip
              exact absurd rfl c_68
            · skip
              refine v_iload C dX10_merge_71 rfl ?_
              refine v_iconst (v := -1) C dX10_merge_73 (by decide) ?_
              refine v_icmp_eq (tgt := 81) C dX10_merge_74 (by decide) (fun c_74 => ?_) (fun c_74 => ?_)
              · skip
                refine v_iconst (v := 0) C dX10_merge_81 (by decide) ?_
                refine v_istore_n C dX10_merge_82 (by decide) rfl ?_
                refine v_iload C dX10_merge_83 rfl ?_
                refine v_iconst (v := -1) C dX10_merge_85 (by decide) ?_
                refine v_icmp_eq (tgt := 103) C dX10_merge_86 (by decide) (fun c_86 => ?_) (fun c_86 => ?_)
                · skip
                  refine v_iconst (v := -1) C dX10_merge_103 (by decide) ?_
                  refine v_istore_n C dX10_merge_104 (by decide) rfl ?_
                  refine v_iinc C dX10_merge_105 rfl rfl (by decide) rfl ?_
                  refine v_goto (tgt := 38) C dX10_merge_108 (by decide) ?_
                  refine v_iload C dX10_merge_38 rfl ?_
                  refine v_aload_n C dX10_merge_40 rfl ?_
                  refine g10_155 C hm dX10_merge_41 ?_
                  rw [e_n]
                  refine v_icmp_gt (tgt := 111) C dX10_merge_44 (by decide) (fun c_44 => ?_) (fun c_44 => ?_)
                  · skip
                    refine v_iload_n C dX10_merge_111 rfl ?_
                    refine v_if_eq (tgt := 122) C dX10_merge_112 (by decide) (fun c_112 => ?_) (fun c_112 => ?_)
                    · skip
                      refine v_iload_n C dX10_merge_122 rfl ?_
                      refine v_if_eq (tgt := 186) C dX10_merge_123 (by decide) (fun c_123 => ?_) (fun c_123 => ?_)
                      · skip
                        refine v_goto (tgt := 27) C dX10_merge_186 (by decide) ?_
                        refine v_iload_n C dX10_merge_27 rfl ?_
                        refine v_if_eq (tgt := 189) C dX10_merge_28 (by decide) (fun c_28 => ?_) (fun c_28 => ?_)
                        · skip
                          refine v_iload_n C dX10_merge_189 rfl ?_
                          refine v_iret C hr (Nat.le_of_ble_eq_true rfl) (Nat.le_of_ble_eq_true rfl) dX10_merge_190 ?_
                          exact ⟨rfl, sm, fun g => by rw [e_16, mI_sA]⟩
                        · skip
                          exact absurd rfl c_28
                      · skip
                        exact absurd rfl c_123
                    · skip
                      exact absurd rfl c_112
                  · skip
                    exact absurd (by decide) c_44
                · skip
                  exact absurd rfl c_86
              · skip
                exact absurd rfl c_74
    · skip
      exact absurd (by decide) c_7

theorem dX10_trait_0 : decode cX10_trait 0 = .ok (.aload_n 0, 1) := by decide +kernel
theorem dX10_trait_1 : decode cX10_trait 1 = .ok (.iload_n 1, 1) := by decide +kernel
theorem dX10_trait_2 : decode cX10_trait 2 = .ok (.invokevirtual 169, 3) := by decide +kernel
theorem dX10_trait_5 : decode cX10_trait 5 = .ok (.ifCond .eq 64, 3) := by decide +kernel
theorem dX10_trait_8 : decode cX10_trait 8 = .ok (.aload_n 0, 1) := by decide +kernel
theorem dX10_trait_9 : decode cX10_trait 9 = .ok (.iload_n 2, 1) := by decide +kernel
theorem dX10_trait_10 : decode cX10_trait 10 = .ok (.invokevirtual 169, 3) := by decide +kernel
theorem dX10_trait_13 : decode cX10_trait 13 = .ok (.ifCond .eq 56, 3) := by decide +kernel
theorem dX10_trait_16 : decode cX10_trait 16 = .ok (.aload_n 0, 1) := by decide +kernel
theorem dX10_trait_17 : decode cX10_trait 17 = .ok (.iload_n 3, 1) := by decide +kernel
theorem dX10_trait_18 : decode cX10_trait 18 = .ok (.invokevirtual 169, 3) := by decide +kernel
theorem dX10_trait_21 : decode cX10_trait 21 = .ok (.ifCond .eq 48, 3) := by decide +kernel
theorem dX10_trait_24 : decode cX10_trait 24 = .ok (.iload_n 1, 1) := by decide +kernel
theorem dX10_trait_25 : decode cX10_trait 25 = .ok (.iconst (-1), 1) := by decide +kernel
theorem dX10_trait_26 : decode cX10_trait 26 = .ok (.if_icmp .ne 8, 3) := by decide +kernel
theorem dX10_trait_29 : decode cX10_trait 29 = .ok (.iload_n 2, 1) := by decide +kernel
theorem dX10_trait_30 : decode cX10_trait 30 = .ok (.iconst (-1), 1) := by decide +kernel
theorem dX10_trait_31 : decode cX10_trait 31 = .ok (.if_icmp .ne 38, 3) := by decide +kernel
theorem dX10_trait_34 : decode cX10_trait 34 = .ok (.iload_n 2, 1) := by decide +kernel
theorem dX10_trait_35 : decode cX10_trait 35 = .ok (.iconst (-1), 1) := by decide +kernel
theorem dX10_trait_36 : decode cX10_trait 36 = .ok (.if_icmp .ne 8, 3) := by decide +kernel
theorem dX10_trait_39 : decode cX10_trait 39 = .ok (.iload_n 3, 1) := by decide +kernel
theorem dX10_trait_40 : decode cX10_trait 40 = .ok (.iconst (-1), 1) := by decide +kernel
theorem dX10_trait_41 : decode cX10_trait 41 = .ok (.if_icmp .ne 28, 3) := by decide +kernel
theorem dX10_trait_44 : decode cX10_trait 44 = .ok (.iload_n 1, 1) := by decide +kernel
theorem dX10_trait_45 : decode cX10_trait 45 = .ok (.iconst (-1), 1) := by decide +kernel
theorem dX10_trait_46 : decode cX10_trait 46 = .ok (.if_icmp .eq 13, 3) := by decide +kernel
theorem dX10_trait_59 : decode cX10_trait 59 = .ok (.iload_n 2, 1) := by decide +kernel
theorem dX10_trait_60 : decode cX10_trait 60 = .ok (.iconst (-1), 1) := by decide +kernel
theorem dX10_trait_61 : decode cX10_trait 61 = .ok (.if_icmp .eq 11, 3) := by decide +kernel
theorem dX10_trait_69 : decode cX10_trait 69 = .ok (.bipush (-2), 2) := by decide +kernel
theorem dX10_trait_71 : decode cX10_trait 71 = .ok (.ireturn, 1) := by decide +kernel
theorem dX10_trait_72 : decode cX10_trait 72 = .ok (.aload_n 0, 1) := by decide +kernel
theorem dX10_trait_73 : decode cX10_trait 73 = .ok (.iload_n 1, 1) := by decide +kernel
theorem dX10_trait_74 : decode cX10_trait 74 = .ok (.iconst (-1), 1) := by decide +kernel
theorem dX10_trait_75 : decode cX10_trait 75 = .ok (.if_icmp .ne 7, 3) := by decide +kernel
theorem dX10_trait_78 : decode cX10_trait 78 = .ok (.iconst 0, 1) := by decide +kernel
theorem dX10_trait_79 : decode cX10_trait 79 = .ok (.goto 22, 3) := by decide +kernel
theorem dX10_trait_101 : decode cX10_trait 101 = .ok (.putfield 155, 3) := by decide +kernel
theorem dX10_trait_104 : decode cX10_trait 104 = .ok (.aload_n 0, 1) := by decide +kernel
theorem dX10_trait_105 : decode cX10_trait 105 = .ok (.getfield 91, 3) := by decide +kernel
theorem dX10_trait_108 : decode cX10_trait 108 = .ok (.iconst 0, 1) := by decide +kernel
theorem dX10_trait_109 : decode cX10_trait 109 = .ok (.iload_n 1, 1) := by decide +kernel
theorem dX10_trait_110 : decode cX10_trait 110 = .ok (.iastore, 1) := by decide +kernel
theorem dX10_trait_111 : decode cX10_trait 111 = .ok (.aload_n 0, 1) := by decide +kernel
theorem dX10_trait_112 : decode cX10_trait 112 = .ok (.getfield 91, 3) := by decide +kernel
theorem dX10_trait_115 : decode cX10_trait 115 = .ok (.iconst 1, 1) := by decide +kernel
theorem dX10_trait_116 : decode cX10_trait 116 = .ok (.iload_n 2, 1) := by decide +kernel
theorem dX10_trait_117 : decode cX10_trait 117 = .ok (.iastore, 1) := by decide +kernel
theorem dX10_trait_118 : decode cX10_trait 118 = .ok (.aload_n 0, 1) := by decide +kernel
theorem dX10_trait_119 : decode cX10_trait 119 = .ok (.getfield 91, 3) := by decide +kernel
theorem dX10_trait_122 : decode cX10_trait 122 = .ok (.iconst 2, 1) := by decide +kernel
theorem dX10_trait_123 : decode cX10_trait 123 = .ok (.iload_n 3, 1) := by decide +kernel
theorem dX10_trait_124 : decode cX10_trait 124 = .ok (.iastore, 1) := by decide +kernel
theorem dX10_trait_125 : decode cX10_trait 125 = .ok (.aload_n 0, 1) := by decide +kernel
theorem dX10_trait_126 : decode cX10_trait 126 = .ok (.invokevirtual 172, 3) := by decide +kernel
theorem dX10_trait_129 : decode cX10_trait 129 = .ok (.istore 4, 2) := by decide +kernel
theorem dX10_trait_131 : decode cX10_trait 131 = .ok (.iload 4, 2) := by decide +kernel
theorem dX10_trait_133 : decode cX10_trait 133 = .ok (.iconst (-1), 1) := by decide +kernel
theorem dX10_trait_134 : decode cX10_trait 134 = .ok (.if_icmp .ne 6, 3) := by decide +kernel
theorem dX10_trait_140 : decode cX10_trait 140 = .ok (.aload_n 0, 1) := by decide +kernel
theorem dX10_trait_141 : decode cX10_trait 141 = .ok (.getfield 145, 3) := by decide +kernel
theorem dX10_trait_144 : decode cX10_trait 144 = .ok (.bipush 20, 2) := by decide +kernel
theorem dX10_trait_146 : decode cX10_trait 146 = .ok (.if_icmp .ne 6, 3) := by decide +kernel
theorem dX10_trait_152 : decode cX10_trait 152 = .ok (.aload_n 0, 1) := by decide +kernel
theorem dX10_trait_153 : decode cX10_trait 153 = .ok (.getfield 7, 3) := by decide +kernel
theorem dX10_trait_156 : decode cX10_trait 156 = .ok (.bipush 20, 2) := by decide +kernel
theorem dX10_trait_158 : decode cX10_trait 158 = .ok (.aload_n 0, 1) := by decide +kernel
theorem dX10_trait_159 : decode cX10_trait 159 = .ok (.getfield 145, 3) := by decide +kernel
theorem dX10_trait_162 : decode cX10_trait 162 = .ok (.imul, 1) := by decide +kernel
theorem dX10_trait_163 : decode cX10_trait 163 = .ok (.aload_n 0, 1) := by decide +kernel
theorem dX10_trait_164 : decode cX10_trait 164 = .ok (.getfield 145, 3) := by decide +kernel
theorem dX10_trait_167 : decode cX10_trait 167 = .ok (.iastore, 1) := by decide +kernel
theorem dX10_trait_168 : decode cX10_trait 168 = .ok (.iconst 0, 1) := by decide +kernel
theorem dX10_trait_169 : decode cX10_trait 169 = .ok (.istore 5, 2) := by decide +kernel
theorem dX10_trait_171 : decode cX10_trait 171 = .ok (.iload 5, 2) := by decide +kernel
theorem dX10_trait_173 : decode cX10_trait 173 = .ok (.iload 4, 2) := by decide +kernel
theorem dX10_trait_175 : decode cX10_trait 175 = .ok (.if_icmp .ge 33, 3) := by decide +kernel
theorem dX10_trait_208 : decode cX10_trait 208 = .ok (.aload_n 0, 1) := by decide +kernel
theorem dX10_trait_209 : decode cX10_trait 209 = .ok (.getfield 13, 3) := by decide +kernel
theorem dX10_trait_212 : decode cX10_trait 212 = .ok (.aload_n 0, 1) := by decide +kernel
theorem dX10_trait_213 : decode cX10_trait 213 = .ok (.getfield 145, 3) := by decide +kernel
theorem dX10_trait_216 : decode cX10_trait 216 = .ok (.iload 4, 2) := by decide +kernel
theorem dX10_trait_218 : decode cX10_trait 218 = .ok (.iconst 1, 1) := by decide +kernel
theorem dX10_trait_219 : decode cX10_trait 219 = .ok (.iadd, 1) := by decide +kernel
theorem dX10_trait_220 : decode cX10_trait 220 = .ok (.iastore, 1) := by decide +kernel
theorem dX10_trait_221 : decode cX10_trait 221 = .ok (.aload_n 0, 1) := by decide +kernel
theorem dX10_trait_222 : decode cX10_trait 222 = .ok (.dup, 1) := by decide +kernel
theorem dX10_trait_223 : decode cX10_trait 223 = .ok (.getfield 145, 3) := by decide +kernel
theorem dX10_trait_226 : decode cX10_trait 226 = .ok (.iconst 1, 1) := by decide +kernel
theorem dX10_trait_227 : decode cX10_trait 227 = .ok (.iadd, 1) := by decide +kernel
theorem dX10_trait_228 : decode cX10_trait 228 = .ok (.putfield 145, 3) := by decide +kernel
theorem dX10_trait_231 : decode cX10_trait 231 = .ok (.aload_n 0, 1) := by decide +kernel
theorem dX10_trait_232 : decode cX10_trait 232 = .ok (.getfield 145, 3) := by decide +kernel
theorem dX10_trait_235 : decode cX10_trait 235 = .ok (.iconst 1, 1) := by decide +kernel
theorem dX10_trait_236 : decode cX10_trait 236 = .ok (.isub, 1) := by decide +kernel
theorem dX10_trait_237 : decode cX10_trait 237 = .ok (.ireturn, 1) := by decide +kernel
set_option maxRecDepth 100000 in
set_option maxHeartbeats 4000000 in
theorem ct_X10_trait (l : Launch) (m0 : Nat) (ad : Nat → Nat) (a b d : Int32) : Ct l yX10_trait cX10_trait 6 (some .int) 3 0 0 64 (fun S av => av = [.ref m0, .int a, .int b, .int d] ∧ mdNew S m0 ad) (fun _ _ r _ => r = some (.int (if tr3 a b d = true then 0 else -2))) := by
  refine ct_of (by decide) (fun S av h => by obtain ⟨rfl, hm, kK, kZ, hI, hL, hJ⟩ := h; exact Nat.le_of_ble_eq_true rfl) ?_
  intro p e s m args below meth c D G bs S av C hr hin hpre
  obtain ⟨rfl, hm, kK, kZ, hI, hL, hJ⟩ := hpre
  have hC : mI S 640 m0 = 0 := hI 640 (by decide) (by decide) (by decide)
  refine v_aload_n C dX10_trait_0 rfl ?_
  refine v_iload_n C dX10_trait_1 rfl ?_
  refine v_callV (As := [_]) (n := 1) C (ct_X10_mayBeUnder l m0 _) rfl hm (by decide) rfl ⟨wd236, wd237, wd238, wd5, wd239⟩ ⟨rfl, hy_X10_mayBeUnder⟩ rfl ⟨Nat.le_of_ble_eq_true rfl, Nat.le_of_ble_eq_true rfl⟩ (Nat.le_of_ble_eq_true rfl) ⟨Nat.le_of_ble_eq_true rfl, Nat.le_of_ble_eq_true rfl⟩ dX10_trait_2 ⟨rfl, hm, hC⟩ (fun r_2 S_2 h_2 => ?_)
  obtain ⟨rfl, q_2⟩ := h_2
  obtain rfl := q_2.symm
  refine v_if_eq (tgt := 69) C dX10_trait_5 (by decide) (fun c_5 => ?_) (fun c_5 => ?_)
  · skip
    refine v_bipush (v := -2) C dX10_trait_69 (by decide) ?_
    refine v_iret C hr (Nat.le_of_ble_eq_true rfl) (Nat.le_of_ble_eq_true rfl) dX10_trait_71 ?_
    first
      | rfl
      | (have z := bI_f c_5; simp_all [tr3])
      | (have z := bI_f c_13; simp_all [tr3])
      | (have z := bI_f c_21; simp_all [tr3])
  · skip
    refine v_aload_n C dX10_trait_8 rfl ?_
    refine v_iload_n C dX10_trait_9 rfl ?_
    refine v_callV (As := [_]) (n := 1) C (ct_X10_mayBeUnder l m0 _) rfl hm (by decide) rfl ⟨wd236, wd237, wd238, wd5, wd239⟩ ⟨rfl, hy_X10_mayBeUnder⟩ rfl ⟨Nat.le_of_ble_eq_true rfl, Nat.le_of_ble_eq_true rfl⟩ (Nat.le_of_ble_eq_true rfl) ⟨Nat.le_of_ble_eq_true rfl, Nat.le_of_ble_eq_true rfl⟩ dX10_trait_10 ⟨rfl, hm, hC⟩ (fun r_10 S_10 h_10 => ?_)
    obtain ⟨rfl, q_10⟩ := h_10
    obtain rfl := q_10.symm
    refine v_if_eq (tgt := 69) C dX10_trait_13 (by decide) (fun c_13 => ?_) (fun c_13 => ?_)
    · skip
      refine v_bipush (v := -2) C dX10_trait_69 (by decide) ?_
      refine v_iret C hr (Nat.le_of_ble_eq_true rfl) (Nat.le_of_ble_eq_true rfl) dX10_trait_71 ?_
      first
        | rfl
        | (have z := bI_f c_5; simp_all [tr3])
        | (have z := bI_f c_13; simp_all [tr3])
        | (have z := bI_f c_21; simp_all [tr3])
    · skip
      refine v_aload_n C dX10_trait_16 rfl ?_
      refine v_iload_n C dX10_trait_17 rfl ?_
      refine v_callV (As := [_]) (n := 1) C (ct_X10_mayBeUnder l m0 _) rfl hm (by decide) rfl ⟨wd236, wd237, wd238, wd5, wd239⟩ ⟨rfl, hy_X10_mayBeUnder⟩ rfl ⟨Nat.le_of_ble_eq_true rfl, Nat.le_of_ble_eq_true rfl⟩ (Nat.le_of_ble_eq_true rfl) ⟨Nat.le_of_ble_eq_true rfl, Nat.le_of_ble_eq_true rfl⟩ dX10_trait_18 ⟨rfl, hm, hC⟩ (fun r_18 S_18 h_18 => ?_)
      obtain ⟨rfl, q_18⟩ := h_18
      obtain rfl := q_18.symm
      refine v_if_eq (tgt := 69) C dX10_trait_21 (by decide) (fun c_21 => ?_) (fun c_21 => ?_)
      · skip
        refine v_bipush (v := -2) C dX10_trait_69 (by decide) ?_
        refine v_iret C hr (Nat.le_of_ble_eq_true rfl) (Nat.le_of_ble_eq_true rfl) dX10_trait_71 ?_
        first
          | rfl
          | (have z := bI_f c_5; simp_all [tr3])
          | (have z := bI_f c_13; simp_all [tr3])
          | (have z := bI_f c_21; simp_all [tr3])
      · skip
        obtain rfl : a = -1 := by simpa using bI_t c_5
        obtain rfl : b = -1 := by simpa using bI_t c_13
        obtain rfl : d = -1 := by simpa using bI_t c_21
        refine v_iload_n C dX10_trait_24 rfl ?_
        refine v_iconst (v := -1) C dX10_trait_25 (by decide) ?_
        refine v_icmp_ne (tgt := 34) C dX10_trait_26 (by decide) (fun c_26 => ?_) (fun c_26 => ?_)
        · skip
          exact absurd rfl c_26
        · skip
          refine v_iload_n C dX10_trait_29 rfl ?_
          refine v_iconst (v := -1) C dX10_trait_30 (by decide) ?_
          refine v_icmp_ne (tgt := 69) C dX10_trait_31 (by decide) (fun c_31 => ?_) (fun c_31 => ?_)
          · skip
            exact absurd rfl c_31
          · skip
            refine v_iload_n C dX10_trait_34 rfl ?_
            refine v_iconst (v := -1) C dX10_trait_35 (by decide) ?_
            refine v_icmp_ne (tgt := 44) C dX10_trait_36 (by decide) (fun c_36 => ?_) (fun c_36 => ?_)
            · skip
              exact absurd rfl c_36
            · skip
              refine v_iload_n C dX10_trait_39 rfl ?_
              refine v_iconst (v := -1) C dX10_trait_40 (by decide) ?_
              refine v_icmp_ne (tgt := 69) C dX10_trait_41 (by decide) (fun c_41 => ?_) (fun c_41 => ?_)
              · skip
                exact absurd rfl c_41
              · skip
                refine v_iload_n C dX10_trait_44 rfl ?_
                refine v_iconst (v := -1) C dX10_trait_45 (by decide) ?_
                refine v_icmp_eq (tgt := 59) C dX10_trait_46 (by decide) (fun c_46 => ?_) (fun c_46 => ?_)
                · skip
                  refine v_iload_n C dX10_trait_59 rfl ?_
                  refine v_iconst (v := -1) C dX10_trait_60 (by decide) ?_
                  refine v_icmp_eq (tgt := 72) C dX10_trait_61 (by decide) (fun c_61 => ?_) (fun c_61 => ?_)
                  · skip
                    refine v_aload_n C dX10_trait_72 rfl ?_
                    refine v_iload_n C dX10_trait_73 rfl ?_
                    refine v_iconst (v := -1) C dX10_trait_74 (by decide) ?_
                    refine v_icmp_ne (tgt := 82) C dX10_trait_75 (by decide) (fun c_75 => ?_) (fun c_75 => ?_)
                    · skip
                      exact absurd rfl c_75
                    · skip
                      refine v_iconst (v := 0) C dX10_trait_78 (by decide) ?_
                      refine v_goto (tgt := 101) C dX10_trait_79 (by decide) ?_
                      refine p10_155 C hm dX10_trait_101 ?_
                      refine V.gen (fun S_101 e_101 => ?_)
                      have x_101 := x_sI e_101
                      have sm : same S S_101 := by rw [e_101]; exact same_sI ..
                      have kK := mdK_same sm kK
                      have hm := kK.1
                      have hP : mI S_101 669 m0 = 0 := by rw [e_101, mI_sI, if_pos ⟨rfl, rfl⟩]
                      have hC : mI S_101 640 m0 = 0 := by rw [e_101, mI_sI, if_neg (fun z => absurd z.1 (by decide))]; exact hC
                      refine v_aload_n C dX10_trait_104 rfl ?_
                      refine r10_91 (b := (ad 28)) C hm (kK.2 (28, 11, 6) (by decide)).1 dX10_trait_105 ?_
                      refine v_iconst (v := 0) C dX10_trait_108 (by decide) ?_
                      refine v_iload_n C dX10_trait_109 rfl ?_
                      refine v_iast C (kK.2 (28, 11, 6) (by decide)).2 (isB_in (i := 0) (b := 6) (by decide) rfl) dX10_trait_110 ?_
                      refine V.gen (fun S_110 e_110 => ?_)
                      have x_110 := x_sA e_110
                      have sm : same S_101 S_110 := by rw [e_110]; exact same_sA ..
                      have kK := mdK_same sm kK
                      have hm := kK.1
                      have hC : mI S_110 640 m0 = 0 := by rw [e_110, mI_sA]; exact hC
                      have hP : mI S_110 669 m0 = 0 := by rw [e_110, mI_sA]; exact hP
                      refine v_aload_n C dX10_trait_111 rfl ?_
                      refine r10_91 (b := (ad 28)) C hm (kK.2 (28, 11, 6) (by decide)).1 dX10_trait_112 ?_
                      refine v_iconst (v := 1) C dX10_trait_115 (by decide) ?_
                      refine v_iload_n C dX10_trait_116 rfl ?_
                      refine v_iast C (kK.2 (28, 11, 6) (by decide)).2 (isB_in (i := 1) (b := 6) (by decide) rfl) dX10_trait_117 ?_
                      refine V.gen (fun S_117 e_117 => ?_)
                      have x_117 := x_sA e_117
                      have sm : same S_110 S_117 := by rw [e_117]; exact same_sA ..
                      have kK := mdK_same sm kK
                      have hm := kK.1
                      have hC : mI S_117 640 m0 = 0 := by rw [e_117, mI_sA]; exact hC
                      have hP : mI S_117 669 m0 = 0 := by rw [e_117, mI_sA]; exact hP
                      refine v_aload_n C dX10_trait_118 rfl ?_
                      refine r10_91 (b := (ad 28)) C hm (kK.2 (28, 11, 6) (by decide)).1 dX10_trait_119 ?_
                      refine v_iconst (v := 2) C dX10_trait_122 (by decide) ?_
                      refine v_iload_n C dX10_trait_123 rfl ?_
                      refine v_iast C (kK.2 (28, 11, 6) (by decide)).2 (isB_in (i := 2) (b := 6) (by decide) rfl) dX10_trait_124 ?_
                      refine V.gen (fun S_124 e_124 => ?_)
                      have x_124 := x_sA e_124
                      have sm : same S_117 S_124 := by rw [e_124]; exact same_sA ..
                      have kK := mdK_same sm kK
                      have hm := kK.1
                      have hC : mI S_124 640 m0 = 0 := by rw [e_124, mI_sA]; exact hC
                      have hP : mI S_124 669 m0 = 0 := by rw [e_124, mI_sA]; exact hP
                      refine v_aload_n C dX10_trait_125 rfl ?_
                      refine v_callV (As := []) (n := 0) C (ct_X10_merge l m0 ad) rfl hm (by decide) rfl ⟨wd247, wd248, wd249, wd5, wd250⟩ ⟨rfl, hy_X10_merge⟩ rfl ⟨Nat.le_of_ble_eq_true rfl, Nat.le_of_ble_eq_true rfl⟩ (Nat.le_of_ble_eq_true rfl) ⟨Nat.le_of_ble_eq_true rfl, Nat.le_of_ble_eq_true rfl⟩ dX10_trait_126 ⟨rfl, hm, kK, hP⟩ (fun r_126 S_126 h_126 => ?_)
                      obtain ⟨rfl, sm, hg⟩ := h_126
                      have kK := mdK_same sm kK
                      have hm := kK.1
                      have hC : mI S_126 640 m0 = 0 := (hg 640).trans hC
                      refine v_istore C dX10_trait_129 (by decide) rfl ?_
                      refine v_iload C dX10_trait_131 rfl ?_
                      refine v_iconst (v := -1) C dX10_trait_133 (by decide) ?_
                      refine v_icmp_ne (tgt := 140) C dX10_trait_134 (by decide) (fun c_134 => ?_) (fun c_134 => ?_)
                      · skip
                        refine v_aload_n C dX10_trait_140 rfl ?_
                        refine g10_145 C hm dX10_trait_141 ?_
                        rw [hC]
                        refine v_bipush (v := 20) C dX10_trait_144 (by decide) ?_
                        refine v_icmp_ne (tgt := 152) C dX10_trait_146 (by decide) (fun c_146 => ?_) (fun c_146 => ?_)
                        · skip
                          refine v_aload_n C dX10_trait_152 rfl ?_
                          refine r10_7 (b := (ad 1)) C hm (kK.2 (1, 11, 400) (by decide)).1 dX10_trait_153 ?_
                          refine v_bipush (v := 20) C dX10_trait_156 (by decide) ?_
                          refine v_aload_n C dX10_trait_158 rfl ?_
                          refine g10_145 C hm dX10_trait_159 ?_
                          rw [hC]
                          refine v_imul C dX10_trait_162 ?_
                          refine v_aload_n C dX10_trait_163 rfl ?_
                          refine g10_145 C hm dX10_trait_164 ?_
                          rw [hC]
                          refine v_iast C (kK.2 (1, 11, 400) (by decide)).2 (by rw [show (20 : Int32) * 0 = 0 from rfl]; exact isB_in (i := 0) (b := 400) (by decide) rfl) dX10_trait_167 ?_
                          refine V.gen (fun S_167 e_167 => ?_)
                          have x_167 := x_sA e_167
                          have sm : same S_126 S_167 := by rw [e_167]; exact same_sA ..
                          have kK := mdK_same sm kK
                          have hm := kK.1
                          have hC : mI S_167 640 m0 = 0 := by rw [e_167, mI_sA]; exact hC
                          refine v_iconst (v := 0) C dX10_trait_168 (by decide) ?_
                          refine v_istore C dX10_trait_169 (by decide) rfl ?_
                          refine v_iload C dX10_trait_171 rfl ?_
                          refine v_iload C dX10_trait_173 rfl ?_
                          refine v_icmp_ge (tgt := 208) C dX10_trait_175 (by decide) (fun c_175 => ?_) (fun c_175 => ?_)
                          · skip
                            refine v_aload_n C dX10_trait_208 rfl ?_
                            refine r10_13 (b := (ad 2)) C hm (kK.2 (2, 11, 20) (by decide)).1 dX10_trait_209 ?_
                            refine v_aload_n C dX10_trait_212 rfl ?_
                            refine g10_145 C hm dX10_trait_213 ?_
                            rw [hC]
                            refine v_iload C dX10_trait_216 rfl ?_
                            refine v_iconst (v := 1) C dX10_trait_218 (by decide) ?_
                            refine v_iadd C dX10_trait_219 ?_
                            refine v_iast C (kK.2 (2, 11, 20) (by decide)).2 (isB_in (i := 0) (b := 20) (by decide) rfl) dX10_trait_220 ?_
                            refine V.gen (fun S_220 e_220 => ?_)
                            have x_220 := x_sA e_220
                            have sm : same S_167 S_220 := by rw [e_220]; exact same_sA ..
                            have kK := mdK_same sm kK
                            have hm := kK.1
                            have hC : mI S_220 640 m0 = 0 := by rw [e_220, mI_sA]; exact hC
                            refine v_aload_n C dX10_trait_221 rfl ?_
                            refine v_dup C dX10_trait_222 rfl ?_
                            refine g10_145 C hm dX10_trait_223 ?_
                            rw [hC]
                            refine v_iconst (v := 1) C dX10_trait_226 (by decide) ?_
                            refine v_iadd C dX10_trait_227 ?_
                            refine p10_145 C hm dX10_trait_228 ?_
                            refine V.gen (fun S_228 e_228 => ?_)
                            have x_228 := x_sI e_228
                            have sm : same S_220 S_228 := by rw [e_228]; exact same_sI ..
                            have kK := mdK_same sm kK
                            have hm := kK.1
                            refine v_aload_n C dX10_trait_231 rfl ?_
                            refine g10_145 C hm dX10_trait_232 ?_
                            rw [show mI S_228 640 m0 = 0 + 1 from by rw [e_228, mI_sI, if_pos ⟨rfl, rfl⟩]]
                            refine v_iconst (v := 1) C dX10_trait_235 (by decide) ?_
                            refine v_isub C dX10_trait_236 ?_
                            refine v_iret C hr (Nat.le_of_ble_eq_true rfl) (Nat.le_of_ble_eq_true rfl) dX10_trait_237 ?_
                            first
                              | rfl
                              | (have z := bI_f c_5; simp_all [tr3])
                              | (have z := bI_f c_13; simp_all [tr3])
                              | (have z := bI_f c_21; simp_all [tr3])
                          · skip
                            exact absurd (by decide) c_175
                        · skip
                          exact absurd c_146 (by decide)
                      · skip
                        exact absurd c_134 (by decide)
                  · skip
                    exact absurd rfl c_61
                · skip
                  exact absurd rfl c_46

