theorem dX6_doPlain_0 : decode cX6_doPlain 0 = .ok (.aload_n 1, 1) := by decide +kernel
theorem dX6_doPlain_1 : decode cX6_doPlain 1 = .ok (.iload_n 2, 1) := by decide +kernel
theorem dX6_doPlain_2 : decode cX6_doPlain 2 = .ok (.invokevirtual 127, 3) := by decide +kernel
theorem dX6_doPlain_5 : decode cX6_doPlain 5 = .ok (.istore 7, 2) := by decide +kernel
theorem dX6_doPlain_7 : decode cX6_doPlain 7 = .ok (.aload_n 1, 1) := by decide +kernel
theorem dX6_doPlain_8 : decode cX6_doPlain 8 = .ok (.iload_n 2, 1) := by decide +kernel
theorem dX6_doPlain_9 : decode cX6_doPlain 9 = .ok (.invokevirtual 111, 3) := by decide +kernel
theorem dX6_doPlain_12 : decode cX6_doPlain 12 = .ok (.tableswitch 127 0 9 #[56, 80, 91, 98, 108, 127, 127, 127, 127, 115], 56) := by decide +kernel
theorem dX6_doPlain_68 : decode cX6_doPlain 68 = .ok (.aload_n 0, 1) := by decide +kernel
theorem dX6_doPlain_69 : decode cX6_doPlain 69 = .ok (.getfield 12, 3) := by decide +kernel
theorem dX6_doPlain_72 : decode cX6_doPlain 72 = .ok (.aload_n 3, 1) := by decide +kernel
theorem dX6_doPlain_73 : decode cX6_doPlain 73 = .ok (.getfield 78, 3) := by decide +kernel
theorem dX6_doPlain_76 : decode cX6_doPlain 76 = .ok (.aload_n 1, 1) := by decide +kernel
theorem dX6_doPlain_77 : decode cX6_doPlain 77 = .ok (.getfield 130, 3) := by decide +kernel
theorem dX6_doPlain_80 : decode cX6_doPlain 80 = .ok (.iload 4, 2) := by decide +kernel
theorem dX6_doPlain_82 : decode cX6_doPlain 82 = .ok (.iload 7, 2) := by decide +kernel
theorem dX6_doPlain_84 : decode cX6_doPlain 84 = .ok (.lload 5, 2) := by decide +kernel
theorem dX6_doPlain_86 : decode cX6_doPlain 86 = .ok (.invokevirtual 133, 3) := by decide +kernel
theorem dX6_doPlain_89 : decode cX6_doPlain 89 = .ok (.lload 5, 2) := by decide +kernel
theorem dX6_doPlain_91 : decode cX6_doPlain 91 = .ok (.lreturn, 1) := by decide +kernel
theorem dX6_doPlain_92 : decode cX6_doPlain 92 = .ok (.aload_n 3, 1) := by decide +kernel
theorem dX6_doPlain_93 : decode cX6_doPlain 93 = .ok (.iload 7, 2) := by decide +kernel
theorem dX6_doPlain_95 : decode cX6_doPlain 95 = .ok (.lload 5, 2) := by decide +kernel
theorem dX6_doPlain_97 : decode cX6_doPlain 97 = .ok (.invokevirtual 137, 3) := by decide +kernel
theorem dX6_doPlain_100 : decode cX6_doPlain 100 = .ok (.lload 5, 2) := by decide +kernel
theorem dX6_doPlain_102 : decode cX6_doPlain 102 = .ok (.lreturn, 1) := by decide +kernel
theorem dX6_doPlain_103 : decode cX6_doPlain 103 = .ok (.aload_n 3, 1) := by decide +kernel
theorem dX6_doPlain_104 : decode cX6_doPlain 104 = .ok (.iload 7, 2) := by decide +kernel
theorem dX6_doPlain_106 : decode cX6_doPlain 106 = .ok (.invokevirtual 141, 3) := by decide +kernel
theorem dX6_doPlain_109 : decode cX6_doPlain 109 = .ok (.lreturn, 1) := by decide +kernel
theorem dX6_doPlain_110 : decode cX6_doPlain 110 = .ok (.lload 5, 2) := by decide +kernel
theorem dX6_doPlain_112 : decode cX6_doPlain 112 = .ok (.aload_n 3, 1) := by decide +kernel
theorem dX6_doPlain_113 : decode cX6_doPlain 113 = .ok (.iload 7, 2) := by decide +kernel
theorem dX6_doPlain_115 : decode cX6_doPlain 115 = .ok (.invokevirtual 141, 3) := by decide +kernel
theorem dX6_doPlain_118 : decode cX6_doPlain 118 = .ok (.ladd, 1) := by decide +kernel
theorem dX6_doPlain_119 : decode cX6_doPlain 119 = .ok (.lreturn, 1) := by decide +kernel
theorem dX6_doPlain_120 : decode cX6_doPlain 120 = .ok (.lload 5, 2) := by decide +kernel
theorem dX6_doPlain_122 : decode cX6_doPlain 122 = .ok (.iload 7, 2) := by decide +kernel
theorem dX6_doPlain_124 : decode cX6_doPlain 124 = .ok (.i2l, 1) := by decide +kernel
theorem dX6_doPlain_125 : decode cX6_doPlain 125 = .ok (.ladd, 1) := by decide +kernel
theorem dX6_doPlain_126 : decode cX6_doPlain 126 = .ok (.lreturn, 1) := by decide +kernel
theorem dX6_doPlain_127 : decode cX6_doPlain 127 = .ok (.aload_n 0, 1) := by decide +kernel
theorem dX6_doPlain_128 : decode cX6_doPlain 128 = .ok (.iload 7, 2) := by decide +kernel
theorem dX6_doPlain_130 : decode cX6_doPlain 130 = .ok (.putfield 43, 3) := by decide +kernel
theorem dX6_doPlain_133 : decode cX6_doPlain 133 = .ok (.aload_n 0, 1) := by decide +kernel
theorem dX6_doPlain_134 : decode cX6_doPlain 134 = .ok (.iconst 1, 1) := by decide +kernel
theorem dX6_doPlain_135 : decode cX6_doPlain 135 = .ok (.invokevirtual 61, 3) := by decide +kernel
theorem dX6_doPlain_138 : decode cX6_doPlain 138 = .ok (.lreturn, 1) := by decide +kernel
theorem dX6_doPlain_139 : decode cX6_doPlain 139 = .ok (.lload 5, 2) := by decide +kernel
theorem dX6_doPlain_141 : decode cX6_doPlain 141 = .ok (.lreturn, 1) := by decide +kernel
set_option maxRecDepth 100000 in
set_option maxHeartbeats 4000000 in
theorem st_X6_doPlain (l : Launch) (M : Nat → Prop) (h : Nat) (p0 : Nat) (p1 : Int32) (p2 : Nat) (p3 : Int32) (p4 : Int64) : Ct l yX6_doPlain cX6_doPlain 8 (some .long) 2 0 0 48 (fun S av => av = [.ref h, .ref p0, .int p1, .ref p2, .int p3, .long p4] ∧ INV M [] S ∧ is S h 6 ∧ is S p0 5 ∧ is S p2 2) (fun S _ r S' => ∃ v, r = some (.long v) ∧ INV M [] S' ∧ ext S S' (fun a => ¬ M a ∧ mK S a ∈ [6, 7, 12])) := by
  refine ct_of (by decide) (fun S av h => by obtain ⟨rfl, iv, i_this, i_p0, i_p2⟩ := h; exact Nat.le_of_ble_eq_true rfl) ?_
  intro p e s m args below meth c D G bs S av C hr hin hpre
  obtain ⟨rfl, iv, i_this, i_p0, i_p2⟩ := hpre
  have E0 : ext S S (fun a => ¬ M a ∧ mK S a ∈ [6, 7, 12]) := ext_rfl
  refine v_aload_n C dX6_doPlain_0 rfl ?_
  refine v_iload_n C dX6_doPlain_1 rfl ?_
  refine v_callV (As := [_]) (n := 1) C (st_X5_firstAt l _ _ _) rfl i_p0 (by decide) rfl ⟨wd750, wd751, wd752, wd344, wd753⟩ ⟨rfl, hy_X5_firstAt⟩ rfl ⟨Nat.le_of_ble_eq_true rfl, Nat.le_of_ble_eq_true rfl⟩ (Nat.le_of_ble_eq_true rfl) ⟨Nat.le_of_ble_eq_true rfl, Nat.le_of_ble_eq_true rfl⟩ dX6_doPlain_2 ⟨rfl, iv, i_p0⟩ (fun r_2 S2_2 h_2 => ?_)
  obtain ⟨v2, rfl, q_v2⟩ := h_2
  obtain rfl := q_v2.symm
  refine v_istore C dX6_doPlain_5 (by decide) (by first | rfl | exact cat_ok _ | simp [okS, cat_rf]) ?_
  refine v_aload_n C dX6_doPlain_7 rfl ?_
  refine v_iload_n C dX6_doPlain_8 rfl ?_
  refine v_callV (As := [_]) (n := 1) C (st_X5_kindAt l _ _ _) rfl i_p0 (by decide) rfl ⟨wd754, wd755, wd756, wd344, wd757⟩ ⟨rfl, hy_X5_kindAt⟩ rfl ⟨Nat.le_of_ble_eq_true rfl, Nat.le_of_ble_eq_true rfl⟩ (Nat.le_of_ble_eq_true rfl) ⟨Nat.le_of_ble_eq_true rfl, Nat.le_of_ble_eq_true rfl⟩ dX6_doPlain_9 ⟨rfl, iv, i_p0⟩ (fun r_9 S2_9 h_9 => ?_)
  obtain ⟨v9, rfl, q_v9⟩ := h_9
  obtain rfl := q_v9.symm
  refine v_topi (fun k12 ek12 => ?_)
  by_cases k_0 : k12 = 0
  · skip
    refine v_tableIn (off := 56) (tgt := 68) C dX6_doPlain_12 (by rw [k_0]; decide) (by rw [k_0]; decide) (by rw [k_0]; rfl) (by decide) ?_
    refine v_aload_n C dX6_doPlain_68 rfl ?_
    obtain ⟨a69, e_a69, i_a69⟩ := T385 iv i_this List.not_mem_nil
    refine r6_12 (b := a69) C i_this e_a69 dX6_doPlain_69 ?_
    refine v_aload_n C dX6_doPlain_72 rfl ?_
    refine g6_78 C i_p2 dX6_doPlain_73 ?_
    refine v_topi (fun v73 e_v73 => ?_)
    refine v_aload_n C dX6_doPlain_76 rfl ?_
    refine g6_130 C i_p0 dX6_doPlain_77 ?_
    refine v_topi (fun v77 e_v77 => ?_)
    refine v_iload C dX6_doPlain_80 rfl ?_
    refine v_iload C dX6_doPlain_82 rfl ?_
    refine v_lload C dX6_doPlain_84 rfl ?_
    refine v_callV (As := [_, _, _, _, _]) (n := 5) C (st_X7_add l _ _ _ _ _ _ _) rfl i_a69 (by decide) rfl ⟨wd799, wd800, wd801, wd67, wd802⟩ ⟨rfl, hy_X7_add⟩ rfl ⟨Nat.le_of_ble_eq_true rfl, Nat.le_of_ble_eq_true rfl⟩ (Nat.le_of_ble_eq_true rfl) ⟨Nat.le_of_ble_eq_true rfl, Nat.le_of_ble_eq_true rfl⟩ dX6_doPlain_86 ⟨rfl, iv, i_a69⟩ (fun r_86 S4_86 h_86 => ?_)
    obtain ⟨rfl, iv2, x_86⟩ := h_86
    have i_this := is_ext x_86 i_this
    have i_p0 := is_ext x_86 i_p0
    have i_p2 := is_ext x_86 i_p2
    have i_a69 := is_ext x_86 i_a69
    have E0' := ext_tr E0 x_86 (xk_call E0 (by decide))
    have E0 := E0'
    have iv := iv2
    refine v_lload C dX6_doPlain_89 rfl ?_
    refine v_lret C hr (Nat.le_of_ble_eq_true rfl) (Nat.le_of_ble_eq_true rfl) dX6_doPlain_91 ?_
    exact ⟨_, rfl, iv, E0⟩
  by_cases k_1 : k12 = 1
  · skip
    refine v_tableIn (off := 80) (tgt := 92) C dX6_doPlain_12 (by rw [k_1]; decide) (by rw [k_1]; decide) (by rw [k_1]; rfl) (by decide) ?_
    refine v_aload_n C dX6_doPlain_92 rfl ?_
    refine v_iload C dX6_doPlain_93 rfl ?_
    refine v_lload C dX6_doPlain_95 rfl ?_
    refine v_callV (As := [_, _]) (n := 2) C (st_X2_putMood l _ _ _ _) rfl i_p2 (by decide) rfl ⟨wd804, wd805, wd806, wd271, wd807⟩ ⟨rfl, hy_X2_putMood⟩ rfl ⟨Nat.le_of_ble_eq_true rfl, Nat.le_of_ble_eq_true rfl⟩ (Nat.le_of_ble_eq_true rfl) ⟨Nat.le_of_ble_eq_true rfl, Nat.le_of_ble_eq_true rfl⟩ dX6_doPlain_97 ⟨rfl, iv, i_p2⟩ (fun r_97 S4_97 h_97 => ?_)
    obtain ⟨rfl, iv2, x_97⟩ := h_97
    have i_this := is_ext x_97 i_this
    have i_p0 := is_ext x_97 i_p0
    have i_p2 := is_ext x_97 i_p2
    have E0' := ext_tr E0 x_97 (xk_call E0 (by decide))
    have E0 := E0'
    have iv := iv2
    refine v_lload C dX6_doPlain_100 rfl ?_
    refine v_lret C hr (Nat.le_of_ble_eq_true rfl) (Nat.le_of_ble_eq_true rfl) dX6_doPlain_102 ?_
    exact ⟨_, rfl, iv, E0⟩
  by_cases k_2 : k12 = 2
  · skip
    refine v_tableIn (off := 91) (tgt := 103) C dX6_doPlain_12 (by rw [k_2]; decide) (by rw [k_2]; decide) (by rw [k_2]; rfl) (by decide) ?_
    refine v_aload_n C dX6_doPlain_103 rfl ?_
    refine v_iload C dX6_doPlain_104 rfl ?_
    refine v_callV (As := [_]) (n := 1) C (st_X2_moodAt l _ _ _) rfl i_p2 (by decide) rfl ⟨wd808, wd809, wd810, wd271, wd811⟩ ⟨rfl, hy_X2_moodAt⟩ rfl ⟨Nat.le_of_ble_eq_true rfl, Nat.le_of_ble_eq_true rfl⟩ (Nat.le_of_ble_eq_true rfl) ⟨Nat.le_of_ble_eq_true rfl, Nat.le_of_ble_eq_true rfl⟩ dX6_doPlain_106 ⟨rfl, iv, i_p2⟩ (fun r_106 S4_106 h_106 => ?_)
    obtain ⟨v106, rfl, q_v106⟩ := h_106
    obtain rfl := q_v106.symm
    refine v_lret C hr (Nat.le_of_ble_eq_true rfl) (Nat.le_of_ble_eq_true rfl) dX6_doPlain_109 ?_
    exact ⟨_, rfl, iv, E0⟩
  by_cases k_3 : k12 = 3
  · skip
    refine v_tableIn (off := 98) (tgt := 110) C dX6_doPlain_12 (by rw [k_3]; decide) (by rw [k_3]; decide) (by rw [k_3]; rfl) (by decide) ?_
    refine v_lload C dX6_doPlain_110 rfl ?_
    refine v_aload_n C dX6_doPlain_112 rfl ?_
    refine v_iload C dX6_doPlain_113 rfl ?_
    refine v_callV (As := [_]) (n := 1) C (st_X2_moodAt l _ _ _) rfl i_p2 (by decide) rfl ⟨wd808, wd809, wd810, wd271, wd811⟩ ⟨rfl, hy_X2_moodAt⟩ rfl ⟨Nat.le_of_ble_eq_true rfl, Nat.le_of_ble_eq_true rfl⟩ (Nat.le_of_ble_eq_true rfl) ⟨Nat.le_of_ble_eq_true rfl, Nat.le_of_ble_eq_true rfl⟩ dX6_doPlain_115 ⟨rfl, iv, i_p2⟩ (fun r_115 S4_115 h_115 => ?_)
    obtain ⟨v115, rfl, q_v115⟩ := h_115
    obtain rfl := q_v115.symm
    refine v_ladd C dX6_doPlain_118 ?_
    refine v_lret C hr (Nat.le_of_ble_eq_true rfl) (Nat.le_of_ble_eq_true rfl) dX6_doPlain_119 ?_
    exact ⟨_, rfl, iv, E0⟩
  by_cases k_4 : k12 = 4
  · skip
    refine v_tableIn (off := 108) (tgt := 120) C dX6_doPlain_12 (by rw [k_4]; decide) (by rw [k_4]; decide) (by rw [k_4]; rfl) (by decide) ?_
    refine v_lload C dX6_doPlain_120 rfl ?_
    refine v_iload C dX6_doPlain_122 rfl ?_
    refine v_i2l C dX6_doPlain_124 ?_
    refine v_ladd C dX6_doPlain_125 ?_
    refine v_lret C hr (Nat.le_of_ble_eq_true rfl) (Nat.le_of_ble_eq_true rfl) dX6_doPlain_126 ?_
    exact ⟨_, rfl, iv, E0⟩
  by_cases k_5 : k12 = 5
  · skip
    refine v_tableIn (off := 127) (tgt := 139) C dX6_doPlain_12 (by rw [k_5]; decide) (by rw [k_5]; decide) (by rw [k_5]; rfl) (by decide) ?_
    refine v_lload C dX6_doPlain_139 rfl ?_
    refine v_lret C hr (Nat.le_of_ble_eq_true rfl) (Nat.le_of_ble_eq_true rfl) dX6_doPlain_141 ?_
    exact ⟨_, rfl, iv, E0⟩
  by_cases k_6 : k12 = 6
  · skip
    refine v_tableIn (off := 127) (tgt := 139) C dX6_doPlain_12 (by rw [k_6]; decide) (by rw [k_6]; decide) (by rw [k_6]; rfl) (by decide) ?_
    refine v_lload C dX6_doPlain_139 rfl ?_
    refine v_lret C hr (Nat.le_of_ble_eq_true rfl) (Nat.le_of_ble_eq_true rfl) dX6_doPlain_141 ?_
    exact ⟨_, rfl, iv, E0⟩
  by_cases k_7 : k12 = 7
  · skip
    refine v_tableIn (off := 127) (tgt := 139) C dX6_doPlain_12 (by rw [k_7]; decide) (by rw [k_7]; decide) (by rw [k_7]; rfl) (by decide) ?_
    refine v_lload C dX6_doPlain_139 rfl ?_
    refine v_lret C hr (Nat.le_of_ble_eq_true rfl) (Nat.le_of_ble_eq_true rfl) dX6_doPlain_141 ?_
    exact ⟨_, rfl, iv, E0⟩
  by_cases k_8 : k12 = 8
  · skip
    refine v_tableIn (off := 127) (tgt := 139) C dX6_doPlain_12 (by rw [k_8]; decide) (by rw [k_8]; decide) (by rw [k_8]; rfl) (by decide) ?_
    refine v_lload C dX6_doPlain_139 rfl ?_
    refine v_lret C hr (Nat.le_of_ble_eq_true rfl) (Nat.le_of_ble_eq_true rfl) dX6_doPlain_141 ?_
    exact ⟨_, rfl, iv, E0⟩
  by_cases k_9 : k12 = 9
  · skip
    refine v_tableIn (off := 115) (tgt := 127) C dX6_doPlain_12 (by rw [k_9]; decide) (by rw [k_9]; decide) (by rw [k_9]; rfl) (by decide) ?_
    refine v_aload_n C dX6_doPlain_127 rfl ?_
    refine v_iload C dX6_doPlain_128 rfl ?_
    refine p6_43 C i_this dX6_doPlain_130 ?_
    refine V.gen (fun S4_130 e_130 => ?_)
    have iv' := inv_sI e_130 iv (by decide) (by decide)
    have x_130 := x_sI e_130
    have E0' := ext_tr E0 x_130 (xk_is E0 i_this iv (by decide) (by decide))
    have E0 := E0'
    have i_this := is_ext x_130 i_this
    have i_p0 := is_ext x_130 i_p0
    have i_p2 := is_ext x_130 i_p2
    have iv := iv'
    refine v_aload_n C dX6_doPlain_133 rfl ?_
    refine v_iconst (v := 1) C dX6_doPlain_134 (by decide) ?_
    refine v_callV (As := [_]) (n := 1) C (st_X6_fail l _ _ _) rfl i_this (by decide) rfl ⟨wd733, wd734, wd735, wd19, wd736⟩ ⟨rfl, hy_X6_fail⟩ rfl ⟨Nat.le_of_ble_eq_true rfl, Nat.le_of_ble_eq_true rfl⟩ (Nat.le_of_ble_eq_true rfl) ⟨Nat.le_of_ble_eq_true rfl, Nat.le_of_ble_eq_true rfl⟩ dX6_doPlain_135 ⟨rfl, iv, i_this⟩ (fun r_135 S4_135 h_135 => ?_)
    obtain ⟨v135, rfl, iv2, x_135⟩ := h_135
    have i_this := is_ext x_135 i_this
    have i_p0 := is_ext x_135 i_p0
    have i_p2 := is_ext x_135 i_p2
    have E0' := ext_tr E0 x_135 (xk_call E0 (by decide))
    have E0 := E0'
    have iv := iv2
    refine v_lret C hr (Nat.le_of_ble_eq_true rfl) (Nat.le_of_ble_eq_true rfl) dX6_doPlain_138 ?_
    exact ⟨_, rfl, iv, E0⟩
  refine v_tableOut (tgt := 139) C dX6_doPlain_12 (by have q0 := lv_neT k_0 (a := 0) rfl ; have q1 := lv_neT k_1 (a := 1) rfl ; have q2 := lv_neT k_2 (a := 2) rfl ; have q3 := lv_neT k_3 (a := 3) rfl ; have q4 := lv_neT k_4 (a := 4) rfl ; have q5 := lv_neT k_5 (a := 5) rfl ; have q6 := lv_neT k_6 (a := 6) rfl ; have q7 := lv_neT k_7 (a := 7) rfl ; have q8 := lv_neT k_8 (a := 8) rfl ; have q9 := lv_neT k_9 (a := 9) rfl ; omega) (by decide) ?_
  refine v_lload C dX6_doPlain_139 rfl ?_
  refine v_lret C hr (Nat.le_of_ble_eq_true rfl) (Nat.le_of_ble_eq_true rfl) dX6_doPlain_141 ?_
  exact ⟨_, rfl, iv, E0⟩
theorem dX9_isOp_0 : decode cX9_isOp 0 = .ok (.iload_n 0, 1) := by decide +kernel
theorem dX9_isOp_1 : decode cX9_isOp 1 = .ok (.tableswitch 95 1 10 #[55, 55, 55, 95, 61, 95, 66, 73, 95, 61], 55) := by decide +kernel
theorem dX9_isOp_56 : decode cX9_isOp 56 = .ok (.iload_n 1, 1) := by decide +kernel
theorem dX9_isOp_57 : decode cX9_isOp 57 = .ok (.iconst 4, 1) := by decide +kernel
theorem dX9_isOp_58 : decode cX9_isOp 58 = .ok (.invokestatic 44, 3) := by decide +kernel
theorem dX9_isOp_61 : decode cX9_isOp 61 = .ok (.ireturn, 1) := by decide +kernel
theorem dX9_isOp_62 : decode cX9_isOp 62 = .ok (.iload_n 1, 1) := by decide +kernel
theorem dX9_isOp_63 : decode cX9_isOp 63 = .ok (.invokestatic 80, 3) := by decide +kernel
theorem dX9_isOp_66 : decode cX9_isOp 66 = .ok (.ireturn, 1) := by decide +kernel
theorem dX9_isOp_67 : decode cX9_isOp 67 = .ok (.iload_n 1, 1) := by decide +kernel
theorem dX9_isOp_68 : decode cX9_isOp 68 = .ok (.bipush 20, 2) := by decide +kernel
theorem dX9_isOp_70 : decode cX9_isOp 70 = .ok (.invokestatic 44, 3) := by decide +kernel
theorem dX9_isOp_73 : decode cX9_isOp 73 = .ok (.ireturn, 1) := by decide +kernel
theorem dX9_isOp_74 : decode cX9_isOp 74 = .ok (.iload_n 1, 1) := by decide +kernel
theorem dX9_isOp_75 : decode cX9_isOp 75 = .ok (.bipush 12, 2) := by decide +kernel
theorem dX9_isOp_77 : decode cX9_isOp 77 = .ok (.invokestatic 44, 3) := by decide +kernel
theorem dX9_isOp_80 : decode cX9_isOp 80 = .ok (.ifCond .eq 14, 3) := by decide +kernel
theorem dX9_isOp_83 : decode cX9_isOp 83 = .ok (.iload_n 2, 1) := by decide +kernel
theorem dX9_isOp_84 : decode cX9_isOp 84 = .ok (.invokestatic 80, 3) := by decide +kernel
theorem dX9_isOp_87 : decode cX9_isOp 87 = .ok (.ifCond .eq 7, 3) := by decide +kernel
theorem dX9_isOp_90 : decode cX9_isOp 90 = .ok (.iconst 1, 1) := by decide +kernel
theorem dX9_isOp_91 : decode cX9_isOp 91 = .ok (.goto 4, 3) := by decide +kernel
theorem dX9_isOp_94 : decode cX9_isOp 94 = .ok (.iconst 0, 1) := by decide +kernel
theorem dX9_isOp_95 : decode cX9_isOp 95 = .ok (.ireturn, 1) := by decide +kernel
theorem dX9_isOp_96 : decode cX9_isOp 96 = .ok (.iload_n 0, 1) := by decide +kernel
theorem dX9_isOp_97 : decode cX9_isOp 97 = .ok (.bipush 13, 2) := by decide +kernel
theorem dX9_isOp_99 : decode cX9_isOp 99 = .ok (.invokestatic 44, 3) := by decide +kernel
theorem dX9_isOp_102 : decode cX9_isOp 102 = .ok (.ireturn, 1) := by decide +kernel
set_option maxRecDepth 100000 in
set_option maxHeartbeats 4000000 in
theorem st_X9_isOp (l : Launch) (p0 : Int32) (p1 : Int32) (p2 : Int32) : Ct l yX9_isOp cX9_isOp 3 (some .boolean) 2 0 0 41 (fun S av => av = [.int p0, .int p1, .int p2]) (fun S _ r S' => ∃ v, r = some (.int (bI v)) ∧ S' = S) := by
  refine ct_of (by decide) (fun S av h => by obtain rfl := h; exact Nat.le_of_ble_eq_true rfl) ?_
  intro p e s m args below meth c D G bs S av C hr hin hpre
  obtain rfl := hpre
  refine v_iload_n C dX9_isOp_0 rfl ?_
  refine v_topi (fun k1 ek1 => ?_)
  by_cases k_1 : k1 = 1
  · skip
    refine v_tableIn (off := 55) (tgt := 56) C dX9_isOp_1 (by rw [k_1]; decide) (by rw [k_1]; decide) (by rw [k_1]; rfl) (by decide) ?_
    refine v_iload_n C dX9_isOp_56 rfl ?_
    refine v_iconst (v := 4) C dX9_isOp_57 (by decide) ?_
    refine v_callS (As := [_, _]) (n := 2) C (sb_isBelow l _ _) rfl ⟨wd264, wd141, wd2, wd142⟩ hy_X9_isBelow rfl ⟨Nat.le_of_ble_eq_true rfl, Nat.le_of_ble_eq_true rfl⟩ (Nat.le_of_ble_eq_true rfl) ⟨Nat.le_of_ble_eq_true rfl, Nat.le_of_ble_eq_true rfl⟩ dX9_isOp_58 rfl (fun r_58 S4_58 h_58 => ?_)
    obtain ⟨v58, rfl, p_v58, q_v58⟩ := h_58
    obtain rfl := q_v58.symm
    refine v_zret C hr (by first | rfl | exact bI_nar _) (Nat.le_of_ble_eq_true rfl) (Nat.le_of_ble_eq_true rfl) dX9_isOp_61 ?_
    first
      | exact ⟨true, rfl, rfl⟩
      | exact ⟨false, rfl, rfl⟩
      | exact ⟨_, rfl, rfl⟩
  by_cases k_2 : k1 = 2
  · skip
    refine v_tableIn (off := 55) (tgt := 56) C dX9_isOp_1 (by rw [k_2]; decide) (by rw [k_2]; decide) (by rw [k_2]; rfl) (by decide) ?_
    refine v_iload_n C dX9_isOp_56 rfl ?_
    refine v_iconst (v := 4) C dX9_isOp_57 (by decide) ?_
    refine v_callS (As := [_, _]) (n := 2) C (sb_isBelow l _ _) rfl ⟨wd264, wd141, wd2, wd142⟩ hy_X9_isBelow rfl ⟨Nat.le_of_ble_eq_true rfl, Nat.le_of_ble_eq_true rfl⟩ (Nat.le_of_ble_eq_true rfl) ⟨Nat.le_of_ble_eq_true rfl, Nat.le_of_ble_eq_true rfl⟩ dX9_isOp_58 rfl (fun r_58 S4_58 h_58 => ?_)
    obtain ⟨v58, rfl, p_v58, q_v58⟩ := h_58
    obtain rfl := q_v58.symm
    refine v_zret C hr (by first | rfl | exact bI_nar _) (Nat.le_of_ble_eq_true rfl) (Nat.le_of_ble_eq_true rfl) dX9_isOp_61 ?_
    first
      | exact ⟨true, rfl, rfl⟩
      | exact ⟨false, rfl, rfl⟩
      | exact ⟨_, rfl, rfl⟩
  by_cases k_3 : k1 = 3
  · skip
    refine v_tableIn (off := 55) (tgt := 56) C dX9_isOp_1 (by rw [k_3]; decide) (by rw [k_3]; decide) (by rw [k_3]; rfl) (by decide) ?_
    refine v_iload_n C dX9_isOp_56 rfl ?_
    refine v_iconst (v := 4) C dX9_isOp_57 (by decide) ?_
    refine v_callS (As := [_, _]) (n := 2) C (sb_isBelow l _ _) rfl ⟨wd264, wd141, wd2, wd142⟩ hy_X9_isBelow rfl ⟨Nat.le_of_ble_eq_true rfl, Nat.le_of_ble_eq_true rfl⟩ (Nat.le_of_ble_eq_true rfl) ⟨Nat.le_of_ble_eq_true rfl, Nat.le_of_ble_eq_true rfl⟩ dX9_isOp_58 rfl (fun r_58 S4_58 h_58 => ?_)
    obtain ⟨v58, rfl, p_v58, q_v58⟩ := h_58
    obtain rfl := q_v58.symm
    refine v_zret C hr (by first | rfl | exact bI_nar _) (Nat.le_of_ble_eq_true rfl) (Nat.le_of_ble_eq_true rfl) dX9_isOp_61 ?_
    first
      | exact ⟨true, rfl, rfl⟩
      | exact ⟨false, rfl, rfl⟩
      | exact ⟨_, rfl, rfl⟩
  by_cases k_4 : k1 = 4
  · skip
    refine v_tableIn (off := 95) (tgt := 96) C dX9_isOp_1 (by rw [k_4]; decide) (by rw [k_4]; decide) (by rw [k_4]; rfl) (by decide) ?_
    refine v_iload_n C dX9_isOp_96 rfl ?_
    refine v_bipush (v := 13) C dX9_isOp_97 (by decide) ?_
    refine v_callS (As := [_, _]) (n := 2) C (sb_isBelow l _ _) rfl ⟨wd264, wd141, wd2, wd142⟩ hy_X9_isBelow rfl ⟨Nat.le_of_ble_eq_true rfl, Nat.le_of_ble_eq_true rfl⟩ (Nat.le_of_ble_eq_true rfl) ⟨Nat.le_of_ble_eq_true rfl, Nat.le_of_ble_eq_true rfl⟩ dX9_isOp_99 rfl (fun r_99 S4_99 h_99 => ?_)
    obtain ⟨v99, rfl, p_v99, q_v99⟩ := h_99
    obtain rfl := q_v99.symm
    refine v_zret C hr (by first | rfl | exact bI_nar _) (Nat.le_of_ble_eq_true rfl) (Nat.le_of_ble_eq_true rfl) dX9_isOp_102 ?_
    first
      | exact ⟨true, rfl, rfl⟩
      | exact ⟨false, rfl, rfl⟩
      | exact ⟨_, rfl, rfl⟩
  by_cases k_5 : k1 = 5
  · skip
    refine v_tableIn (off := 61) (tgt := 62) C dX9_isOp_1 (by rw [k_5]; decide) (by rw [k_5]; decide) (by rw [k_5]; rfl) (by decide) ?_
    refine v_iload_n C dX9_isOp_62 rfl ?_
    refine v_callS (As := [_]) (n := 1) C (sb_isAct l _) rfl ⟨wd345, wd346, wd2, wd347⟩ hy_X9_isAct rfl ⟨Nat.le_of_ble_eq_true rfl, Nat.le_of_ble_eq_true rfl⟩ (Nat.le_of_ble_eq_true rfl) ⟨Nat.le_of_ble_eq_true rfl, Nat.le_of_ble_eq_true rfl⟩ dX9_isOp_63 rfl (fun r_63 S4_63 h_63 => ?_)
    obtain ⟨v63, rfl, p_v63, q_v63⟩ := h_63
    obtain rfl := q_v63.symm
    refine v_zret C hr (by first | rfl | exact bI_nar _) (Nat.le_of_ble_eq_true rfl) (Nat.le_of_ble_eq_true rfl) dX9_isOp_66 ?_
    first
      | exact ⟨true, rfl, rfl⟩
      | exact ⟨false, rfl, rfl⟩
      | exact ⟨_, rfl, rfl⟩
  by_cases k_6 : k1 = 6
  · skip
    refine v_tableIn (off := 95) (tgt := 96) C dX9_isOp_1 (by rw [k_6]; decide) (by rw [k_6]; decide) (by rw [k_6]; rfl) (by decide) ?_
    refine v_iload_n C dX9_isOp_96 rfl ?_
    refine v_bipush (v := 13) C dX9_isOp_97 (by decide) ?_
    refine v_callS (As := [_, _]) (n := 2) C (sb_isBelow l _ _) rfl ⟨wd264, wd141, wd2, wd142⟩ hy_X9_isBelow rfl ⟨Nat.le_of_ble_eq_true rfl, Nat.le_of_ble_eq_true rfl⟩ (Nat.le_of_ble_eq_true rfl) ⟨Nat.le_of_ble_eq_true rfl, Nat.le_of_ble_eq_true rfl⟩ dX9_isOp_99 rfl (fun r_99 S4_99 h_99 => ?_)
    obtain ⟨v99, rfl, p_v99, q_v99⟩ := h_99
    obtain rfl := q_v99.symm
    refine v_zret C hr (by first | rfl | exact bI_nar _) (Nat.le_of_ble_eq_true rfl) (Nat.le_of_ble_eq_true rfl) dX9_isOp_102 ?_
    first
      | exact ⟨true, rfl, rfl⟩
      | exact ⟨false, rfl, rfl⟩
      | exact ⟨_, rfl, rfl⟩
  by_cases k_7 : k1 = 7
  · skip
    refine v_tableIn (off := 66) (tgt := 67) C dX9_isOp_1 (by rw [k_7]; decide) (by rw [k_7]; decide) (by rw [k_7]; rfl) (by decide) ?_
    refine v_iload_n C dX9_isOp_67 rfl ?_
    refine v_bipush (v := 20) C dX9_isOp_68 (by decide) ?_
    refine v_callS (As := [_, _]) (n := 2) C (sb_isBelow l _ _) rfl ⟨wd264, wd141, wd2, wd142⟩ hy_X9_isBelow rfl ⟨Nat.le_of_ble_eq_true rfl, Nat.le_of_ble_eq_true rfl⟩ (Nat.le_of_ble_eq_true rfl) ⟨Nat.le_of_ble_eq_true rfl, Nat.le_of_ble_eq_true rfl⟩ dX9_isOp_70 rfl (fun r_70 S4_70 h_70 => ?_)
    obtain ⟨v70, rfl, p_v70, q_v70⟩ := h_70
    obtain rfl := q_v70.symm
    refine v_zret C hr (by first | rfl | exact bI_nar _) (Nat.le_of_ble_eq_true rfl) (Nat.le_of_ble_eq_true rfl) dX9_isOp_73 ?_
    first
      | exact ⟨true, rfl, rfl⟩
      | exact ⟨false, rfl, rfl⟩
      | exact ⟨_, rfl, rfl⟩
  by_cases k_8 : k1 = 8
  · skip
    refine v_tableIn (off := 73) (tgt := 74) C dX9_isOp_1 (by rw [k_8]; decide) (by rw [k_8]; decide) (by rw [k_8]; rfl) (by decide) ?_
    refine v_iload_n C dX9_isOp_74 rfl ?_
    refine v_bipush (v := 12) C dX9_isOp_75 (by decide) ?_
    refine v_callS (As := [_, _]) (n := 2) C (sb_isBelow l _ _) rfl ⟨wd264, wd141, wd2, wd142⟩ hy_X9_isBelow rfl ⟨Nat.le_of_ble_eq_true rfl, Nat.le_of_ble_eq_true rfl⟩ (Nat.le_of_ble_eq_true rfl) ⟨Nat.le_of_ble_eq_true rfl, Nat.le_of_ble_eq_true rfl⟩ dX9_isOp_77 rfl (fun r_77 S4_77 h_77 => ?_)
    obtain ⟨v77, rfl, p_v77, q_v77⟩ := h_77
    obtain rfl := q_v77.symm
    refine v_if_eq (tgt := 94) C dX9_isOp_80 (by decide) (fun c_80 => ?_) (fun c_80 => ?_)
    · skip
      refine v_iconst (v := 0) C dX9_isOp_94 (by decide) ?_
      refine v_zret C hr (by first | rfl | exact bI_nar _) (Nat.le_of_ble_eq_true rfl) (Nat.le_of_ble_eq_true rfl) dX9_isOp_95 ?_
      first
        | exact ⟨true, rfl, rfl⟩
        | exact ⟨false, rfl, rfl⟩
        | exact ⟨_, rfl, rfl⟩
    · skip
      refine v_iload_n C dX9_isOp_83 rfl ?_
      refine v_callS (As := [_]) (n := 1) C (sb_isAct l _) rfl ⟨wd345, wd346, wd2, wd347⟩ hy_X9_isAct rfl ⟨Nat.le_of_ble_eq_true rfl, Nat.le_of_ble_eq_true rfl⟩ (Nat.le_of_ble_eq_true rfl) ⟨Nat.le_of_ble_eq_true rfl, Nat.le_of_ble_eq_true rfl⟩ dX9_isOp_84 rfl (fun r_84 S6_84 h_84 => ?_)
      obtain ⟨v84, rfl, p_v84, q_v84⟩ := h_84
      obtain rfl := q_v84.symm
      refine v_if_eq (tgt := 94) C dX9_isOp_87 (by decide) (fun c_87 => ?_) (fun c_87 => ?_)
      · skip
        refine v_iconst (v := 0) C dX9_isOp_94 (by decide) ?_
        refine v_zret C hr (by first | rfl | exact bI_nar _) (Nat.le_of_ble_eq_true rfl) (Nat.le_of_ble_eq_true rfl) dX9_isOp_95 ?_
        first
          | exact ⟨true, rfl, rfl⟩
          | exact ⟨false, rfl, rfl⟩
          | exact ⟨_, rfl, rfl⟩
      · skip
        refine v_iconst (v := 1) C dX9_isOp_90 (by decide) ?_
        refine v_goto (tgt := 95) C dX9_isOp_91 (by decide) ?_
        refine v_zret C hr (by first | rfl | exact bI_nar _) (Nat.le_of_ble_eq_true rfl) (Nat.le_of_ble_eq_true rfl) dX9_isOp_95 ?_
        first
          | exact ⟨true, rfl, rfl⟩
          | exact ⟨false, rfl, rfl⟩
          | exact ⟨_, rfl, rfl⟩
  by_cases k_9 : k1 = 9
  · skip
    refine v_tableIn (off := 95) (tgt := 96) C dX9_isOp_1 (by rw [k_9]; decide) (by rw [k_9]; decide) (by rw [k_9]; rfl) (by decide) ?_
    refine v_iload_n C dX9_isOp_96 rfl ?_
    refine v_bipush (v := 13) C dX9_isOp_97 (by decide) ?_
    refine v_callS (As := [_, _]) (n := 2) C (sb_isBelow l _ _) rfl ⟨wd264, wd141, wd2, wd142⟩ hy_X9_isBelow rfl ⟨Nat.le_of_ble_eq_true rfl, Nat.le_of_ble_eq_true rfl⟩ (Nat.le_of_ble_eq_true rfl) ⟨Nat.le_of_ble_eq_true rfl, Nat.le_of_ble_eq_true rfl⟩ dX9_isOp_99 rfl (fun r_99 S4_99 h_99 => ?_)
    obtain ⟨v99, rfl, p_v99, q_v99⟩ := h_99
    obtain rfl := q_v99.symm
    refine v_zret C hr (by first | rfl | exact bI_nar _) (Nat.le_of_ble_eq_true rfl) (Nat.le_of_ble_eq_true rfl) dX9_isOp_102 ?_
    first
      | exact ⟨true, rfl, rfl⟩
      | exact ⟨false, rfl, rfl⟩
      | exact ⟨_, rfl, rfl⟩
  by_cases k_10 : k1 = 10
  · skip
    refine v_tableIn (off := 61) (tgt := 62) C dX9_isOp_1 (by rw [k_10]; decide) (by rw [k_10]; decide) (by rw [k_10]; rfl) (by decide) ?_
    refine v_iload_n C dX9_isOp_62 rfl ?_
    refine v_callS (As := [_]) (n := 1) C (sb_isAct l _) rfl ⟨wd345, wd346, wd2, wd347⟩ hy_X9_isAct rfl ⟨Nat.le_of_ble_eq_true rfl, Nat.le_of_ble_eq_true rfl⟩ (Nat.le_of_ble_eq_true rfl) ⟨Nat.le_of_ble_eq_true rfl, Nat.le_of_ble_eq_true rfl⟩ dX9_isOp_63 rfl (fun r_63 S4_63 h_63 => ?_)
    obtain ⟨v63, rfl, p_v63, q_v63⟩ := h_63
    obtain rfl := q_v63.symm
    refine v_zret C hr (by first | rfl | exact bI_nar _) (Nat.le_of_ble_eq_true rfl) (Nat.le_of_ble_eq_true rfl) dX9_isOp_66 ?_
    first
      | exact ⟨true, rfl, rfl⟩
      | exact ⟨false, rfl, rfl⟩
      | exact ⟨_, rfl, rfl⟩
  refine v_tableOut (tgt := 96) C dX9_isOp_1 (by have q1 := lv_neT k_1 (a := 1) rfl ; have q2 := lv_neT k_2 (a := 2) rfl ; have q3 := lv_neT k_3 (a := 3) rfl ; have q4 := lv_neT k_4 (a := 4) rfl ; have q5 := lv_neT k_5 (a := 5) rfl ; have q6 := lv_neT k_6 (a := 6) rfl ; have q7 := lv_neT k_7 (a := 7) rfl ; have q8 := lv_neT k_8 (a := 8) rfl ; have q9 := lv_neT k_9 (a := 9) rfl ; have q10 := lv_neT k_10 (a := 10) rfl ; omega) (by decide) ?_
  refine v_iload_n C dX9_isOp_96 rfl ?_
  refine v_bipush (v := 13) C dX9_isOp_97 (by decide) ?_
  refine v_callS (As := [_, _]) (n := 2) C (sb_isBelow l _ _) rfl ⟨wd264, wd141, wd2, wd142⟩ hy_X9_isBelow rfl ⟨Nat.le_of_ble_eq_true rfl, Nat.le_of_ble_eq_true rfl⟩ (Nat.le_of_ble_eq_true rfl) ⟨Nat.le_of_ble_eq_true rfl, Nat.le_of_ble_eq_true rfl⟩ dX9_isOp_99 rfl (fun r_99 S2_99 h_99 => ?_)
  obtain ⟨v99, rfl, p_v99, q_v99⟩ := h_99
  obtain rfl := q_v99.symm
  refine v_zret C hr (by first | rfl | exact bI_nar _) (Nat.le_of_ble_eq_true rfl) (Nat.le_of_ble_eq_true rfl) dX9_isOp_102 ?_
  first
    | exact ⟨true, rfl, rfl⟩
    | exact ⟨false, rfl, rfl⟩
    | exact ⟨_, rfl, rfl⟩
theorem dX9_trait_0 : decode cX9_trait 0 = .ok (.aload_n 0, 1) := by decide +kernel
theorem dX9_trait_1 : decode cX9_trait 1 = .ok (.getfield 10, 3) := by decide +kernel
theorem dX9_trait_4 : decode cX9_trait 4 = .ok (.iload_n 1, 1) := by decide +kernel
theorem dX9_trait_5 : decode cX9_trait 5 = .ok (.iload_n 2, 1) := by decide +kernel
theorem dX9_trait_6 : decode cX9_trait 6 = .ok (.iload_n 3, 1) := by decide +kernel
theorem dX9_trait_7 : decode cX9_trait 7 = .ok (.invokevirtual 29, 3) := by decide +kernel
theorem dX9_trait_10 : decode cX9_trait 10 = .ok (.ifCond .ne 6, 3) := by decide +kernel
theorem dX9_trait_13 : decode cX9_trait 13 = .ok (.bipush (-2), 2) := by decide +kernel
theorem dX9_trait_15 : decode cX9_trait 15 = .ok (.ireturn, 1) := by decide +kernel
theorem dX9_trait_16 : decode cX9_trait 16 = .ok (.aload_n 0, 1) := by decide +kernel
theorem dX9_trait_17 : decode cX9_trait 17 = .ok (.getfield 10, 3) := by decide +kernel
theorem dX9_trait_20 : decode cX9_trait 20 = .ok (.iload_n 1, 1) := by decide +kernel
theorem dX9_trait_21 : decode cX9_trait 21 = .ok (.iload_n 2, 1) := by decide +kernel
theorem dX9_trait_22 : decode cX9_trait 22 = .ok (.iload_n 3, 1) := by decide +kernel
theorem dX9_trait_23 : decode cX9_trait 23 = .ok (.invokevirtual 33, 3) := by decide +kernel
theorem dX9_trait_26 : decode cX9_trait 26 = .ok (.ifCond .ne 6, 3) := by decide +kernel
theorem dX9_trait_29 : decode cX9_trait 29 = .ok (.bipush (-3), 2) := by decide +kernel
theorem dX9_trait_31 : decode cX9_trait 31 = .ok (.ireturn, 1) := by decide +kernel
theorem dX9_trait_32 : decode cX9_trait 32 = .ok (.aload_n 0, 1) := by decide +kernel
theorem dX9_trait_33 : decode cX9_trait 33 = .ok (.getfield 10, 3) := by decide +kernel
theorem dX9_trait_36 : decode cX9_trait 36 = .ok (.getfield 36, 3) := by decide +kernel
theorem dX9_trait_39 : decode cX9_trait 39 = .ok (.bipush 20, 2) := by decide +kernel
theorem dX9_trait_41 : decode cX9_trait 41 = .ok (.if_icmp .lt 8, 3) := by decide +kernel
theorem dX9_trait_44 : decode cX9_trait 44 = .ok (.bipush (-4), 2) := by decide +kernel
theorem dX9_trait_46 : decode cX9_trait 46 = .ok (.goto 10, 3) := by decide +kernel
theorem dX9_trait_49 : decode cX9_trait 49 = .ok (.aload_n 0, 1) := by decide +kernel
theorem dX9_trait_50 : decode cX9_trait 50 = .ok (.getfield 10, 3) := by decide +kernel
theorem dX9_trait_53 : decode cX9_trait 53 = .ok (.invokevirtual 40, 3) := by decide +kernel
theorem dX9_trait_56 : decode cX9_trait 56 = .ok (.ireturn, 1) := by decide +kernel
set_option maxRecDepth 100000 in
set_option maxHeartbeats 4000000 in
theorem st_X9_trait (l : Launch) (M : Nat → Prop) (h : Nat) (p0 : Int32) (p1 : Int32) (p2 : Int32) : Ct l yX9_trait cX9_trait 4 (some .int) 6 6 70 132 (fun S av => av = [.ref h, .int p0, .int p1, .int p2] ∧ INV M [] S ∧ is S h 9) (fun S _ r S' => ∃ v, r = some (.int v) ∧ INV M [] S' ∧ ext S S' (fun a => ¬ M a ∧ mK S a ∈ [1, 3, 4, 11, 15, 17])) := by
  refine ct_of (by decide) (fun S av h => by obtain ⟨rfl, iv, i_this⟩ := h; exact Nat.le_of_ble_eq_true rfl) ?_
  intro p e s m args below meth c D G bs S av C hr hin hpre
  obtain ⟨rfl, iv, i_this⟩ := hpre
  have E0 : ext S S (fun a => ¬ M a ∧ mK S a ∈ [1, 3, 4, 11, 15, 17]) := ext_rfl
  refine v_aload_n C dX9_trait_0 rfl ?_
  obtain ⟨a1, e_a1, i_a1⟩ := T576 iv i_this List.not_mem_nil
  refine r9_10 (b := a1) C i_this e_a1 dX9_trait_1 ?_
  refine v_iload_n C dX9_trait_4 rfl ?_
  refine v_iload_n C dX9_trait_5 rfl ?_
  refine v_iload_n C dX9_trait_6 rfl ?_
  refine v_callV (As := [_, _, _]) (n := 3) C (st_X1_canStandUnder l _ _ _ _ _) rfl i_a1 (by decide) rfl ⟨wd129, wd130, wd131, wd15, wd132⟩ ⟨rfl, hy_X1_canStandUnder⟩ rfl ⟨Nat.le_of_ble_eq_true rfl, Nat.le_of_ble_eq_true rfl⟩ (Nat.le_of_ble_eq_true rfl) ⟨Nat.le_of_ble_eq_true rfl, Nat.le_of_ble_eq_true rfl⟩ dX9_trait_7 ⟨rfl, iv, i_a1⟩ (fun r_7 S2_7 h_7 => ?_)
  obtain ⟨v7, rfl, q_v7⟩ := h_7
  obtain rfl := q_v7.symm
  refine v_if_ne (tgt := 16) C dX9_trait_10 (by decide) (fun c_10 => ?_) (fun c_10 => ?_)
  · skip
    refine v_aload_n C dX9_trait_16 rfl ?_
    obtain ⟨a17, e_a17, i_a17⟩ := T576 iv i_this List.not_mem_nil
    refine r9_10 (b := a17) C i_this e_a17 dX9_trait_17 ?_
    refine v_iload_n C dX9_trait_20 rfl ?_
    refine v_iload_n C dX9_trait_21 rfl ?_
    refine v_iload_n C dX9_trait_22 rfl ?_
    refine v_callV (As := [_, _, _]) (n := 3) C (st_X1_alignsUnder l _ _ _ _ _) rfl i_a17 (by decide) rfl ⟨wd143, wd144, wd145, wd15, wd146⟩ ⟨rfl, hy_X1_alignsUnder⟩ rfl ⟨Nat.le_of_ble_eq_true rfl, Nat.le_of_ble_eq_true rfl⟩ (Nat.le_of_ble_eq_true rfl) ⟨Nat.le_of_ble_eq_true rfl, Nat.le_of_ble_eq_true rfl⟩ dX9_trait_23 ⟨rfl, iv, i_a17⟩ (fun r_23 S4_23 h_23 => ?_)
    obtain ⟨v23, rfl, iv2, x_23⟩ := h_23
    have i_this := is_ext x_23 i_this
    have i_a1 := is_ext x_23 i_a1
    have i_a17 := is_ext x_23 i_a17
    have E0' := ext_tr E0 x_23 (xk_call E0 (by decide))
    have E0 := E0'
    have iv := iv2
    refine v_if_ne (tgt := 32) C dX9_trait_26 (by decide) (fun c_26 => ?_) (fun c_26 => ?_)
    · skip
      refine v_aload_n C dX9_trait_32 rfl ?_
      obtain ⟨a33, e_a33, i_a33⟩ := T576 iv i_this List.not_mem_nil
      refine r9_10 (b := a33) C i_this e_a33 dX9_trait_33 ?_
      refine g9_36 C i_a33 dX9_trait_36 ?_
      refine v_topi (fun v36 e_v36 => ?_)
      refine v_bipush (v := 20) C dX9_trait_39 (by decide) ?_
      refine v_icmp_lt (tgt := 49) C dX9_trait_41 (by decide) (fun c_41 => ?_) (fun c_41 => ?_)
      · skip
        refine v_aload_n C dX9_trait_49 rfl ?_
        obtain ⟨a50, e_a50, i_a50⟩ := T576 iv i_this List.not_mem_nil
        refine r9_10 (b := a50) C i_this e_a50 dX9_trait_50 ?_
        refine v_callV (As := []) (n := 0) C (st_X1_addTrait l _ _) rfl i_a50 (by decide) rfl ⟨wd206, wd207, wd208, wd15, wd209⟩ ⟨rfl, hy_X1_addTrait⟩ rfl ⟨Nat.le_of_ble_eq_true rfl, Nat.le_of_ble_eq_true rfl⟩ (Nat.le_of_ble_eq_true rfl) ⟨Nat.le_of_ble_eq_true rfl, Nat.le_of_ble_eq_true rfl⟩ dX9_trait_53 ⟨rfl, iv, i_a50⟩ (fun r_53 S8_53 h_53 => ?_)
        obtain ⟨v53, rfl, iv2, x_53⟩ := h_53
        have i_this := is_ext x_53 i_this
        have i_a1 := is_ext x_53 i_a1
        have i_a17 := is_ext x_53 i_a17
        have i_a33 := is_ext x_53 i_a33
        have i_a50 := is_ext x_53 i_a50
        have E0' := ext_tr E0 x_53 (xk_call E0 (by decide))
        have E0 := E0'
        have iv := iv2
        refine v_iret C hr (Nat.le_of_ble_eq_true rfl) (Nat.le_of_ble_eq_true rfl) dX9_trait_56 ?_
        exact ⟨_, rfl, iv, E0⟩
      · skip
        refine v_bipush (v := -4) C dX9_trait_44 (by decide) ?_
        refine v_goto (tgt := 56) C dX9_trait_46 (by decide) ?_
        refine v_iret C hr (Nat.le_of_ble_eq_true rfl) (Nat.le_of_ble_eq_true rfl) dX9_trait_56 ?_
        exact ⟨_, rfl, iv, E0⟩
    · skip
      refine v_bipush (v := -3) C dX9_trait_29 (by decide) ?_
      refine v_iret C hr (Nat.le_of_ble_eq_true rfl) (Nat.le_of_ble_eq_true rfl) dX9_trait_31 ?_
      exact ⟨_, rfl, iv, E0⟩
  · skip
    refine v_bipush (v := -2) C dX9_trait_13 (by decide) ?_
    refine v_iret C hr (Nat.le_of_ble_eq_true rfl) (Nat.le_of_ble_eq_true rfl) dX9_trait_15 ?_
    exact ⟨_, rfl, iv, E0⟩
theorem dX9_character_0 : decode cX9_character 0 = .ok (.iload_n 1, 1) := by decide +kernel
theorem dX9_character_1 : decode cX9_character 1 = .ok (.iconst 4, 1) := by decide +kernel
theorem dX9_character_2 : decode cX9_character 2 = .ok (.invokestatic 44, 3) := by decide +kernel
theorem dX9_character_5 : decode cX9_character 5 = .ok (.ifCond .ne 6, 3) := by decide +kernel
theorem dX9_character_8 : decode cX9_character 8 = .ok (.bipush (-2), 2) := by decide +kernel
theorem dX9_character_10 : decode cX9_character 10 = .ok (.ireturn, 1) := by decide +kernel
theorem dX9_character_11 : decode cX9_character 11 = .ok (.aload_n 0, 1) := by decide +kernel
theorem dX9_character_12 : decode cX9_character 12 = .ok (.getfield 10, 3) := by decide +kernel
theorem dX9_character_15 : decode cX9_character 15 = .ok (.getfield 48, 3) := by decide +kernel
theorem dX9_character_18 : decode cX9_character 18 = .ok (.bipush 12, 2) := by decide +kernel
theorem dX9_character_20 : decode cX9_character 20 = .ok (.if_icmp .lt 8, 3) := by decide +kernel
theorem dX9_character_23 : decode cX9_character 23 = .ok (.bipush (-4), 2) := by decide +kernel
theorem dX9_character_25 : decode cX9_character 25 = .ok (.goto 11, 3) := by decide +kernel
theorem dX9_character_28 : decode cX9_character 28 = .ok (.aload_n 0, 1) := by decide +kernel
theorem dX9_character_29 : decode cX9_character 29 = .ok (.getfield 10, 3) := by decide +kernel
theorem dX9_character_32 : decode cX9_character 32 = .ok (.iload_n 1, 1) := by decide +kernel
theorem dX9_character_33 : decode cX9_character 33 = .ok (.invokevirtual 51, 3) := by decide +kernel
theorem dX9_character_36 : decode cX9_character 36 = .ok (.ireturn, 1) := by decide +kernel
set_option maxRecDepth 100000 in
set_option maxHeartbeats 4000000 in
theorem st_X9_character (l : Launch) (M : Nat → Prop) (h : Nat) (p0 : Int32) : Ct l yX9_character cX9_character 2 (some .int) 4 11 809 87 (fun S av => av = [.ref h, .int p0] ∧ INV M [] S ∧ is S h 9) (fun S _ r S' => ∃ v, r = some (.int v) ∧ INV M [] S' ∧ ext S S' (fun a => ¬ M a ∧ mK S a ∈ [1, 14])) := by
  refine ct_of (by decide) (fun S av h => by obtain ⟨rfl, iv, i_this⟩ := h; exact Nat.le_of_ble_eq_true rfl) ?_
  intro p e s m args below meth c D G bs S av C hr hin hpre
  obtain ⟨rfl, iv, i_this⟩ := hpre
  have E0 : ext S S (fun a => ¬ M a ∧ mK S a ∈ [1, 14]) := ext_rfl
  refine v_iload_n C dX9_character_0 rfl ?_
  refine v_iconst (v := 4) C dX9_character_1 (by decide) ?_
  refine v_callS (As := [_, _]) (n := 2) C (sb_isBelow l _ _) rfl ⟨wd264, wd141, wd2, wd142⟩ hy_X9_isBelow rfl ⟨Nat.le_of_ble_eq_true rfl, Nat.le_of_ble_eq_true rfl⟩ (Nat.le_of_ble_eq_true rfl) ⟨Nat.le_of_ble_eq_true rfl, Nat.le_of_ble_eq_true rfl⟩ dX9_character_2 rfl (fun r_2 S2_2 h_2 => ?_)
  obtain ⟨v2, rfl, p_v2, q_v2⟩ := h_2
  obtain rfl := q_v2.symm
  refine v_if_ne (tgt := 11) C dX9_character_5 (by decide) (fun c_5 => ?_) (fun c_5 => ?_)
  · skip
    refine v_aload_n C dX9_character_11 rfl ?_
    obtain ⟨a12, e_a12, i_a12⟩ := T576 iv i_this List.not_mem_nil
    refine r9_10 (b := a12) C i_this e_a12 dX9_character_12 ?_
    refine g9_48 C i_a12 dX9_character_15 ?_
    refine v_topi (fun v15 e_v15 => ?_)
    refine v_bipush (v := 12) C dX9_character_18 (by decide) ?_
    refine v_icmp_lt (tgt := 28) C dX9_character_20 (by decide) (fun c_20 => ?_) (fun c_20 => ?_)
    · skip
      refine v_aload_n C dX9_character_28 rfl ?_
      obtain ⟨a29, e_a29, i_a29⟩ := T576 iv i_this List.not_mem_nil
      refine r9_10 (b := a29) C i_this e_a29 dX9_character_29 ?_
      refine v_iload_n C dX9_character_32 rfl ?_
      refine v_callV (As := [_]) (n := 1) C (st_X1_addFigure l _ _ _) rfl i_a29 (by decide) rfl ⟨wd265, wd266, wd267, wd15, wd268⟩ ⟨rfl, hy_X1_addFigure⟩ rfl ⟨Nat.le_of_ble_eq_true rfl, Nat.le_of_ble_eq_true rfl⟩ (Nat.le_of_ble_eq_true rfl) ⟨Nat.le_of_ble_eq_true rfl, Nat.le_of_ble_eq_true rfl⟩ dX9_character_33 ⟨rfl, iv, i_a29⟩ (fun r_33 S6_33 h_33 => ?_)
      obtain ⟨v33, rfl, iv2, x_33⟩ := h_33
      have i_this := is_ext x_33 i_this
      have i_a12 := is_ext x_33 i_a12
      have i_a29 := is_ext x_33 i_a29
      have E0' := ext_tr E0 x_33 (xk_call E0 (by decide))
      have E0 := E0'
      have iv := iv2
      refine v_iret C hr (Nat.le_of_ble_eq_true rfl) (Nat.le_of_ble_eq_true rfl) dX9_character_36 ?_
      exact ⟨_, rfl, iv, E0⟩
    · skip
      refine v_bipush (v := -4) C dX9_character_23 (by decide) ?_
      refine v_goto (tgt := 36) C dX9_character_25 (by decide) ?_
      refine v_iret C hr (Nat.le_of_ble_eq_true rfl) (Nat.le_of_ble_eq_true rfl) dX9_character_36 ?_
      exact ⟨_, rfl, iv, E0⟩
  · skip
    refine v_bipush (v := -2) C dX9_character_8 (by decide) ?_
    refine v_iret C hr (Nat.le_of_ble_eq_true rfl) (Nat.le_of_ble_eq_true rfl) dX9_character_10 ?_
    exact ⟨_, rfl, iv, E0⟩
theorem dX9_takes_0 : decode cX9_takes 0 = .ok (.aload_n 0, 1) := by decide +kernel
theorem dX9_takes_1 : decode cX9_takes 1 = .ok (.getfield 10, 3) := by decide +kernel
theorem dX9_takes_4 : decode cX9_takes 4 = .ok (.iload_n 1, 1) := by decide +kernel
theorem dX9_takes_5 : decode cX9_takes 5 = .ok (.invokevirtual 55, 3) := by decide +kernel
theorem dX9_takes_8 : decode cX9_takes 8 = .ok (.astore_n 3, 1) := by decide +kernel
theorem dX9_takes_9 : decode cX9_takes 9 = .ok (.aload_n 3, 1) := by decide +kernel
theorem dX9_takes_10 : decode cX9_takes 10 = .ok (.ifnull 22, 3) := by decide +kernel
theorem dX9_takes_13 : decode cX9_takes 13 = .ok (.aload_n 0, 1) := by decide +kernel
theorem dX9_takes_14 : decode cX9_takes 14 = .ok (.getfield 10, 3) := by decide +kernel
theorem dX9_takes_17 : decode cX9_takes 17 = .ok (.iload_n 2, 1) := by decide +kernel
theorem dX9_takes_18 : decode cX9_takes 18 = .ok (.invokevirtual 59, 3) := by decide +kernel
theorem dX9_takes_21 : decode cX9_takes 21 = .ok (.ifnull 11, 3) := by decide +kernel
theorem dX9_takes_24 : decode cX9_takes 24 = .ok (.aload_n 3, 1) := by decide +kernel
theorem dX9_takes_25 : decode cX9_takes 25 = .ok (.iload_n 2, 1) := by decide +kernel
theorem dX9_takes_26 : decode cX9_takes 26 = .ok (.invokevirtual 63, 3) := by decide +kernel
theorem dX9_takes_29 : decode cX9_takes 29 = .ok (.ifCond .eq 6, 3) := by decide +kernel
theorem dX9_takes_32 : decode cX9_takes 32 = .ok (.bipush (-2), 2) := by decide +kernel
theorem dX9_takes_34 : decode cX9_takes 34 = .ok (.ireturn, 1) := by decide +kernel
theorem dX9_takes_35 : decode cX9_takes 35 = .ok (.aload_n 0, 1) := by decide +kernel
theorem dX9_takes_36 : decode cX9_takes 36 = .ok (.getfield 10, 3) := by decide +kernel
theorem dX9_takes_39 : decode cX9_takes 39 = .ok (.aload_n 3, 1) := by decide +kernel
theorem dX9_takes_40 : decode cX9_takes 40 = .ok (.iload_n 2, 1) := by decide +kernel
theorem dX9_takes_41 : decode cX9_takes 41 = .ok (.invokevirtual 69, 3) := by decide +kernel
theorem dX9_takes_44 : decode cX9_takes 44 = .ok (.ifCond .ne 6, 3) := by decide +kernel
theorem dX9_takes_47 : decode cX9_takes 47 = .ok (.bipush (-3), 2) := by decide +kernel
theorem dX9_takes_49 : decode cX9_takes 49 = .ok (.ireturn, 1) := by decide +kernel
theorem dX9_takes_50 : decode cX9_takes 50 = .ok (.aload_n 3, 1) := by decide +kernel
theorem dX9_takes_51 : decode cX9_takes 51 = .ok (.getfield 73, 3) := by decide +kernel
theorem dX9_takes_54 : decode cX9_takes 54 = .ok (.iconst 5, 1) := by decide +kernel
theorem dX9_takes_55 : decode cX9_takes 55 = .ok (.if_icmp .lt 8, 3) := by decide +kernel
theorem dX9_takes_58 : decode cX9_takes 58 = .ok (.bipush (-4), 2) := by decide +kernel
theorem dX9_takes_60 : decode cX9_takes 60 = .ok (.goto 12, 3) := by decide +kernel
theorem dX9_takes_63 : decode cX9_takes 63 = .ok (.aload_n 0, 1) := by decide +kernel
theorem dX9_takes_64 : decode cX9_takes 64 = .ok (.getfield 10, 3) := by decide +kernel
theorem dX9_takes_67 : decode cX9_takes 67 = .ok (.aload_n 3, 1) := by decide +kernel
theorem dX9_takes_68 : decode cX9_takes 68 = .ok (.iload_n 2, 1) := by decide +kernel
theorem dX9_takes_69 : decode cX9_takes 69 = .ok (.invokevirtual 76, 3) := by decide +kernel
theorem dX9_takes_72 : decode cX9_takes 72 = .ok (.ireturn, 1) := by decide +kernel
set_option maxRecDepth 100000 in
set_option maxHeartbeats 4000000 in
theorem st_X9_takes (l : Launch) (M : Nat → Prop) (h : Nat) (p0 : Int32) (p1 : Int32) : Ct l yX9_takes cX9_takes 4 (some .int) 6 0 0 132 (fun S av => av = [.ref h, .int p0, .int p1] ∧ INV M [] S ∧ is S h 9) (fun S _ r S' => ∃ v, r = some (.int v) ∧ INV M [] S' ∧ ext S S' (fun a => ¬ M a ∧ mK S a ∈ [2, 3, 4, 11, 15])) := by
  refine ct_of (by decide) (fun S av h => by obtain ⟨rfl, iv, i_this⟩ := h; exact Nat.le_of_ble_eq_true rfl) ?_
  intro p e s m args below meth c D G bs S av C hr hin hpre
  obtain ⟨rfl, iv, i_this⟩ := hpre
  have E0 : ext S S (fun a => ¬ M a ∧ mK S a ∈ [2, 3, 4, 11, 15]) := ext_rfl
  refine v_aload_n C dX9_takes_0 rfl ?_
  obtain ⟨a1, e_a1, i_a1⟩ := T576 iv i_this List.not_mem_nil
  refine r9_10 (b := a1) C i_this e_a1 dX9_takes_1 ?_
  refine v_iload_n C dX9_takes_4 rfl ?_
  refine v_callV (As := [_]) (n := 1) C (st_X1_figureAt l _ _ _) rfl i_a1 (by decide) rfl ⟨wd300, wd301, wd302, wd15, wd303⟩ ⟨rfl, hy_X1_figureAt⟩ rfl ⟨Nat.le_of_ble_eq_true rfl, Nat.le_of_ble_eq_true rfl⟩ (Nat.le_of_ble_eq_true rfl) ⟨Nat.le_of_ble_eq_true rfl, Nat.le_of_ble_eq_true rfl⟩ dX9_takes_5 ⟨rfl, iv, i_a1⟩ (fun r_5 S2_5 h_5 => ?_)
  obtain ⟨v5, rfl, n_v5, q_v5⟩ := h_5
  obtain rfl := q_v5.symm
  refine v_qstore_n C dX9_takes_8 (by decide) (by first | rfl | exact cat_ok _ | simp [okS, cat_rf]) ?_
  refine v_qload_n C dX9_takes_9 rfl ?_
  refine v_ifnull (tgt := 32) C dX9_takes_10 (by decide) (fun c_10 => ?_) (fun b10 c_10 => ?_)
  · skip
    subst c_10
    refine v_bipush (v := -2) C dX9_takes_32 (by decide) ?_
    refine v_iret C hr (Nat.le_of_ble_eq_true rfl) (Nat.le_of_ble_eq_true rfl) dX9_takes_34 ?_
    exact ⟨_, rfl, iv, E0⟩
  · skip
    subst c_10
    have i_b10 := nOK_some n_v5 rfl
    refine v_aload_n C dX9_takes_13 rfl ?_
    obtain ⟨a14, e_a14, i_a14⟩ := T576 iv i_this List.not_mem_nil
    refine r9_10 (b := a14) C i_this e_a14 dX9_takes_14 ?_
    refine v_iload_n C dX9_takes_17 rfl ?_
    refine v_callV (As := [_]) (n := 1) C (st_X1_traitAt l _ _ _) rfl i_a14 (by decide) rfl ⟨wd304, wd138, wd139, wd15, wd140⟩ ⟨rfl, hy_X1_traitAt⟩ rfl ⟨Nat.le_of_ble_eq_true rfl, Nat.le_of_ble_eq_true rfl⟩ (Nat.le_of_ble_eq_true rfl) ⟨Nat.le_of_ble_eq_true rfl, Nat.le_of_ble_eq_true rfl⟩ dX9_takes_18 ⟨rfl, iv, i_a14⟩ (fun r_18 S4_18 h_18 => ?_)
    obtain ⟨v18, rfl, n_v18, q_v18⟩ := h_18
    obtain rfl := q_v18.symm
    refine v_ifnull (tgt := 32) C dX9_takes_21 (by decide) (fun c_21 => ?_) (fun b21 c_21 => ?_)
    · skip
      subst c_21
      refine v_bipush (v := -2) C dX9_takes_32 (by decide) ?_
      refine v_iret C hr (Nat.le_of_ble_eq_true rfl) (Nat.le_of_ble_eq_true rfl) dX9_takes_34 ?_
      exact ⟨_, rfl, iv, E0⟩
    · skip
      subst c_21
      have i_b21 := nOK_some n_v18 rfl
      refine v_aload_n C dX9_takes_24 rfl ?_
      refine v_iload_n C dX9_takes_25 rfl ?_
      refine v_callV (As := [_]) (n := 1) C (st_X2_hasTaken l _ _ _) rfl i_b10 (by decide) rfl ⟨wd305, wd306, wd307, wd271, wd308⟩ ⟨rfl, hy_X2_hasTaken⟩ rfl ⟨Nat.le_of_ble_eq_true rfl, Nat.le_of_ble_eq_true rfl⟩ (Nat.le_of_ble_eq_true rfl) ⟨Nat.le_of_ble_eq_true rfl, Nat.le_of_ble_eq_true rfl⟩ dX9_takes_26 ⟨rfl, iv, i_b10⟩ (fun r_26 S6_26 h_26 => ?_)
      obtain ⟨v26, rfl, q_v26⟩ := h_26
      obtain rfl := q_v26.symm
      refine v_if_eq (tgt := 35) C dX9_takes_29 (by decide) (fun c_29 => ?_) (fun c_29 => ?_)
      · skip
        refine v_aload_n C dX9_takes_35 rfl ?_
        obtain ⟨a36, e_a36, i_a36⟩ := T576 iv i_this List.not_mem_nil
        refine r9_10 (b := a36) C i_this e_a36 dX9_takes_36 ?_
        refine v_aload_n C dX9_takes_39 rfl ?_
        refine v_iload_n C dX9_takes_40 rfl ?_
        refine v_callV (As := [_, _]) (n := 2) C (st_X1_alignsTaking l _ _ _ _) rfl i_a36 (by decide) rfl ⟨wd314, wd315, wd316, wd15, wd317⟩ ⟨rfl, hy_X1_alignsTaking⟩ rfl ⟨Nat.le_of_ble_eq_true rfl, Nat.le_of_ble_eq_true rfl⟩ (Nat.le_of_ble_eq_true rfl) ⟨Nat.le_of_ble_eq_true rfl, Nat.le_of_ble_eq_true rfl⟩ dX9_takes_41 ⟨rfl, iv, i_a36, i_b10⟩ (fun r_41 S8_41 h_41 => ?_)
        obtain ⟨v41, rfl, iv2, x_41⟩ := h_41
        have i_this := is_ext x_41 i_this
        have i_a1 := is_ext x_41 i_a1
        have i_b10 := is_ext x_41 i_b10
        have i_a14 := is_ext x_41 i_a14
        have i_b21 := is_ext x_41 i_b21
        have i_a36 := is_ext x_41 i_a36
        have E0' := ext_tr E0 x_41 (xk_call E0 (by decide))
        have E0 := E0'
        have iv := iv2
        refine v_if_ne (tgt := 50) C dX9_takes_44 (by decide) (fun c_44 => ?_) (fun c_44 => ?_)
        · skip
          refine v_aload_n C dX9_takes_50 rfl ?_
          refine g9_73 C i_b10 dX9_takes_51 ?_
          refine v_topi (fun v51 e_v51 => ?_)
          refine v_iconst (v := 5) C dX9_takes_54 (by decide) ?_
          refine v_icmp_lt (tgt := 63) C dX9_takes_55 (by decide) (fun c_55 => ?_) (fun c_55 => ?_)
          · skip
            refine v_aload_n C dX9_takes_63 rfl ?_
            obtain ⟨a64, e_a64, i_a64⟩ := T576 iv i_this List.not_mem_nil
            refine r9_10 (b := a64) C i_this e_a64 dX9_takes_64 ?_
            refine v_aload_n C dX9_takes_67 rfl ?_
            refine v_iload_n C dX9_takes_68 rfl ?_
            refine v_callV (As := [_, _]) (n := 2) C (st_X1_addTaken l _ _ _ _) rfl i_a64 (by decide) rfl ⟨wd320, wd321, wd322, wd15, wd323⟩ ⟨rfl, hy_X1_addTaken⟩ rfl ⟨Nat.le_of_ble_eq_true rfl, Nat.le_of_ble_eq_true rfl⟩ (Nat.le_of_ble_eq_true rfl) ⟨Nat.le_of_ble_eq_true rfl, Nat.le_of_ble_eq_true rfl⟩ dX9_takes_69 ⟨rfl, iv, i_a64, i_b10⟩ (fun r_69 S12_69 h_69 => ?_)
            obtain ⟨v69, rfl, iv2, x_69⟩ := h_69
            have i_this := is_ext x_69 i_this
            have i_a1 := is_ext x_69 i_a1
            have i_b10 := is_ext x_69 i_b10
            have i_a14 := is_ext x_69 i_a14
            have i_b21 := is_ext x_69 i_b21
            have i_a36 := is_ext x_69 i_a36
            have i_a64 := is_ext x_69 i_a64
            have E0' := ext_tr E0 x_69 (xk_call E0 (by decide))
            have E0 := E0'
            have iv := iv2
            refine v_iret C hr (Nat.le_of_ble_eq_true rfl) (Nat.le_of_ble_eq_true rfl) dX9_takes_72 ?_
            exact ⟨_, rfl, iv, E0⟩
          · skip
            refine v_bipush (v := -4) C dX9_takes_58 (by decide) ?_
            refine v_goto (tgt := 72) C dX9_takes_60 (by decide) ?_
            refine v_iret C hr (Nat.le_of_ble_eq_true rfl) (Nat.le_of_ble_eq_true rfl) dX9_takes_72 ?_
            exact ⟨_, rfl, iv, E0⟩
        · skip
          refine v_bipush (v := -3) C dX9_takes_47 (by decide) ?_
          refine v_iret C hr (Nat.le_of_ble_eq_true rfl) (Nat.le_of_ble_eq_true rfl) dX9_takes_49 ?_
          exact ⟨_, rfl, iv, E0⟩
      · skip
        refine v_bipush (v := -2) C dX9_takes_32 (by decide) ?_
        refine v_iret C hr (Nat.le_of_ble_eq_true rfl) (Nat.le_of_ble_eq_true rfl) dX9_takes_34 ?_
        exact ⟨_, rfl, iv, E0⟩
theorem dX9_body_0 : decode cX9_body 0 = .ok (.aload_n 0, 1) := by decide +kernel
theorem dX9_body_1 : decode cX9_body 1 = .ok (.getfield 10, 3) := by decide +kernel
theorem dX9_body_4 : decode cX9_body 4 = .ok (.iload_n 1, 1) := by decide +kernel
theorem dX9_body_5 : decode cX9_body 5 = .ok (.invokevirtual 59, 3) := by decide +kernel
theorem dX9_body_8 : decode cX9_body 8 = .ok (.astore 5, 2) := by decide +kernel
theorem dX9_body_10 : decode cX9_body 10 = .ok (.aload 5, 2) := by decide +kernel
theorem dX9_body_12 : decode cX9_body 12 = .ok (.ifnull 27, 3) := by decide +kernel
theorem dX9_body_15 : decode cX9_body 15 = .ok (.iload_n 2, 1) := by decide +kernel
theorem dX9_body_16 : decode cX9_body 16 = .ok (.invokestatic 80, 3) := by decide +kernel
theorem dX9_body_19 : decode cX9_body 19 = .ok (.ifCond .eq 20, 3) := by decide +kernel
theorem dX9_body_22 : decode cX9_body 22 = .ok (.iload_n 3, 1) := by decide +kernel
theorem dX9_body_23 : decode cX9_body 23 = .ok (.iconst 3, 1) := by decide +kernel
theorem dX9_body_24 : decode cX9_body 24 = .ok (.invokestatic 44, 3) := by decide +kernel
theorem dX9_body_27 : decode cX9_body 27 = .ok (.ifCond .eq 12, 3) := by decide +kernel
theorem dX9_body_30 : decode cX9_body 30 = .ok (.iload 4, 2) := by decide +kernel
theorem dX9_body_32 : decode cX9_body 32 = .ok (.iconst 4, 1) := by decide +kernel
theorem dX9_body_33 : decode cX9_body 33 = .ok (.invokestatic 44, 3) := by decide +kernel
theorem dX9_body_36 : decode cX9_body 36 = .ok (.ifCond .ne 6, 3) := by decide +kernel
theorem dX9_body_39 : decode cX9_body 39 = .ok (.bipush (-2), 2) := by decide +kernel
theorem dX9_body_41 : decode cX9_body 41 = .ok (.ireturn, 1) := by decide +kernel
theorem dX9_body_42 : decode cX9_body 42 = .ok (.aload_n 0, 1) := by decide +kernel
theorem dX9_body_43 : decode cX9_body 43 = .ok (.new 83, 3) := by decide +kernel
theorem dX9_body_46 : decode cX9_body 46 = .ok (.dup, 1) := by decide +kernel
theorem dX9_body_47 : decode cX9_body 47 = .ok (.iload_n 1, 1) := by decide +kernel
theorem dX9_body_48 : decode cX9_body 48 = .ok (.iconst (-1), 1) := by decide +kernel
theorem dX9_body_49 : decode cX9_body 49 = .ok (.iload_n 3, 1) := by decide +kernel
theorem dX9_body_50 : decode cX9_body 50 = .ok (.iload 4, 2) := by decide +kernel
theorem dX9_body_52 : decode cX9_body 52 = .ok (.iconst 0, 1) := by decide +kernel
theorem dX9_body_53 : decode cX9_body 53 = .ok (.invokespecial 85, 3) := by decide +kernel
theorem dX9_body_56 : decode cX9_body 56 = .ok (.putfield 25, 3) := by decide +kernel
theorem dX9_body_59 : decode cX9_body 59 = .ok (.aload 5, 2) := by decide +kernel
theorem dX9_body_61 : decode cX9_body 61 = .ok (.iload_n 2, 1) := by decide +kernel
theorem dX9_body_62 : decode cX9_body 62 = .ok (.aload_n 0, 1) := by decide +kernel
theorem dX9_body_63 : decode cX9_body 63 = .ok (.getfield 25, 3) := by decide +kernel
theorem dX9_body_66 : decode cX9_body 66 = .ok (.invokevirtual 88, 3) := by decide +kernel
theorem dX9_body_69 : decode cX9_body 69 = .ok (.iconst 1, 1) := by decide +kernel
theorem dX9_body_70 : decode cX9_body 70 = .ok (.ireturn, 1) := by decide +kernel
set_option maxRecDepth 100000 in
set_option maxHeartbeats 4000000 in
theorem st_X9_body (l : Launch) (M : Nat → Prop) (h : Nat) (p0 : Int32) (p1 : Int32) (p2 : Int32) (p3 : Int32) : Ct l yX9_body cX9_body 6 (some .int) 2 4 33 43 (fun S av => av = [.ref h, .int p0, .int p1, .int p2, .int p3] ∧ INV M [] S ∧ is S h 9) (fun S _ r S' => ∃ v, r = some (.int v) ∧ INV M [] S' ∧ ext S S' (fun a => ¬ M a ∧ mK S a ∈ [9, 16])) := by
  refine ct_of (by decide) (fun S av h => by obtain ⟨rfl, iv, i_this⟩ := h; exact Nat.le_of_ble_eq_true rfl) ?_
  intro p e s m args below meth c D G bs S av C hr hin hpre
  obtain ⟨rfl, iv, i_this⟩ := hpre
  have E0 : ext S S (fun a => ¬ M a ∧ mK S a ∈ [9, 16]) := ext_rfl
  refine v_aload_n C dX9_body_0 rfl ?_
  obtain ⟨a1, e_a1, i_a1⟩ := T576 iv i_this List.not_mem_nil
  refine r9_10 (b := a1) C i_this e_a1 dX9_body_1 ?_
  refine v_iload_n C dX9_body_4 rfl ?_
  refine v_callV (As := [_]) (n := 1) C (st_X1_traitAt l _ _ _) rfl i_a1 (by decide) rfl ⟨wd304, wd138, wd139, wd15, wd140⟩ ⟨rfl, hy_X1_traitAt⟩ rfl ⟨Nat.le_of_ble_eq_true rfl, Nat.le_of_ble_eq_true rfl⟩ (Nat.le_of_ble_eq_true rfl) ⟨Nat.le_of_ble_eq_true rfl, Nat.le_of_ble_eq_true rfl⟩ dX9_body_5 ⟨rfl, iv, i_a1⟩ (fun r_5 S2_5 h_5 => ?_)
  obtain ⟨v5, rfl, n_v5, q_v5⟩ := h_5
  obtain rfl := q_v5.symm
  refine v_qstore C dX9_body_8 (by decide) (by first | rfl | exact cat_ok _ | simp [okS, cat_rf]) ?_
  refine v_qload C dX9_body_10 rfl ?_
  refine v_ifnull (tgt := 39) C dX9_body_12 (by decide) (fun c_12 => ?_) (fun b12 c_12 => ?_)
  · skip
    subst c_12
    refine v_bipush (v := -2) C dX9_body_39 (by decide) ?_
    refine v_iret C hr (Nat.le_of_ble_eq_true rfl) (Nat.le_of_ble_eq_true rfl) dX9_body_41 ?_
    exact ⟨_, rfl, iv, E0⟩
  · skip
    subst c_12
    have i_b12 := nOK_some n_v5 rfl
    refine v_iload_n C dX9_body_15 rfl ?_
    refine v_callS (As := [_]) (n := 1) C (sb_isAct l _) rfl ⟨wd345, wd346, wd2, wd347⟩ hy_X9_isAct rfl ⟨Nat.le_of_ble_eq_true rfl, Nat.le_of_ble_eq_true rfl⟩ (Nat.le_of_ble_eq_true rfl) ⟨Nat.le_of_ble_eq_true rfl, Nat.le_of_ble_eq_true rfl⟩ dX9_body_16 rfl (fun r_16 S4_16 h_16 => ?_)
    obtain ⟨v16, rfl, p_v16, q_v16⟩ := h_16
    obtain rfl := q_v16.symm
    refine v_if_eq (tgt := 39) C dX9_body_19 (by decide) (fun c_19 => ?_) (fun c_19 => ?_)
    · skip
      refine v_bipush (v := -2) C dX9_body_39 (by decide) ?_
      refine v_iret C hr (Nat.le_of_ble_eq_true rfl) (Nat.le_of_ble_eq_true rfl) dX9_body_41 ?_
      exact ⟨_, rfl, iv, E0⟩
    · skip
      refine v_iload_n C dX9_body_22 rfl ?_
      refine v_iconst (v := 3) C dX9_body_23 (by decide) ?_
      refine v_callS (As := [_, _]) (n := 2) C (sb_isBelow l _ _) rfl ⟨wd264, wd141, wd2, wd142⟩ hy_X9_isBelow rfl ⟨Nat.le_of_ble_eq_true rfl, Nat.le_of_ble_eq_true rfl⟩ (Nat.le_of_ble_eq_true rfl) ⟨Nat.le_of_ble_eq_true rfl, Nat.le_of_ble_eq_true rfl⟩ dX9_body_24 rfl (fun r_24 S6_24 h_24 => ?_)
      obtain ⟨v24, rfl, p_v24, q_v24⟩ := h_24
      obtain rfl := q_v24.symm
      refine v_if_eq (tgt := 39) C dX9_body_27 (by decide) (fun c_27 => ?_) (fun c_27 => ?_)
      · skip
        refine v_bipush (v := -2) C dX9_body_39 (by decide) ?_
        refine v_iret C hr (Nat.le_of_ble_eq_true rfl) (Nat.le_of_ble_eq_true rfl) dX9_body_41 ?_
        exact ⟨_, rfl, iv, E0⟩
      · skip
        refine v_iload C dX9_body_30 rfl ?_
        refine v_iconst (v := 4) C dX9_body_32 (by decide) ?_
        refine v_callS (As := [_, _]) (n := 2) C (sb_isBelow l _ _) rfl ⟨wd264, wd141, wd2, wd142⟩ hy_X9_isBelow rfl ⟨Nat.le_of_ble_eq_true rfl, Nat.le_of_ble_eq_true rfl⟩ (Nat.le_of_ble_eq_true rfl) ⟨Nat.le_of_ble_eq_true rfl, Nat.le_of_ble_eq_true rfl⟩ dX9_body_33 rfl (fun r_33 S8_33 h_33 => ?_)
        obtain ⟨v33, rfl, p_v33, q_v33⟩ := h_33
        obtain rfl := q_v33.symm
        refine v_if_ne (tgt := 42) C dX9_body_36 (by decide) (fun c_36 => ?_) (fun c_36 => ?_)
        · skip
          refine v_aload_n C dX9_body_42 rfl ?_
          refine v_new C (ci := 5) (by decide) rfl inlX5 tyX5_ok wd342 wd343 wd344 nfX5 (Nat.le_of_ble_eq_true rfl) (Nat.le_of_ble_eq_true rfl) dX9_body_43 (fun a43 n_a43 => ?_)
          have nn_a43 := fun z => n_a43 (E0.1 a43 z).1
          refine V.gen (fun S10_43 e_43 => ?_)
          have iv' := inv_sNew e_43 iv n_a43 (by decide)
          have x_43 := x_sNew e_43 n_a43
          have E0' := ext_tr E0 x_43 (fun _ _ z => z.elim)
          have E0 := E0'
          have i_this := is_ext x_43 i_this
          have i_a1 := is_ext x_43 i_a1
          have i_b12 := is_ext x_43 i_b12
          have iv := iv'
          have i_a43 := is_sNewE e_43 n_a43
          have z_a43 := mI_newE e_43
          refine v_dup C dX9_body_46 rfl ?_
          refine v_iload_n C dX9_body_47 rfl ?_
          refine v_iconst (v := -1) C dX9_body_48 (by decide) ?_
          refine v_iload_n C dX9_body_49 rfl ?_
          refine v_iload C dX9_body_50 rfl ?_
          refine v_iconst (v := 0) C dX9_body_52 (by decide) ?_
          refine v_callI (As := [_, _, _, _, _]) (n := 5) C (st_X5_init l _ _ _ _ _ _ _ _) rfl ⟨wd348, wd349, wd344, wd350⟩ rfl hy_X5_init rfl ⟨Nat.le_of_ble_eq_true rfl, Nat.le_of_ble_eq_true rfl⟩ (Nat.le_of_ble_eq_true rfl) ⟨Nat.le_of_ble_eq_true rfl, Nat.le_of_ble_eq_true rfl⟩ dX9_body_53 ⟨rfl, iv, i_a43, (by decide)⟩ (fun r_53 S10_53 h_53 => ?_)
          obtain ⟨rfl, iv2, x_53⟩ := h_53
          have E0' := ext_tr E0 x_53 (xn nn_a43)
          have E0 := E0'
          have i_this := is_ext x_53 i_this
          have i_a1 := is_ext x_53 i_a1
          have i_b12 := is_ext x_53 i_b12
          have i_a43 := is_ext x_53 i_a43
          have iv := iv2
          refine p9_25 (v := some _) C i_this dX9_body_56 ?_
          refine V.gen (fun S10_56 e_56 => ?_)
          have iv' := inv_sO e_56 iv (Or.inr (F578 (nOK_is i_a43)))
          have x_56 := x_sO e_56
          have E0' := ext_tr E0 x_56 (xk_is E0 i_this iv (by decide) (by decide))
          have E0 := E0'
          have i_this := is_ext x_56 i_this
          have i_a1 := is_ext x_56 i_a1
          have i_b12 := is_ext x_56 i_b12
          have i_a43 := is_ext x_56 i_a43
          have iv := iv'
          have o_578 := mo_put e_56
          refine v_aload C dX9_body_59 rfl ?_
          refine v_iload_n C dX9_body_61 rfl ?_
          refine v_aload_n C dX9_body_62 rfl ?_
          refine r9_25 C i_this o_578 dX9_body_63 ?_
          refine v_callV (As := [_, _]) (n := 2) C (st_X8_setBody l _ _ _ _) rfl i_b12 (by decide) rfl ⟨wd360, wd361, wd362, wd212, wd363⟩ ⟨rfl, hy_X8_setBody⟩ rfl ⟨Nat.le_of_ble_eq_true rfl, Nat.le_of_ble_eq_true rfl⟩ (Nat.le_of_ble_eq_true rfl) ⟨Nat.le_of_ble_eq_true rfl, Nat.le_of_ble_eq_true rfl⟩ dX9_body_66 ⟨rfl, iv, i_b12, i_a43⟩ (fun r_66 S10_66 h_66 => ?_)
          obtain ⟨rfl, iv2, x_66⟩ := h_66
          have i_this := is_ext x_66 i_this
          have i_a1 := is_ext x_66 i_a1
          have i_b12 := is_ext x_66 i_b12
          have i_a43 := is_ext x_66 i_a43
          have E0' := ext_tr E0 x_66 (xk_call E0 (by decide))
          have E0 := E0'
          have iv := iv2
          refine v_iconst (v := 1) C dX9_body_69 (by decide) ?_
          refine v_iret C hr (Nat.le_of_ble_eq_true rfl) (Nat.le_of_ble_eq_true rfl) dX9_body_70 ?_
          exact ⟨_, rfl, iv, E0⟩
        · skip
          refine v_bipush (v := -2) C dX9_body_39 (by decide) ?_
          refine v_iret C hr (Nat.le_of_ble_eq_true rfl) (Nat.le_of_ble_eq_true rfl) dX9_body_41 ?_
          exact ⟨_, rfl, iv, E0⟩
theorem dX9_need_0 : decode cX9_need 0 = .ok (.aload_n 0, 1) := by decide +kernel
theorem dX9_need_1 : decode cX9_need 1 = .ok (.getfield 10, 3) := by decide +kernel
theorem dX9_need_4 : decode cX9_need 4 = .ok (.iload_n 1, 1) := by decide +kernel
theorem dX9_need_5 : decode cX9_need 5 = .ok (.invokevirtual 59, 3) := by decide +kernel
theorem dX9_need_8 : decode cX9_need 8 = .ok (.astore 4, 2) := by decide +kernel
theorem dX9_need_10 : decode cX9_need 10 = .ok (.aload 4, 2) := by decide +kernel
theorem dX9_need_12 : decode cX9_need 12 = .ok (.ifnull 18, 3) := by decide +kernel
theorem dX9_need_15 : decode cX9_need 15 = .ok (.iload_n 2, 1) := by decide +kernel
theorem dX9_need_16 : decode cX9_need 16 = .ok (.invokestatic 80, 3) := by decide +kernel
theorem dX9_need_19 : decode cX9_need 19 = .ok (.ifCond .eq 11, 3) := by decide +kernel
theorem dX9_need_22 : decode cX9_need 22 = .ok (.iload_n 3, 1) := by decide +kernel
theorem dX9_need_23 : decode cX9_need 23 = .ok (.iconst 4, 1) := by decide +kernel
theorem dX9_need_24 : decode cX9_need 24 = .ok (.invokestatic 44, 3) := by decide +kernel
theorem dX9_need_27 : decode cX9_need 27 = .ok (.ifCond .ne 6, 3) := by decide +kernel
theorem dX9_need_30 : decode cX9_need 30 = .ok (.bipush (-2), 2) := by decide +kernel
theorem dX9_need_32 : decode cX9_need 32 = .ok (.ireturn, 1) := by decide +kernel
theorem dX9_need_33 : decode cX9_need 33 = .ok (.aload 4, 2) := by decide +kernel
theorem dX9_need_35 : decode cX9_need 35 = .ok (.iload_n 2, 1) := by decide +kernel
theorem dX9_need_36 : decode cX9_need 36 = .ok (.new 83, 3) := by decide +kernel
theorem dX9_need_39 : decode cX9_need 39 = .ok (.dup, 1) := by decide +kernel
theorem dX9_need_40 : decode cX9_need 40 = .ok (.iload_n 1, 1) := by decide +kernel
theorem dX9_need_41 : decode cX9_need 41 = .ok (.iconst (-1), 1) := by decide +kernel
theorem dX9_need_42 : decode cX9_need 42 = .ok (.iconst 0, 1) := by decide +kernel
theorem dX9_need_43 : decode cX9_need 43 = .ok (.iload_n 3, 1) := by decide +kernel
theorem dX9_need_44 : decode cX9_need 44 = .ok (.iconst 1, 1) := by decide +kernel
theorem dX9_need_45 : decode cX9_need 45 = .ok (.invokespecial 85, 3) := by decide +kernel
theorem dX9_need_48 : decode cX9_need 48 = .ok (.invokevirtual 88, 3) := by decide +kernel
theorem dX9_need_51 : decode cX9_need 51 = .ok (.aload_n 0, 1) := by decide +kernel
theorem dX9_need_52 : decode cX9_need 52 = .ok (.aconst_null, 1) := by decide +kernel
theorem dX9_need_53 : decode cX9_need 53 = .ok (.putfield 25, 3) := by decide +kernel
theorem dX9_need_56 : decode cX9_need 56 = .ok (.iconst 1, 1) := by decide +kernel
theorem dX9_need_57 : decode cX9_need 57 = .ok (.ireturn, 1) := by decide +kernel
set_option maxRecDepth 100000 in
set_option maxHeartbeats 4000000 in
theorem st_X9_need (l : Launch) (M : Nat → Prop) (h : Nat) (p0 : Int32) (p1 : Int32) (p2 : Int32) : Ct l yX9_need cX9_need 5 (some .int) 2 4 33 43 (fun S av => av = [.ref h, .int p0, .int p1, .int p2] ∧ INV M [] S ∧ is S h 9) (fun S _ r S' => ∃ v, r = some (.int v) ∧ INV M [] S' ∧ ext S S' (fun a => ¬ M a ∧ mK S a ∈ [9, 16])) := by
  refine ct_of (by decide) (fun S av h => by obtain ⟨rfl, iv, i_this⟩ := h; exact Nat.le_of_ble_eq_true rfl) ?_
  intro p e s m args below meth c D G bs S av C hr hin hpre
  obtain ⟨rfl, iv, i_this⟩ := hpre
  have E0 : ext S S (fun a => ¬ M a ∧ mK S a ∈ [9, 16]) := ext_rfl
  refine v_aload_n C dX9_need_0 rfl ?_
  obtain ⟨a1, e_a1, i_a1⟩ := T576 iv i_this List.not_mem_nil
  refine r9_10 (b := a1) C i_this e_a1 dX9_need_1 ?_
  refine v_iload_n C dX9_need_4 rfl ?_
  refine v_callV (As := [_]) (n := 1) C (st_X1_traitAt l _ _ _) rfl i_a1 (by decide) rfl ⟨wd304, wd138, wd139, wd15, wd140⟩ ⟨rfl, hy_X1_traitAt⟩ rfl ⟨Nat.le_of_ble_eq_true rfl, Nat.le_of_ble_eq_true rfl⟩ (Nat.le_of_ble_eq_true rfl) ⟨Nat.le_of_ble_eq_true rfl, Nat.le_of_ble_eq_true rfl⟩ dX9_need_5 ⟨rfl, iv, i_a1⟩ (fun r_5 S2_5 h_5 => ?_)
  obtain ⟨v5, rfl, n_v5, q_v5⟩ := h_5
  obtain rfl := q_v5.symm
  refine v_qstore C dX9_need_8 (by decide) (by first | rfl | exact cat_ok _ | simp [okS, cat_rf]) ?_
  refine v_qload C dX9_need_10 rfl ?_
  refine v_ifnull (tgt := 30) C dX9_need_12 (by decide) (fun c_12 => ?_) (fun b12 c_12 => ?_)
  · skip
    subst c_12
    refine v_bipush (v := -2) C dX9_need_30 (by decide) ?_
    refine v_iret C hr (Nat.le_of_ble_eq_true rfl) (Nat.le_of_ble_eq_true rfl) dX9_need_32 ?_
    exact ⟨_, rfl, iv, E0⟩
  · skip
    subst c_12
    have i_b12 := nOK_some n_v5 rfl
    refine v_iload_n C dX9_need_15 rfl ?_
    refine v_callS (As := [_]) (n := 1) C (sb_isAct l _) rfl ⟨wd345, wd346, wd2, wd347⟩ hy_X9_isAct rfl ⟨Nat.le_of_ble_eq_true rfl, Nat.le_of_ble_eq_true rfl⟩ (Nat.le_of_ble_eq_true rfl) ⟨Nat.le_of_ble_eq_true rfl, Nat.le_of_ble_eq_true rfl⟩ dX9_need_16 rfl (fun r_16 S4_16 h_16 => ?_)
    obtain ⟨v16, rfl, p_v16, q_v16⟩ := h_16
    obtain rfl := q_v16.symm
    refine v_if_eq (tgt := 30) C dX9_need_19 (by decide) (fun c_19 => ?_) (fun c_19 => ?_)
    · skip
      refine v_bipush (v := -2) C dX9_need_30 (by decide) ?_
      refine v_iret C hr (Nat.le_of_ble_eq_true rfl) (Nat.le_of_ble_eq_true rfl) dX9_need_32 ?_
      exact ⟨_, rfl, iv, E0⟩
    · skip
      refine v_iload_n C dX9_need_22 rfl ?_
      refine v_iconst (v := 4) C dX9_need_23 (by decide) ?_
      refine v_callS (As := [_, _]) (n := 2) C (sb_isBelow l _ _) rfl ⟨wd264, wd141, wd2, wd142⟩ hy_X9_isBelow rfl ⟨Nat.le_of_ble_eq_true rfl, Nat.le_of_ble_eq_true rfl⟩ (Nat.le_of_ble_eq_true rfl) ⟨Nat.le_of_ble_eq_true rfl, Nat.le_of_ble_eq_true rfl⟩ dX9_need_24 rfl (fun r_24 S6_24 h_24 => ?_)
      obtain ⟨v24, rfl, p_v24, q_v24⟩ := h_24
      obtain rfl := q_v24.symm
      refine v_if_ne (tgt := 33) C dX9_need_27 (by decide) (fun c_27 => ?_) (fun c_27 => ?_)
      · skip
        refine v_aload C dX9_need_33 rfl ?_
        refine v_iload_n C dX9_need_35 rfl ?_
        refine v_new C (ci := 5) (by decide) rfl inlX5 tyX5_ok wd342 wd343 wd344 nfX5 (Nat.le_of_ble_eq_true rfl) (Nat.le_of_ble_eq_true rfl) dX9_need_36 (fun a36 n_a36 => ?_)
        have nn_a36 := fun z => n_a36 (E0.1 a36 z).1
        refine V.gen (fun S8_36 e_36 => ?_)
        have iv' := inv_sNew e_36 iv n_a36 (by decide)
        have x_36 := x_sNew e_36 n_a36
        have E0' := ext_tr E0 x_36 (fun _ _ z => z.elim)
        have E0 := E0'
        have i_this := is_ext x_36 i_this
        have i_a1 := is_ext x_36 i_a1
        have i_b12 := is_ext x_36 i_b12
        have iv := iv'
        have i_a36 := is_sNewE e_36 n_a36
        have z_a36 := mI_newE e_36
        refine v_dup C dX9_need_39 rfl ?_
        refine v_iload_n C dX9_need_40 rfl ?_
        refine v_iconst (v := -1) C dX9_need_41 (by decide) ?_
        refine v_iconst (v := 0) C dX9_need_42 (by decide) ?_
        refine v_iload_n C dX9_need_43 rfl ?_
        refine v_iconst (v := 1) C dX9_need_44 (by decide) ?_
        refine v_callI (As := [_, _, _, _, _]) (n := 5) C (st_X5_init l _ _ _ _ _ _ _ _) rfl ⟨wd348, wd349, wd344, wd350⟩ rfl hy_X5_init rfl ⟨Nat.le_of_ble_eq_true rfl, Nat.le_of_ble_eq_true rfl⟩ (Nat.le_of_ble_eq_true rfl) ⟨Nat.le_of_ble_eq_true rfl, Nat.le_of_ble_eq_true rfl⟩ dX9_need_45 ⟨rfl, iv, i_a36, (by decide)⟩ (fun r_45 S8_45 h_45 => ?_)
        obtain ⟨rfl, iv2, x_45⟩ := h_45
        have E0' := ext_tr E0 x_45 (xn nn_a36)
        have E0 := E0'
        have i_this := is_ext x_45 i_this
        have i_a1 := is_ext x_45 i_a1
        have i_b12 := is_ext x_45 i_b12
        have i_a36 := is_ext x_45 i_a36
        have iv := iv2
        refine v_callV (As := [_, _]) (n := 2) C (st_X8_setBody l _ _ _ _) rfl i_b12 (by decide) rfl ⟨wd360, wd361, wd362, wd212, wd363⟩ ⟨rfl, hy_X8_setBody⟩ rfl ⟨Nat.le_of_ble_eq_true rfl, Nat.le_of_ble_eq_true rfl⟩ (Nat.le_of_ble_eq_true rfl) ⟨Nat.le_of_ble_eq_true rfl, Nat.le_of_ble_eq_true rfl⟩ dX9_need_48 ⟨rfl, iv, i_b12, i_a36⟩ (fun r_48 S8_48 h_48 => ?_)
        obtain ⟨rfl, iv2, x_48⟩ := h_48
        have i_this := is_ext x_48 i_this
        have i_a1 := is_ext x_48 i_a1
        have i_b12 := is_ext x_48 i_b12
        have i_a36 := is_ext x_48 i_a36
        have E0' := ext_tr E0 x_48 (xk_call E0 (by decide))
        have E0 := E0'
        have iv := iv2
        refine v_aload_n C dX9_need_51 rfl ?_
        refine v_null C dX9_need_52 ?_
        refine p9_25 C i_this dX9_need_53 ?_
        refine V.gen (fun S8_53 e_53 => ?_)
        have iv' := inv_sO e_53 iv (Or.inr (F578 nOK_none))
        have x_53 := x_sO e_53
        have E0' := ext_tr E0 x_53 (xk_is E0 i_this iv (by decide) (by decide))
        have E0 := E0'
        have i_this := is_ext x_53 i_this
        have i_a1 := is_ext x_53 i_a1
        have i_b12 := is_ext x_53 i_b12
        have i_a36 := is_ext x_53 i_a36
        have iv := iv'
        refine v_iconst (v := 1) C dX9_need_56 (by decide) ?_
        refine v_iret C hr (Nat.le_of_ble_eq_true rfl) (Nat.le_of_ble_eq_true rfl) dX9_need_57 ?_
        exact ⟨_, rfl, iv, E0⟩
      · skip
        refine v_bipush (v := -2) C dX9_need_30 (by decide) ?_
        refine v_iret C hr (Nat.le_of_ble_eq_true rfl) (Nat.le_of_ble_eq_true rfl) dX9_need_32 ?_
        exact ⟨_, rfl, iv, E0⟩
theorem dX9_guard_0 : decode cX9_guard 0 = .ok (.aload_n 0, 1) := by decide +kernel
theorem dX9_guard_1 : decode cX9_guard 1 = .ok (.getfield 10, 3) := by decide +kernel
theorem dX9_guard_4 : decode cX9_guard 4 = .ok (.iload_n 1, 1) := by decide +kernel
theorem dX9_guard_5 : decode cX9_guard 5 = .ok (.invokevirtual 59, 3) := by decide +kernel
theorem dX9_guard_8 : decode cX9_guard 8 = .ok (.astore 4, 2) := by decide +kernel
theorem dX9_guard_10 : decode cX9_guard 10 = .ok (.aload 4, 2) := by decide +kernel
theorem dX9_guard_12 : decode cX9_guard 12 = .ok (.ifnull 18, 3) := by decide +kernel
theorem dX9_guard_15 : decode cX9_guard 15 = .ok (.iload_n 2, 1) := by decide +kernel
theorem dX9_guard_16 : decode cX9_guard 16 = .ok (.invokestatic 80, 3) := by decide +kernel
theorem dX9_guard_19 : decode cX9_guard 19 = .ok (.ifCond .eq 11, 3) := by decide +kernel
theorem dX9_guard_22 : decode cX9_guard 22 = .ok (.iload_n 3, 1) := by decide +kernel
theorem dX9_guard_23 : decode cX9_guard 23 = .ok (.iconst 3, 1) := by decide +kernel
theorem dX9_guard_24 : decode cX9_guard 24 = .ok (.invokestatic 44, 3) := by decide +kernel
theorem dX9_guard_27 : decode cX9_guard 27 = .ok (.ifCond .ne 6, 3) := by decide +kernel
theorem dX9_guard_30 : decode cX9_guard 30 = .ok (.bipush (-2), 2) := by decide +kernel
theorem dX9_guard_32 : decode cX9_guard 32 = .ok (.ireturn, 1) := by decide +kernel
theorem dX9_guard_33 : decode cX9_guard 33 = .ok (.aload_n 0, 1) := by decide +kernel
theorem dX9_guard_34 : decode cX9_guard 34 = .ok (.new 83, 3) := by decide +kernel
theorem dX9_guard_37 : decode cX9_guard 37 = .ok (.dup, 1) := by decide +kernel
theorem dX9_guard_38 : decode cX9_guard 38 = .ok (.iload_n 1, 1) := by decide +kernel
theorem dX9_guard_39 : decode cX9_guard 39 = .ok (.iload_n 3, 1) := by decide +kernel
theorem dX9_guard_40 : decode cX9_guard 40 = .ok (.iconst 0, 1) := by decide +kernel
theorem dX9_guard_41 : decode cX9_guard 41 = .ok (.iconst 0, 1) := by decide +kernel
theorem dX9_guard_42 : decode cX9_guard 42 = .ok (.iconst 0, 1) := by decide +kernel
theorem dX9_guard_43 : decode cX9_guard 43 = .ok (.invokespecial 85, 3) := by decide +kernel
theorem dX9_guard_46 : decode cX9_guard 46 = .ok (.putfield 25, 3) := by decide +kernel
theorem dX9_guard_49 : decode cX9_guard 49 = .ok (.aload 4, 2) := by decide +kernel
theorem dX9_guard_51 : decode cX9_guard 51 = .ok (.iload_n 2, 1) := by decide +kernel
theorem dX9_guard_52 : decode cX9_guard 52 = .ok (.aload_n 0, 1) := by decide +kernel
theorem dX9_guard_53 : decode cX9_guard 53 = .ok (.getfield 25, 3) := by decide +kernel
theorem dX9_guard_56 : decode cX9_guard 56 = .ok (.invokevirtual 94, 3) := by decide +kernel
theorem dX9_guard_59 : decode cX9_guard 59 = .ok (.iconst 1, 1) := by decide +kernel
theorem dX9_guard_60 : decode cX9_guard 60 = .ok (.ireturn, 1) := by decide +kernel
set_option maxRecDepth 100000 in
set_option maxHeartbeats 4000000 in
theorem st_X9_guard (l : Launch) (M : Nat → Prop) (h : Nat) (p0 : Int32) (p1 : Int32) (p2 : Int32) : Ct l yX9_guard cX9_guard 5 (some .int) 2 4 33 43 (fun S av => av = [.ref h, .int p0, .int p1, .int p2] ∧ INV M [] S ∧ is S h 9) (fun S _ r S' => ∃ v, r = some (.int v) ∧ INV M [] S' ∧ ext S S' (fun a => ¬ M a ∧ mK S a ∈ [9, 16])) := by
  refine ct_of (by decide) (fun S av h => by obtain ⟨rfl, iv, i_this⟩ := h; exact Nat.le_of_ble_eq_true rfl) ?_
  intro p e s m args below meth c D G bs S av C hr hin hpre
  obtain ⟨rfl, iv, i_this⟩ := hpre
  have E0 : ext S S (fun a => ¬ M a ∧ mK S a ∈ [9, 16]) := ext_rfl
  refine v_aload_n C dX9_guard_0 rfl ?_
  obtain ⟨a1, e_a1, i_a1⟩ := T576 iv i_this List.not_mem_nil
  refine r9_10 (b := a1) C i_this e_a1 dX9_guard_1 ?_
  refine v_iload_n C dX9_guard_4 rfl ?_
  refine v_callV (As := [_]) (n := 1) C (st_X1_traitAt l _ _ _) rfl i_a1 (by decide) rfl ⟨wd304, wd138, wd139, wd15, wd140⟩ ⟨rfl, hy_X1_traitAt⟩ rfl ⟨Nat.le_of_ble_eq_true rfl, Nat.le_of_ble_eq_true rfl⟩ (Nat.le_of_ble_eq_true rfl) ⟨Nat.le_of_ble_eq_true rfl, Nat.le_of_ble_eq_true rfl⟩ dX9_guard_5 ⟨rfl, iv, i_a1⟩ (fun r_5 S2_5 h_5 => ?_)
  obtain ⟨v5, rfl, n_v5, q_v5⟩ := h_5
  obtain rfl := q_v5.symm
  refine v_qstore C dX9_guard_8 (by decide) (by first | rfl | exact cat_ok _ | simp [okS, cat_rf]) ?_
  refine v_qload C dX9_guard_10 rfl ?_
  refine v_ifnull (tgt := 30) C dX9_guard_12 (by decide) (fun c_12 => ?_) (fun b12 c_12 => ?_)
  · skip
    subst c_12
    refine v_bipush (v := -2) C dX9_guard_30 (by decide) ?_
    refine v_iret C hr (Nat.le_of_ble_eq_true rfl) (Nat.le_of_ble_eq_true rfl) dX9_guard_32 ?_
    exact ⟨_, rfl, iv, E0⟩
  · skip
    subst c_12
    have i_b12 := nOK_some n_v5 rfl
    refine v_iload_n C dX9_guard_15 rfl ?_
    refine v_callS (As := [_]) (n := 1) C (sb_isAct l _) rfl ⟨wd345, wd346, wd2, wd347⟩ hy_X9_isAct rfl ⟨Nat.le_of_ble_eq_true rfl, Nat.le_of_ble_eq_true rfl⟩ (Nat.le_of_ble_eq_true rfl) ⟨Nat.le_of_ble_eq_true rfl, Nat.le_of_ble_eq_true rfl⟩ dX9_guard_16 rfl (fun r_16 S4_16 h_16 => ?_)
    obtain ⟨v16, rfl, p_v16, q_v16⟩ := h_16
    obtain rfl := q_v16.symm
    refine v_if_eq (tgt := 30) C dX9_guard_19 (by decide) (fun c_19 => ?_) (fun c_19 => ?_)
    · skip
      refine v_bipush (v := -2) C dX9_guard_30 (by decide) ?_
      refine v_iret C hr (Nat.le_of_ble_eq_true rfl) (Nat.le_of_ble_eq_true rfl) dX9_guard_32 ?_
      exact ⟨_, rfl, iv, E0⟩
    · skip
      refine v_iload_n C dX9_guard_22 rfl ?_
      refine v_iconst (v := 3) C dX9_guard_23 (by decide) ?_
      refine v_callS (As := [_, _]) (n := 2) C (sb_isBelow l _ _) rfl ⟨wd264, wd141, wd2, wd142⟩ hy_X9_isBelow rfl ⟨Nat.le_of_ble_eq_true rfl, Nat.le_of_ble_eq_true rfl⟩ (Nat.le_of_ble_eq_true rfl) ⟨Nat.le_of_ble_eq_true rfl, Nat.le_of_ble_eq_true rfl⟩ dX9_guard_24 rfl (fun r_24 S6_24 h_24 => ?_)
      obtain ⟨v24, rfl, p_v24, q_v24⟩ := h_24
      obtain rfl := q_v24.symm
      refine v_if_ne (tgt := 33) C dX9_guard_27 (by decide) (fun c_27 => ?_) (fun c_27 => ?_)
      · skip
        refine v_aload_n C dX9_guard_33 rfl ?_
        refine v_new C (ci := 5) (by decide) rfl inlX5 tyX5_ok wd342 wd343 wd344 nfX5 (Nat.le_of_ble_eq_true rfl) (Nat.le_of_ble_eq_true rfl) dX9_guard_34 (fun a34 n_a34 => ?_)
        have nn_a34 := fun z => n_a34 (E0.1 a34 z).1
        refine V.gen (fun S8_34 e_34 => ?_)
        have iv' := inv_sNew e_34 iv n_a34 (by decide)
        have x_34 := x_sNew e_34 n_a34
        have E0' := ext_tr E0 x_34 (fun _ _ z => z.elim)
        have E0 := E0'
        have i_this := is_ext x_34 i_this
        have i_a1 := is_ext x_34 i_a1
        have i_b12 := is_ext x_34 i_b12
        have iv := iv'
        have i_a34 := is_sNewE e_34 n_a34
        have z_a34 := mI_newE e_34
        refine v_dup C dX9_guard_37 rfl ?_
        refine v_iload_n C dX9_guard_38 rfl ?_
        refine v_iload_n C dX9_guard_39 rfl ?_
        refine v_iconst (v := 0) C dX9_guard_40 (by decide) ?_
        refine v_iconst (v := 0) C dX9_guard_41 (by decide) ?_
        refine v_iconst (v := 0) C dX9_guard_42 (by decide) ?_
        refine v_callI (As := [_, _, _, _, _]) (n := 5) C (st_X5_init l _ _ _ _ _ _ _ _) rfl ⟨wd348, wd349, wd344, wd350⟩ rfl hy_X5_init rfl ⟨Nat.le_of_ble_eq_true rfl, Nat.le_of_ble_eq_true rfl⟩ (Nat.le_of_ble_eq_true rfl) ⟨Nat.le_of_ble_eq_true rfl, Nat.le_of_ble_eq_true rfl⟩ dX9_guard_43 ⟨rfl, iv, i_a34, (by decide)⟩ (fun r_43 S8_43 h_43 => ?_)
        obtain ⟨rfl, iv2, x_43⟩ := h_43
        have E0' := ext_tr E0 x_43 (xn nn_a34)
        have E0 := E0'
        have i_this := is_ext x_43 i_this
        have i_a1 := is_ext x_43 i_a1
        have i_b12 := is_ext x_43 i_b12
        have i_a34 := is_ext x_43 i_a34
        have iv := iv2
        refine p9_25 (v := some _) C i_this dX9_guard_46 ?_
        refine V.gen (fun S8_46 e_46 => ?_)
        have iv' := inv_sO e_46 iv (Or.inr (F578 (nOK_is i_a34)))
        have x_46 := x_sO e_46
        have E0' := ext_tr E0 x_46 (xk_is E0 i_this iv (by decide) (by decide))
        have E0 := E0'
        have i_this := is_ext x_46 i_this
        have i_a1 := is_ext x_46 i_a1
        have i_b12 := is_ext x_46 i_b12
        have i_a34 := is_ext x_46 i_a34
        have iv := iv'
        have o_578 := mo_put e_46
        refine v_aload C dX9_guard_49 rfl ?_
        refine v_iload_n C dX9_guard_51 rfl ?_
        refine v_aload_n C dX9_guard_52 rfl ?_
        refine r9_25 C i_this o_578 dX9_guard_53 ?_
        refine v_callV (As := [_, _]) (n := 2) C (st_X8_setGuard l _ _ _ _) rfl i_b12 (by decide) rfl ⟨wd387, wd388, wd389, wd212, wd390⟩ ⟨rfl, hy_X8_setGuard⟩ rfl ⟨Nat.le_of_ble_eq_true rfl, Nat.le_of_ble_eq_true rfl⟩ (Nat.le_of_ble_eq_true rfl) ⟨Nat.le_of_ble_eq_true rfl, Nat.le_of_ble_eq_true rfl⟩ dX9_guard_56 ⟨rfl, iv, i_b12, i_a34⟩ (fun r_56 S8_56 h_56 => ?_)
        obtain ⟨rfl, iv2, x_56⟩ := h_56
        have i_this := is_ext x_56 i_this
        have i_a1 := is_ext x_56 i_a1
        have i_b12 := is_ext x_56 i_b12
        have i_a34 := is_ext x_56 i_a34
        have E0' := ext_tr E0 x_56 (xk_call E0 (by decide))
        have E0 := E0'
        have iv := iv2
        refine v_iconst (v := 1) C dX9_guard_59 (by decide) ?_
        refine v_iret C hr (Nat.le_of_ble_eq_true rfl) (Nat.le_of_ble_eq_true rfl) dX9_guard_60 ?_
        exact ⟨_, rfl, iv, E0⟩
      · skip
        refine v_bipush (v := -2) C dX9_guard_30 (by decide) ?_
        refine v_iret C hr (Nat.le_of_ble_eq_true rfl) (Nat.le_of_ble_eq_true rfl) dX9_guard_32 ?_
        exact ⟨_, rfl, iv, E0⟩
theorem dX9_own_0 : decode cX9_own 0 = .ok (.aload_n 0, 1) := by decide +kernel
theorem dX9_own_1 : decode cX9_own 1 = .ok (.getfield 10, 3) := by decide +kernel
theorem dX9_own_4 : decode cX9_own 4 = .ok (.iload_n 1, 1) := by decide +kernel
theorem dX9_own_5 : decode cX9_own 5 = .ok (.invokevirtual 55, 3) := by decide +kernel
theorem dX9_own_8 : decode cX9_own 8 = .ok (.astore 5, 2) := by decide +kernel
theorem dX9_own_10 : decode cX9_own 10 = .ok (.aload 5, 2) := by decide +kernel
theorem dX9_own_12 : decode cX9_own 12 = .ok (.ifnull 27, 3) := by decide +kernel
theorem dX9_own_15 : decode cX9_own 15 = .ok (.iload_n 2, 1) := by decide +kernel
theorem dX9_own_16 : decode cX9_own 16 = .ok (.invokestatic 80, 3) := by decide +kernel
theorem dX9_own_19 : decode cX9_own 19 = .ok (.ifCond .eq 20, 3) := by decide +kernel
theorem dX9_own_22 : decode cX9_own 22 = .ok (.iload_n 3, 1) := by decide +kernel
theorem dX9_own_23 : decode cX9_own 23 = .ok (.iconst 3, 1) := by decide +kernel
theorem dX9_own_24 : decode cX9_own 24 = .ok (.invokestatic 44, 3) := by decide +kernel
theorem dX9_own_27 : decode cX9_own 27 = .ok (.ifCond .eq 12, 3) := by decide +kernel
theorem dX9_own_30 : decode cX9_own 30 = .ok (.iload 4, 2) := by decide +kernel
theorem dX9_own_32 : decode cX9_own 32 = .ok (.iconst 4, 1) := by decide +kernel
theorem dX9_own_33 : decode cX9_own 33 = .ok (.invokestatic 44, 3) := by decide +kernel
theorem dX9_own_36 : decode cX9_own 36 = .ok (.ifCond .ne 6, 3) := by decide +kernel
theorem dX9_own_39 : decode cX9_own 39 = .ok (.bipush (-2), 2) := by decide +kernel
theorem dX9_own_41 : decode cX9_own 41 = .ok (.ireturn, 1) := by decide +kernel
theorem dX9_own_42 : decode cX9_own 42 = .ok (.aload_n 0, 1) := by decide +kernel
theorem dX9_own_43 : decode cX9_own 43 = .ok (.new 83, 3) := by decide +kernel
theorem dX9_own_46 : decode cX9_own 46 = .ok (.dup, 1) := by decide +kernel
theorem dX9_own_47 : decode cX9_own 47 = .ok (.iconst (-1), 1) := by decide +kernel
theorem dX9_own_48 : decode cX9_own 48 = .ok (.iconst (-1), 1) := by decide +kernel
theorem dX9_own_49 : decode cX9_own 49 = .ok (.iload_n 3, 1) := by decide +kernel
theorem dX9_own_50 : decode cX9_own 50 = .ok (.iload 4, 2) := by decide +kernel
theorem dX9_own_52 : decode cX9_own 52 = .ok (.iconst 0, 1) := by decide +kernel
theorem dX9_own_53 : decode cX9_own 53 = .ok (.invokespecial 85, 3) := by decide +kernel
theorem dX9_own_56 : decode cX9_own 56 = .ok (.putfield 25, 3) := by decide +kernel
theorem dX9_own_59 : decode cX9_own 59 = .ok (.aload 5, 2) := by decide +kernel
theorem dX9_own_61 : decode cX9_own 61 = .ok (.iload_n 2, 1) := by decide +kernel
theorem dX9_own_62 : decode cX9_own 62 = .ok (.aload_n 0, 1) := by decide +kernel
theorem dX9_own_63 : decode cX9_own 63 = .ok (.getfield 25, 3) := by decide +kernel
theorem dX9_own_66 : decode cX9_own 66 = .ok (.invokevirtual 97, 3) := by decide +kernel
theorem dX9_own_69 : decode cX9_own 69 = .ok (.iconst 1, 1) := by decide +kernel
theorem dX9_own_70 : decode cX9_own 70 = .ok (.ireturn, 1) := by decide +kernel
set_option maxRecDepth 100000 in
set_option maxHeartbeats 4000000 in
theorem st_X9_own (l : Launch) (M : Nat → Prop) (h : Nat) (p0 : Int32) (p1 : Int32) (p2 : Int32) (p3 : Int32) : Ct l yX9_own cX9_own 6 (some .int) 2 4 33 43 (fun S av => av = [.ref h, .int p0, .int p1, .int p2, .int p3] ∧ INV M [] S ∧ is S h 9) (fun S _ r S' => ∃ v, r = some (.int v) ∧ INV M [] S' ∧ ext S S' (fun a => ¬ M a ∧ mK S a ∈ [9, 16])) := by
  refine ct_of (by decide) (fun S av h => by obtain ⟨rfl, iv, i_this⟩ := h; exact Nat.le_of_ble_eq_true rfl) ?_
  intro p e s m args below meth c D G bs S av C hr hin hpre
  obtain ⟨rfl, iv, i_this⟩ := hpre
  have E0 : ext S S (fun a => ¬ M a ∧ mK S a ∈ [9, 16]) := ext_rfl
  refine v_aload_n C dX9_own_0 rfl ?_
  obtain ⟨a1, e_a1, i_a1⟩ := T576 iv i_this List.not_mem_nil
  refine r9_10 (b := a1) C i_this e_a1 dX9_own_1 ?_
  refine v_iload_n C dX9_own_4 rfl ?_
  refine v_callV (As := [_]) (n := 1) C (st_X1_figureAt l _ _ _) rfl i_a1 (by decide) rfl ⟨wd300, wd301, wd302, wd15, wd303⟩ ⟨rfl, hy_X1_figureAt⟩ rfl ⟨Nat.le_of_ble_eq_true rfl, Nat.le_of_ble_eq_true rfl⟩ (Nat.le_of_ble_eq_true rfl) ⟨Nat.le_of_ble_eq_true rfl, Nat.le_of_ble_eq_true rfl⟩ dX9_own_5 ⟨rfl, iv, i_a1⟩ (fun r_5 S2_5 h_5 => ?_)
  obtain ⟨v5, rfl, n_v5, q_v5⟩ := h_5
  obtain rfl := q_v5.symm
  refine v_qstore C dX9_own_8 (by decide) (by first | rfl | exact cat_ok _ | simp [okS, cat_rf]) ?_
  refine v_qload C dX9_own_10 rfl ?_
  refine v_ifnull (tgt := 39) C dX9_own_12 (by decide) (fun c_12 => ?_) (fun b12 c_12 => ?_)
  · skip
    subst c_12
    refine v_bipush (v := -2) C dX9_own_39 (by decide) ?_
    refine v_iret C hr (Nat.le_of_ble_eq_true rfl) (Nat.le_of_ble_eq_true rfl) dX9_own_41 ?_
    exact ⟨_, rfl, iv, E0⟩
  · skip
    subst c_12
    have i_b12 := nOK_some n_v5 rfl
    refine v_iload_n C dX9_own_15 rfl ?_
    refine v_callS (As := [_]) (n := 1) C (sb_isAct l _) rfl ⟨wd345, wd346, wd2, wd347⟩ hy_X9_isAct rfl ⟨Nat.le_of_ble_eq_true rfl, Nat.le_of_ble_eq_true rfl⟩ (Nat.le_of_ble_eq_true rfl) ⟨Nat.le_of_ble_eq_true rfl, Nat.le_of_ble_eq_true rfl⟩ dX9_own_16 rfl (fun r_16 S4_16 h_16 => ?_)
    obtain ⟨v16, rfl, p_v16, q_v16⟩ := h_16
    obtain rfl := q_v16.symm
    refine v_if_eq (tgt := 39) C dX9_own_19 (by decide) (fun c_19 => ?_) (fun c_19 => ?_)
    · skip
      refine v_bipush (v := -2) C dX9_own_39 (by decide) ?_
      refine v_iret C hr (Nat.le_of_ble_eq_true rfl) (Nat.le_of_ble_eq_true rfl) dX9_own_41 ?_
      exact ⟨_, rfl, iv, E0⟩
    · skip
      refine v_iload_n C dX9_own_22 rfl ?_
      refine v_iconst (v := 3) C dX9_own_23 (by decide) ?_
      refine v_callS (As := [_, _]) (n := 2) C (sb_isBelow l _ _) rfl ⟨wd264, wd141, wd2, wd142⟩ hy_X9_isBelow rfl ⟨Nat.le_of_ble_eq_true rfl, Nat.le_of_ble_eq_true rfl⟩ (Nat.le_of_ble_eq_true rfl) ⟨Nat.le_of_ble_eq_true rfl, Nat.le_of_ble_eq_true rfl⟩ dX9_own_24 rfl (fun r_24 S6_24 h_24 => ?_)
      obtain ⟨v24, rfl, p_v24, q_v24⟩ := h_24
      obtain rfl := q_v24.symm
      refine v_if_eq (tgt := 39) C dX9_own_27 (by decide) (fun c_27 => ?_) (fun c_27 => ?_)
      · skip
        refine v_bipush (v := -2) C dX9_own_39 (by decide) ?_
        refine v_iret C hr (Nat.le_of_ble_eq_true rfl) (Nat.le_of_ble_eq_true rfl) dX9_own_41 ?_
        exact ⟨_, rfl, iv, E0⟩
      · skip
        refine v_iload C dX9_own_30 rfl ?_
        refine v_iconst (v := 4) C dX9_own_32 (by decide) ?_
        refine v_callS (As := [_, _]) (n := 2) C (sb_isBelow l _ _) rfl ⟨wd264, wd141, wd2, wd142⟩ hy_X9_isBelow rfl ⟨Nat.le_of_ble_eq_true rfl, Nat.le_of_ble_eq_true rfl⟩ (Nat.le_of_ble_eq_true rfl) ⟨Nat.le_of_ble_eq_true rfl, Nat.le_of_ble_eq_true rfl⟩ dX9_own_33 rfl (fun r_33 S8_33 h_33 => ?_)
        obtain ⟨v33, rfl, p_v33, q_v33⟩ := h_33
        obtain rfl := q_v33.symm
        refine v_if_ne (tgt := 42) C dX9_own_36 (by decide) (fun c_36 => ?_) (fun c_36 => ?_)
        · skip
          refine v_aload_n C dX9_own_42 rfl ?_
          refine v_new C (ci := 5) (by decide) rfl inlX5 tyX5_ok wd342 wd343 wd344 nfX5 (Nat.le_of_ble_eq_true rfl) (Nat.le_of_ble_eq_true rfl) dX9_own_43 (fun a43 n_a43 => ?_)
          have nn_a43 := fun z => n_a43 (E0.1 a43 z).1
          refine V.gen (fun S10_43 e_43 => ?_)
          have iv' := inv_sNew e_43 iv n_a43 (by decide)
          have x_43 := x_sNew e_43 n_a43
          have E0' := ext_tr E0 x_43 (fun _ _ z => z.elim)
          have E0 := E0'
          have i_this := is_ext x_43 i_this
          have i_a1 := is_ext x_43 i_a1
          have i_b12 := is_ext x_43 i_b12
          have iv := iv'
          have i_a43 := is_sNewE e_43 n_a43
          have z_a43 := mI_newE e_43
          refine v_dup C dX9_own_46 rfl ?_
          refine v_iconst (v := -1) C dX9_own_47 (by decide) ?_
          refine v_iconst (v := -1) C dX9_own_48 (by decide) ?_
          refine v_iload_n C dX9_own_49 rfl ?_
          refine v_iload C dX9_own_50 rfl ?_
          refine v_iconst (v := 0) C dX9_own_52 (by decide) ?_
          refine v_callI (As := [_, _, _, _, _]) (n := 5) C (st_X5_init l _ _ _ _ _ _ _ _) rfl ⟨wd348, wd349, wd344, wd350⟩ rfl hy_X5_init rfl ⟨Nat.le_of_ble_eq_true rfl, Nat.le_of_ble_eq_true rfl⟩ (Nat.le_of_ble_eq_true rfl) ⟨Nat.le_of_ble_eq_true rfl, Nat.le_of_ble_eq_true rfl⟩ dX9_own_53 ⟨rfl, iv, i_a43, (by decide)⟩ (fun r_53 S10_53 h_53 => ?_)
          obtain ⟨rfl, iv2, x_53⟩ := h_53
          have E0' := ext_tr E0 x_53 (xn nn_a43)
          have E0 := E0'
          have i_this := is_ext x_53 i_this
          have i_a1 := is_ext x_53 i_a1
          have i_b12 := is_ext x_53 i_b12
          have i_a43 := is_ext x_53 i_a43
          have iv := iv2
          refine p9_25 (v := some _) C i_this dX9_own_56 ?_
          refine V.gen (fun S10_56 e_56 => ?_)
          have iv' := inv_sO e_56 iv (Or.inr (F578 (nOK_is i_a43)))
          have x_56 := x_sO e_56
          have E0' := ext_tr E0 x_56 (xk_is E0 i_this iv (by decide) (by decide))
          have E0 := E0'
          have i_this := is_ext x_56 i_this
          have i_a1 := is_ext x_56 i_a1
          have i_b12 := is_ext x_56 i_b12
          have i_a43 := is_ext x_56 i_a43
          have iv := iv'
          have o_578 := mo_put e_56
          refine v_aload C dX9_own_59 rfl ?_
          refine v_iload_n C dX9_own_61 rfl ?_
          refine v_aload_n C dX9_own_62 rfl ?_
          refine r9_25 C i_this o_578 dX9_own_63 ?_
          refine v_callV (As := [_, _]) (n := 2) C (st_X2_setOwnBody l _ _ _ _) rfl i_b12 (by decide) rfl ⟨wd399, wd400, wd401, wd271, wd402⟩ ⟨rfl, hy_X2_setOwnBody⟩ rfl ⟨Nat.le_of_ble_eq_true rfl, Nat.le_of_ble_eq_true rfl⟩ (Nat.le_of_ble_eq_true rfl) ⟨Nat.le_of_ble_eq_true rfl, Nat.le_of_ble_eq_true rfl⟩ dX9_own_66 ⟨rfl, iv, i_b12, i_a43⟩ (fun r_66 S10_66 h_66 => ?_)
          obtain ⟨rfl, iv2, x_66⟩ := h_66
          have i_this := is_ext x_66 i_this
          have i_a1 := is_ext x_66 i_a1
          have i_b12 := is_ext x_66 i_b12
          have i_a43 := is_ext x_66 i_a43
          have E0' := ext_tr E0 x_66 (xk_call E0 (by decide))
          have E0 := E0'
          have iv := iv2
          refine v_iconst (v := 1) C dX9_own_69 (by decide) ?_
          refine v_iret C hr (Nat.le_of_ble_eq_true rfl) (Nat.le_of_ble_eq_true rfl) dX9_own_70 ?_
          exact ⟨_, rfl, iv, E0⟩
        · skip
          refine v_bipush (v := -2) C dX9_own_39 (by decide) ?_
          refine v_iret C hr (Nat.le_of_ble_eq_true rfl) (Nat.le_of_ble_eq_true rfl) dX9_own_41 ?_
          exact ⟨_, rfl, iv, E0⟩
theorem dX9_op_0 : decode cX9_op 0 = .ok (.iload_n 1, 1) := by decide +kernel
theorem dX9_op_1 : decode cX9_op 1 = .ok (.iload_n 2, 1) := by decide +kernel
theorem dX9_op_2 : decode cX9_op 2 = .ok (.iload_n 3, 1) := by decide +kernel
theorem dX9_op_3 : decode cX9_op 3 = .ok (.invokestatic 100, 3) := by decide +kernel
theorem dX9_op_6 : decode cX9_op 6 = .ok (.ifCond .ne 6, 3) := by decide +kernel
theorem dX9_op_9 : decode cX9_op 9 = .ok (.bipush (-2), 2) := by decide +kernel
theorem dX9_op_11 : decode cX9_op 11 = .ok (.ireturn, 1) := by decide +kernel
theorem dX9_op_12 : decode cX9_op 12 = .ok (.aload_n 0, 1) := by decide +kernel
theorem dX9_op_13 : decode cX9_op 13 = .ok (.getfield 25, 3) := by decide +kernel
theorem dX9_op_16 : decode cX9_op 16 = .ok (.ifnonnull 6, 3) := by decide +kernel
theorem dX9_op_19 : decode cX9_op 19 = .ok (.bipush (-3), 2) := by decide +kernel
theorem dX9_op_21 : decode cX9_op 21 = .ok (.ireturn, 1) := by decide +kernel
theorem dX9_op_22 : decode cX9_op 22 = .ok (.aload_n 0, 1) := by decide +kernel
theorem dX9_op_23 : decode cX9_op 23 = .ok (.getfield 25, 3) := by decide +kernel
theorem dX9_op_26 : decode cX9_op 26 = .ok (.getfield 103, 3) := by decide +kernel
theorem dX9_op_29 : decode cX9_op 29 = .ok (.bipush 8, 2) := by decide +kernel
theorem dX9_op_31 : decode cX9_op 31 = .ok (.if_icmp .lt 8, 3) := by decide +kernel
theorem dX9_op_34 : decode cX9_op 34 = .ok (.bipush (-4), 2) := by decide +kernel
theorem dX9_op_36 : decode cX9_op 36 = .ok (.goto 13, 3) := by decide +kernel
theorem dX9_op_39 : decode cX9_op 39 = .ok (.aload_n 0, 1) := by decide +kernel
theorem dX9_op_40 : decode cX9_op 40 = .ok (.getfield 25, 3) := by decide +kernel
theorem dX9_op_43 : decode cX9_op 43 = .ok (.iload_n 1, 1) := by decide +kernel
theorem dX9_op_44 : decode cX9_op 44 = .ok (.iload_n 2, 1) := by decide +kernel
theorem dX9_op_45 : decode cX9_op 45 = .ok (.iload_n 3, 1) := by decide +kernel
theorem dX9_op_46 : decode cX9_op 46 = .ok (.invokevirtual 106, 3) := by decide +kernel
theorem dX9_op_49 : decode cX9_op 49 = .ok (.ireturn, 1) := by decide +kernel
set_option maxRecDepth 100000 in
set_option maxHeartbeats 4000000 in
theorem st_X9_op (l : Launch) (M : Nat → Prop) (h : Nat) (p0 : Int32) (p1 : Int32) (p2 : Int32) : Ct l yX9_op cX9_op 4 (some .int) 3 0 0 63 (fun S av => av = [.ref h, .int p0, .int p1, .int p2] ∧ INV M [] S ∧ is S h 9) (fun S _ r S' => ∃ v, r = some (.int v) ∧ INV M [] S' ∧ ext S S' (fun a => ¬ M a ∧ mK S a ∈ [5, 11])) := by
  refine ct_of (by decide) (fun S av h => by obtain ⟨rfl, iv, i_this⟩ := h; exact Nat.le_of_ble_eq_true rfl) ?_
  intro p e s m args below meth c D G bs S av C hr hin hpre
  obtain ⟨rfl, iv, i_this⟩ := hpre
  have E0 : ext S S (fun a => ¬ M a ∧ mK S a ∈ [5, 11]) := ext_rfl
  refine v_iload_n C dX9_op_0 rfl ?_
  refine v_iload_n C dX9_op_1 rfl ?_
  refine v_iload_n C dX9_op_2 rfl ?_
  refine v_callS (As := [_, _, _]) (n := 3) C (st_X9_isOp l _ _ _) rfl ⟨wd412, wd413, wd2, wd414⟩ hy_X9_isOp rfl ⟨Nat.le_of_ble_eq_true rfl, Nat.le_of_ble_eq_true rfl⟩ (Nat.le_of_ble_eq_true rfl) ⟨Nat.le_of_ble_eq_true rfl, Nat.le_of_ble_eq_true rfl⟩ dX9_op_3 rfl (fun r_3 S2_3 h_3 => ?_)
  obtain ⟨v3, rfl, q_v3⟩ := h_3
  obtain rfl := q_v3.symm
  refine v_if_ne (tgt := 12) C dX9_op_6 (by decide) (fun c_6 => ?_) (fun c_6 => ?_)
  · skip
    refine v_aload_n C dX9_op_12 rfl ?_
    have n_o13 := T578 iv i_this List.not_mem_nil
    refine g9_25 C i_this dX9_op_13 ?_
    refine v_ifnonnull (tgt := 22) C dX9_op_16 (by decide) (fun b16 c_16 => ?_) (fun c_16 => ?_)
    · skip
      have o_578 := c_16
      have i_b16 := nOK_some n_o13 c_16
      refine v_aload_n C dX9_op_22 rfl ?_
      refine r9_25 C i_this o_578 dX9_op_23 ?_
      refine g9_103 C i_b16 dX9_op_26 ?_
      refine v_topi (fun v26 e_v26 => ?_)
      refine v_bipush (v := 8) C dX9_op_29 (by decide) ?_
      refine v_icmp_lt (tgt := 39) C dX9_op_31 (by decide) (fun c_31 => ?_) (fun c_31 => ?_)
      · skip
        refine v_aload_n C dX9_op_39 rfl ?_
        refine r9_25 C i_this o_578 dX9_op_40 ?_
        refine v_iload_n C dX9_op_43 rfl ?_
        refine v_iload_n C dX9_op_44 rfl ?_
        refine v_iload_n C dX9_op_45 rfl ?_
        refine v_callV (As := [_, _, _]) (n := 3) C (st_X5_addOp l _ _ _ _ _) rfl i_b16 (by decide) rfl ⟨wd415, wd416, wd417, wd344, wd418⟩ ⟨rfl, hy_X5_addOp⟩ rfl ⟨Nat.le_of_ble_eq_true rfl, Nat.le_of_ble_eq_true rfl⟩ (Nat.le_of_ble_eq_true rfl) ⟨Nat.le_of_ble_eq_true rfl, Nat.le_of_ble_eq_true rfl⟩ dX9_op_46 ⟨rfl, iv, i_b16⟩ (fun r_46 S8_46 h_46 => ?_)
        obtain ⟨v46, rfl, iv2, x_46⟩ := h_46
        have i_this := is_ext x_46 i_this
        have i_b16 := is_ext x_46 i_b16
        have E0' := ext_tr E0 x_46 (xk_call E0 (by decide))
        have E0 := E0'
        have iv := iv2
        refine v_iret C hr (Nat.le_of_ble_eq_true rfl) (Nat.le_of_ble_eq_true rfl) dX9_op_49 ?_
        exact ⟨_, rfl, iv, E0⟩
      · skip
        refine v_bipush (v := -4) C dX9_op_34 (by decide) ?_
        refine v_goto (tgt := 49) C dX9_op_36 (by decide) ?_
        refine v_iret C hr (Nat.le_of_ble_eq_true rfl) (Nat.le_of_ble_eq_true rfl) dX9_op_49 ?_
        exact ⟨_, rfl, iv, E0⟩
    · skip
      refine v_bipush (v := -3) C dX9_op_19 (by decide) ?_
      refine v_iret C hr (Nat.le_of_ble_eq_true rfl) (Nat.le_of_ble_eq_true rfl) dX9_op_21 ?_
      exact ⟨_, rfl, iv, E0⟩
  · skip
    refine v_bipush (v := -2) C dX9_op_9 (by decide) ?_
    refine v_iret C hr (Nat.le_of_ble_eq_true rfl) (Nat.le_of_ble_eq_true rfl) dX9_op_11 ?_
    exact ⟨_, rfl, iv, E0⟩
theorem dX9_leave_0 : decode cX9_leave 0 = .ok (.aload_n 0, 1) := by decide +kernel
theorem dX9_leave_1 : decode cX9_leave 1 = .ok (.getfield 10, 3) := by decide +kernel
theorem dX9_leave_4 : decode cX9_leave 4 = .ok (.iload_n 1, 1) := by decide +kernel
theorem dX9_leave_5 : decode cX9_leave 5 = .ok (.invokevirtual 55, 3) := by decide +kernel
theorem dX9_leave_8 : decode cX9_leave 8 = .ok (.astore 4, 2) := by decide +kernel
theorem dX9_leave_10 : decode cX9_leave 10 = .ok (.aload 4, 2) := by decide +kernel
theorem dX9_leave_12 : decode cX9_leave 12 = .ok (.ifnull 21, 3) := by decide +kernel
theorem dX9_leave_15 : decode cX9_leave 15 = .ok (.aload_n 0, 1) := by decide +kernel
theorem dX9_leave_16 : decode cX9_leave 16 = .ok (.getfield 10, 3) := by decide +kernel
theorem dX9_leave_19 : decode cX9_leave 19 = .ok (.iload_n 2, 1) := by decide +kernel
theorem dX9_leave_20 : decode cX9_leave 20 = .ok (.invokevirtual 59, 3) := by decide +kernel
theorem dX9_leave_23 : decode cX9_leave 23 = .ok (.ifnull 10, 3) := by decide +kernel
theorem dX9_leave_26 : decode cX9_leave 26 = .ok (.iload_n 3, 1) := by decide +kernel
theorem dX9_leave_27 : decode cX9_leave 27 = .ok (.invokestatic 80, 3) := by decide +kernel
theorem dX9_leave_30 : decode cX9_leave 30 = .ok (.ifCond .ne 6, 3) := by decide +kernel
theorem dX9_leave_33 : decode cX9_leave 33 = .ok (.bipush (-2), 2) := by decide +kernel
theorem dX9_leave_35 : decode cX9_leave 35 = .ok (.ireturn, 1) := by decide +kernel
theorem dX9_leave_36 : decode cX9_leave 36 = .ok (.aload 4, 2) := by decide +kernel
theorem dX9_leave_38 : decode cX9_leave 38 = .ok (.iload_n 2, 1) := by decide +kernel
theorem dX9_leave_39 : decode cX9_leave 39 = .ok (.iload_n 3, 1) := by decide +kernel
theorem dX9_leave_40 : decode cX9_leave 40 = .ok (.invokevirtual 110, 3) := by decide +kernel
theorem dX9_leave_43 : decode cX9_leave 43 = .ok (.ifCond .eq 5, 3) := by decide +kernel
theorem dX9_leave_46 : decode cX9_leave 46 = .ok (.iconst 0, 1) := by decide +kernel
theorem dX9_leave_47 : decode cX9_leave 47 = .ok (.ireturn, 1) := by decide +kernel
theorem dX9_leave_48 : decode cX9_leave 48 = .ok (.aload 4, 2) := by decide +kernel
theorem dX9_leave_50 : decode cX9_leave 50 = .ok (.getfield 113, 3) := by decide +kernel
theorem dX9_leave_53 : decode cX9_leave 53 = .ok (.bipush 8, 2) := by decide +kernel
theorem dX9_leave_55 : decode cX9_leave 55 = .ok (.if_icmp .lt 8, 3) := by decide +kernel
theorem dX9_leave_58 : decode cX9_leave 58 = .ok (.bipush (-4), 2) := by decide +kernel
theorem dX9_leave_60 : decode cX9_leave 60 = .ok (.goto 10, 3) := by decide +kernel
theorem dX9_leave_63 : decode cX9_leave 63 = .ok (.aload 4, 2) := by decide +kernel
theorem dX9_leave_65 : decode cX9_leave 65 = .ok (.iload_n 2, 1) := by decide +kernel
theorem dX9_leave_66 : decode cX9_leave 66 = .ok (.iload_n 3, 1) := by decide +kernel
theorem dX9_leave_67 : decode cX9_leave 67 = .ok (.invokevirtual 116, 3) := by decide +kernel
theorem dX9_leave_70 : decode cX9_leave 70 = .ok (.ireturn, 1) := by decide +kernel
set_option maxRecDepth 100000 in
set_option maxHeartbeats 4000000 in
theorem st_X9_leave (l : Launch) (M : Nat → Prop) (h : Nat) (p0 : Int32) (p1 : Int32) (p2 : Int32) : Ct l yX9_leave cX9_leave 5 (some .int) 2 0 0 45 (fun S av => av = [.ref h, .int p0, .int p1, .int p2] ∧ INV M [] S ∧ is S h 9) (fun S _ r S' => ∃ v, r = some (.int v) ∧ INV M [] S' ∧ ext S S' (fun a => ¬ M a ∧ mK S a ∈ [2, 13])) := by
  refine ct_of (by decide) (fun S av h => by obtain ⟨rfl, iv, i_this⟩ := h; exact Nat.le_of_ble_eq_true rfl) ?_
  intro p e s m args below meth c D G bs S av C hr hin hpre
  obtain ⟨rfl, iv, i_this⟩ := hpre
  have E0 : ext S S (fun a => ¬ M a ∧ mK S a ∈ [2, 13]) := ext_rfl
  refine v_aload_n C dX9_leave_0 rfl ?_
  obtain ⟨a1, e_a1, i_a1⟩ := T576 iv i_this List.not_mem_nil
  refine r9_10 (b := a1) C i_this e_a1 dX9_leave_1 ?_
  refine v_iload_n C dX9_leave_4 rfl ?_
  refine v_callV (As := [_]) (n := 1) C (st_X1_figureAt l _ _ _) rfl i_a1 (by decide) rfl ⟨wd300, wd301, wd302, wd15, wd303⟩ ⟨rfl, hy_X1_figureAt⟩ rfl ⟨Nat.le_of_ble_eq_true rfl, Nat.le_of_ble_eq_true rfl⟩ (Nat.le_of_ble_eq_true rfl) ⟨Nat.le_of_ble_eq_true rfl, Nat.le_of_ble_eq_true rfl⟩ dX9_leave_5 ⟨rfl, iv, i_a1⟩ (fun r_5 S2_5 h_5 => ?_)
  obtain ⟨v5, rfl, n_v5, q_v5⟩ := h_5
  obtain rfl := q_v5.symm
  refine v_qstore C dX9_leave_8 (by decide) (by first | rfl | exact cat_ok _ | simp [okS, cat_rf]) ?_
  refine v_qload C dX9_leave_10 rfl ?_
  refine v_ifnull (tgt := 33) C dX9_leave_12 (by decide) (fun c_12 => ?_) (fun b12 c_12 => ?_)
  · skip
    subst c_12
    refine v_bipush (v := -2) C dX9_leave_33 (by decide) ?_
    refine v_iret C hr (Nat.le_of_ble_eq_true rfl) (Nat.le_of_ble_eq_true rfl) dX9_leave_35 ?_
    exact ⟨_, rfl, iv, E0⟩
  · skip
    subst c_12
    have i_b12 := nOK_some n_v5 rfl
    refine v_aload_n C dX9_leave_15 rfl ?_
    obtain ⟨a16, e_a16, i_a16⟩ := T576 iv i_this List.not_mem_nil
    refine r9_10 (b := a16) C i_this e_a16 dX9_leave_16 ?_
    refine v_iload_n C dX9_leave_19 rfl ?_
    refine v_callV (As := [_]) (n := 1) C (st_X1_traitAt l _ _ _) rfl i_a16 (by decide) rfl ⟨wd304, wd138, wd139, wd15, wd140⟩ ⟨rfl, hy_X1_traitAt⟩ rfl ⟨Nat.le_of_ble_eq_true rfl, Nat.le_of_ble_eq_true rfl⟩ (Nat.le_of_ble_eq_true rfl) ⟨Nat.le_of_ble_eq_true rfl, Nat.le_of_ble_eq_true rfl⟩ dX9_leave_20 ⟨rfl, iv, i_a16⟩ (fun r_20 S4_20 h_20 => ?_)
    obtain ⟨v20, rfl, n_v20, q_v20⟩ := h_20
    obtain rfl := q_v20.symm
    refine v_ifnull (tgt := 33) C dX9_leave_23 (by decide) (fun c_23 => ?_) (fun b23 c_23 => ?_)
    · skip
      subst c_23
      refine v_bipush (v := -2) C dX9_leave_33 (by decide) ?_
      refine v_iret C hr (Nat.le_of_ble_eq_true rfl) (Nat.le_of_ble_eq_true rfl) dX9_leave_35 ?_
      exact ⟨_, rfl, iv, E0⟩
    · skip
      subst c_23
      have i_b23 := nOK_some n_v20 rfl
      refine v_iload_n C dX9_leave_26 rfl ?_
      refine v_callS (As := [_]) (n := 1) C (sb_isAct l _) rfl ⟨wd345, wd346, wd2, wd347⟩ hy_X9_isAct rfl ⟨Nat.le_of_ble_eq_true rfl, Nat.le_of_ble_eq_true rfl⟩ (Nat.le_of_ble_eq_true rfl) ⟨Nat.le_of_ble_eq_true rfl, Nat.le_of_ble_eq_true rfl⟩ dX9_leave_27 rfl (fun r_27 S6_27 h_27 => ?_)
      obtain ⟨v27, rfl, p_v27, q_v27⟩ := h_27
      obtain rfl := q_v27.symm
      refine v_if_ne (tgt := 36) C dX9_leave_30 (by decide) (fun c_30 => ?_) (fun c_30 => ?_)
      · skip
        refine v_aload C dX9_leave_36 rfl ?_
        refine v_iload_n C dX9_leave_38 rfl ?_
        refine v_iload_n C dX9_leave_39 rfl ?_
        refine v_callV (As := [_, _]) (n := 2) C (st_X2_leaves l _ _ _ _) rfl i_b12 (by decide) rfl ⟨wd432, wd433, wd434, wd271, wd435⟩ ⟨rfl, hy_X2_leaves⟩ rfl ⟨Nat.le_of_ble_eq_true rfl, Nat.le_of_ble_eq_true rfl⟩ (Nat.le_of_ble_eq_true rfl) ⟨Nat.le_of_ble_eq_true rfl, Nat.le_of_ble_eq_true rfl⟩ dX9_leave_40 ⟨rfl, iv, i_b12⟩ (fun r_40 S8_40 h_40 => ?_)
        obtain ⟨v40, rfl, q_v40⟩ := h_40
        obtain rfl := q_v40.symm
        refine v_if_eq (tgt := 48) C dX9_leave_43 (by decide) (fun c_43 => ?_) (fun c_43 => ?_)
        · skip
          refine v_aload C dX9_leave_48 rfl ?_
          refine g9_113 C i_b12 dX9_leave_50 ?_
          refine v_topi (fun v50 e_v50 => ?_)
          refine v_bipush (v := 8) C dX9_leave_53 (by decide) ?_
          refine v_icmp_lt (tgt := 63) C dX9_leave_55 (by decide) (fun c_55 => ?_) (fun c_55 => ?_)
          · skip
            refine v_aload C dX9_leave_63 rfl ?_
            refine v_iload_n C dX9_leave_65 rfl ?_
            refine v_iload_n C dX9_leave_66 rfl ?_
            refine v_callV (As := [_, _]) (n := 2) C (st_X2_addLeft l _ _ _ _) rfl i_b12 (by decide) rfl ⟨wd439, wd440, wd441, wd271, wd442⟩ ⟨rfl, hy_X2_addLeft⟩ rfl ⟨Nat.le_of_ble_eq_true rfl, Nat.le_of_ble_eq_true rfl⟩ (Nat.le_of_ble_eq_true rfl) ⟨Nat.le_of_ble_eq_true rfl, Nat.le_of_ble_eq_true rfl⟩ dX9_leave_67 ⟨rfl, iv, i_b12⟩ (fun r_67 S12_67 h_67 => ?_)
            obtain ⟨v67, rfl, iv2, x_67⟩ := h_67
            have i_this := is_ext x_67 i_this
            have i_a1 := is_ext x_67 i_a1
            have i_b12 := is_ext x_67 i_b12
            have i_a16 := is_ext x_67 i_a16
            have i_b23 := is_ext x_67 i_b23
            have E0' := ext_tr E0 x_67 (xk_call E0 (by decide))
            have E0 := E0'
            have iv := iv2
            refine v_iret C hr (Nat.le_of_ble_eq_true rfl) (Nat.le_of_ble_eq_true rfl) dX9_leave_70 ?_
            exact ⟨_, rfl, iv, E0⟩
          · skip
            refine v_bipush (v := -4) C dX9_leave_58 (by decide) ?_
            refine v_goto (tgt := 70) C dX9_leave_60 (by decide) ?_
            refine v_iret C hr (Nat.le_of_ble_eq_true rfl) (Nat.le_of_ble_eq_true rfl) dX9_leave_70 ?_
            exact ⟨_, rfl, iv, E0⟩
        · skip
          refine v_iconst (v := 0) C dX9_leave_46 (by decide) ?_
          refine v_iret C hr (Nat.le_of_ble_eq_true rfl) (Nat.le_of_ble_eq_true rfl) dX9_leave_47 ?_
          exact ⟨_, rfl, iv, E0⟩
      · skip
        refine v_bipush (v := -2) C dX9_leave_33 (by decide) ?_
        refine v_iret C hr (Nat.le_of_ble_eq_true rfl) (Nat.le_of_ble_eq_true rfl) dX9_leave_35 ?_
        exact ⟨_, rfl, iv, E0⟩
theorem dX9_rename_0 : decode cX9_rename 0 = .ok (.aload_n 0, 1) := by decide +kernel
theorem dX9_rename_1 : decode cX9_rename 1 = .ok (.getfield 10, 3) := by decide +kernel
theorem dX9_rename_4 : decode cX9_rename 4 = .ok (.iload_n 1, 1) := by decide +kernel
theorem dX9_rename_5 : decode cX9_rename 5 = .ok (.invokevirtual 55, 3) := by decide +kernel
theorem dX9_rename_8 : decode cX9_rename 8 = .ok (.astore 5, 2) := by decide +kernel
theorem dX9_rename_10 : decode cX9_rename 10 = .ok (.aload 5, 2) := by decide +kernel
theorem dX9_rename_12 : decode cX9_rename 12 = .ok (.ifnull 35, 3) := by decide +kernel
theorem dX9_rename_15 : decode cX9_rename 15 = .ok (.aload_n 0, 1) := by decide +kernel
theorem dX9_rename_16 : decode cX9_rename 16 = .ok (.getfield 10, 3) := by decide +kernel
theorem dX9_rename_19 : decode cX9_rename 19 = .ok (.iload_n 2, 1) := by decide +kernel
theorem dX9_rename_20 : decode cX9_rename 20 = .ok (.invokevirtual 59, 3) := by decide +kernel
theorem dX9_rename_23 : decode cX9_rename 23 = .ok (.ifnull 24, 3) := by decide +kernel
theorem dX9_rename_26 : decode cX9_rename 26 = .ok (.iload_n 3, 1) := by decide +kernel
theorem dX9_rename_27 : decode cX9_rename 27 = .ok (.invokestatic 80, 3) := by decide +kernel
theorem dX9_rename_30 : decode cX9_rename 30 = .ok (.ifCond .eq 17, 3) := by decide +kernel
theorem dX9_rename_33 : decode cX9_rename 33 = .ok (.iload 4, 2) := by decide +kernel
theorem dX9_rename_35 : decode cX9_rename 35 = .ok (.invokestatic 80, 3) := by decide +kernel
theorem dX9_rename_38 : decode cX9_rename 38 = .ok (.ifCond .eq 9, 3) := by decide +kernel
theorem dX9_rename_41 : decode cX9_rename 41 = .ok (.iload_n 3, 1) := by decide +kernel
theorem dX9_rename_42 : decode cX9_rename 42 = .ok (.iload 4, 2) := by decide +kernel
theorem dX9_rename_44 : decode cX9_rename 44 = .ok (.if_icmp .ne 6, 3) := by decide +kernel
theorem dX9_rename_47 : decode cX9_rename 47 = .ok (.bipush (-2), 2) := by decide +kernel
theorem dX9_rename_49 : decode cX9_rename 49 = .ok (.ireturn, 1) := by decide +kernel
theorem dX9_rename_50 : decode cX9_rename 50 = .ok (.aload 5, 2) := by decide +kernel
theorem dX9_rename_52 : decode cX9_rename 52 = .ok (.iload_n 2, 1) := by decide +kernel
theorem dX9_rename_53 : decode cX9_rename 53 = .ok (.iload_n 3, 1) := by decide +kernel
theorem dX9_rename_54 : decode cX9_rename 54 = .ok (.invokevirtual 120, 3) := by decide +kernel
theorem dX9_rename_57 : decode cX9_rename 57 = .ok (.iconst (-1), 1) := by decide +kernel
theorem dX9_rename_58 : decode cX9_rename 58 = .ok (.if_icmp .ne 15, 3) := by decide +kernel
theorem dX9_rename_61 : decode cX9_rename 61 = .ok (.aload 5, 2) := by decide +kernel
theorem dX9_rename_63 : decode cX9_rename 63 = .ok (.iload_n 2, 1) := by decide +kernel
theorem dX9_rename_64 : decode cX9_rename 64 = .ok (.iload 4, 2) := by decide +kernel
theorem dX9_rename_66 : decode cX9_rename 66 = .ok (.invokevirtual 123, 3) := by decide +kernel
theorem dX9_rename_69 : decode cX9_rename 69 = .ok (.iconst (-1), 1) := by decide +kernel
theorem dX9_rename_70 : decode cX9_rename 70 = .ok (.if_icmp .eq 6, 3) := by decide +kernel
theorem dX9_rename_73 : decode cX9_rename 73 = .ok (.bipush (-3), 2) := by decide +kernel
theorem dX9_rename_75 : decode cX9_rename 75 = .ok (.ireturn, 1) := by decide +kernel
theorem dX9_rename_76 : decode cX9_rename 76 = .ok (.aload 5, 2) := by decide +kernel
theorem dX9_rename_78 : decode cX9_rename 78 = .ok (.getfield 126, 3) := by decide +kernel
theorem dX9_rename_81 : decode cX9_rename 81 = .ok (.bipush 8, 2) := by decide +kernel
theorem dX9_rename_83 : decode cX9_rename 83 = .ok (.if_icmp .lt 8, 3) := by decide +kernel
theorem dX9_rename_86 : decode cX9_rename 86 = .ok (.bipush (-4), 2) := by decide +kernel
theorem dX9_rename_88 : decode cX9_rename 88 = .ok (.goto 12, 3) := by decide +kernel
theorem dX9_rename_91 : decode cX9_rename 91 = .ok (.aload 5, 2) := by decide +kernel
theorem dX9_rename_93 : decode cX9_rename 93 = .ok (.iload_n 2, 1) := by decide +kernel
theorem dX9_rename_94 : decode cX9_rename 94 = .ok (.iload_n 3, 1) := by decide +kernel
theorem dX9_rename_95 : decode cX9_rename 95 = .ok (.iload 4, 2) := by decide +kernel
theorem dX9_rename_97 : decode cX9_rename 97 = .ok (.invokevirtual 129, 3) := by decide +kernel
theorem dX9_rename_100 : decode cX9_rename 100 = .ok (.ireturn, 1) := by decide +kernel
set_option maxRecDepth 100000 in
set_option maxHeartbeats 4000000 in
theorem st_X9_rename (l : Launch) (M : Nat → Prop) (h : Nat) (p0 : Int32) (p1 : Int32) (p2 : Int32) (p3 : Int32) : Ct l yX9_rename cX9_rename 6 (some .int) 2 0 0 47 (fun S av => av = [.ref h, .int p0, .int p1, .int p2, .int p3] ∧ INV M [] S ∧ is S h 9) (fun S _ r S' => ∃ v, r = some (.int v) ∧ INV M [] S' ∧ ext S S' (fun a => ¬ M a ∧ mK S a ∈ [2, 11])) := by
  refine ct_of (by decide) (fun S av h => by obtain ⟨rfl, iv, i_this⟩ := h; exact Nat.le_of_ble_eq_true rfl) ?_
  intro p e s m args below meth c D G bs S av C hr hin hpre
  obtain ⟨rfl, iv, i_this⟩ := hpre
  have E0 : ext S S (fun a => ¬ M a ∧ mK S a ∈ [2, 11]) := ext_rfl
  refine v_aload_n C dX9_rename_0 rfl ?_
  obtain ⟨a1, e_a1, i_a1⟩ := T576 iv i_this List.not_mem_nil
  refine r9_10 (b := a1) C i_this e_a1 dX9_rename_1 ?_
  refine v_iload_n C dX9_rename_4 rfl ?_
  refine v_callV (As := [_]) (n := 1) C (st_X1_figureAt l _ _ _) rfl i_a1 (by decide) rfl ⟨wd300, wd301, wd302, wd15, wd303⟩ ⟨rfl, hy_X1_figureAt⟩ rfl ⟨Nat.le_of_ble_eq_true rfl, Nat.le_of_ble_eq_true rfl⟩ (Nat.le_of_ble_eq_true rfl) ⟨Nat.le_of_ble_eq_true rfl, Nat.le_of_ble_eq_true rfl⟩ dX9_rename_5 ⟨rfl, iv, i_a1⟩ (fun r_5 S2_5 h_5 => ?_)
  obtain ⟨v5, rfl, n_v5, q_v5⟩ := h_5
  obtain rfl := q_v5.symm
  refine v_qstore C dX9_rename_8 (by decide) (by first | rfl | exact cat_ok _ | simp [okS, cat_rf]) ?_
  refine v_qload C dX9_rename_10 rfl ?_
  refine v_ifnull (tgt := 47) C dX9_rename_12 (by decide) (fun c_12 => ?_) (fun b12 c_12 => ?_)
  · skip
    subst c_12
    refine v_bipush (v := -2) C dX9_rename_47 (by decide) ?_
    refine v_iret C hr (Nat.le_of_ble_eq_true rfl) (Nat.le_of_ble_eq_true rfl) dX9_rename_49 ?_
    exact ⟨_, rfl, iv, E0⟩
  · skip
    subst c_12
    have i_b12 := nOK_some n_v5 rfl
    refine v_aload_n C dX9_rename_15 rfl ?_
    obtain ⟨a16, e_a16, i_a16⟩ := T576 iv i_this List.not_mem_nil
    refine r9_10 (b := a16) C i_this e_a16 dX9_rename_16 ?_
    refine v_iload_n C dX9_rename_19 rfl ?_
    refine v_callV (As := [_]) (n := 1) C (st_X1_traitAt l _ _ _) rfl i_a16 (by decide) rfl ⟨wd304, wd138, wd139, wd15, wd140⟩ ⟨rfl, hy_X1_traitAt⟩ rfl ⟨Nat.le_of_ble_eq_true rfl, Nat.le_of_ble_eq_true rfl⟩ (Nat.le_of_ble_eq_true rfl) ⟨Nat.le_of_ble_eq_true rfl, Nat.le_of_ble_eq_true rfl⟩ dX9_rename_20 ⟨rfl, iv, i_a16⟩ (fun r_20 S4_20 h_20 => ?_)
    obtain ⟨v20, rfl, n_v20, q_v20⟩ := h_20
    obtain rfl := q_v20.symm
    refine v_ifnull (tgt := 47) C dX9_rename_23 (by decide) (fun c_23 => ?_) (fun b23 c_23 => ?_)
    · skip
      subst c_23
      refine v_bipush (v := -2) C dX9_rename_47 (by decide) ?_
      refine v_iret C hr (Nat.le_of_ble_eq_true rfl) (Nat.le_of_ble_eq_true rfl) dX9_rename_49 ?_
      exact ⟨_, rfl, iv, E0⟩
    · skip
      subst c_23
      have i_b23 := nOK_some n_v20 rfl
      refine v_iload_n C dX9_rename_26 rfl ?_
      refine v_callS (As := [_]) (n := 1) C (sb_isAct l _) rfl ⟨wd345, wd346, wd2, wd347⟩ hy_X9_isAct rfl ⟨Nat.le_of_ble_eq_true rfl, Nat.le_of_ble_eq_true rfl⟩ (Nat.le_of_ble_eq_true rfl) ⟨Nat.le_of_ble_eq_true rfl, Nat.le_of_ble_eq_true rfl⟩ dX9_rename_27 rfl (fun r_27 S6_27 h_27 => ?_)
      obtain ⟨v27, rfl, p_v27, q_v27⟩ := h_27
      obtain rfl := q_v27.symm
      refine v_if_eq (tgt := 47) C dX9_rename_30 (by decide) (fun c_30 => ?_) (fun c_30 => ?_)
      · skip
        refine v_bipush (v := -2) C dX9_rename_47 (by decide) ?_
        refine v_iret C hr (Nat.le_of_ble_eq_true rfl) (Nat.le_of_ble_eq_true rfl) dX9_rename_49 ?_
        exact ⟨_, rfl, iv, E0⟩
      · skip
        refine v_iload C dX9_rename_33 rfl ?_
        refine v_callS (As := [_]) (n := 1) C (sb_isAct l _) rfl ⟨wd345, wd346, wd2, wd347⟩ hy_X9_isAct rfl ⟨Nat.le_of_ble_eq_true rfl, Nat.le_of_ble_eq_true rfl⟩ (Nat.le_of_ble_eq_true rfl) ⟨Nat.le_of_ble_eq_true rfl, Nat.le_of_ble_eq_true rfl⟩ dX9_rename_35 rfl (fun r_35 S8_35 h_35 => ?_)
        obtain ⟨v35, rfl, p_v35, q_v35⟩ := h_35
        obtain rfl := q_v35.symm
        refine v_if_eq (tgt := 47) C dX9_rename_38 (by decide) (fun c_38 => ?_) (fun c_38 => ?_)
        · skip
          refine v_bipush (v := -2) C dX9_rename_47 (by decide) ?_
          refine v_iret C hr (Nat.le_of_ble_eq_true rfl) (Nat.le_of_ble_eq_true rfl) dX9_rename_49 ?_
          exact ⟨_, rfl, iv, E0⟩
        · skip
          refine v_iload_n C dX9_rename_41 rfl ?_
          refine v_iload C dX9_rename_42 rfl ?_
          refine v_icmp_ne (tgt := 50) C dX9_rename_44 (by decide) (fun c_44 => ?_) (fun c_44 => ?_)
          · skip
            refine v_aload C dX9_rename_50 rfl ?_
            refine v_iload_n C dX9_rename_52 rfl ?_
            refine v_iload_n C dX9_rename_53 rfl ?_
            refine v_callV (As := [_, _]) (n := 2) C (st_X2_nameOf l _ _ _ _) rfl i_b12 (by decide) rfl ⟨wd457, wd458, wd459, wd271, wd460⟩ ⟨rfl, hy_X2_nameOf⟩ rfl ⟨Nat.le_of_ble_eq_true rfl, Nat.le_of_ble_eq_true rfl⟩ (Nat.le_of_ble_eq_true rfl) ⟨Nat.le_of_ble_eq_true rfl, Nat.le_of_ble_eq_true rfl⟩ dX9_rename_54 ⟨rfl, iv, i_b12⟩ (fun r_54 S12_54 h_54 => ?_)
            obtain ⟨v54, rfl, q_v54⟩ := h_54
            obtain rfl := q_v54.symm
            refine v_iconst (v := -1) C dX9_rename_57 (by decide) ?_
            refine v_icmp_ne (tgt := 73) C dX9_rename_58 (by decide) (fun c_58 => ?_) (fun c_58 => ?_)
            · skip
              refine v_bipush (v := -3) C dX9_rename_73 (by decide) ?_
              refine v_iret C hr (Nat.le_of_ble_eq_true rfl) (Nat.le_of_ble_eq_true rfl) dX9_rename_75 ?_
              exact ⟨_, rfl, iv, E0⟩
            · skip
              refine v_aload C dX9_rename_61 rfl ?_
              refine v_iload_n C dX9_rename_63 rfl ?_
              refine v_iload C dX9_rename_64 rfl ?_
              refine v_callV (As := [_, _]) (n := 2) C (st_X2_originOf l _ _ _ _) rfl i_b12 (by decide) rfl ⟨wd461, wd462, wd463, wd271, wd464⟩ ⟨rfl, hy_X2_originOf⟩ rfl ⟨Nat.le_of_ble_eq_true rfl, Nat.le_of_ble_eq_true rfl⟩ (Nat.le_of_ble_eq_true rfl) ⟨Nat.le_of_ble_eq_true rfl, Nat.le_of_ble_eq_true rfl⟩ dX9_rename_66 ⟨rfl, iv, i_b12⟩ (fun r_66 S14_66 h_66 => ?_)
              obtain ⟨v66, rfl, q_v66⟩ := h_66
              obtain rfl := q_v66.symm
              refine v_iconst (v := -1) C dX9_rename_69 (by decide) ?_
              refine v_icmp_eq (tgt := 76) C dX9_rename_70 (by decide) (fun c_70 => ?_) (fun c_70 => ?_)
              · skip
                refine v_aload C dX9_rename_76 rfl ?_
                refine g9_126 C i_b12 dX9_rename_78 ?_
                refine v_topi (fun v78 e_v78 => ?_)
                refine v_bipush (v := 8) C dX9_rename_81 (by decide) ?_
                refine v_icmp_lt (tgt := 91) C dX9_rename_83 (by decide) (fun c_83 => ?_) (fun c_83 => ?_)
                · skip
                  refine v_aload C dX9_rename_91 rfl ?_
                  refine v_iload_n C dX9_rename_93 rfl ?_
                  refine v_iload_n C dX9_rename_94 rfl ?_
                  refine v_iload C dX9_rename_95 rfl ?_
                  refine v_callV (As := [_, _, _]) (n := 3) C (st_X2_addRenamed l _ _ _ _ _) rfl i_b12 (by decide) rfl ⟨wd465, wd466, wd467, wd271, wd468⟩ ⟨rfl, hy_X2_addRenamed⟩ rfl ⟨Nat.le_of_ble_eq_true rfl, Nat.le_of_ble_eq_true rfl⟩ (Nat.le_of_ble_eq_true rfl) ⟨Nat.le_of_ble_eq_true rfl, Nat.le_of_ble_eq_true rfl⟩ dX9_rename_97 ⟨rfl, iv, i_b12⟩ (fun r_97 S18_97 h_97 => ?_)
                  obtain ⟨v97, rfl, iv2, x_97⟩ := h_97
                  have i_this := is_ext x_97 i_this
                  have i_a1 := is_ext x_97 i_a1
                  have i_b12 := is_ext x_97 i_b12
                  have i_a16 := is_ext x_97 i_a16
                  have i_b23 := is_ext x_97 i_b23
                  have E0' := ext_tr E0 x_97 (xk_call E0 (by decide))
                  have E0 := E0'
                  have iv := iv2
                  refine v_iret C hr (Nat.le_of_ble_eq_true rfl) (Nat.le_of_ble_eq_true rfl) dX9_rename_100 ?_
                  exact ⟨_, rfl, iv, E0⟩
                · skip
                  refine v_bipush (v := -4) C dX9_rename_86 (by decide) ?_
                  refine v_goto (tgt := 100) C dX9_rename_88 (by decide) ?_
                  refine v_iret C hr (Nat.le_of_ble_eq_true rfl) (Nat.le_of_ble_eq_true rfl) dX9_rename_100 ?_
                  exact ⟨_, rfl, iv, E0⟩
              · skip
                refine v_bipush (v := -3) C dX9_rename_73 (by decide) ?_
                refine v_iret C hr (Nat.le_of_ble_eq_true rfl) (Nat.le_of_ble_eq_true rfl) dX9_rename_75 ?_
                exact ⟨_, rfl, iv, E0⟩
          · skip
            refine v_bipush (v := -2) C dX9_rename_47 (by decide) ?_
            refine v_iret C hr (Nat.le_of_ble_eq_true rfl) (Nat.le_of_ble_eq_true rfl) dX9_rename_49 ?_
            exact ⟨_, rfl, iv, E0⟩
theorem dX9_prefer_0 : decode cX9_prefer 0 = .ok (.aload_n 0, 1) := by decide +kernel
theorem dX9_prefer_1 : decode cX9_prefer 1 = .ok (.getfield 10, 3) := by decide +kernel
theorem dX9_prefer_4 : decode cX9_prefer 4 = .ok (.iload_n 1, 1) := by decide +kernel
theorem dX9_prefer_5 : decode cX9_prefer 5 = .ok (.invokevirtual 55, 3) := by decide +kernel
theorem dX9_prefer_8 : decode cX9_prefer 8 = .ok (.astore 4, 2) := by decide +kernel
theorem dX9_prefer_10 : decode cX9_prefer 10 = .ok (.aload 4, 2) := by decide +kernel
theorem dX9_prefer_12 : decode cX9_prefer 12 = .ok (.ifnull 26, 3) := by decide +kernel
theorem dX9_prefer_15 : decode cX9_prefer 15 = .ok (.iload_n 2, 1) := by decide +kernel
theorem dX9_prefer_16 : decode cX9_prefer 16 = .ok (.invokestatic 80, 3) := by decide +kernel
theorem dX9_prefer_19 : decode cX9_prefer 19 = .ok (.ifCond .eq 19, 3) := by decide +kernel
theorem dX9_prefer_22 : decode cX9_prefer 22 = .ok (.iload_n 3, 1) := by decide +kernel
theorem dX9_prefer_23 : decode cX9_prefer 23 = .ok (.iconst (-1), 1) := by decide +kernel
theorem dX9_prefer_24 : decode cX9_prefer 24 = .ok (.if_icmp .eq 17, 3) := by decide +kernel
theorem dX9_prefer_27 : decode cX9_prefer 27 = .ok (.aload_n 0, 1) := by decide +kernel
theorem dX9_prefer_28 : decode cX9_prefer 28 = .ok (.getfield 10, 3) := by decide +kernel
theorem dX9_prefer_31 : decode cX9_prefer 31 = .ok (.iload_n 3, 1) := by decide +kernel
theorem dX9_prefer_32 : decode cX9_prefer 32 = .ok (.invokevirtual 59, 3) := by decide +kernel
theorem dX9_prefer_35 : decode cX9_prefer 35 = .ok (.ifnonnull 6, 3) := by decide +kernel
theorem dX9_prefer_38 : decode cX9_prefer 38 = .ok (.bipush (-2), 2) := by decide +kernel
theorem dX9_prefer_40 : decode cX9_prefer 40 = .ok (.ireturn, 1) := by decide +kernel
theorem dX9_prefer_41 : decode cX9_prefer 41 = .ok (.aload 4, 2) := by decide +kernel
theorem dX9_prefer_43 : decode cX9_prefer 43 = .ok (.iload_n 2, 1) := by decide +kernel
theorem dX9_prefer_44 : decode cX9_prefer 44 = .ok (.iload_n 3, 1) := by decide +kernel
theorem dX9_prefer_45 : decode cX9_prefer 45 = .ok (.invokevirtual 132, 3) := by decide +kernel
theorem dX9_prefer_48 : decode cX9_prefer 48 = .ok (.ireturn, 1) := by decide +kernel
set_option maxRecDepth 100000 in
set_option maxHeartbeats 4000000 in
theorem st_X9_prefer (l : Launch) (M : Nat → Prop) (h : Nat) (p0 : Int32) (p1 : Int32) (p2 : Int32) : Ct l yX9_prefer cX9_prefer 5 (some .int) 3 0 0 65 (fun S av => av = [.ref h, .int p0, .int p1, .int p2] ∧ INV M [] S ∧ is S h 9) (fun S _ r S' => ∃ v, r = some (.int v) ∧ INV M [] S' ∧ ext S S' (fun a => ¬ M a ∧ mK S a ∈ [11])) := by
  refine ct_of (by decide) (fun S av h => by obtain ⟨rfl, iv, i_this⟩ := h; exact Nat.le_of_ble_eq_true rfl) ?_
  intro p e s m args below meth c D G bs S av C hr hin hpre
  obtain ⟨rfl, iv, i_this⟩ := hpre
  have E0 : ext S S (fun a => ¬ M a ∧ mK S a ∈ [11]) := ext_rfl
  refine v_aload_n C dX9_prefer_0 rfl ?_
  obtain ⟨a1, e_a1, i_a1⟩ := T576 iv i_this List.not_mem_nil
  refine r9_10 (b := a1) C i_this e_a1 dX9_prefer_1 ?_
  refine v_iload_n C dX9_prefer_4 rfl ?_
  refine v_callV (As := [_]) (n := 1) C (st_X1_figureAt l _ _ _) rfl i_a1 (by decide) rfl ⟨wd300, wd301, wd302, wd15, wd303⟩ ⟨rfl, hy_X1_figureAt⟩ rfl ⟨Nat.le_of_ble_eq_true rfl, Nat.le_of_ble_eq_true rfl⟩ (Nat.le_of_ble_eq_true rfl) ⟨Nat.le_of_ble_eq_true rfl, Nat.le_of_ble_eq_true rfl⟩ dX9_prefer_5 ⟨rfl, iv, i_a1⟩ (fun r_5 S2_5 h_5 => ?_)
  obtain ⟨v5, rfl, n_v5, q_v5⟩ := h_5
  obtain rfl := q_v5.symm
  refine v_qstore C dX9_prefer_8 (by decide) (by first | rfl | exact cat_ok _ | simp [okS, cat_rf]) ?_
  refine v_qload C dX9_prefer_10 rfl ?_
  refine v_ifnull (tgt := 38) C dX9_prefer_12 (by decide) (fun c_12 => ?_) (fun b12 c_12 => ?_)
  · skip
    subst c_12
    refine v_bipush (v := -2) C dX9_prefer_38 (by decide) ?_
    refine v_iret C hr (Nat.le_of_ble_eq_true rfl) (Nat.le_of_ble_eq_true rfl) dX9_prefer_40 ?_
    exact ⟨_, rfl, iv, E0⟩
  · skip
    subst c_12
    have i_b12 := nOK_some n_v5 rfl
    refine v_iload_n C dX9_prefer_15 rfl ?_
    refine v_callS (As := [_]) (n := 1) C (sb_isAct l _) rfl ⟨wd345, wd346, wd2, wd347⟩ hy_X9_isAct rfl ⟨Nat.le_of_ble_eq_true rfl, Nat.le_of_ble_eq_true rfl⟩ (Nat.le_of_ble_eq_true rfl) ⟨Nat.le_of_ble_eq_true rfl, Nat.le_of_ble_eq_true rfl⟩ dX9_prefer_16 rfl (fun r_16 S4_16 h_16 => ?_)
    obtain ⟨v16, rfl, p_v16, q_v16⟩ := h_16
    obtain rfl := q_v16.symm
    refine v_if_eq (tgt := 38) C dX9_prefer_19 (by decide) (fun c_19 => ?_) (fun c_19 => ?_)
    · skip
      refine v_bipush (v := -2) C dX9_prefer_38 (by decide) ?_
      refine v_iret C hr (Nat.le_of_ble_eq_true rfl) (Nat.le_of_ble_eq_true rfl) dX9_prefer_40 ?_
      exact ⟨_, rfl, iv, E0⟩
    · skip
      refine v_iload_n C dX9_prefer_22 rfl ?_
      refine v_iconst (v := -1) C dX9_prefer_23 (by decide) ?_
      refine v_icmp_eq (tgt := 41) C dX9_prefer_24 (by decide) (fun c_24 => ?_) (fun c_24 => ?_)
      · skip
        refine v_aload C dX9_prefer_41 rfl ?_
        refine v_iload_n C dX9_prefer_43 rfl ?_
        refine v_iload_n C dX9_prefer_44 rfl ?_
        refine v_callV (As := [_, _]) (n := 2) C (st_X2_swapPreferred l _ _ _ _) rfl i_b12 (by decide) rfl ⟨wd486, wd487, wd488, wd271, wd489⟩ ⟨rfl, hy_X2_swapPreferred⟩ rfl ⟨Nat.le_of_ble_eq_true rfl, Nat.le_of_ble_eq_true rfl⟩ (Nat.le_of_ble_eq_true rfl) ⟨Nat.le_of_ble_eq_true rfl, Nat.le_of_ble_eq_true rfl⟩ dX9_prefer_45 ⟨rfl, iv, i_b12⟩ (fun r_45 S8_45 h_45 => ?_)
        obtain ⟨v45, rfl, iv2, x_45⟩ := h_45
        have i_this := is_ext x_45 i_this
        have i_a1 := is_ext x_45 i_a1
        have i_b12 := is_ext x_45 i_b12
        have E0' := ext_tr E0 x_45 (xk_call E0 (by decide))
        have E0 := E0'
        have iv := iv2
        refine v_iret C hr (Nat.le_of_ble_eq_true rfl) (Nat.le_of_ble_eq_true rfl) dX9_prefer_48 ?_
        exact ⟨_, rfl, iv, E0⟩
      · skip
        refine v_aload_n C dX9_prefer_27 rfl ?_
        obtain ⟨a28, e_a28, i_a28⟩ := T576 iv i_this List.not_mem_nil
        refine r9_10 (b := a28) C i_this e_a28 dX9_prefer_28 ?_
        refine v_iload_n C dX9_prefer_31 rfl ?_
        refine v_callV (As := [_]) (n := 1) C (st_X1_traitAt l _ _ _) rfl i_a28 (by decide) rfl ⟨wd304, wd138, wd139, wd15, wd140⟩ ⟨rfl, hy_X1_traitAt⟩ rfl ⟨Nat.le_of_ble_eq_true rfl, Nat.le_of_ble_eq_true rfl⟩ (Nat.le_of_ble_eq_true rfl) ⟨Nat.le_of_ble_eq_true rfl, Nat.le_of_ble_eq_true rfl⟩ dX9_prefer_32 ⟨rfl, iv, i_a28⟩ (fun r_32 S8_32 h_32 => ?_)
        obtain ⟨v32, rfl, n_v32, q_v32⟩ := h_32
        obtain rfl := q_v32.symm
        refine v_ifnonnull (tgt := 41) C dX9_prefer_35 (by decide) (fun b35 c_35 => ?_) (fun c_35 => ?_)
        · skip
          subst c_35
          have i_b35 := nOK_some n_v32 rfl
          refine v_aload C dX9_prefer_41 rfl ?_
          refine v_iload_n C dX9_prefer_43 rfl ?_
          refine v_iload_n C dX9_prefer_44 rfl ?_
          refine v_callV (As := [_, _]) (n := 2) C (st_X2_swapPreferred l _ _ _ _) rfl i_b12 (by decide) rfl ⟨wd486, wd487, wd488, wd271, wd489⟩ ⟨rfl, hy_X2_swapPreferred⟩ rfl ⟨Nat.le_of_ble_eq_true rfl, Nat.le_of_ble_eq_true rfl⟩ (Nat.le_of_ble_eq_true rfl) ⟨Nat.le_of_ble_eq_true rfl, Nat.le_of_ble_eq_true rfl⟩ dX9_prefer_45 ⟨rfl, iv, i_b12⟩ (fun r_45 S10_45 h_45 => ?_)
          obtain ⟨v45, rfl, iv2, x_45⟩ := h_45
          have i_this := is_ext x_45 i_this
          have i_a1 := is_ext x_45 i_a1
          have i_b12 := is_ext x_45 i_b12
          have i_a28 := is_ext x_45 i_a28
          have i_b35 := is_ext x_45 i_b35
          have E0' := ext_tr E0 x_45 (xk_call E0 (by decide))
          have E0 := E0'
          have iv := iv2
          refine v_iret C hr (Nat.le_of_ble_eq_true rfl) (Nat.le_of_ble_eq_true rfl) dX9_prefer_48 ?_
          exact ⟨_, rfl, iv, E0⟩
        · skip
          subst c_35
          refine v_bipush (v := -2) C dX9_prefer_38 (by decide) ?_
          refine v_iret C hr (Nat.le_of_ble_eq_true rfl) (Nat.le_of_ble_eq_true rfl) dX9_prefer_40 ?_
          exact ⟨_, rfl, iv, E0⟩
theorem dX9_lineOf_0 : decode cX9_lineOf 0 = .ok (.aload_n 0, 1) := by decide +kernel
theorem dX9_lineOf_1 : decode cX9_lineOf 1 = .ok (.getfield 10, 3) := by decide +kernel
theorem dX9_lineOf_4 : decode cX9_lineOf 4 = .ok (.iload_n 1, 1) := by decide +kernel
theorem dX9_lineOf_5 : decode cX9_lineOf 5 = .ok (.invokevirtual 59, 3) := by decide +kernel
theorem dX9_lineOf_8 : decode cX9_lineOf 8 = .ok (.astore_n 3, 1) := by decide +kernel
theorem dX9_lineOf_9 : decode cX9_lineOf 9 = .ok (.aload_n 3, 1) := by decide +kernel
theorem dX9_lineOf_10 : decode cX9_lineOf 10 = .ok (.ifnull 7, 3) := by decide +kernel
theorem dX9_lineOf_13 : decode cX9_lineOf 13 = .ok (.iload_n 2, 1) := by decide +kernel
theorem dX9_lineOf_14 : decode cX9_lineOf 14 = .ok (.ifCond .ge 8, 3) := by decide +kernel
theorem dX9_lineOf_17 : decode cX9_lineOf 17 = .ok (.bipush (-2), 2) := by decide +kernel
theorem dX9_lineOf_19 : decode cX9_lineOf 19 = .ok (.goto 11, 3) := by decide +kernel
theorem dX9_lineOf_22 : decode cX9_lineOf 22 = .ok (.aload_n 3, 1) := by decide +kernel
theorem dX9_lineOf_23 : decode cX9_lineOf 23 = .ok (.getfield 135, 3) := by decide +kernel
theorem dX9_lineOf_26 : decode cX9_lineOf 26 = .ok (.iload_n 2, 1) := by decide +kernel
theorem dX9_lineOf_27 : decode cX9_lineOf 27 = .ok (.invokevirtual 139, 3) := by decide +kernel
theorem dX9_lineOf_30 : decode cX9_lineOf 30 = .ok (.ireturn, 1) := by decide +kernel
set_option maxRecDepth 100000 in
set_option maxHeartbeats 4000000 in
theorem st_X9_lineOf (l : Launch) (M : Nat → Prop) (h : Nat) (p0 : Int32) (p1 : Int32) : Ct l yX9_lineOf cX9_lineOf 4 (some .int) 2 0 0 42 (fun S av => av = [.ref h, .int p0, .int p1] ∧ INV M [] S ∧ is S h 9) (fun S _ r S' => ∃ v, r = some (.int v) ∧ S' = S) := by
  refine ct_of (by decide) (fun S av h => by obtain ⟨rfl, iv, i_this⟩ := h; exact Nat.le_of_ble_eq_true rfl) ?_
  intro p e s m args below meth c D G bs S av C hr hin hpre
  obtain ⟨rfl, iv, i_this⟩ := hpre
  refine v_aload_n C dX9_lineOf_0 rfl ?_
  obtain ⟨a1, e_a1, i_a1⟩ := T576 iv i_this List.not_mem_nil
  refine r9_10 (b := a1) C i_this e_a1 dX9_lineOf_1 ?_
  refine v_iload_n C dX9_lineOf_4 rfl ?_
  refine v_callV (As := [_]) (n := 1) C (st_X1_traitAt l _ _ _) rfl i_a1 (by decide) rfl ⟨wd304, wd138, wd139, wd15, wd140⟩ ⟨rfl, hy_X1_traitAt⟩ rfl ⟨Nat.le_of_ble_eq_true rfl, Nat.le_of_ble_eq_true rfl⟩ (Nat.le_of_ble_eq_true rfl) ⟨Nat.le_of_ble_eq_true rfl, Nat.le_of_ble_eq_true rfl⟩ dX9_lineOf_5 ⟨rfl, iv, i_a1⟩ (fun r_5 S2_5 h_5 => ?_)
  obtain ⟨v5, rfl, n_v5, q_v5⟩ := h_5
  obtain rfl := q_v5.symm
  refine v_qstore_n C dX9_lineOf_8 (by decide) (by first | rfl | exact cat_ok _ | simp [okS, cat_rf]) ?_
  refine v_qload_n C dX9_lineOf_9 rfl ?_
  refine v_ifnull (tgt := 17) C dX9_lineOf_10 (by decide) (fun c_10 => ?_) (fun b10 c_10 => ?_)
  · skip
    subst c_10
    refine v_bipush (v := -2) C dX9_lineOf_17 (by decide) ?_
    refine v_goto (tgt := 30) C dX9_lineOf_19 (by decide) ?_
    refine v_iret C hr (Nat.le_of_ble_eq_true rfl) (Nat.le_of_ble_eq_true rfl) dX9_lineOf_30 ?_
    exact ⟨_, rfl, rfl⟩
  · skip
    subst c_10
    have i_b10 := nOK_some n_v5 rfl
    refine v_iload_n C dX9_lineOf_13 rfl ?_
    refine v_if_ge (tgt := 22) C dX9_lineOf_14 (by decide) (fun c_14 => ?_) (fun c_14 => ?_)
    · skip
      refine v_aload_n C dX9_lineOf_22 rfl ?_
      obtain ⟨a23, e_a23, i_a23⟩ := T512 iv i_b10 List.not_mem_nil
      refine r9_135 (b := a23) C i_b10 e_a23 dX9_lineOf_23 ?_
      refine v_iload_n C dX9_lineOf_26 rfl ?_
      refine v_callV (As := [_]) (n := 1) C (st_X3_at l _ _ _) rfl i_a23 (by decide) rfl ⟨wd503, wd187, wd188, wd45, wd189⟩ ⟨rfl, hy_X3_at⟩ rfl ⟨Nat.le_of_ble_eq_true rfl, Nat.le_of_ble_eq_true rfl⟩ (Nat.le_of_ble_eq_true rfl) ⟨Nat.le_of_ble_eq_true rfl, Nat.le_of_ble_eq_true rfl⟩ dX9_lineOf_27 ⟨rfl, iv, i_a23⟩ (fun r_27 S6_27 h_27 => ?_)
      obtain ⟨v27, rfl, q_v27⟩ := h_27
      obtain rfl := q_v27.symm
      refine v_iret C hr (Nat.le_of_ble_eq_true rfl) (Nat.le_of_ble_eq_true rfl) dX9_lineOf_30 ?_
      exact ⟨_, rfl, rfl⟩
    · skip
      refine v_bipush (v := -2) C dX9_lineOf_17 (by decide) ?_
      refine v_goto (tgt := 30) C dX9_lineOf_19 (by decide) ?_
      refine v_iret C hr (Nat.le_of_ble_eq_true rfl) (Nat.le_of_ble_eq_true rfl) dX9_lineOf_30 ?_
      exact ⟨_, rfl, rfl⟩
theorem dX9_line_0 : decode cX9_line 0 = .ok (.aload_n 0, 1) := by decide +kernel
theorem dX9_line_1 : decode cX9_line 1 = .ok (.getfield 10, 3) := by decide +kernel
theorem dX9_line_4 : decode cX9_line 4 = .ok (.iload_n 1, 1) := by decide +kernel
theorem dX9_line_5 : decode cX9_line 5 = .ok (.invokevirtual 55, 3) := by decide +kernel
theorem dX9_line_8 : decode cX9_line 8 = .ok (.astore_n 3, 1) := by decide +kernel
theorem dX9_line_9 : decode cX9_line 9 = .ok (.aload_n 3, 1) := by decide +kernel
theorem dX9_line_10 : decode cX9_line 10 = .ok (.ifnull 7, 3) := by decide +kernel
theorem dX9_line_13 : decode cX9_line 13 = .ok (.iload_n 2, 1) := by decide +kernel
theorem dX9_line_14 : decode cX9_line 14 = .ok (.ifCond .ge 8, 3) := by decide +kernel
theorem dX9_line_17 : decode cX9_line 17 = .ok (.bipush (-2), 2) := by decide +kernel
theorem dX9_line_19 : decode cX9_line 19 = .ok (.goto 11, 3) := by decide +kernel
theorem dX9_line_22 : decode cX9_line 22 = .ok (.aload_n 3, 1) := by decide +kernel
theorem dX9_line_23 : decode cX9_line 23 = .ok (.getfield 144, 3) := by decide +kernel
theorem dX9_line_26 : decode cX9_line 26 = .ok (.iload_n 2, 1) := by decide +kernel
theorem dX9_line_27 : decode cX9_line 27 = .ok (.invokevirtual 139, 3) := by decide +kernel
theorem dX9_line_30 : decode cX9_line 30 = .ok (.ireturn, 1) := by decide +kernel
set_option maxRecDepth 100000 in
set_option maxHeartbeats 4000000 in
theorem st_X9_line (l : Launch) (M : Nat → Prop) (h : Nat) (p0 : Int32) (p1 : Int32) : Ct l yX9_line cX9_line 4 (some .int) 2 0 0 42 (fun S av => av = [.ref h, .int p0, .int p1] ∧ INV M [] S ∧ is S h 9) (fun S _ r S' => ∃ v, r = some (.int v) ∧ S' = S) := by
  refine ct_of (by decide) (fun S av h => by obtain ⟨rfl, iv, i_this⟩ := h; exact Nat.le_of_ble_eq_true rfl) ?_
  intro p e s m args below meth c D G bs S av C hr hin hpre
  obtain ⟨rfl, iv, i_this⟩ := hpre
  refine v_aload_n C dX9_line_0 rfl ?_
  obtain ⟨a1, e_a1, i_a1⟩ := T576 iv i_this List.not_mem_nil
  refine r9_10 (b := a1) C i_this e_a1 dX9_line_1 ?_
  refine v_iload_n C dX9_line_4 rfl ?_
  refine v_callV (As := [_]) (n := 1) C (st_X1_figureAt l _ _ _) rfl i_a1 (by decide) rfl ⟨wd300, wd301, wd302, wd15, wd303⟩ ⟨rfl, hy_X1_figureAt⟩ rfl ⟨Nat.le_of_ble_eq_true rfl, Nat.le_of_ble_eq_true rfl⟩ (Nat.le_of_ble_eq_true rfl) ⟨Nat.le_of_ble_eq_true rfl, Nat.le_of_ble_eq_true rfl⟩ dX9_line_5 ⟨rfl, iv, i_a1⟩ (fun r_5 S2_5 h_5 => ?_)
  obtain ⟨v5, rfl, n_v5, q_v5⟩ := h_5
  obtain rfl := q_v5.symm
  refine v_qstore_n C dX9_line_8 (by decide) (by first | rfl | exact cat_ok _ | simp [okS, cat_rf]) ?_
  refine v_qload_n C dX9_line_9 rfl ?_
  refine v_ifnull (tgt := 17) C dX9_line_10 (by decide) (fun c_10 => ?_) (fun b10 c_10 => ?_)
  · skip
    subst c_10
    refine v_bipush (v := -2) C dX9_line_17 (by decide) ?_
    refine v_goto (tgt := 30) C dX9_line_19 (by decide) ?_
    refine v_iret C hr (Nat.le_of_ble_eq_true rfl) (Nat.le_of_ble_eq_true rfl) dX9_line_30 ?_
    exact ⟨_, rfl, rfl⟩
  · skip
    subst c_10
    have i_b10 := nOK_some n_v5 rfl
    refine v_iload_n C dX9_line_13 rfl ?_
    refine v_if_ge (tgt := 22) C dX9_line_14 (by decide) (fun c_14 => ?_) (fun c_14 => ?_)
    · skip
      refine v_aload_n C dX9_line_22 rfl ?_
      obtain ⟨a23, e_a23, i_a23⟩ := T130 iv i_b10 List.not_mem_nil
      refine r9_144 (b := a23) C i_b10 e_a23 dX9_line_23 ?_
      refine v_iload_n C dX9_line_26 rfl ?_
      refine v_callV (As := [_]) (n := 1) C (st_X3_at l _ _ _) rfl i_a23 (by decide) rfl ⟨wd503, wd187, wd188, wd45, wd189⟩ ⟨rfl, hy_X3_at⟩ rfl ⟨Nat.le_of_ble_eq_true rfl, Nat.le_of_ble_eq_true rfl⟩ (Nat.le_of_ble_eq_true rfl) ⟨Nat.le_of_ble_eq_true rfl, Nat.le_of_ble_eq_true rfl⟩ dX9_line_27 ⟨rfl, iv, i_a23⟩ (fun r_27 S6_27 h_27 => ?_)
      obtain ⟨v27, rfl, q_v27⟩ := h_27
      obtain rfl := q_v27.symm
      refine v_iret C hr (Nat.le_of_ble_eq_true rfl) (Nat.le_of_ble_eq_true rfl) dX9_line_30 ?_
      exact ⟨_, rfl, rfl⟩
    · skip
      refine v_bipush (v := -2) C dX9_line_17 (by decide) ?_
      refine v_goto (tgt := 30) C dX9_line_19 (by decide) ?_
      refine v_iret C hr (Nat.le_of_ble_eq_true rfl) (Nat.le_of_ble_eq_true rfl) dX9_line_30 ?_
      exact ⟨_, rfl, rfl⟩
theorem dX9_chosen_0 : decode cX9_chosen 0 = .ok (.aload_n 0, 1) := by decide +kernel
theorem dX9_chosen_1 : decode cX9_chosen 1 = .ok (.getfield 10, 3) := by decide +kernel
theorem dX9_chosen_4 : decode cX9_chosen 4 = .ok (.iload_n 1, 1) := by decide +kernel
theorem dX9_chosen_5 : decode cX9_chosen 5 = .ok (.invokevirtual 55, 3) := by decide +kernel
theorem dX9_chosen_8 : decode cX9_chosen 8 = .ok (.astore_n 3, 1) := by decide +kernel
theorem dX9_chosen_9 : decode cX9_chosen 9 = .ok (.aload_n 3, 1) := by decide +kernel
theorem dX9_chosen_10 : decode cX9_chosen 10 = .ok (.ifnull 10, 3) := by decide +kernel
theorem dX9_chosen_13 : decode cX9_chosen 13 = .ok (.iload_n 2, 1) := by decide +kernel
theorem dX9_chosen_14 : decode cX9_chosen 14 = .ok (.invokestatic 80, 3) := by decide +kernel
theorem dX9_chosen_17 : decode cX9_chosen 17 = .ok (.ifCond .ne 8, 3) := by decide +kernel
theorem dX9_chosen_20 : decode cX9_chosen 20 = .ok (.bipush (-2), 2) := by decide +kernel
theorem dX9_chosen_22 : decode cX9_chosen 22 = .ok (.goto 15, 3) := by decide +kernel
theorem dX9_chosen_25 : decode cX9_chosen 25 = .ok (.aload_n 0, 1) := by decide +kernel
theorem dX9_chosen_26 : decode cX9_chosen 26 = .ok (.getfield 10, 3) := by decide +kernel
theorem dX9_chosen_29 : decode cX9_chosen 29 = .ok (.aload_n 3, 1) := by decide +kernel
theorem dX9_chosen_30 : decode cX9_chosen 30 = .ok (.iload_n 2, 1) := by decide +kernel
theorem dX9_chosen_31 : decode cX9_chosen 31 = .ok (.invokevirtual 145, 3) := by decide +kernel
theorem dX9_chosen_34 : decode cX9_chosen 34 = .ok (.getfield 149, 3) := by decide +kernel
theorem dX9_chosen_37 : decode cX9_chosen 37 = .ok (.ireturn, 1) := by decide +kernel
set_option maxRecDepth 100000 in
set_option maxHeartbeats 4000000 in
theorem st_X9_chosen (l : Launch) (M : Nat → Prop) (h : Nat) (p0 : Int32) (p1 : Int32) : Ct l yX9_chosen cX9_chosen 4 (some .int) 4 0 0 96 (fun S av => av = [.ref h, .int p0, .int p1] ∧ INV M [] S ∧ is S h 9) (fun S _ r S' => ∃ v, r = some (.int v) ∧ INV M [] S' ∧ ext S S' (fun a => ¬ M a ∧ mK S a ∈ [0])) := by
  refine ct_of (by decide) (fun S av h => by obtain ⟨rfl, iv, i_this⟩ := h; exact Nat.le_of_ble_eq_true rfl) ?_
  intro p e s m args below meth c D G bs S av C hr hin hpre
  obtain ⟨rfl, iv, i_this⟩ := hpre
  have E0 : ext S S (fun a => ¬ M a ∧ mK S a ∈ [0]) := ext_rfl
  refine v_aload_n C dX9_chosen_0 rfl ?_
  obtain ⟨a1, e_a1, i_a1⟩ := T576 iv i_this List.not_mem_nil
  refine r9_10 (b := a1) C i_this e_a1 dX9_chosen_1 ?_
  refine v_iload_n C dX9_chosen_4 rfl ?_
  refine v_callV (As := [_]) (n := 1) C (st_X1_figureAt l _ _ _) rfl i_a1 (by decide) rfl ⟨wd300, wd301, wd302, wd15, wd303⟩ ⟨rfl, hy_X1_figureAt⟩ rfl ⟨Nat.le_of_ble_eq_true rfl, Nat.le_of_ble_eq_true rfl⟩ (Nat.le_of_ble_eq_true rfl) ⟨Nat.le_of_ble_eq_true rfl, Nat.le_of_ble_eq_true rfl⟩ dX9_chosen_5 ⟨rfl, iv, i_a1⟩ (fun r_5 S2_5 h_5 => ?_)
  obtain ⟨v5, rfl, n_v5, q_v5⟩ := h_5
  obtain rfl := q_v5.symm
  refine v_qstore_n C dX9_chosen_8 (by decide) (by first | rfl | exact cat_ok _ | simp [okS, cat_rf]) ?_
  refine v_qload_n C dX9_chosen_9 rfl ?_
  refine v_ifnull (tgt := 20) C dX9_chosen_10 (by decide) (fun c_10 => ?_) (fun b10 c_10 => ?_)
  · skip
    subst c_10
    refine v_bipush (v := -2) C dX9_chosen_20 (by decide) ?_
    refine v_goto (tgt := 37) C dX9_chosen_22 (by decide) ?_
    refine v_iret C hr (Nat.le_of_ble_eq_true rfl) (Nat.le_of_ble_eq_true rfl) dX9_chosen_37 ?_
    exact ⟨_, rfl, iv, E0⟩
  · skip
    subst c_10
    have i_b10 := nOK_some n_v5 rfl
    refine v_iload_n C dX9_chosen_13 rfl ?_
    refine v_callS (As := [_]) (n := 1) C (sb_isAct l _) rfl ⟨wd345, wd346, wd2, wd347⟩ hy_X9_isAct rfl ⟨Nat.le_of_ble_eq_true rfl, Nat.le_of_ble_eq_true rfl⟩ (Nat.le_of_ble_eq_true rfl) ⟨Nat.le_of_ble_eq_true rfl, Nat.le_of_ble_eq_true rfl⟩ dX9_chosen_14 rfl (fun r_14 S4_14 h_14 => ?_)
    obtain ⟨v14, rfl, p_v14, q_v14⟩ := h_14
    obtain rfl := q_v14.symm
    refine v_if_ne (tgt := 25) C dX9_chosen_17 (by decide) (fun c_17 => ?_) (fun c_17 => ?_)
    · skip
      refine v_aload_n C dX9_chosen_25 rfl ?_
      obtain ⟨a26, e_a26, i_a26⟩ := T576 iv i_this List.not_mem_nil
      refine r9_10 (b := a26) C i_this e_a26 dX9_chosen_26 ?_
      refine v_aload_n C dX9_chosen_29 rfl ?_
      refine v_iload_n C dX9_chosen_30 rfl ?_
      refine v_callV (As := [_, _]) (n := 2) C (st_X1_weigh l _ _ _ _) rfl i_a26 (by decide) rfl ⟨wd522, wd523, wd524, wd15, wd525⟩ ⟨rfl, hy_X1_weigh⟩ rfl ⟨Nat.le_of_ble_eq_true rfl, Nat.le_of_ble_eq_true rfl⟩ (Nat.le_of_ble_eq_true rfl) ⟨Nat.le_of_ble_eq_true rfl, Nat.le_of_ble_eq_true rfl⟩ dX9_chosen_31 ⟨rfl, iv, i_a26, i_b10⟩ (fun r_31 S6_31 h_31 => ?_)
      obtain ⟨v31, rfl, i_v31, iv2, x_31⟩ := h_31
      have i_this := is_ext x_31 i_this
      have i_a1 := is_ext x_31 i_a1
      have i_b10 := is_ext x_31 i_b10
      have i_a26 := is_ext x_31 i_a26
      have E0' := ext_tr E0 x_31 (xk_call E0 (by decide))
      have E0 := E0'
      have iv := iv2
      refine g9_149 C i_v31 dX9_chosen_34 ?_
      refine v_topi (fun v34 e_v34 => ?_)
      refine v_iret C hr (Nat.le_of_ble_eq_true rfl) (Nat.le_of_ble_eq_true rfl) dX9_chosen_37 ?_
      exact ⟨_, rfl, iv, E0⟩
    · skip
      refine v_bipush (v := -2) C dX9_chosen_20 (by decide) ?_
      refine v_goto (tgt := 37) C dX9_chosen_22 (by decide) ?_
      refine v_iret C hr (Nat.le_of_ble_eq_true rfl) (Nat.le_of_ble_eq_true rfl) dX9_chosen_37 ?_
      exact ⟨_, rfl, iv, E0⟩
theorem dX9_clash_0 : decode cX9_clash 0 = .ok (.aload_n 0, 1) := by decide +kernel
theorem dX9_clash_1 : decode cX9_clash 1 = .ok (.getfield 10, 3) := by decide +kernel
theorem dX9_clash_4 : decode cX9_clash 4 = .ok (.iload_n 1, 1) := by decide +kernel
theorem dX9_clash_5 : decode cX9_clash 5 = .ok (.invokevirtual 55, 3) := by decide +kernel
theorem dX9_clash_8 : decode cX9_clash 8 = .ok (.astore_n 3, 1) := by decide +kernel
theorem dX9_clash_9 : decode cX9_clash 9 = .ok (.aload_n 3, 1) := by decide +kernel
theorem dX9_clash_10 : decode cX9_clash 10 = .ok (.ifnull 10, 3) := by decide +kernel
theorem dX9_clash_13 : decode cX9_clash 13 = .ok (.iload_n 2, 1) := by decide +kernel
theorem dX9_clash_14 : decode cX9_clash 14 = .ok (.invokestatic 80, 3) := by decide +kernel
theorem dX9_clash_17 : decode cX9_clash 17 = .ok (.ifCond .ne 8, 3) := by decide +kernel
theorem dX9_clash_20 : decode cX9_clash 20 = .ok (.bipush (-2), 2) := by decide +kernel
theorem dX9_clash_22 : decode cX9_clash 22 = .ok (.goto 15, 3) := by decide +kernel
theorem dX9_clash_25 : decode cX9_clash 25 = .ok (.aload_n 0, 1) := by decide +kernel
theorem dX9_clash_26 : decode cX9_clash 26 = .ok (.getfield 10, 3) := by decide +kernel
theorem dX9_clash_29 : decode cX9_clash 29 = .ok (.aload_n 3, 1) := by decide +kernel
theorem dX9_clash_30 : decode cX9_clash 30 = .ok (.iload_n 2, 1) := by decide +kernel
theorem dX9_clash_31 : decode cX9_clash 31 = .ok (.invokevirtual 145, 3) := by decide +kernel
theorem dX9_clash_34 : decode cX9_clash 34 = .ok (.getfield 154, 3) := by decide +kernel
theorem dX9_clash_37 : decode cX9_clash 37 = .ok (.ireturn, 1) := by decide +kernel
set_option maxRecDepth 100000 in
set_option maxHeartbeats 4000000 in
theorem st_X9_clash (l : Launch) (M : Nat → Prop) (h : Nat) (p0 : Int32) (p1 : Int32) : Ct l yX9_clash cX9_clash 4 (some .int) 4 0 0 96 (fun S av => av = [.ref h, .int p0, .int p1] ∧ INV M [] S ∧ is S h 9) (fun S _ r S' => ∃ v, r = some (.int v) ∧ INV M [] S' ∧ ext S S' (fun a => ¬ M a ∧ mK S a ∈ [0])) := by
  refine ct_of (by decide) (fun S av h => by obtain ⟨rfl, iv, i_this⟩ := h; exact Nat.le_of_ble_eq_true rfl) ?_
  intro p e s m args below meth c D G bs S av C hr hin hpre
  obtain ⟨rfl, iv, i_this⟩ := hpre
  have E0 : ext S S (fun a => ¬ M a ∧ mK S a ∈ [0]) := ext_rfl
  refine v_aload_n C dX9_clash_0 rfl ?_
  obtain ⟨a1, e_a1, i_a1⟩ := T576 iv i_this List.not_mem_nil
  refine r9_10 (b := a1) C i_this e_a1 dX9_clash_1 ?_
  refine v_iload_n C dX9_clash_4 rfl ?_
  refine v_callV (As := [_]) (n := 1) C (st_X1_figureAt l _ _ _) rfl i_a1 (by decide) rfl ⟨wd300, wd301, wd302, wd15, wd303⟩ ⟨rfl, hy_X1_figureAt⟩ rfl ⟨Nat.le_of_ble_eq_true rfl, Nat.le_of_ble_eq_true rfl⟩ (Nat.le_of_ble_eq_true rfl) ⟨Nat.le_of_ble_eq_true rfl, Nat.le_of_ble_eq_true rfl⟩ dX9_clash_5 ⟨rfl, iv, i_a1⟩ (fun r_5 S2_5 h_5 => ?_)
  obtain ⟨v5, rfl, n_v5, q_v5⟩ := h_5
  obtain rfl := q_v5.symm
  refine v_qstore_n C dX9_clash_8 (by decide) (by first | rfl | exact cat_ok _ | simp [okS, cat_rf]) ?_
  refine v_qload_n C dX9_clash_9 rfl ?_
  refine v_ifnull (tgt := 20) C dX9_clash_10 (by decide) (fun c_10 => ?_) (fun b10 c_10 => ?_)
  · skip
    subst c_10
    refine v_bipush (v := -2) C dX9_clash_20 (by decide) ?_
    refine v_goto (tgt := 37) C dX9_clash_22 (by decide) ?_
    refine v_iret C hr (Nat.le_of_ble_eq_true rfl) (Nat.le_of_ble_eq_true rfl) dX9_clash_37 ?_
    exact ⟨_, rfl, iv, E0⟩
  · skip
    subst c_10
    have i_b10 := nOK_some n_v5 rfl
    refine v_iload_n C dX9_clash_13 rfl ?_
    refine v_callS (As := [_]) (n := 1) C (sb_isAct l _) rfl ⟨wd345, wd346, wd2, wd347⟩ hy_X9_isAct rfl ⟨Nat.le_of_ble_eq_true rfl, Nat.le_of_ble_eq_true rfl⟩ (Nat.le_of_ble_eq_true rfl) ⟨Nat.le_of_ble_eq_true rfl, Nat.le_of_ble_eq_true rfl⟩ dX9_clash_14 rfl (fun r_14 S4_14 h_14 => ?_)
    obtain ⟨v14, rfl, p_v14, q_v14⟩ := h_14
    obtain rfl := q_v14.symm
    refine v_if_ne (tgt := 25) C dX9_clash_17 (by decide) (fun c_17 => ?_) (fun c_17 => ?_)
    · skip
      refine v_aload_n C dX9_clash_25 rfl ?_
      obtain ⟨a26, e_a26, i_a26⟩ := T576 iv i_this List.not_mem_nil
      refine r9_10 (b := a26) C i_this e_a26 dX9_clash_26 ?_
      refine v_aload_n C dX9_clash_29 rfl ?_
      refine v_iload_n C dX9_clash_30 rfl ?_
      refine v_callV (As := [_, _]) (n := 2) C (st_X1_weigh l _ _ _ _) rfl i_a26 (by decide) rfl ⟨wd522, wd523, wd524, wd15, wd525⟩ ⟨rfl, hy_X1_weigh⟩ rfl ⟨Nat.le_of_ble_eq_true rfl, Nat.le_of_ble_eq_true rfl⟩ (Nat.le_of_ble_eq_true rfl) ⟨Nat.le_of_ble_eq_true rfl, Nat.le_of_ble_eq_true rfl⟩ dX9_clash_31 ⟨rfl, iv, i_a26, i_b10⟩ (fun r_31 S6_31 h_31 => ?_)
      obtain ⟨v31, rfl, i_v31, iv2, x_31⟩ := h_31
      have i_this := is_ext x_31 i_this
      have i_a1 := is_ext x_31 i_a1
      have i_b10 := is_ext x_31 i_b10
      have i_a26 := is_ext x_31 i_a26
      have E0' := ext_tr E0 x_31 (xk_call E0 (by decide))
      have E0 := E0'
      have iv := iv2
      refine g9_154 C i_v31 dX9_clash_34 ?_
      refine v_topi (fun v34 e_v34 => ?_)
      refine v_iret C hr (Nat.le_of_ble_eq_true rfl) (Nat.le_of_ble_eq_true rfl) dX9_clash_37 ?_
      exact ⟨_, rfl, iv, E0⟩
    · skip
      refine v_bipush (v := -2) C dX9_clash_20 (by decide) ?_
      refine v_goto (tgt := 37) C dX9_clash_22 (by decide) ?_
      refine v_iret C hr (Nat.le_of_ble_eq_true rfl) (Nat.le_of_ble_eq_true rfl) dX9_clash_37 ?_
      exact ⟨_, rfl, iv, E0⟩
theorem dX9_about_0 : decode cX9_about 0 = .ok (.aload_n 0, 1) := by decide +kernel
theorem dX9_about_1 : decode cX9_about 1 = .ok (.getfield 10, 3) := by decide +kernel
theorem dX9_about_4 : decode cX9_about 4 = .ok (.iload_n 1, 1) := by decide +kernel
theorem dX9_about_5 : decode cX9_about 5 = .ok (.invokevirtual 55, 3) := by decide +kernel
theorem dX9_about_8 : decode cX9_about 8 = .ok (.astore 4, 2) := by decide +kernel
theorem dX9_about_10 : decode cX9_about 10 = .ok (.aload 4, 2) := by decide +kernel
theorem dX9_about_12 : decode cX9_about 12 = .ok (.ifnull 18, 3) := by decide +kernel
theorem dX9_about_15 : decode cX9_about 15 = .ok (.iload_n 2, 1) := by decide +kernel
theorem dX9_about_16 : decode cX9_about 16 = .ok (.invokestatic 80, 3) := by decide +kernel
theorem dX9_about_19 : decode cX9_about 19 = .ok (.ifCond .eq 11, 3) := by decide +kernel
theorem dX9_about_22 : decode cX9_about 22 = .ok (.iload_n 3, 1) := by decide +kernel
theorem dX9_about_23 : decode cX9_about 23 = .ok (.iconst 5, 1) := by decide +kernel
theorem dX9_about_24 : decode cX9_about 24 = .ok (.invokestatic 44, 3) := by decide +kernel
theorem dX9_about_27 : decode cX9_about 27 = .ok (.ifCond .ne 6, 3) := by decide +kernel
theorem dX9_about_30 : decode cX9_about 30 = .ok (.bipush (-2), 2) := by decide +kernel
theorem dX9_about_32 : decode cX9_about 32 = .ok (.ireturn, 1) := by decide +kernel
theorem dX9_about_33 : decode cX9_about 33 = .ok (.iload_n 3, 1) := by decide +kernel
theorem dX9_about_34 : decode cX9_about 34 = .ok (.iconst 4, 1) := by decide +kernel
theorem dX9_about_35 : decode cX9_about 35 = .ok (.if_icmp .ne 16, 3) := by decide +kernel
theorem dX9_about_38 : decode cX9_about 38 = .ok (.aload_n 0, 1) := by decide +kernel
theorem dX9_about_39 : decode cX9_about 39 = .ok (.getfield 10, 3) := by decide +kernel
theorem dX9_about_42 : decode cX9_about 42 = .ok (.aload 4, 2) := by decide +kernel
theorem dX9_about_44 : decode cX9_about 44 = .ok (.iload_n 2, 1) := by decide +kernel
theorem dX9_about_45 : decode cX9_about 45 = .ok (.invokevirtual 157, 3) := by decide +kernel
theorem dX9_about_48 : decode cX9_about 48 = .ok (.goto 14, 3) := by decide +kernel
theorem dX9_about_51 : decode cX9_about 51 = .ok (.aload_n 0, 1) := by decide +kernel
theorem dX9_about_52 : decode cX9_about 52 = .ok (.getfield 10, 3) := by decide +kernel
theorem dX9_about_55 : decode cX9_about 55 = .ok (.aload 4, 2) := by decide +kernel
theorem dX9_about_57 : decode cX9_about 57 = .ok (.iload_n 2, 1) := by decide +kernel
theorem dX9_about_58 : decode cX9_about 58 = .ok (.iload_n 3, 1) := by decide +kernel
theorem dX9_about_59 : decode cX9_about 59 = .ok (.invokevirtual 160, 3) := by decide +kernel
theorem dX9_about_62 : decode cX9_about 62 = .ok (.ireturn, 1) := by decide +kernel
set_option maxRecDepth 100000 in
set_option maxHeartbeats 4000000 in
theorem st_X9_about (l : Launch) (M : Nat → Prop) (h : Nat) (p0 : Int32) (p1 : Int32) (p2 : Int32) : Ct l yX9_about cX9_about 5 (some .int) 5 0 0 120 (fun S av => av = [.ref h, .int p0, .int p1, .int p2] ∧ INV M [] S ∧ is S h 9) (fun S _ r S' => ∃ v, r = some (.int v) ∧ INV M [] S' ∧ ext S S' (fun a => ¬ M a ∧ mK S a ∈ [0])) := by
  refine ct_of (by decide) (fun S av h => by obtain ⟨rfl, iv, i_this⟩ := h; exact Nat.le_of_ble_eq_true rfl) ?_
  intro p e s m args below meth c D G bs S av C hr hin hpre
  obtain ⟨rfl, iv, i_this⟩ := hpre
  have E0 : ext S S (fun a => ¬ M a ∧ mK S a ∈ [0]) := ext_rfl
  refine v_aload_n C dX9_about_0 rfl ?_
  obtain ⟨a1, e_a1, i_a1⟩ := T576 iv i_this List.not_mem_nil
  refine r9_10 (b := a1) C i_this e_a1 dX9_about_1 ?_
  refine v_iload_n C dX9_about_4 rfl ?_
  refine v_callV (As := [_]) (n := 1) C (st_X1_figureAt l _ _ _) rfl i_a1 (by decide) rfl ⟨wd300, wd301, wd302, wd15, wd303⟩ ⟨rfl, hy_X1_figureAt⟩ rfl ⟨Nat.le_of_ble_eq_true rfl, Nat.le_of_ble_eq_true rfl⟩ (Nat.le_of_ble_eq_true rfl) ⟨Nat.le_of_ble_eq_true rfl, Nat.le_of_ble_eq_true rfl⟩ dX9_about_5 ⟨rfl, iv, i_a1⟩ (fun r_5 S2_5 h_5 => ?_)
  obtain ⟨v5, rfl, n_v5, q_v5⟩ := h_5
  obtain rfl := q_v5.symm
  refine v_qstore C dX9_about_8 (by decide) (by first | rfl | exact cat_ok _ | simp [okS, cat_rf]) ?_
  refine v_qload C dX9_about_10 rfl ?_
  refine v_ifnull (tgt := 30) C dX9_about_12 (by decide) (fun c_12 => ?_) (fun b12 c_12 => ?_)
  · skip
    subst c_12
    refine v_bipush (v := -2) C dX9_about_30 (by decide) ?_
    refine v_iret C hr (Nat.le_of_ble_eq_true rfl) (Nat.le_of_ble_eq_true rfl) dX9_about_32 ?_
    exact ⟨_, rfl, iv, E0⟩
  · skip
    subst c_12
    have i_b12 := nOK_some n_v5 rfl
    refine v_iload_n C dX9_about_15 rfl ?_
    refine v_callS (As := [_]) (n := 1) C (sb_isAct l _) rfl ⟨wd345, wd346, wd2, wd347⟩ hy_X9_isAct rfl ⟨Nat.le_of_ble_eq_true rfl, Nat.le_of_ble_eq_true rfl⟩ (Nat.le_of_ble_eq_true rfl) ⟨Nat.le_of_ble_eq_true rfl, Nat.le_of_ble_eq_true rfl⟩ dX9_about_16 rfl (fun r_16 S4_16 h_16 => ?_)
    obtain ⟨v16, rfl, p_v16, q_v16⟩ := h_16
    obtain rfl := q_v16.symm
    refine v_if_eq (tgt := 30) C dX9_about_19 (by decide) (fun c_19 => ?_) (fun c_19 => ?_)
    · skip
      refine v_bipush (v := -2) C dX9_about_30 (by decide) ?_
      refine v_iret C hr (Nat.le_of_ble_eq_true rfl) (Nat.le_of_ble_eq_true rfl) dX9_about_32 ?_
      exact ⟨_, rfl, iv, E0⟩
    · skip
      refine v_iload_n C dX9_about_22 rfl ?_
      refine v_iconst (v := 5) C dX9_about_23 (by decide) ?_
      refine v_callS (As := [_, _]) (n := 2) C (sb_isBelow l _ _) rfl ⟨wd264, wd141, wd2, wd142⟩ hy_X9_isBelow rfl ⟨Nat.le_of_ble_eq_true rfl, Nat.le_of_ble_eq_true rfl⟩ (Nat.le_of_ble_eq_true rfl) ⟨Nat.le_of_ble_eq_true rfl, Nat.le_of_ble_eq_true rfl⟩ dX9_about_24 rfl (fun r_24 S6_24 h_24 => ?_)
      obtain ⟨v24, rfl, p_v24, q_v24⟩ := h_24
      obtain rfl := q_v24.symm
      refine v_if_ne (tgt := 33) C dX9_about_27 (by decide) (fun c_27 => ?_) (fun c_27 => ?_)
      · skip
        refine v_iload_n C dX9_about_33 rfl ?_
        refine v_iconst (v := 4) C dX9_about_34 (by decide) ?_
        refine v_icmp_ne (tgt := 51) C dX9_about_35 (by decide) (fun c_35 => ?_) (fun c_35 => ?_)
        · skip
          refine v_aload_n C dX9_about_51 rfl ?_
          obtain ⟨a52, e_a52, i_a52⟩ := T576 iv i_this List.not_mem_nil
          refine r9_10 (b := a52) C i_this e_a52 dX9_about_52 ?_
          refine v_aload C dX9_about_55 rfl ?_
          refine v_iload_n C dX9_about_57 rfl ?_
          refine v_iload_n C dX9_about_58 rfl ?_
          refine v_callV (As := [_, _, _]) (n := 3) C (st_X1_aboutChosen l _ _ _ _ _) rfl i_a52 (by decide) rfl ⟨wd646, wd647, wd648, wd15, wd649⟩ ⟨rfl, hy_X1_aboutChosen⟩ rfl ⟨Nat.le_of_ble_eq_true rfl, Nat.le_of_ble_eq_true rfl⟩ (Nat.le_of_ble_eq_true rfl) ⟨Nat.le_of_ble_eq_true rfl, Nat.le_of_ble_eq_true rfl⟩ dX9_about_59 ⟨rfl, iv, i_a52, i_b12⟩ (fun r_59 S10_59 h_59 => ?_)
          obtain ⟨v59, rfl, iv2, x_59⟩ := h_59
          have i_this := is_ext x_59 i_this
          have i_a1 := is_ext x_59 i_a1
          have i_b12 := is_ext x_59 i_b12
          have i_a52 := is_ext x_59 i_a52
          have E0' := ext_tr E0 x_59 (xk_call E0 (by decide))
          have E0 := E0'
          have iv := iv2
          refine v_iret C hr (Nat.le_of_ble_eq_true rfl) (Nat.le_of_ble_eq_true rfl) dX9_about_62 ?_
          exact ⟨_, rfl, iv, E0⟩
        · skip
          refine v_aload_n C dX9_about_38 rfl ?_
          obtain ⟨a39, e_a39, i_a39⟩ := T576 iv i_this List.not_mem_nil
          refine r9_10 (b := a39) C i_this e_a39 dX9_about_39 ?_
          refine v_aload C dX9_about_42 rfl ?_
          refine v_iload_n C dX9_about_44 rfl ?_
          refine v_callV (As := [_, _]) (n := 2) C (st_X1_guardCount l _ _ _ _) rfl i_a39 (by decide) rfl ⟨wd634, wd635, wd636, wd15, wd637⟩ ⟨rfl, hy_X1_guardCount⟩ rfl ⟨Nat.le_of_ble_eq_true rfl, Nat.le_of_ble_eq_true rfl⟩ (Nat.le_of_ble_eq_true rfl) ⟨Nat.le_of_ble_eq_true rfl, Nat.le_of_ble_eq_true rfl⟩ dX9_about_45 ⟨rfl, iv, i_a39, i_b12⟩ (fun r_45 S10_45 h_45 => ?_)
          obtain ⟨v45, rfl, q_v45⟩ := h_45
          obtain rfl := q_v45.symm
          refine v_goto (tgt := 62) C dX9_about_48 (by decide) ?_
          refine v_iret C hr (Nat.le_of_ble_eq_true rfl) (Nat.le_of_ble_eq_true rfl) dX9_about_62 ?_
          exact ⟨_, rfl, iv, E0⟩
      · skip
        refine v_bipush (v := -2) C dX9_about_30 (by decide) ?_
        refine v_iret C hr (Nat.le_of_ble_eq_true rfl) (Nat.le_of_ble_eq_true rfl) dX9_about_32 ?_
        exact ⟨_, rfl, iv, E0⟩
theorem dX9_above_0 : decode cX9_above 0 = .ok (.aload_n 0, 1) := by decide +kernel
theorem dX9_above_1 : decode cX9_above 1 = .ok (.getfield 10, 3) := by decide +kernel
theorem dX9_above_4 : decode cX9_above 4 = .ok (.iload_n 1, 1) := by decide +kernel
theorem dX9_above_5 : decode cX9_above 5 = .ok (.invokevirtual 55, 3) := by decide +kernel
theorem dX9_above_8 : decode cX9_above 8 = .ok (.astore 4, 2) := by decide +kernel
theorem dX9_above_10 : decode cX9_above 10 = .ok (.aload 4, 2) := by decide +kernel
theorem dX9_above_12 : decode cX9_above 12 = .ok (.ifnull 19, 3) := by decide +kernel
theorem dX9_above_15 : decode cX9_above 15 = .ok (.iload_n 2, 1) := by decide +kernel
theorem dX9_above_16 : decode cX9_above 16 = .ok (.invokestatic 80, 3) := by decide +kernel
theorem dX9_above_19 : decode cX9_above 19 = .ok (.ifCond .eq 12, 3) := by decide +kernel
theorem dX9_above_22 : decode cX9_above 22 = .ok (.iload_n 3, 1) := by decide +kernel
theorem dX9_above_23 : decode cX9_above 23 = .ok (.bipush 31, 2) := by decide +kernel
theorem dX9_above_25 : decode cX9_above 25 = .ok (.invokestatic 44, 3) := by decide +kernel
theorem dX9_above_28 : decode cX9_above 28 = .ok (.ifCond .ne 6, 3) := by decide +kernel
theorem dX9_above_31 : decode cX9_above 31 = .ok (.bipush (-2), 2) := by decide +kernel
theorem dX9_above_33 : decode cX9_above 33 = .ok (.ireturn, 1) := by decide +kernel
theorem dX9_above_34 : decode cX9_above 34 = .ok (.aload_n 0, 1) := by decide +kernel
theorem dX9_above_35 : decode cX9_above 35 = .ok (.getfield 10, 3) := by decide +kernel
theorem dX9_above_38 : decode cX9_above 38 = .ok (.aload 4, 2) := by decide +kernel
theorem dX9_above_40 : decode cX9_above 40 = .ok (.iload_n 2, 1) := by decide +kernel
theorem dX9_above_41 : decode cX9_above 41 = .ok (.iload_n 3, 1) := by decide +kernel
theorem dX9_above_42 : decode cX9_above 42 = .ok (.invokevirtual 164, 3) := by decide +kernel
theorem dX9_above_45 : decode cX9_above 45 = .ok (.ireturn, 1) := by decide +kernel
set_option maxRecDepth 100000 in
set_option maxHeartbeats 4000000 in
theorem st_X9_above (l : Launch) (M : Nat → Prop) (h : Nat) (p0 : Int32) (p1 : Int32) (p2 : Int32) : Ct l yX9_above cX9_above 5 (some .int) 5 0 0 121 (fun S av => av = [.ref h, .int p0, .int p1, .int p2] ∧ INV M [] S ∧ is S h 9) (fun S _ r S' => ∃ v, r = some (.int v) ∧ INV M [] S' ∧ ext S S' (fun a => ¬ M a ∧ mK S a ∈ [0])) := by
  refine ct_of (by decide) (fun S av h => by obtain ⟨rfl, iv, i_this⟩ := h; exact Nat.le_of_ble_eq_true rfl) ?_
  intro p e s m args below meth c D G bs S av C hr hin hpre
  obtain ⟨rfl, iv, i_this⟩ := hpre
  have E0 : ext S S (fun a => ¬ M a ∧ mK S a ∈ [0]) := ext_rfl
  refine v_aload_n C dX9_above_0 rfl ?_
  obtain ⟨a1, e_a1, i_a1⟩ := T576 iv i_this List.not_mem_nil
  refine r9_10 (b := a1) C i_this e_a1 dX9_above_1 ?_
  refine v_iload_n C dX9_above_4 rfl ?_
  refine v_callV (As := [_]) (n := 1) C (st_X1_figureAt l _ _ _) rfl i_a1 (by decide) rfl ⟨wd300, wd301, wd302, wd15, wd303⟩ ⟨rfl, hy_X1_figureAt⟩ rfl ⟨Nat.le_of_ble_eq_true rfl, Nat.le_of_ble_eq_true rfl⟩ (Nat.le_of_ble_eq_true rfl) ⟨Nat.le_of_ble_eq_true rfl, Nat.le_of_ble_eq_true rfl⟩ dX9_above_5 ⟨rfl, iv, i_a1⟩ (fun r_5 S2_5 h_5 => ?_)
  obtain ⟨v5, rfl, n_v5, q_v5⟩ := h_5
  obtain rfl := q_v5.symm
  refine v_qstore C dX9_above_8 (by decide) (by first | rfl | exact cat_ok _ | simp [okS, cat_rf]) ?_
  refine v_qload C dX9_above_10 rfl ?_
  refine v_ifnull (tgt := 31) C dX9_above_12 (by decide) (fun c_12 => ?_) (fun b12 c_12 => ?_)
  · skip
    subst c_12
    refine v_bipush (v := -2) C dX9_above_31 (by decide) ?_
    refine v_iret C hr (Nat.le_of_ble_eq_true rfl) (Nat.le_of_ble_eq_true rfl) dX9_above_33 ?_
    exact ⟨_, rfl, iv, E0⟩
  · skip
    subst c_12
    have i_b12 := nOK_some n_v5 rfl
    refine v_iload_n C dX9_above_15 rfl ?_
    refine v_callS (As := [_]) (n := 1) C (sb_isAct l _) rfl ⟨wd345, wd346, wd2, wd347⟩ hy_X9_isAct rfl ⟨Nat.le_of_ble_eq_true rfl, Nat.le_of_ble_eq_true rfl⟩ (Nat.le_of_ble_eq_true rfl) ⟨Nat.le_of_ble_eq_true rfl, Nat.le_of_ble_eq_true rfl⟩ dX9_above_16 rfl (fun r_16 S4_16 h_16 => ?_)
    obtain ⟨v16, rfl, p_v16, q_v16⟩ := h_16
    obtain rfl := q_v16.symm
    refine v_if_eq (tgt := 31) C dX9_above_19 (by decide) (fun c_19 => ?_) (fun c_19 => ?_)
    · skip
      refine v_bipush (v := -2) C dX9_above_31 (by decide) ?_
      refine v_iret C hr (Nat.le_of_ble_eq_true rfl) (Nat.le_of_ble_eq_true rfl) dX9_above_33 ?_
      exact ⟨_, rfl, iv, E0⟩
    · skip
      refine v_iload_n C dX9_above_22 rfl ?_
      refine v_bipush (v := 31) C dX9_above_23 (by decide) ?_
      refine v_callS (As := [_, _]) (n := 2) C (sb_isBelow l _ _) rfl ⟨wd264, wd141, wd2, wd142⟩ hy_X9_isBelow rfl ⟨Nat.le_of_ble_eq_true rfl, Nat.le_of_ble_eq_true rfl⟩ (Nat.le_of_ble_eq_true rfl) ⟨Nat.le_of_ble_eq_true rfl, Nat.le_of_ble_eq_true rfl⟩ dX9_above_25 rfl (fun r_25 S6_25 h_25 => ?_)
      obtain ⟨v25, rfl, p_v25, q_v25⟩ := h_25
      obtain rfl := q_v25.symm
      refine v_if_ne (tgt := 34) C dX9_above_28 (by decide) (fun c_28 => ?_) (fun c_28 => ?_)
      · skip
        refine v_aload_n C dX9_above_34 rfl ?_
        obtain ⟨a35, e_a35, i_a35⟩ := T576 iv i_this List.not_mem_nil
        refine r9_10 (b := a35) C i_this e_a35 dX9_above_35 ?_
        refine v_aload C dX9_above_38 rfl ?_
        refine v_iload_n C dX9_above_40 rfl ?_
        refine v_iload_n C dX9_above_41 rfl ?_
        refine v_callV (As := [_, _, _]) (n := 3) C (st_X1_climb l _ _ _ _ _) rfl i_a35 (by decide) rfl ⟨wd676, wd677, wd678, wd15, wd679⟩ ⟨rfl, hy_X1_climb⟩ rfl ⟨Nat.le_of_ble_eq_true rfl, Nat.le_of_ble_eq_true rfl⟩ (Nat.le_of_ble_eq_true rfl) ⟨Nat.le_of_ble_eq_true rfl, Nat.le_of_ble_eq_true rfl⟩ dX9_above_42 ⟨rfl, iv, i_a35, i_b12⟩ (fun r_42 S8_42 h_42 => ?_)
        obtain ⟨v42, rfl, iv2, x_42⟩ := h_42
        have i_this := is_ext x_42 i_this
        have i_a1 := is_ext x_42 i_a1
        have i_b12 := is_ext x_42 i_b12
        have i_a35 := is_ext x_42 i_a35
        have E0' := ext_tr E0 x_42 (xk_call E0 (by decide))
        have E0 := E0'
        have iv := iv2
        refine v_iret C hr (Nat.le_of_ble_eq_true rfl) (Nat.le_of_ble_eq_true rfl) dX9_above_45 ?_
        exact ⟨_, rfl, iv, E0⟩
      · skip
        refine v_bipush (v := -2) C dX9_above_31 (by decide) ?_
        refine v_iret C hr (Nat.le_of_ble_eq_true rfl) (Nat.le_of_ble_eq_true rfl) dX9_above_33 ?_
        exact ⟨_, rfl, iv, E0⟩
theorem dX9_guards_0 : decode cX9_guards 0 = .ok (.aload_n 0, 1) := by decide +kernel
theorem dX9_guards_1 : decode cX9_guards 1 = .ok (.getfield 10, 3) := by decide +kernel
theorem dX9_guards_4 : decode cX9_guards 4 = .ok (.iload_n 1, 1) := by decide +kernel
theorem dX9_guards_5 : decode cX9_guards 5 = .ok (.invokevirtual 55, 3) := by decide +kernel
theorem dX9_guards_8 : decode cX9_guards 8 = .ok (.astore 4, 2) := by decide +kernel
theorem dX9_guards_10 : decode cX9_guards 10 = .ok (.aload 4, 2) := by decide +kernel
theorem dX9_guards_12 : decode cX9_guards 12 = .ok (.ifnull 14, 3) := by decide +kernel
theorem dX9_guards_15 : decode cX9_guards 15 = .ok (.iload_n 2, 1) := by decide +kernel
theorem dX9_guards_16 : decode cX9_guards 16 = .ok (.invokestatic 80, 3) := by decide +kernel
theorem dX9_guards_19 : decode cX9_guards 19 = .ok (.ifCond .eq 7, 3) := by decide +kernel
theorem dX9_guards_22 : decode cX9_guards 22 = .ok (.iload_n 3, 1) := by decide +kernel
theorem dX9_guards_23 : decode cX9_guards 23 = .ok (.ifCond .ge 8, 3) := by decide +kernel
theorem dX9_guards_26 : decode cX9_guards 26 = .ok (.bipush (-2), 2) := by decide +kernel
theorem dX9_guards_28 : decode cX9_guards 28 = .ok (.goto 14, 3) := by decide +kernel
theorem dX9_guards_31 : decode cX9_guards 31 = .ok (.aload_n 0, 1) := by decide +kernel
theorem dX9_guards_32 : decode cX9_guards 32 = .ok (.getfield 10, 3) := by decide +kernel
theorem dX9_guards_35 : decode cX9_guards 35 = .ok (.aload 4, 2) := by decide +kernel
theorem dX9_guards_37 : decode cX9_guards 37 = .ok (.iload_n 2, 1) := by decide +kernel
theorem dX9_guards_38 : decode cX9_guards 38 = .ok (.iload_n 3, 1) := by decide +kernel
theorem dX9_guards_39 : decode cX9_guards 39 = .ok (.invokevirtual 167, 3) := by decide +kernel
theorem dX9_guards_42 : decode cX9_guards 42 = .ok (.ireturn, 1) := by decide +kernel
set_option maxRecDepth 100000 in
set_option maxHeartbeats 4000000 in
theorem st_X9_guards (l : Launch) (M : Nat → Prop) (h : Nat) (p0 : Int32) (p1 : Int32) (p2 : Int32) : Ct l yX9_guards cX9_guards 5 (some .int) 4 0 0 91 (fun S av => av = [.ref h, .int p0, .int p1, .int p2] ∧ INV M [] S ∧ is S h 9) (fun S _ r S' => ∃ v, r = some (.int v) ∧ S' = S) := by
  refine ct_of (by decide) (fun S av h => by obtain ⟨rfl, iv, i_this⟩ := h; exact Nat.le_of_ble_eq_true rfl) ?_
  intro p e s m args below meth c D G bs S av C hr hin hpre
  obtain ⟨rfl, iv, i_this⟩ := hpre
  refine v_aload_n C dX9_guards_0 rfl ?_
  obtain ⟨a1, e_a1, i_a1⟩ := T576 iv i_this List.not_mem_nil
  refine r9_10 (b := a1) C i_this e_a1 dX9_guards_1 ?_
  refine v_iload_n C dX9_guards_4 rfl ?_
  refine v_callV (As := [_]) (n := 1) C (st_X1_figureAt l _ _ _) rfl i_a1 (by decide) rfl ⟨wd300, wd301, wd302, wd15, wd303⟩ ⟨rfl, hy_X1_figureAt⟩ rfl ⟨Nat.le_of_ble_eq_true rfl, Nat.le_of_ble_eq_true rfl⟩ (Nat.le_of_ble_eq_true rfl) ⟨Nat.le_of_ble_eq_true rfl, Nat.le_of_ble_eq_true rfl⟩ dX9_guards_5 ⟨rfl, iv, i_a1⟩ (fun r_5 S2_5 h_5 => ?_)
  obtain ⟨v5, rfl, n_v5, q_v5⟩ := h_5
  obtain rfl := q_v5.symm
  refine v_qstore C dX9_guards_8 (by decide) (by first | rfl | exact cat_ok _ | simp [okS, cat_rf]) ?_
  refine v_qload C dX9_guards_10 rfl ?_
  refine v_ifnull (tgt := 26) C dX9_guards_12 (by decide) (fun c_12 => ?_) (fun b12 c_12 => ?_)
  · skip
    subst c_12
    refine v_bipush (v := -2) C dX9_guards_26 (by decide) ?_
    refine v_goto (tgt := 42) C dX9_guards_28 (by decide) ?_
    refine v_iret C hr (Nat.le_of_ble_eq_true rfl) (Nat.le_of_ble_eq_true rfl) dX9_guards_42 ?_
    exact ⟨_, rfl, rfl⟩
  · skip
    subst c_12
    have i_b12 := nOK_some n_v5 rfl
    refine v_iload_n C dX9_guards_15 rfl ?_
    refine v_callS (As := [_]) (n := 1) C (sb_isAct l _) rfl ⟨wd345, wd346, wd2, wd347⟩ hy_X9_isAct rfl ⟨Nat.le_of_ble_eq_true rfl, Nat.le_of_ble_eq_true rfl⟩ (Nat.le_of_ble_eq_true rfl) ⟨Nat.le_of_ble_eq_true rfl, Nat.le_of_ble_eq_true rfl⟩ dX9_guards_16 rfl (fun r_16 S4_16 h_16 => ?_)
    obtain ⟨v16, rfl, p_v16, q_v16⟩ := h_16
    obtain rfl := q_v16.symm
    refine v_if_eq (tgt := 26) C dX9_guards_19 (by decide) (fun c_19 => ?_) (fun c_19 => ?_)
    · skip
      refine v_bipush (v := -2) C dX9_guards_26 (by decide) ?_
      refine v_goto (tgt := 42) C dX9_guards_28 (by decide) ?_
      refine v_iret C hr (Nat.le_of_ble_eq_true rfl) (Nat.le_of_ble_eq_true rfl) dX9_guards_42 ?_
      exact ⟨_, rfl, rfl⟩
    · skip
      refine v_iload_n C dX9_guards_22 rfl ?_
      refine v_if_ge (tgt := 31) C dX9_guards_23 (by decide) (fun c_23 => ?_) (fun c_23 => ?_)
      · skip
        refine v_aload_n C dX9_guards_31 rfl ?_
        obtain ⟨a32, e_a32, i_a32⟩ := T576 iv i_this List.not_mem_nil
        refine r9_10 (b := a32) C i_this e_a32 dX9_guards_32 ?_
        refine v_aload C dX9_guards_35 rfl ?_
        refine v_iload_n C dX9_guards_37 rfl ?_
        refine v_iload_n C dX9_guards_38 rfl ?_
        refine v_callV (As := [_, _, _]) (n := 3) C (st_X1_guardingTrait l _ _ _ _ _) rfl i_a32 (by decide) rfl ⟨wd695, wd696, wd697, wd15, wd698⟩ ⟨rfl, hy_X1_guardingTrait⟩ rfl ⟨Nat.le_of_ble_eq_true rfl, Nat.le_of_ble_eq_true rfl⟩ (Nat.le_of_ble_eq_true rfl) ⟨Nat.le_of_ble_eq_true rfl, Nat.le_of_ble_eq_true rfl⟩ dX9_guards_39 ⟨rfl, iv, i_a32, i_b12⟩ (fun r_39 S8_39 h_39 => ?_)
        obtain ⟨v39, rfl, q_v39⟩ := h_39
        obtain rfl := q_v39.symm
        refine v_iret C hr (Nat.le_of_ble_eq_true rfl) (Nat.le_of_ble_eq_true rfl) dX9_guards_42 ?_
        exact ⟨_, rfl, rfl⟩
      · skip
        refine v_bipush (v := -2) C dX9_guards_26 (by decide) ?_
        refine v_goto (tgt := 42) C dX9_guards_28 (by decide) ?_
        refine v_iret C hr (Nat.le_of_ble_eq_true rfl) (Nat.le_of_ble_eq_true rfl) dX9_guards_42 ?_
        exact ⟨_, rfl, rfl⟩
theorem dX9_isA_0 : decode cX9_isA 0 = .ok (.aload_n 0, 1) := by decide +kernel
theorem dX9_isA_1 : decode cX9_isA 1 = .ok (.getfield 10, 3) := by decide +kernel
theorem dX9_isA_4 : decode cX9_isA 4 = .ok (.iload_n 1, 1) := by decide +kernel
theorem dX9_isA_5 : decode cX9_isA 5 = .ok (.invokevirtual 55, 3) := by decide +kernel
theorem dX9_isA_8 : decode cX9_isA 8 = .ok (.astore_n 3, 1) := by decide +kernel
theorem dX9_isA_9 : decode cX9_isA 9 = .ok (.aload_n 3, 1) := by decide +kernel
theorem dX9_isA_10 : decode cX9_isA 10 = .ok (.ifnull 14, 3) := by decide +kernel
theorem dX9_isA_13 : decode cX9_isA 13 = .ok (.aload_n 0, 1) := by decide +kernel
theorem dX9_isA_14 : decode cX9_isA 14 = .ok (.getfield 10, 3) := by decide +kernel
theorem dX9_isA_17 : decode cX9_isA 17 = .ok (.iload_n 2, 1) := by decide +kernel
theorem dX9_isA_18 : decode cX9_isA 18 = .ok (.invokevirtual 59, 3) := by decide +kernel
theorem dX9_isA_21 : decode cX9_isA 21 = .ok (.ifnonnull 6, 3) := by decide +kernel
theorem dX9_isA_24 : decode cX9_isA 24 = .ok (.bipush (-2), 2) := by decide +kernel
theorem dX9_isA_26 : decode cX9_isA 26 = .ok (.ireturn, 1) := by decide +kernel
theorem dX9_isA_27 : decode cX9_isA 27 = .ok (.aload_n 3, 1) := by decide +kernel
theorem dX9_isA_28 : decode cX9_isA 28 = .ok (.getfield 144, 3) := by decide +kernel
theorem dX9_isA_31 : decode cX9_isA 31 = .ok (.iload_n 2, 1) := by decide +kernel
theorem dX9_isA_32 : decode cX9_isA 32 = .ok (.invokevirtual 170, 3) := by decide +kernel
theorem dX9_isA_35 : decode cX9_isA 35 = .ok (.ifCond .eq 7, 3) := by decide +kernel
theorem dX9_isA_38 : decode cX9_isA 38 = .ok (.iconst 1, 1) := by decide +kernel
theorem dX9_isA_39 : decode cX9_isA 39 = .ok (.goto 4, 3) := by decide +kernel
theorem dX9_isA_42 : decode cX9_isA 42 = .ok (.iconst 0, 1) := by decide +kernel
theorem dX9_isA_43 : decode cX9_isA 43 = .ok (.ireturn, 1) := by decide +kernel
set_option maxRecDepth 100000 in
set_option maxHeartbeats 4000000 in
theorem st_X9_isA (l : Launch) (M : Nat → Prop) (h : Nat) (p0 : Int32) (p1 : Int32) : Ct l yX9_isA cX9_isA 4 (some .int) 2 0 0 42 (fun S av => av = [.ref h, .int p0, .int p1] ∧ INV M [] S ∧ is S h 9) (fun S _ r S' => ∃ v, r = some (.int v) ∧ S' = S) := by
  refine ct_of (by decide) (fun S av h => by obtain ⟨rfl, iv, i_this⟩ := h; exact Nat.le_of_ble_eq_true rfl) ?_
  intro p e s m args below meth c D G bs S av C hr hin hpre
  obtain ⟨rfl, iv, i_this⟩ := hpre
  refine v_aload_n C dX9_isA_0 rfl ?_
  obtain ⟨a1, e_a1, i_a1⟩ := T576 iv i_this List.not_mem_nil
  refine r9_10 (b := a1) C i_this e_a1 dX9_isA_1 ?_
  refine v_iload_n C dX9_isA_4 rfl ?_
  refine v_callV (As := [_]) (n := 1) C (st_X1_figureAt l _ _ _) rfl i_a1 (by decide) rfl ⟨wd300, wd301, wd302, wd15, wd303⟩ ⟨rfl, hy_X1_figureAt⟩ rfl ⟨Nat.le_of_ble_eq_true rfl, Nat.le_of_ble_eq_true rfl⟩ (Nat.le_of_ble_eq_true rfl) ⟨Nat.le_of_ble_eq_true rfl, Nat.le_of_ble_eq_true rfl⟩ dX9_isA_5 ⟨rfl, iv, i_a1⟩ (fun r_5 S2_5 h_5 => ?_)
  obtain ⟨v5, rfl, n_v5, q_v5⟩ := h_5
  obtain rfl := q_v5.symm
  refine v_qstore_n C dX9_isA_8 (by decide) (by first | rfl | exact cat_ok _ | simp [okS, cat_rf]) ?_
  refine v_qload_n C dX9_isA_9 rfl ?_
  refine v_ifnull (tgt := 24) C dX9_isA_10 (by decide) (fun c_10 => ?_) (fun b10 c_10 => ?_)
  · skip
    subst c_10
    refine v_bipush (v := -2) C dX9_isA_24 (by decide) ?_
    refine v_iret C hr (Nat.le_of_ble_eq_true rfl) (Nat.le_of_ble_eq_true rfl) dX9_isA_26 ?_
    exact ⟨_, rfl, rfl⟩
  · skip
    subst c_10
    have i_b10 := nOK_some n_v5 rfl
    refine v_aload_n C dX9_isA_13 rfl ?_
    obtain ⟨a14, e_a14, i_a14⟩ := T576 iv i_this List.not_mem_nil
    refine r9_10 (b := a14) C i_this e_a14 dX9_isA_14 ?_
    refine v_iload_n C dX9_isA_17 rfl ?_
    refine v_callV (As := [_]) (n := 1) C (st_X1_traitAt l _ _ _) rfl i_a14 (by decide) rfl ⟨wd304, wd138, wd139, wd15, wd140⟩ ⟨rfl, hy_X1_traitAt⟩ rfl ⟨Nat.le_of_ble_eq_true rfl, Nat.le_of_ble_eq_true rfl⟩ (Nat.le_of_ble_eq_true rfl) ⟨Nat.le_of_ble_eq_true rfl, Nat.le_of_ble_eq_true rfl⟩ dX9_isA_18 ⟨rfl, iv, i_a14⟩ (fun r_18 S4_18 h_18 => ?_)
    obtain ⟨v18, rfl, n_v18, q_v18⟩ := h_18
    obtain rfl := q_v18.symm
    refine v_ifnonnull (tgt := 27) C dX9_isA_21 (by decide) (fun b21 c_21 => ?_) (fun c_21 => ?_)
    · skip
      subst c_21
      have i_b21 := nOK_some n_v18 rfl
      refine v_aload_n C dX9_isA_27 rfl ?_
      obtain ⟨a28, e_a28, i_a28⟩ := T130 iv i_b10 List.not_mem_nil
      refine r9_144 (b := a28) C i_b10 e_a28 dX9_isA_28 ?_
      refine v_iload_n C dX9_isA_31 rfl ?_
      refine v_callV (As := [_]) (n := 1) C (st_X3_has l _ _ _) rfl i_a28 (by decide) rfl ⟨wd707, wd559, wd560, wd45, wd561⟩ ⟨rfl, hy_X3_has⟩ rfl ⟨Nat.le_of_ble_eq_true rfl, Nat.le_of_ble_eq_true rfl⟩ (Nat.le_of_ble_eq_true rfl) ⟨Nat.le_of_ble_eq_true rfl, Nat.le_of_ble_eq_true rfl⟩ dX9_isA_32 ⟨rfl, iv, i_a28⟩ (fun r_32 S6_32 h_32 => ?_)
      obtain ⟨v32, rfl, q_v32⟩ := h_32
      obtain rfl := q_v32.symm
      refine v_if_eq (tgt := 42) C dX9_isA_35 (by decide) (fun c_35 => ?_) (fun c_35 => ?_)
      · skip
        refine v_iconst (v := 0) C dX9_isA_42 (by decide) ?_
        refine v_iret C hr (Nat.le_of_ble_eq_true rfl) (Nat.le_of_ble_eq_true rfl) dX9_isA_43 ?_
        exact ⟨_, rfl, rfl⟩
      · skip
        refine v_iconst (v := 1) C dX9_isA_38 (by decide) ?_
        refine v_goto (tgt := 43) C dX9_isA_39 (by decide) ?_
        refine v_iret C hr (Nat.le_of_ble_eq_true rfl) (Nat.le_of_ble_eq_true rfl) dX9_isA_43 ?_
        exact ⟨_, rfl, rfl⟩
    · skip
      subst c_21
      refine v_bipush (v := -2) C dX9_isA_24 (by decide) ?_
      refine v_iret C hr (Nat.le_of_ble_eq_true rfl) (Nat.le_of_ble_eq_true rfl) dX9_isA_26 ?_
      exact ⟨_, rfl, rfl⟩
theorem dX9_told_0 : decode cX9_told 0 = .ok (.aload_n 0, 1) := by decide +kernel
theorem dX9_told_1 : decode cX9_told 1 = .ok (.getfield 21, 3) := by decide +kernel
theorem dX9_told_4 : decode cX9_told 4 = .ok (.iload_n 1, 1) := by decide +kernel
theorem dX9_told_5 : decode cX9_told 5 = .ok (.invokevirtual 177, 3) := by decide +kernel
theorem dX9_told_8 : decode cX9_told 8 = .ok (.lreturn, 1) := by decide +kernel
set_option maxRecDepth 100000 in
set_option maxHeartbeats 4000000 in
theorem st_X9_told (l : Launch) (M : Nat → Prop) (h : Nat) (p0 : Int32) : Ct l yX9_told cX9_told 2 (some .long) 1 0 0 21 (fun S av => av = [.ref h, .int p0] ∧ INV M [] S ∧ is S h 9) (fun S _ r S' => ∃ v, r = some (.long v) ∧ S' = S) := by
  refine ct_of (by decide) (fun S av h => by obtain ⟨rfl, iv, i_this⟩ := h; exact Nat.le_of_ble_eq_true rfl) ?_
  intro p e s m args below meth c D G bs S av C hr hin hpre
  obtain ⟨rfl, iv, i_this⟩ := hpre
  refine v_aload_n C dX9_told_0 rfl ?_
  obtain ⟨a1, e_a1, i_a1⟩ := T577 iv i_this List.not_mem_nil
  refine r9_21 (b := a1) C i_this e_a1 dX9_told_1 ?_
  refine v_iload_n C dX9_told_4 rfl ?_
  refine v_callV (As := [_]) (n := 1) C (st_X6_tellingOf l _ _ _) rfl i_a1 (by decide) rfl ⟨wd883, wd884, wd885, wd19, wd886⟩ ⟨rfl, hy_X6_tellingOf⟩ rfl ⟨Nat.le_of_ble_eq_true rfl, Nat.le_of_ble_eq_true rfl⟩ (Nat.le_of_ble_eq_true rfl) ⟨Nat.le_of_ble_eq_true rfl, Nat.le_of_ble_eq_true rfl⟩ dX9_told_5 ⟨rfl, iv, i_a1⟩ (fun r_5 S2_5 h_5 => ?_)
  obtain ⟨v5, rfl, q_v5⟩ := h_5
  obtain rfl := q_v5.symm
  refine v_lret C hr (Nat.le_of_ble_eq_true rfl) (Nat.le_of_ble_eq_true rfl) dX9_told_8 ?_
  exact ⟨_, rfl, rfl⟩
theorem dX9_marks_0 : decode cX9_marks 0 = .ok (.aload_n 0, 1) := by decide +kernel
theorem dX9_marks_1 : decode cX9_marks 1 = .ok (.getfield 21, 3) := by decide +kernel
theorem dX9_marks_4 : decode cX9_marks 4 = .ok (.getfield 181, 3) := by decide +kernel
theorem dX9_marks_7 : decode cX9_marks 7 = .ok (.getfield 185, 3) := by decide +kernel
theorem dX9_marks_10 : decode cX9_marks 10 = .ok (.ireturn, 1) := by decide +kernel
set_option maxRecDepth 100000 in
set_option maxHeartbeats 4000000 in
theorem st_X9_marks (l : Launch) (M : Nat → Prop) (h : Nat) : Ct l yX9_marks cX9_marks 1 (some .int) 0 0 0 0 (fun S av => av = [.ref h] ∧ INV M [] S ∧ is S h 9) (fun S _ r S' => ∃ v, r = some (.int v) ∧ S' = S) := by
  refine ct_of (by decide) (fun S av h => by obtain ⟨rfl, iv, i_this⟩ := h; exact Nat.le_of_ble_eq_true rfl) ?_
  intro p e s m args below meth c D G bs S av C hr hin hpre
  obtain ⟨rfl, iv, i_this⟩ := hpre
  refine v_aload_n C dX9_marks_0 rfl ?_
  obtain ⟨a1, e_a1, i_a1⟩ := T577 iv i_this List.not_mem_nil
  refine r9_21 (b := a1) C i_this e_a1 dX9_marks_1 ?_
  obtain ⟨a4, e_a4, i_a4⟩ := T385 iv i_a1 List.not_mem_nil
  refine r9_181 (b := a4) C i_a1 e_a4 dX9_marks_4 ?_
  refine g9_185 C i_a4 dX9_marks_7 ?_
  refine v_topi (fun v7 e_v7 => ?_)
  refine v_iret C hr (Nat.le_of_ble_eq_true rfl) (Nat.le_of_ble_eq_true rfl) dX9_marks_10 ?_
  exact ⟨_, rfl, rfl⟩
theorem dX9_mark_0 : decode cX9_mark 0 = .ok (.aload_n 0, 1) := by decide +kernel
theorem dX9_mark_1 : decode cX9_mark 1 = .ok (.getfield 21, 3) := by decide +kernel
theorem dX9_mark_4 : decode cX9_mark 4 = .ok (.getfield 181, 3) := by decide +kernel
theorem dX9_mark_7 : decode cX9_mark 7 = .ok (.iload_n 1, 1) := by decide +kernel
theorem dX9_mark_8 : decode cX9_mark 8 = .ok (.iload_n 2, 1) := by decide +kernel
theorem dX9_mark_9 : decode cX9_mark 9 = .ok (.invokevirtual 188, 3) := by decide +kernel
theorem dX9_mark_12 : decode cX9_mark 12 = .ok (.lreturn, 1) := by decide +kernel
set_option maxRecDepth 100000 in
set_option maxHeartbeats 4000000 in
theorem st_X9_mark (l : Launch) (M : Nat → Prop) (h : Nat) (p0 : Int32) (p1 : Int32) : Ct l yX9_mark cX9_mark 3 (some .long) 2 0 0 43 (fun S av => av = [.ref h, .int p0, .int p1] ∧ INV M [] S ∧ is S h 9) (fun S _ r S' => ∃ v, r = some (.long v) ∧ S' = S) := by
  refine ct_of (by decide) (fun S av h => by obtain ⟨rfl, iv, i_this⟩ := h; exact Nat.le_of_ble_eq_true rfl) ?_
  intro p e s m args below meth c D G bs S av C hr hin hpre
  obtain ⟨rfl, iv, i_this⟩ := hpre
  refine v_aload_n C dX9_mark_0 rfl ?_
  obtain ⟨a1, e_a1, i_a1⟩ := T577 iv i_this List.not_mem_nil
  refine r9_21 (b := a1) C i_this e_a1 dX9_mark_1 ?_
  obtain ⟨a4, e_a4, i_a4⟩ := T385 iv i_a1 List.not_mem_nil
  refine r9_181 (b := a4) C i_a1 e_a4 dX9_mark_4 ?_
  refine v_iload_n C dX9_mark_7 rfl ?_
  refine v_iload_n C dX9_mark_8 rfl ?_
  refine v_callV (As := [_, _]) (n := 2) C (st_X7_cell l _ _ _ _) rfl i_a4 (by decide) rfl ⟨wd905, wd906, wd907, wd67, wd908⟩ ⟨rfl, hy_X7_cell⟩ rfl ⟨Nat.le_of_ble_eq_true rfl, Nat.le_of_ble_eq_true rfl⟩ (Nat.le_of_ble_eq_true rfl) ⟨Nat.le_of_ble_eq_true rfl, Nat.le_of_ble_eq_true rfl⟩ dX9_mark_9 ⟨rfl, iv, i_a4⟩ (fun r_9 S2_9 h_9 => ?_)
  obtain ⟨v9, rfl, q_v9⟩ := h_9
  obtain rfl := q_v9.symm
  refine v_lret C hr (Nat.le_of_ble_eq_true rfl) (Nat.le_of_ble_eq_true rfl) dX9_mark_12 ?_
  exact ⟨_, rfl, rfl⟩
theorem dX9_mood_0 : decode cX9_mood 0 = .ok (.aload_n 0, 1) := by decide +kernel
theorem dX9_mood_1 : decode cX9_mood 1 = .ok (.getfield 10, 3) := by decide +kernel
theorem dX9_mood_4 : decode cX9_mood 4 = .ok (.iload_n 1, 1) := by decide +kernel
theorem dX9_mood_5 : decode cX9_mood 5 = .ok (.invokevirtual 55, 3) := by decide +kernel
theorem dX9_mood_8 : decode cX9_mood 8 = .ok (.astore_n 3, 1) := by decide +kernel
theorem dX9_mood_9 : decode cX9_mood 9 = .ok (.aload_n 3, 1) := by decide +kernel
theorem dX9_mood_10 : decode cX9_mood 10 = .ok (.ifnonnull 7, 3) := by decide +kernel
theorem dX9_mood_13 : decode cX9_mood 13 = .ok (.lconst 0, 1) := by decide +kernel
theorem dX9_mood_14 : decode cX9_mood 14 = .ok (.goto 8, 3) := by decide +kernel
theorem dX9_mood_17 : decode cX9_mood 17 = .ok (.aload_n 3, 1) := by decide +kernel
theorem dX9_mood_18 : decode cX9_mood 18 = .ok (.iload_n 2, 1) := by decide +kernel
theorem dX9_mood_19 : decode cX9_mood 19 = .ok (.invokevirtual 192, 3) := by decide +kernel
theorem dX9_mood_22 : decode cX9_mood 22 = .ok (.lreturn, 1) := by decide +kernel
set_option maxRecDepth 100000 in
set_option maxHeartbeats 4000000 in
theorem st_X9_mood (l : Launch) (M : Nat → Prop) (h : Nat) (p0 : Int32) (p1 : Int32) : Ct l yX9_mood cX9_mood 4 (some .long) 2 0 0 42 (fun S av => av = [.ref h, .int p0, .int p1] ∧ INV M [] S ∧ is S h 9) (fun S _ r S' => ∃ v, r = some (.long v) ∧ S' = S) := by
  refine ct_of (by decide) (fun S av h => by obtain ⟨rfl, iv, i_this⟩ := h; exact Nat.le_of_ble_eq_true rfl) ?_
  intro p e s m args below meth c D G bs S av C hr hin hpre
  obtain ⟨rfl, iv, i_this⟩ := hpre
  refine v_aload_n C dX9_mood_0 rfl ?_
  obtain ⟨a1, e_a1, i_a1⟩ := T576 iv i_this List.not_mem_nil
  refine r9_10 (b := a1) C i_this e_a1 dX9_mood_1 ?_
  refine v_iload_n C dX9_mood_4 rfl ?_
  refine v_callV (As := [_]) (n := 1) C (st_X1_figureAt l _ _ _) rfl i_a1 (by decide) rfl ⟨wd300, wd301, wd302, wd15, wd303⟩ ⟨rfl, hy_X1_figureAt⟩ rfl ⟨Nat.le_of_ble_eq_true rfl, Nat.le_of_ble_eq_true rfl⟩ (Nat.le_of_ble_eq_true rfl) ⟨Nat.le_of_ble_eq_true rfl, Nat.le_of_ble_eq_true rfl⟩ dX9_mood_5 ⟨rfl, iv, i_a1⟩ (fun r_5 S2_5 h_5 => ?_)
  obtain ⟨v5, rfl, n_v5, q_v5⟩ := h_5
  obtain rfl := q_v5.symm
  refine v_qstore_n C dX9_mood_8 (by decide) (by first | rfl | exact cat_ok _ | simp [okS, cat_rf]) ?_
  refine v_qload_n C dX9_mood_9 rfl ?_
  refine v_ifnonnull (tgt := 17) C dX9_mood_10 (by decide) (fun b10 c_10 => ?_) (fun c_10 => ?_)
  · skip
    subst c_10
    have i_b10 := nOK_some n_v5 rfl
    refine v_aload_n C dX9_mood_17 rfl ?_
    refine v_iload_n C dX9_mood_18 rfl ?_
    refine v_callV (As := [_]) (n := 1) C (st_X2_moodAt l _ _ _) rfl i_b10 (by decide) rfl ⟨wd917, wd809, wd810, wd271, wd811⟩ ⟨rfl, hy_X2_moodAt⟩ rfl ⟨Nat.le_of_ble_eq_true rfl, Nat.le_of_ble_eq_true rfl⟩ (Nat.le_of_ble_eq_true rfl) ⟨Nat.le_of_ble_eq_true rfl, Nat.le_of_ble_eq_true rfl⟩ dX9_mood_19 ⟨rfl, iv, i_b10⟩ (fun r_19 S4_19 h_19 => ?_)
    obtain ⟨v19, rfl, q_v19⟩ := h_19
    obtain rfl := q_v19.symm
    refine v_lret C hr (Nat.le_of_ble_eq_true rfl) (Nat.le_of_ble_eq_true rfl) dX9_mood_22 ?_
    exact ⟨_, rfl, rfl⟩
  · skip
    subst c_10
    refine v_lconst (v := 0) C dX9_mood_13 (by decide) ?_
    refine v_goto (tgt := 22) C dX9_mood_14 (by decide) ?_
    refine v_lret C hr (Nat.le_of_ble_eq_true rfl) (Nat.le_of_ble_eq_true rfl) dX9_mood_22 ?_
    exact ⟨_, rfl, rfl⟩
theorem dX9_setMood_0 : decode cX9_setMood 0 = .ok (.aload_n 0, 1) := by decide +kernel
theorem dX9_setMood_1 : decode cX9_setMood 1 = .ok (.getfield 10, 3) := by decide +kernel
theorem dX9_setMood_4 : decode cX9_setMood 4 = .ok (.iload_n 1, 1) := by decide +kernel
theorem dX9_setMood_5 : decode cX9_setMood 5 = .ok (.invokevirtual 55, 3) := by decide +kernel
theorem dX9_setMood_8 : decode cX9_setMood 8 = .ok (.astore 5, 2) := by decide +kernel
theorem dX9_setMood_10 : decode cX9_setMood 10 = .ok (.aload 5, 2) := by decide +kernel
theorem dX9_setMood_12 : decode cX9_setMood 12 = .ok (.ifnull 11, 3) := by decide +kernel
theorem dX9_setMood_15 : decode cX9_setMood 15 = .ok (.iload_n 2, 1) := by decide +kernel
theorem dX9_setMood_16 : decode cX9_setMood 16 = .ok (.iconst 4, 1) := by decide +kernel
theorem dX9_setMood_17 : decode cX9_setMood 17 = .ok (.invokestatic 44, 3) := by decide +kernel
theorem dX9_setMood_20 : decode cX9_setMood 20 = .ok (.ifCond .ne 6, 3) := by decide +kernel
theorem dX9_setMood_23 : decode cX9_setMood 23 = .ok (.bipush (-2), 2) := by decide +kernel
theorem dX9_setMood_25 : decode cX9_setMood 25 = .ok (.ireturn, 1) := by decide +kernel
theorem dX9_setMood_26 : decode cX9_setMood 26 = .ok (.aload 5, 2) := by decide +kernel
theorem dX9_setMood_28 : decode cX9_setMood 28 = .ok (.iload_n 2, 1) := by decide +kernel
theorem dX9_setMood_29 : decode cX9_setMood 29 = .ok (.lload_n 3, 1) := by decide +kernel
theorem dX9_setMood_30 : decode cX9_setMood 30 = .ok (.invokevirtual 195, 3) := by decide +kernel
theorem dX9_setMood_33 : decode cX9_setMood 33 = .ok (.iconst 1, 1) := by decide +kernel
theorem dX9_setMood_34 : decode cX9_setMood 34 = .ok (.ireturn, 1) := by decide +kernel
set_option maxRecDepth 100000 in
set_option maxHeartbeats 4000000 in
theorem st_X9_setMood (l : Launch) (M : Nat → Prop) (h : Nat) (p0 : Int32) (p1 : Int32) (p2 : Int64) : Ct l yX9_setMood cX9_setMood 6 (some .int) 2 0 0 44 (fun S av => av = [.ref h, .int p0, .int p1, .long p2] ∧ INV M [] S ∧ is S h 9) (fun S _ r S' => ∃ v, r = some (.int v) ∧ INV M [] S' ∧ ext S S' (fun a => ¬ M a ∧ mK S a ∈ [12])) := by
  refine ct_of (by decide) (fun S av h => by obtain ⟨rfl, iv, i_this⟩ := h; exact Nat.le_of_ble_eq_true rfl) ?_
  intro p e s m args below meth c D G bs S av C hr hin hpre
  obtain ⟨rfl, iv, i_this⟩ := hpre
  have E0 : ext S S (fun a => ¬ M a ∧ mK S a ∈ [12]) := ext_rfl
  refine v_aload_n C dX9_setMood_0 rfl ?_
  obtain ⟨a1, e_a1, i_a1⟩ := T576 iv i_this List.not_mem_nil
  refine r9_10 (b := a1) C i_this e_a1 dX9_setMood_1 ?_
  refine v_iload_n C dX9_setMood_4 rfl ?_
  refine v_callV (As := [_]) (n := 1) C (st_X1_figureAt l _ _ _) rfl i_a1 (by decide) rfl ⟨wd300, wd301, wd302, wd15, wd303⟩ ⟨rfl, hy_X1_figureAt⟩ rfl ⟨Nat.le_of_ble_eq_true rfl, Nat.le_of_ble_eq_true rfl⟩ (Nat.le_of_ble_eq_true rfl) ⟨Nat.le_of_ble_eq_true rfl, Nat.le_of_ble_eq_true rfl⟩ dX9_setMood_5 ⟨rfl, iv, i_a1⟩ (fun r_5 S2_5 h_5 => ?_)
  obtain ⟨v5, rfl, n_v5, q_v5⟩ := h_5
  obtain rfl := q_v5.symm
  refine v_qstore C dX9_setMood_8 (by decide) (by first | rfl | exact cat_ok _ | simp [okS, cat_rf]) ?_
  refine v_qload C dX9_setMood_10 rfl ?_
  refine v_ifnull (tgt := 23) C dX9_setMood_12 (by decide) (fun c_12 => ?_) (fun b12 c_12 => ?_)
  · skip
    subst c_12
    refine v_bipush (v := -2) C dX9_setMood_23 (by decide) ?_
    refine v_iret C hr (Nat.le_of_ble_eq_true rfl) (Nat.le_of_ble_eq_true rfl) dX9_setMood_25 ?_
    exact ⟨_, rfl, iv, E0⟩
  · skip
    subst c_12
    have i_b12 := nOK_some n_v5 rfl
    refine v_iload_n C dX9_setMood_15 rfl ?_
    refine v_iconst (v := 4) C dX9_setMood_16 (by decide) ?_
    refine v_callS (As := [_, _]) (n := 2) C (sb_isBelow l _ _) rfl ⟨wd264, wd141, wd2, wd142⟩ hy_X9_isBelow rfl ⟨Nat.le_of_ble_eq_true rfl, Nat.le_of_ble_eq_true rfl⟩ (Nat.le_of_ble_eq_true rfl) ⟨Nat.le_of_ble_eq_true rfl, Nat.le_of_ble_eq_true rfl⟩ dX9_setMood_17 rfl (fun r_17 S4_17 h_17 => ?_)
    obtain ⟨v17, rfl, p_v17, q_v17⟩ := h_17
    obtain rfl := q_v17.symm
    refine v_if_ne (tgt := 26) C dX9_setMood_20 (by decide) (fun c_20 => ?_) (fun c_20 => ?_)
    · skip
      refine v_aload C dX9_setMood_26 rfl ?_
      refine v_iload_n C dX9_setMood_28 rfl ?_
      refine v_lload_n C dX9_setMood_29 rfl ?_
      refine v_callV (As := [_, _]) (n := 2) C (st_X2_putMood l _ _ _ _) rfl i_b12 (by decide) rfl ⟨wd926, wd805, wd806, wd271, wd807⟩ ⟨rfl, hy_X2_putMood⟩ rfl ⟨Nat.le_of_ble_eq_true rfl, Nat.le_of_ble_eq_true rfl⟩ (Nat.le_of_ble_eq_true rfl) ⟨Nat.le_of_ble_eq_true rfl, Nat.le_of_ble_eq_true rfl⟩ dX9_setMood_30 ⟨rfl, iv, i_b12⟩ (fun r_30 S6_30 h_30 => ?_)
      obtain ⟨rfl, iv2, x_30⟩ := h_30
      have i_this := is_ext x_30 i_this
      have i_a1 := is_ext x_30 i_a1
      have i_b12 := is_ext x_30 i_b12
      have E0' := ext_tr E0 x_30 (xk_call E0 (by decide))
      have E0 := E0'
      have iv := iv2
      refine v_iconst (v := 1) C dX9_setMood_33 (by decide) ?_
      refine v_iret C hr (Nat.le_of_ble_eq_true rfl) (Nat.le_of_ble_eq_true rfl) dX9_setMood_34 ?_
      exact ⟨_, rfl, iv, E0⟩
    · skip
      refine v_bipush (v := -2) C dX9_setMood_23 (by decide) ?_
      refine v_iret C hr (Nat.le_of_ble_eq_true rfl) (Nat.le_of_ble_eq_true rfl) dX9_setMood_25 ?_
      exact ⟨_, rfl, iv, E0⟩
theorem dX9_count_0 : decode cX9_count 0 = .ok (.iload_n 1, 1) := by decide +kernel
theorem dX9_count_1 : decode cX9_count 1 = .ok (.tableswitch 87 0 5 #[39, 47, 55, 63, 71, 79], 39) := by decide +kernel
theorem dX9_count_40 : decode cX9_count 40 = .ok (.aload_n 0, 1) := by decide +kernel
theorem dX9_count_41 : decode cX9_count 41 = .ok (.getfield 10, 3) := by decide +kernel
theorem dX9_count_44 : decode cX9_count 44 = .ok (.getfield 36, 3) := by decide +kernel
theorem dX9_count_47 : decode cX9_count 47 = .ok (.ireturn, 1) := by decide +kernel
theorem dX9_count_48 : decode cX9_count 48 = .ok (.aload_n 0, 1) := by decide +kernel
theorem dX9_count_49 : decode cX9_count 49 = .ok (.getfield 10, 3) := by decide +kernel
theorem dX9_count_52 : decode cX9_count 52 = .ok (.getfield 48, 3) := by decide +kernel
theorem dX9_count_55 : decode cX9_count 55 = .ok (.ireturn, 1) := by decide +kernel
theorem dX9_count_56 : decode cX9_count 56 = .ok (.aload_n 0, 1) := by decide +kernel
theorem dX9_count_57 : decode cX9_count 57 = .ok (.getfield 10, 3) := by decide +kernel
theorem dX9_count_60 : decode cX9_count 60 = .ok (.invokevirtual 199, 3) := by decide +kernel
theorem dX9_count_63 : decode cX9_count 63 = .ok (.ireturn, 1) := by decide +kernel
theorem dX9_count_64 : decode cX9_count 64 = .ok (.aload_n 0, 1) := by decide +kernel
theorem dX9_count_65 : decode cX9_count 65 = .ok (.getfield 10, 3) := by decide +kernel
theorem dX9_count_68 : decode cX9_count 68 = .ok (.invokevirtual 202, 3) := by decide +kernel
theorem dX9_count_71 : decode cX9_count 71 = .ok (.ireturn, 1) := by decide +kernel
theorem dX9_count_72 : decode cX9_count 72 = .ok (.aload_n 0, 1) := by decide +kernel
theorem dX9_count_73 : decode cX9_count 73 = .ok (.getfield 10, 3) := by decide +kernel
theorem dX9_count_76 : decode cX9_count 76 = .ok (.invokevirtual 205, 3) := by decide +kernel
theorem dX9_count_79 : decode cX9_count 79 = .ok (.ireturn, 1) := by decide +kernel
theorem dX9_count_80 : decode cX9_count 80 = .ok (.aload_n 0, 1) := by decide +kernel
theorem dX9_count_81 : decode cX9_count 81 = .ok (.getfield 10, 3) := by decide +kernel
theorem dX9_count_84 : decode cX9_count 84 = .ok (.invokevirtual 208, 3) := by decide +kernel
theorem dX9_count_87 : decode cX9_count 87 = .ok (.ireturn, 1) := by decide +kernel
theorem dX9_count_88 : decode cX9_count 88 = .ok (.bipush (-2), 2) := by decide +kernel
theorem dX9_count_90 : decode cX9_count 90 = .ok (.ireturn, 1) := by decide +kernel
set_option maxRecDepth 100000 in
set_option maxHeartbeats 4000000 in
theorem st_X9_count (l : Launch) (M : Nat → Prop) (h : Nat) (p0 : Int32) : Ct l yX9_count cX9_count 2 (some .int) 5 0 0 119 (fun S av => av = [.ref h, .int p0] ∧ INV M [] S ∧ is S h 9) (fun S _ r S' => ∃ v, r = some (.int v) ∧ INV M [] S' ∧ ext S S' (fun a => ¬ M a ∧ mK S a ∈ [0])) := by
  refine ct_of (by decide) (fun S av h => by obtain ⟨rfl, iv, i_this⟩ := h; exact Nat.le_of_ble_eq_true rfl) ?_
  intro p e s m args below meth c D G bs S av C hr hin hpre
  obtain ⟨rfl, iv, i_this⟩ := hpre
  have E0 : ext S S (fun a => ¬ M a ∧ mK S a ∈ [0]) := ext_rfl
  refine v_iload_n C dX9_count_0 rfl ?_
  refine v_topi (fun k1 ek1 => ?_)
  by_cases k_0 : k1 = 0
  · skip
    refine v_tableIn (off := 39) (tgt := 40) C dX9_count_1 (by rw [k_0]; decide) (by rw [k_0]; decide) (by rw [k_0]; rfl) (by decide) ?_
    refine v_aload_n C dX9_count_40 rfl ?_
    obtain ⟨a41, e_a41, i_a41⟩ := T576 iv i_this List.not_mem_nil
    refine r9_10 (b := a41) C i_this e_a41 dX9_count_41 ?_
    refine g9_36 C i_a41 dX9_count_44 ?_
    refine v_topi (fun v44 e_v44 => ?_)
    refine v_iret C hr (Nat.le_of_ble_eq_true rfl) (Nat.le_of_ble_eq_true rfl) dX9_count_47 ?_
    exact ⟨_, rfl, iv, E0⟩
  by_cases k_1 : k1 = 1
  · skip
    refine v_tableIn (off := 47) (tgt := 48) C dX9_count_1 (by rw [k_1]; decide) (by rw [k_1]; decide) (by rw [k_1]; rfl) (by decide) ?_
    refine v_aload_n C dX9_count_48 rfl ?_
    obtain ⟨a49, e_a49, i_a49⟩ := T576 iv i_this List.not_mem_nil
    refine r9_10 (b := a49) C i_this e_a49 dX9_count_49 ?_
    refine g9_48 C i_a49 dX9_count_52 ?_
    refine v_topi (fun v52 e_v52 => ?_)
    refine v_iret C hr (Nat.le_of_ble_eq_true rfl) (Nat.le_of_ble_eq_true rfl) dX9_count_55 ?_
    exact ⟨_, rfl, iv, E0⟩
  by_cases k_2 : k1 = 2
  · skip
    refine v_tableIn (off := 55) (tgt := 56) C dX9_count_1 (by rw [k_2]; decide) (by rw [k_2]; decide) (by rw [k_2]; rfl) (by decide) ?_
    refine v_aload_n C dX9_count_56 rfl ?_
    obtain ⟨a57, e_a57, i_a57⟩ := T576 iv i_this List.not_mem_nil
    refine r9_10 (b := a57) C i_this e_a57 dX9_count_57 ?_
    refine v_callV (As := []) (n := 0) C (st_X1_countBodies l _ _) rfl i_a57 (by decide) rfl ⟨wd935, wd936, wd937, wd15, wd938⟩ ⟨rfl, hy_X1_countBodies⟩ rfl ⟨Nat.le_of_ble_eq_true rfl, Nat.le_of_ble_eq_true rfl⟩ (Nat.le_of_ble_eq_true rfl) ⟨Nat.le_of_ble_eq_true rfl, Nat.le_of_ble_eq_true rfl⟩ dX9_count_60 ⟨rfl, iv, i_a57⟩ (fun r_60 S4_60 h_60 => ?_)
    obtain ⟨v60, rfl, q_v60⟩ := h_60
    obtain rfl := q_v60.symm
    refine v_iret C hr (Nat.le_of_ble_eq_true rfl) (Nat.le_of_ble_eq_true rfl) dX9_count_63 ?_
    exact ⟨_, rfl, iv, E0⟩
  by_cases k_3 : k1 = 3
  · skip
    refine v_tableIn (off := 63) (tgt := 64) C dX9_count_1 (by rw [k_3]; decide) (by rw [k_3]; decide) (by rw [k_3]; rfl) (by decide) ?_
    refine v_aload_n C dX9_count_64 rfl ?_
    obtain ⟨a65, e_a65, i_a65⟩ := T576 iv i_this List.not_mem_nil
    refine r9_10 (b := a65) C i_this e_a65 dX9_count_65 ?_
    refine v_callV (As := []) (n := 0) C (st_X1_countGuards l _ _) rfl i_a65 (by decide) rfl ⟨wd944, wd945, wd946, wd15, wd947⟩ ⟨rfl, hy_X1_countGuards⟩ rfl ⟨Nat.le_of_ble_eq_true rfl, Nat.le_of_ble_eq_true rfl⟩ (Nat.le_of_ble_eq_true rfl) ⟨Nat.le_of_ble_eq_true rfl, Nat.le_of_ble_eq_true rfl⟩ dX9_count_68 ⟨rfl, iv, i_a65⟩ (fun r_68 S4_68 h_68 => ?_)
    obtain ⟨v68, rfl, q_v68⟩ := h_68
    obtain rfl := q_v68.symm
    refine v_iret C hr (Nat.le_of_ble_eq_true rfl) (Nat.le_of_ble_eq_true rfl) dX9_count_71 ?_
    exact ⟨_, rfl, iv, E0⟩
  by_cases k_4 : k1 = 4
  · skip
    refine v_tableIn (off := 71) (tgt := 72) C dX9_count_1 (by rw [k_4]; decide) (by rw [k_4]; decide) (by rw [k_4]; rfl) (by decide) ?_
    refine v_aload_n C dX9_count_72 rfl ?_
    obtain ⟨a73, e_a73, i_a73⟩ := T576 iv i_this List.not_mem_nil
    refine r9_10 (b := a73) C i_this e_a73 dX9_count_73 ?_
    refine v_callV (As := []) (n := 0) C (st_X1_countClashes l _ _) rfl i_a73 (by decide) rfl ⟨wd953, wd954, wd955, wd15, wd956⟩ ⟨rfl, hy_X1_countClashes⟩ rfl ⟨Nat.le_of_ble_eq_true rfl, Nat.le_of_ble_eq_true rfl⟩ (Nat.le_of_ble_eq_true rfl) ⟨Nat.le_of_ble_eq_true rfl, Nat.le_of_ble_eq_true rfl⟩ dX9_count_76 ⟨rfl, iv, i_a73⟩ (fun r_76 S4_76 h_76 => ?_)
    obtain ⟨v76, rfl, iv2, x_76⟩ := h_76
    have i_this := is_ext x_76 i_this
    have i_a73 := is_ext x_76 i_a73
    have E0' := ext_tr E0 x_76 (xk_call E0 (by decide))
    have E0 := E0'
    have iv := iv2
    refine v_iret C hr (Nat.le_of_ble_eq_true rfl) (Nat.le_of_ble_eq_true rfl) dX9_count_79 ?_
    exact ⟨_, rfl, iv, E0⟩
  by_cases k_5 : k1 = 5
  · skip
    refine v_tableIn (off := 79) (tgt := 80) C dX9_count_1 (by rw [k_5]; decide) (by rw [k_5]; decide) (by rw [k_5]; rfl) (by decide) ?_
    refine v_aload_n C dX9_count_80 rfl ?_
    obtain ⟨a81, e_a81, i_a81⟩ := T576 iv i_this List.not_mem_nil
    refine r9_10 (b := a81) C i_this e_a81 dX9_count_81 ?_
    refine v_callV (As := []) (n := 0) C (st_X1_countMissing l _ _) rfl i_a81 (by decide) rfl ⟨wd959, wd960, wd961, wd15, wd962⟩ ⟨rfl, hy_X1_countMissing⟩ rfl ⟨Nat.le_of_ble_eq_true rfl, Nat.le_of_ble_eq_true rfl⟩ (Nat.le_of_ble_eq_true rfl) ⟨Nat.le_of_ble_eq_true rfl, Nat.le_of_ble_eq_true rfl⟩ dX9_count_84 ⟨rfl, iv, i_a81⟩ (fun r_84 S4_84 h_84 => ?_)
    obtain ⟨v84, rfl, iv2, x_84⟩ := h_84
    have i_this := is_ext x_84 i_this
    have i_a81 := is_ext x_84 i_a81
    have E0' := ext_tr E0 x_84 (xk_call E0 (by decide))
    have E0 := E0'
    have iv := iv2
    refine v_iret C hr (Nat.le_of_ble_eq_true rfl) (Nat.le_of_ble_eq_true rfl) dX9_count_87 ?_
    exact ⟨_, rfl, iv, E0⟩
  refine v_tableOut (tgt := 88) C dX9_count_1 (by have q0 := lv_neT k_0 (a := 0) rfl ; have q1 := lv_neT k_1 (a := 1) rfl ; have q2 := lv_neT k_2 (a := 2) rfl ; have q3 := lv_neT k_3 (a := 3) rfl ; have q4 := lv_neT k_4 (a := 4) rfl ; have q5 := lv_neT k_5 (a := 5) rfl ; omega) (by decide) ?_
  refine v_bipush (v := -2) C dX9_count_88 (by decide) ?_
  refine v_iret C hr (Nat.le_of_ble_eq_true rfl) (Nat.le_of_ble_eq_true rfl) dX9_count_90 ?_
  exact ⟨_, rfl, iv, E0⟩
theorem dX9_digest_0 : decode cX9_digest 0 = .ok (.ldc2_w 211, 3) := by decide +kernel
theorem dX9_digest_3 : decode cX9_digest 3 = .ok (.lstore_n 1, 1) := by decide +kernel
theorem dX9_digest_4 : decode cX9_digest 4 = .ok (.iconst 0, 1) := by decide +kernel
theorem dX9_digest_5 : decode cX9_digest 5 = .ok (.istore_n 3, 1) := by decide +kernel
theorem dX9_digest_6 : decode cX9_digest 6 = .ok (.iload_n 3, 1) := by decide +kernel
theorem dX9_digest_7 : decode cX9_digest 7 = .ok (.aload_n 0, 1) := by decide +kernel
theorem dX9_digest_8 : decode cX9_digest 8 = .ok (.getfield 10, 3) := by decide +kernel
theorem dX9_digest_11 : decode cX9_digest 11 = .ok (.getfield 48, 3) := by decide +kernel
theorem dX9_digest_14 : decode cX9_digest 14 = .ok (.if_icmp .ge 26, 3) := by decide +kernel
theorem dX9_digest_17 : decode cX9_digest 17 = .ok (.aload_n 0, 1) := by decide +kernel
theorem dX9_digest_18 : decode cX9_digest 18 = .ok (.getfield 10, 3) := by decide +kernel
theorem dX9_digest_21 : decode cX9_digest 21 = .ok (.lload_n 1, 1) := by decide +kernel
theorem dX9_digest_22 : decode cX9_digest 22 = .ok (.aload_n 0, 1) := by decide +kernel
theorem dX9_digest_23 : decode cX9_digest 23 = .ok (.getfield 10, 3) := by decide +kernel
theorem dX9_digest_26 : decode cX9_digest 26 = .ok (.iload_n 3, 1) := by decide +kernel
theorem dX9_digest_27 : decode cX9_digest 27 = .ok (.invokevirtual 55, 3) := by decide +kernel
theorem dX9_digest_30 : decode cX9_digest 30 = .ok (.invokevirtual 213, 3) := by decide +kernel
theorem dX9_digest_33 : decode cX9_digest 33 = .ok (.lstore_n 1, 1) := by decide +kernel
theorem dX9_digest_34 : decode cX9_digest 34 = .ok (.iinc 3 1, 3) := by decide +kernel
theorem dX9_digest_37 : decode cX9_digest 37 = .ok (.goto (-31), 3) := by decide +kernel
theorem dX9_digest_40 : decode cX9_digest 40 = .ok (.lload_n 1, 1) := by decide +kernel
theorem dX9_digest_41 : decode cX9_digest 41 = .ok (.lreturn, 1) := by decide +kernel
set_option maxRecDepth 100000 in
set_option maxHeartbeats 4000000 in
theorem st_X9_digest (l : Launch) (M : Nat → Prop) (h : Nat) : Ct l yX9_digest cX9_digest 4 (some .long) 5 0 0 123 (fun S av => av = [.ref h] ∧ INV M [] S ∧ is S h 9) (fun S _ r S' => ∃ v, r = some (.long v) ∧ INV M [] S' ∧ ext S S' (fun a => ¬ M a ∧ mK S a ∈ [0])) := by
  refine ct_of (by decide) (fun S av h => by obtain ⟨rfl, iv, i_this⟩ := h; exact Nat.le_of_ble_eq_true rfl) ?_
  intro p e s m args below meth c D G bs S av C hr hin hpre
  obtain ⟨rfl, iv, i_this⟩ := hpre
  have E0 : ext S S (fun a => ¬ M a ∧ mK S a ∈ [0]) := ext_rfl
  refine v_ldc2 (v := (5)) C wd972 dX9_digest_0 ?_
  refine v_lstore_n C dX9_digest_3 (by decide) (by first | rfl | exact cat_ok _ | simp [okS, cat_rf]) ?_
  refine v_iconst (v := 0) C dX9_digest_4 (by decide) ?_
  refine v_istore_n C dX9_digest_5 (by decide) (by first | rfl | exact cat_ok _ | simp [okS, cat_rf]) ?_
  refine V.lits (lv' := [_, _, _, _]) rfl ?_
  refine v_loop (fun (t : Int64 × Int32) lv0 => ((lv0.set 1 (some (.long t.1))).set 3 (some (.int t.2)))) (fun (S1 : Mem) (t : Int64 × Int32) => INV M [] S1 ∧ is S1 h 9 ∧ ext S S1 (fun a => ¬ M a ∧ mK S a ∈ [0])) (fun (S1 : Mem) (t : Int64 × Int32) => upm t.2) (t := (_, _)) rfl ⟨iv, i_this, E0⟩ ?_
  intro L6 t h_6 ih_6
  obtain ⟨t0_6, t1_6⟩ := t
  obtain ⟨iv, i_this, E0⟩ := h_6
  try dsimp only
  refine v_iload_n C dX9_digest_6 rfl ?_
  refine v_aload_n C dX9_digest_7 rfl ?_
  obtain ⟨a8, e_a8, i_a8⟩ := T576 iv i_this List.not_mem_nil
  refine r9_10 (b := a8) C i_this e_a8 dX9_digest_8 ?_
  refine g9_48 C i_a8 dX9_digest_11 ?_
  refine v_topi (fun v11 e_v11 => ?_)
  refine v_icmp_ge (tgt := 40) C dX9_digest_14 (by decide) (fun c_14 => ?_) (fun c_14 => ?_)
  · skip
    refine v_lload_n C dX9_digest_40 rfl ?_
    refine v_lret C hr (Nat.le_of_ble_eq_true rfl) (Nat.le_of_ble_eq_true rfl) dX9_digest_41 ?_
    exact ⟨_, rfl, iv, E0⟩
  · skip
    refine v_aload_n C dX9_digest_17 rfl ?_
    obtain ⟨a18, e_a18, i_a18⟩ := T576 iv i_this List.not_mem_nil
    refine r9_10 (b := a18) C i_this e_a18 dX9_digest_18 ?_
    refine v_lload_n C dX9_digest_21 rfl ?_
    refine v_aload_n C dX9_digest_22 rfl ?_
    obtain ⟨a23, e_a23, i_a23⟩ := T576 iv i_this List.not_mem_nil
    refine r9_10 (b := a23) C i_this e_a23 dX9_digest_23 ?_
    refine v_iload_n C dX9_digest_26 rfl ?_
    refine v_callV (As := [_]) (n := 1) C (st_X1_figureAt l _ _ _) rfl i_a23 (by decide) rfl ⟨wd300, wd301, wd302, wd15, wd303⟩ ⟨rfl, hy_X1_figureAt⟩ rfl ⟨Nat.le_of_ble_eq_true rfl, Nat.le_of_ble_eq_true rfl⟩ (Nat.le_of_ble_eq_true rfl) ⟨Nat.le_of_ble_eq_true rfl, Nat.le_of_ble_eq_true rfl⟩ dX9_digest_27 ⟨rfl, iv, i_a23⟩ (fun r_27 S2_27 h_27 => ?_)
    obtain ⟨v27, rfl, n_v27, q_v27⟩ := h_27
    obtain rfl := q_v27.symm
    refine v_callV (As := [_, _]) (n := 2) C (st_X1_digestFigure l _ _ _ _) rfl i_a18 (by decide) rfl ⟨wd973, wd974, wd975, wd15, wd976⟩ ⟨rfl, hy_X1_digestFigure⟩ rfl ⟨Nat.le_of_ble_eq_true rfl, Nat.le_of_ble_eq_true rfl⟩ (Nat.le_of_ble_eq_true rfl) ⟨Nat.le_of_ble_eq_true rfl, Nat.le_of_ble_eq_true rfl⟩ dX9_digest_30 ⟨rfl, iv, i_a18, n_v27⟩ (fun r_30 S2_30 h_30 => ?_)
    obtain ⟨v30, rfl, iv2, x_30⟩ := h_30
    have i_this := is_ext x_30 i_this
    have i_a8 := is_ext x_30 i_a8
    have i_a18 := is_ext x_30 i_a18
    have i_a23 := is_ext x_30 i_a23
    have n_v27 := nOK_ext x_30 n_v27
    have E0' := ext_tr E0 x_30 (xk_call E0 (by decide))
    have E0 := E0'
    have iv := iv2
    refine v_lstore_n C dX9_digest_33 (by decide) (by first | rfl | exact cat_ok _ | simp [okS, cat_rf]) ?_
    refine v_iinc C dX9_digest_34 rfl rfl (by decide) (by first | rfl | exact cat_ok _ | simp [okS, cat_rf]) ?_
    refine v_goto (tgt := 6) C dX9_digest_37 (by decide) ?_
    refine V.lits (lv' := [_, _, _, _]) rfl ?_
    exact ih_6 _ (_, _) (upm_lt c_14) ⟨iv, i_this, E0⟩
