theorem dL_law_0 : decode cL_law 0 = .ok (.new 7, 3) := by decide +kernel
theorem dL_law_3 : decode cL_law 3 = .ok (.dup, 1) := by decide +kernel
theorem dL_law_4 : decode cL_law 4 = .ok (.invokespecial 9, 3) := by decide +kernel
theorem dL_law_7 : decode cL_law 7 = .ok (.astore_n 1, 1) := by decide +kernel
theorem dL_law_8 : decode cL_law 8 = .ok (.new 10, 3) := by decide +kernel
theorem dL_law_11 : decode cL_law 11 = .ok (.dup, 1) := by decide +kernel
theorem dL_law_12 : decode cL_law 12 = .ok (.invokespecial 12, 3) := by decide +kernel
theorem dL_law_15 : decode cL_law 15 = .ok (.astore_n 2, 1) := by decide +kernel
theorem dL_law_16 : decode cL_law 16 = .ok (.iconst 0, 1) := by decide +kernel
theorem dL_law_17 : decode cL_law 17 = .ok (.istore_n 3, 1) := by decide +kernel
theorem dL_law_18 : decode cL_law 18 = .ok (.iload_n 3, 1) := by decide +kernel
theorem dL_law_19 : decode cL_law 19 = .ok (.aload_n 0, 1) := by decide +kernel
theorem dL_law_20 : decode cL_law 20 = .ok (.arraylength, 1) := by decide +kernel
theorem dL_law_21 : decode cL_law 21 = .ok (.iconst 5, 1) := by decide +kernel
theorem dL_law_22 : decode cL_law 22 = .ok (.isub, 1) := by decide +kernel
theorem dL_law_23 : decode cL_law 23 = .ok (.if_icmp .gt 1190, 3) := by decide +kernel
theorem dL_law_26 : decode cL_law 26 = .ok (.aload_n 0, 1) := by decide +kernel
theorem dL_law_27 : decode cL_law 27 = .ok (.iload_n 3, 1) := by decide +kernel
theorem dL_law_28 : decode cL_law 28 = .ok (.iaload, 1) := by decide +kernel
theorem dL_law_29 : decode cL_law 29 = .ok (.bipush 31, 2) := by decide +kernel
theorem dL_law_31 : decode cL_law 31 = .ok (.iand, 1) := by decide +kernel
theorem dL_law_32 : decode cL_law 32 = .ok (.tableswitch 1175 0 26 #[124, 167, 190, 223, 276, 319, 362, 415, 458, 501, 554, 597, 630, 663, 696, 729, 772, 815, 858, 891, 964, 987, 1000, 1033, 1066, 1139, 1162], 124) := by decide +kernel
theorem dL_law_1207 : decode cL_law 1207 = .ok (.iinc 3 5, 3) := by decide +kernel
theorem dL_law_1210 : decode cL_law 1210 = .ok (.goto (-1192), 3) := by decide +kernel
theorem dL_law_1213 : decode cL_law 1213 = .ok (.iconst 1, 1) := by decide +kernel
theorem dL_law_1214 : decode cL_law 1214 = .ok (.ireturn, 1) := by decide +kernel
set_option maxRecDepth 100000 in
set_option maxHeartbeats 4000000 in
theorem whole_start {p : Program} {e : Env} {s : State} {m : MethodId} {below : List Frame} {meth : Method} {c : Code} (l : Launch) (hflags : l.flags = flags0) {b L : Nat} {xs : Nat → Int32} (hL : L ≤ 2560) (C0 : lw_At p s m meth c b L xs) : W p l e room_1 s m #[Value.ref b] below meth c s.heap [] 0 0 (lw_Z below #[Value.ref b] s) (entryFrame m ([Value.ref b] : List Value).toArray 4) := by
  obtain ⟨hx, hb, hr, hml, hown, hts, hX, hbl, hlocks, hgv⟩ := id C0
  obtain ⟨c0, i0, k0⟩ := u_known (C := RX0) (T := TX0) (N := 10) (n := 10) hts iT0 (hts _ wl34)
  obtain ⟨c1, i1, k1⟩ := u_known (C := RX1) (T := TX1) (N := 6) (n := 6) hts iT1 (hts _ wl14)
  obtain ⟨c2, i2, k2⟩ := u_known (C := RX2) (T := TX2) (N := 13) (n := 13) hts iT2 (hts _ wl270)
  obtain ⟨c3, i3, k3⟩ := u_known (C := RX3) (T := TX3) (N := 3) (n := 3) hts iT3 (hts _ wl44)
  obtain ⟨c4, i4, k4⟩ := u_known (C := RX4) (T := TX4) (N := 5) (n := 5) hts iT4 (hts _ wl30)
  obtain ⟨c5, i5, k5⟩ := u_known (C := RX5) (T := TX5) (N := 9) (n := 9) hts iT5 (hts _ wl343)
  obtain ⟨c6, i6, k6⟩ := u_known (C := RX6) (T := TX6) (N := 7) (n := 7) hts iT6 (hts _ wl18)
  obtain ⟨c7, i7, k7⟩ := u_known (C := RX7) (T := TX7) (N := 2) (n := 2) hts iT7 (hts _ wl66)
  obtain ⟨c8, i8, k8⟩ := u_known (C := RX8) (T := TX8) (N := 3) (n := 3) hts iT8 (hts _ wl211)
  obtain ⟨c9, i9, k9⟩ := u_known (C := RX9) (T := TX9) (N := 3) (n := 3) hts iT9 (hts _ wl1)
  obtain ⟨c10, i10, k10⟩ := u_known (C := RX10) (T := TX10) (N := 55) (n := 55) hts iT10 (hts _ wl4)
  obtain ⟨dC, dI, hKc⟩ : ∃ (dC : Nat → ClassId) (dI : Nat → Nat → Nat), ∀ (k : Nat) (q : vw_C), vwCl[k]? = some q → u_Kn s q.1 q.2.1 q.2.2 (dC k) (dI k) := by
    refine ⟨fun k => match k with | 0 => c0 | 1 => c1 | 2 => c2 | 3 => c3 | 4 => c4 | 5 => c5 | 6 => c6 | 7 => c7 | 8 => c8 | 9 => c9 | _ => c10, fun k => match k with | 0 => i0 | 1 => i1 | 2 => i2 | 3 => i3 | 4 => i4 | 5 => i5 | 6 => i6 | 7 => i7 | 8 => i8 | 9 => i9 | _ => i10, ?_⟩
    intro k q hq
    match k, hq with
    | 0, hq => cases hq; exact k0
    | 1, hq => cases hq; exact k1
    | 2, hq => cases hq; exact k2
    | 3, hq => cases hq; exact k3
    | 4, hq => cases hq; exact k4
    | 5, hq => cases hq; exact k5
    | 6, hq => cases hq; exact k6
    | 7, hq => cases hq; exact k7
    | 8, hq => cases hq; exact k8
    | 9, hq => cases hq; exact k9
    | 10, hq => cases hq; exact k10
    | k + 11, hq => simp [vwCl] at hq
  obtain ⟨g0, a0, r0⟩ := arr_prim (ty := .int) (fun _ h => by cases h) (hts _ ac0)
  obtain ⟨g1, a1, r1⟩ := arr_prim (ty := .long) (fun _ h => by cases h) (hts _ ac1)
  obtain ⟨g2, a2, r2⟩ := arr_prim (ty := .boolean) (fun _ h => by cases h) (hts _ ac2)
  obtain ⟨g3, a3, r3⟩ := arr_obj (Cn := RX2) (hts _ ao0)
  obtain ⟨g4, a4, r4⟩ := arr_obj (Cn := RX3) (hts _ ao1)
  obtain ⟨g5, a5, r5⟩ := arr_obj (Cn := RX5) (hts _ ao2)
  obtain ⟨g6, a6, r6⟩ := arr_obj (Cn := RX8) (hts _ ao3)
  obtain ⟨G, hG⟩ : ∃ G : Nat → ClassId, ∀ (k : Nat) (q : ClassId × FieldType), (tysG G)[k]? = some q → ArrOfT s q.1 q.2 ∧ va_RA s q.1 q.2 := by
    refine ⟨fun k => match k with | 11 => g0 | 12 => g1 | 13 => g2 | 14 => g3 | 15 => g4 | 16 => g5 | _ => g6, ?_⟩
    intro k q hq
    match k, hq with
    | 0, hq => cases hq; exact ⟨a0, r0⟩
    | 1, hq => cases hq; exact ⟨a1, r1⟩
    | 2, hq => cases hq; exact ⟨a2, r2⟩
    | 3, hq => cases hq; exact ⟨a3, r3⟩
    | 4, hq => cases hq; exact ⟨a4, r4⟩
    | 5, hq => cases hq; exact ⟨a5, r5⟩
    | 6, hq => cases hq; exact ⟨a6, r6⟩
    | k + 7, hq => simp [tysG] at hq
  have C : Cx p s m #[Value.ref b] meth c (dC, dI) G s.heap.size code 4 RL := ⟨hx, hb, hml, hown, fun w h => hts w (wsL_law_in2 w h), ⟨⟨hKc, hG⟩, fun q hq => va_Nw.of rfl (hts _ (nest_in q hq)), fun Cn hC => va_AO.of (hts _ (ao_in Cn hC))⟩, Nat.le_refl _, hlocks⟩
  have hbA : ¬ s.heap.size ≤ b := Nat.not_le.mpr hbl
  generalize hD : (dC, dI) = D at C
  obtain ⟨bs, hbs⟩ : ∃ bs, bs = s.heap.size := ⟨_, rfl⟩
  rw [← hbs] at C hbA
  have K : V p l e room_1 s m #[Value.ref b] below meth c D G bs 4 (lw_Z below #[Value.ref b] s) 0 0 ([], (fun _ => 0), (fun _ => 0), (fun _ _ => 0), (fun _ _ => none), (fun _ _ => 0), (fun _ _ => 0), (fun _ _ => none), (fun _ _ => 0)) 0 (argl 4 [.ref b]) [] := by
    clear C0
    refine V.gen (fun S0 e0 => ?_)
    have iv0 : INV (fun _ => False) [] S0 := inv_empty (by rw [e0]; rfl)
    refine v_new C (ci := 9) (by decide) rfl inlX9 tyX9_ok wd0 wd1 wd2 nfX9 (Nat.le_of_ble_eq_true rfl) (Nat.le_of_ble_eq_true rfl) dL_law_0 (fun x n_x => ?_)
    refine V.gen (fun S1 e1 => ?_)
    have iv1 := inv_sNew e1 iv0 n_x (by decide)
    have i_x := is_sNewE e1 n_x
    refine v_dup C dL_law_3 rfl ?_
    refine v_callI (As := []) (n := 0) C (ft_X9_init l (fun _ => False) [] x (fun _ => [])) rfl ⟨wd7, wd8, wd2, wd9⟩ rfl hy_X9_init rfl ⟨Nat.le_of_ble_eq_true rfl, Nat.le_of_ble_eq_true rfl⟩ (Nat.le_of_ble_eq_true rfl) ⟨Nat.le_of_ble_eq_true rfl, Nat.le_of_ble_eq_true rfl⟩ dL_law_4 ⟨rfl, iv1, i_x⟩ (fun r_4 S4 h_4 => ?_)
    obtain ⟨rfl, iv2, x2, W0, r0⟩ := h_4
    have i_x := is_ch x2 i_x
    refine v_astore_n C dL_law_7 (by decide) rfl ?_
    refine v_new C (ci := 10) (by decide) rfl inlX10 tyX10_ok wd3 wd4 wd5 nfX10 (Nat.le_of_ble_eq_true rfl) (Nat.le_of_ble_eq_true rfl) dL_law_8 (fun m0 n_m0 => ?_)
    refine V.gen (fun S3 e3 => ?_)
    have i_m := is_sNewE e3 n_m0
    refine v_dup C dL_law_11 rfl ?_
    refine v_callI (As := []) (n := 0) C (cz_X10_init l m0) rfl ⟨wd75, wd76, wd5, wd77⟩ rfl hy_X10_init rfl ⟨Nat.le_of_ble_eq_true rfl, Nat.le_of_ble_eq_true rfl⟩ (Nat.le_of_ble_eq_true rfl) ⟨Nat.le_of_ble_eq_true rfl, Nat.le_of_ble_eq_true rfl⟩ dL_law_12 ⟨rfl, i_m⟩ (fun r_12 S12 h_12 => ?_)
    obtain ⟨rfl, ad, kP, kL⟩ := h_12
    have hI := lawI_0 iv2 r0 n_m0 e3 kP kL
    refine v_astore_n C dL_law_15 (by decide) rfl ?_
    refine v_iconst (v := nI 0) C dL_law_16 (by decide) ?_
    refine v_istore_n C dL_law_17 (by decide) rfl ?_
    refine V.widen (c2 := 1000 + 20 * 0) (s2 := 100000 + 1000 * 0) (Nat.le_of_ble_eq_true rfl) (Nat.le_of_ble_eq_true rfl) ?_
    refine V.lits (lv' := [some (.ref b), some (.ref x), some (.ref m0), some (.int (nI 0))]) rfl ?_
    refine v_loopC (fun (tt : Nat × RS) lv0 => lv0.set 3 (some (.int (nI tt.1)))) (fun tt => 1000 + 20 * tt.1) (fun tt => 100000 + 1000 * tt.1) (fun (S' : Mem) (tt : Nat × RS) => lawI S' x m0 ad tt.2 ∧ tt.1 ≤ 2560) (fun (_ : Mem) (tt : Nat × RS) => 2570 - tt.1) (t := (0, _)) rfl rfl rfl ⟨hI, Nat.zero_le _⟩ ?_
    intro S tt h_ ih
    obtain ⟨i, K⟩ := tt
    obtain ⟨hI, hi0⟩ := h_
    try dsimp only at *
    refine V.lits (lv' := [some (.ref b), some (.ref x), some (.ref m0), some (.int (nI i))]) rfl ?_
    refine v_iload_n C dL_law_18 rfl ?_
    refine v_aload_n C dL_law_19 rfl ?_
    refine v_slen C hX hbl hbA dL_law_20 ?_
    refine v_iconst (v := nI 5) C dL_law_21 (by decide) ?_
    refine v_isub C dL_law_22 ?_
    refine v_icmp_gt (tgt := 1213) C dL_law_23 (by decide) (fun _ => ?_) (fun c_23 => ?_)
    · skip
      refine v_iconst (v := 1) C dL_law_1213 (by decide) ?_
      exact v_lawret (Q := fun _ => True) C hr hbs (by omega) (by omega) dL_law_1214
    have hi := law_in hL hi0 c_23
    refine v_aload_n C dL_law_26 rfl ?_
    refine v_iload_n C dL_law_27 rfl ?_
    refine v_sld C hX hbl hbA (vp_in_nI (by omega) (by omega)) dL_law_28 ?_
    refine v_bipush (v := nI 31) C dL_law_29 (by decide) ?_
    refine v_iand C dL_law_31 ?_
    have hend : ∀ (S' : Mem) (K' : RS), lawI S' x m0 ad K' → V p l e room_1 s m #[Value.ref b] below meth c D G bs 4 (lw_Z below #[Value.ref b] s) (1000 + 20 * i + 100) (100000 + 1000 * i + 5000) S' 1207 [some (.ref b), some (.ref x), some (.ref m0), some (.int (nI i))] [] := by
      intro S' K' hI'
      refine v_iinc C dL_law_1207 rfl (nI_inc5 _) (by decide) rfl ?_
      refine v_goto (tgt := 18) C dL_law_1210 (by decide) ?_
      refine V.lits (lv' := [some (.ref b), some (.ref x), some (.ref m0), some (.int (nI (i + 5)))]) rfl ?_
      refine V.widen (c2 := 1000 + 20 * (i + 5)) (s2 := 100000 + 1000 * (i + 5)) (by omega) (by omega) ?_
      exact ih S' ((i + 5), K') (by show 2570 - (i + 5) < 2570 - i; omega) ⟨hI', by show i + 5 ≤ 2560; omega⟩
    refine v_topi (fun ky eky => ?_)
    by_cases k_0 : ky = 0
    · skip
      refine v_tableIn (off := 124) (tgt := 156) C dL_law_32 (by rw [k_0]; decide) (by rw [k_0]; decide) (by rw [k_0]; rfl) (by decide) ?_
      exact law_c0 C hX hbl hbA hL hi hI hend
    by_cases k_1 : ky = 1
    · skip
      refine v_tableIn (off := 167) (tgt := 199) C dL_law_32 (by rw [k_1]; decide) (by rw [k_1]; decide) (by rw [k_1]; rfl) (by decide) ?_
      exact law_c1 C hX hbl hbA hL hi hI hend
    by_cases k_2 : ky = 2
    · skip
      refine v_tableIn (off := 190) (tgt := 222) C dL_law_32 (by rw [k_2]; decide) (by rw [k_2]; decide) (by rw [k_2]; rfl) (by decide) ?_
      exact law_c2 C hX hbl hbA hL hi hI hend
    by_cases k_3 : ky = 3
    · skip
      refine v_tableIn (off := 223) (tgt := 255) C dL_law_32 (by rw [k_3]; decide) (by rw [k_3]; decide) (by rw [k_3]; rfl) (by decide) ?_
      exact law_c3 C hX hbl hbA hL hi hI hend
    by_cases k_4 : ky = 4
    · skip
      refine v_tableIn (off := 276) (tgt := 308) C dL_law_32 (by rw [k_4]; decide) (by rw [k_4]; decide) (by rw [k_4]; rfl) (by decide) ?_
      exact law_c4 C hX hbl hbA hL hi hI hend
    by_cases k_5 : ky = 5
    · skip
      refine v_tableIn (off := 319) (tgt := 351) C dL_law_32 (by rw [k_5]; decide) (by rw [k_5]; decide) (by rw [k_5]; rfl) (by decide) ?_
      exact law_c5 C hX hbl hbA hL hi hI hend
    by_cases k_6 : ky = 6
    · skip
      refine v_tableIn (off := 362) (tgt := 394) C dL_law_32 (by rw [k_6]; decide) (by rw [k_6]; decide) (by rw [k_6]; rfl) (by decide) ?_
      exact law_c6 C hX hbl hbA hL hi hI hend
    by_cases k_7 : ky = 7
    · skip
      refine v_tableIn (off := 415) (tgt := 447) C dL_law_32 (by rw [k_7]; decide) (by rw [k_7]; decide) (by rw [k_7]; rfl) (by decide) ?_
      exact law_c7 C hX hbl hbA hL hi hI hend
    by_cases k_8 : ky = 8
    · skip
      refine v_tableIn (off := 458) (tgt := 490) C dL_law_32 (by rw [k_8]; decide) (by rw [k_8]; decide) (by rw [k_8]; rfl) (by decide) ?_
      exact law_c8 C hX hbl hbA hL hi hI hend
    by_cases k_9 : ky = 9
    · skip
      refine v_tableIn (off := 501) (tgt := 533) C dL_law_32 (by rw [k_9]; decide) (by rw [k_9]; decide) (by rw [k_9]; rfl) (by decide) ?_
      exact law_c9 C hX hbl hbA hL hi hI hend
    by_cases k_10 : ky = 10
    · skip
      refine v_tableIn (off := 554) (tgt := 586) C dL_law_32 (by rw [k_10]; decide) (by rw [k_10]; decide) (by rw [k_10]; rfl) (by decide) ?_
      exact law_c10 C hX hbl hbA hL hi hI hend
    by_cases k_11 : ky = 11
    · skip
      refine v_tableIn (off := 597) (tgt := 629) C dL_law_32 (by rw [k_11]; decide) (by rw [k_11]; decide) (by rw [k_11]; rfl) (by decide) ?_
      exact law_c11 C hX hbl hbA hL hi hI hend
    by_cases k_12 : ky = 12
    · skip
      refine v_tableIn (off := 630) (tgt := 662) C dL_law_32 (by rw [k_12]; decide) (by rw [k_12]; decide) (by rw [k_12]; rfl) (by decide) ?_
      exact law_c12 C hX hbl hbA hL hi hI hend
    by_cases k_13 : ky = 13
    · skip
      refine v_tableIn (off := 663) (tgt := 695) C dL_law_32 (by rw [k_13]; decide) (by rw [k_13]; decide) (by rw [k_13]; rfl) (by decide) ?_
      exact law_c13 C hX hbl hbA hL hi hI hend
    by_cases k_14 : ky = 14
    · skip
      refine v_tableIn (off := 696) (tgt := 728) C dL_law_32 (by rw [k_14]; decide) (by rw [k_14]; decide) (by rw [k_14]; rfl) (by decide) ?_
      exact law_c14 C hX hbl hbA hL hi hI hend
    by_cases k_15 : ky = 15
    · skip
      refine v_tableIn (off := 729) (tgt := 761) C dL_law_32 (by rw [k_15]; decide) (by rw [k_15]; decide) (by rw [k_15]; rfl) (by decide) ?_
      exact law_c15 C hX hbl hbA hL hi hI hend
    by_cases k_16 : ky = 16
    · skip
      refine v_tableIn (off := 772) (tgt := 804) C dL_law_32 (by rw [k_16]; decide) (by rw [k_16]; decide) (by rw [k_16]; rfl) (by decide) ?_
      exact law_c16 C hX hbl hbA hL hi hI hend
    by_cases k_17 : ky = 17
    · skip
      refine v_tableIn (off := 815) (tgt := 847) C dL_law_32 (by rw [k_17]; decide) (by rw [k_17]; decide) (by rw [k_17]; rfl) (by decide) ?_
      exact law_c17 C hX hbl hbA hL hi hI hend
    by_cases k_18 : ky = 18
    · skip
      refine v_tableIn (off := 858) (tgt := 890) C dL_law_32 (by rw [k_18]; decide) (by rw [k_18]; decide) (by rw [k_18]; rfl) (by decide) ?_
      exact law_c18 C hX hbl hbA hL hi hI hend
    by_cases k_19 : ky = 19
    · skip
      refine v_tableIn (off := 891) (tgt := 923) C dL_law_32 (by rw [k_19]; decide) (by rw [k_19]; decide) (by rw [k_19]; rfl) (by decide) ?_
      exact law_c19 C hX hbl hbA hL hi hI hend
    by_cases k_20 : ky = 20
    · skip
      refine v_tableIn (off := 964) (tgt := 996) C dL_law_32 (by rw [k_20]; decide) (by rw [k_20]; decide) (by rw [k_20]; rfl) (by decide) ?_
      exact law_c20 C hX hbl hbA hL hi hI hend
    by_cases k_21 : ky = 21
    · skip
      refine v_tableIn (off := 987) (tgt := 1019) C dL_law_32 (by rw [k_21]; decide) (by rw [k_21]; decide) (by rw [k_21]; rfl) (by decide) ?_
      exact law_c21 C hX hbl hbA hL hi hI hend
    by_cases k_22 : ky = 22
    · skip
      refine v_tableIn (off := 1000) (tgt := 1032) C dL_law_32 (by rw [k_22]; decide) (by rw [k_22]; decide) (by rw [k_22]; rfl) (by decide) ?_
      exact law_c22 C hX hbl hbA hL hi hI hend
    by_cases k_23 : ky = 23
    · skip
      refine v_tableIn (off := 1033) (tgt := 1065) C dL_law_32 (by rw [k_23]; decide) (by rw [k_23]; decide) (by rw [k_23]; rfl) (by decide) ?_
      exact law_c23 C hX hbl hbA hL hi hI hend
    by_cases k_24 : ky = 24
    · skip
      refine v_tableIn (off := 1066) (tgt := 1098) C dL_law_32 (by rw [k_24]; decide) (by rw [k_24]; decide) (by rw [k_24]; rfl) (by decide) ?_
      exact law_c24 C hX hbl hbA hL hi hI hend
    by_cases k_25 : ky = 25
    · skip
      refine v_tableIn (off := 1139) (tgt := 1171) C dL_law_32 (by rw [k_25]; decide) (by rw [k_25]; decide) (by rw [k_25]; rfl) (by decide) ?_
      exact law_c25 C hX hbl hbA hL hi hI hend
    by_cases k_26 : ky = 26
    · skip
      refine v_tableIn (off := 1162) (tgt := 1194) C dL_law_32 (by rw [k_26]; decide) (by rw [k_26]; decide) (by rw [k_26]; rfl) (by decide) ?_
      exact law_c26 C hX hbl hbA hL hi hI hend
    refine v_tableOut (tgt := 1207) C dL_law_32 (by have q0 := lv_neT k_0 (a := 0) rfl ; have q1 := lv_neT k_1 (a := 1) rfl ; have q2 := lv_neT k_2 (a := 2) rfl ; have q3 := lv_neT k_3 (a := 3) rfl ; have q4 := lv_neT k_4 (a := 4) rfl ; have q5 := lv_neT k_5 (a := 5) rfl ; have q6 := lv_neT k_6 (a := 6) rfl ; have q7 := lv_neT k_7 (a := 7) rfl ; have q8 := lv_neT k_8 (a := 8) rfl ; have q9 := lv_neT k_9 (a := 9) rfl ; have q10 := lv_neT k_10 (a := 10) rfl ; have q11 := lv_neT k_11 (a := 11) rfl ; have q12 := lv_neT k_12 (a := 12) rfl ; have q13 := lv_neT k_13 (a := 13) rfl ; have q14 := lv_neT k_14 (a := 14) rfl ; have q15 := lv_neT k_15 (a := 15) rfl ; have q16 := lv_neT k_16 (a := 16) rfl ; have q17 := lv_neT k_17 (a := 17) rfl ; have q18 := lv_neT k_18 (a := 18) rfl ; have q19 := lv_neT k_19 (a := 19) rfl ; have q20 := lv_neT k_20 (a := 20) rfl ; have q21 := lv_neT k_21 (a := 21) rfl ; have q22 := lv_neT k_22 (a := 22) rfl ; have q23 := lv_neT k_23 (a := 23) rfl ; have q24 := lv_neT k_24 (a := 24) rfl ; have q25 := lv_neT k_25 (a := 25) rfl ; have q26 := lv_neT k_26 (a := 26) rfl ; omega) (by decide) ?_
    refine V.widen (c2 := 1000 + 20 * i + 100) (s2 := 100000 + 1000 * i + 5000) (by omega) (by omega) ?_
    exact hend _ _ hI
  have hl := lv_entry ([.ref b]) (n := 4) (Nat.le_of_ble_eq_true rfl)
  rw [lg_entry_eq]
  refine K s.heap [] _ (fun k q h => by simp [va_pl, mL] at h) ⟨fun i j p q h => by simp [va_pl, mL] at h, fun k q h => by simp [va_pl, mL] at h⟩ va_S.rf ?_
  rw [lvl_argl]
  exact hl
