theorem v_iushr {p : Program} {l : Launch} {e : Env} {R : Room} {s : State} {m : MethodId} {args : Array Value} {below : List Frame} {meth : Method} {c : Code} {D : va_G} {G : Nat → ClassId} {bs nL cells slots pc : Nat} {cc : ByteArray} {Q : State → Prop} {S : Mem} {lv : List (Option Value)} {st : List Value} {own : String} (C : Cx p s m args meth c D G bs cc nL own) {x y : Int32} (hd : decode cc pc = .ok (.iushr, 1)) (k : V p l e R s m args below meth c D G bs nL Q cells slots S (pc + 1) lv (.int ((x.toUInt32 >>> (y.toUInt32 &&& Int32.toUInt32 31)).toInt32) :: st)) : V p l e R s m args below meth c D G bs nL Q cells slots S pc lv (.int y :: .int x :: st) :=
  fun H locs ls h1 h2 h3 h4 => lv_iushr C.1 C.2.1 hd rfl (k H locs ls h1 h2 h3 h4)
theorem v_lookup {p : Program} {l : Launch} {e : Env} {R : Room} {s : State} {m : MethodId} {args : Array Value} {below : List Frame} {meth : Method} {c : Code} {D : va_G} {G : Nat → ClassId} {bs nL cells slots pc : Nat} {cc : ByteArray} {Q : State → Prop} {S : Mem} {lv : List (Option Value)} {st : List Value} {own : String} (C : Cx p s m args meth c D G bs cc nL own) {dflt : Int} {ps : Array (Int × Int)} {len : Nat} {x : Int32} {off : Int} {tgt : Nat} (hd : decode cc pc = .ok (.lookupswitch dflt ps, len)) (hp : (ps.toList.zip (ps.toList.drop 1)).all (fun (a, next) => a.1 < next.1) = true) (ho : Op.lookupswitch.offset ps.toList dflt x.toInt = off) (ht : (pc : Int) + off = (tgt : Int)) (k : V p l e R s m args below meth c D G bs nL Q cells slots S tgt lv st) : V p l e R s m args below meth c D G bs nL Q cells slots S pc lv (.int x :: st) :=
  fun H locs ls h1 h2 h3 h4 => lv_lookup C.1 C.2.1 hd hp ho ht (k H locs ls h1 h2 h3 h4)
theorem mI_Q {S S' : Mem} {g a a' i : Nat} {v : Int64} (e : S' = sQ S a' i v) : mI S' g a = mI S g a := by rw [e, mI_sQ]
theorem tp_in {v k : Int32} (h : vp_in v 200) (hk : 0 ≤ k.toInt ∧ k.toInt < 5) : vp_in (v * 5 + k) 1000 := by
  obtain ⟨h1, h2⟩ := vp_in_iff.mp h
  have e : (v * 5 + k).toInt = v.toInt * 5 + k.toInt := by
    rw [Int32.toInt_add, Int32.toInt_mul, show (5 : Int32).toInt = 5 from rfl, Int.bmod_def (v.toInt * 5), Int.bmod_def]
    split <;> split <;> omega
  exact vp_in_iff.mpr ⟨by omega, by omega⟩
theorem tp_in0 {v : Int32} (h : vp_in v 200) : vp_in (v * 5) 1000 := by
  obtain ⟨h1, h2⟩ := vp_in_iff.mp h
  have e : (v * 5).toInt = v.toInt * 5 := by
    rw [Int32.toInt_mul, show (5 : Int32).toInt = 5 from rfl, Int.bmod_def]
    split <;> omega
  exact vp_in_iff.mpr ⟨by omega, by omega⟩
theorem inv_len7 {M : Nat → Prop} {E : List Nat} {S S' : Mem} {a : Nat} {v : Int32} (e : S' = sI S 449 a (v + 1)) (h : INV M E S) (hv : vp_in v 200) : INV M E S' := by
  obtain ⟨k, h1, h2⟩ := i32_sc hv (by decide)
  exact inv_sIn e h h2 ⟨fun z => (by cases z), fun _ => h1⟩
theorem len200 {M : Nat → Prop} {S : Mem} {a : Nat} {v : Int32} (iv : INV M [] S) (i : is S a 7) (e : v = mI S 449 a) : 0 ≤ v.toInt ∧ v.toInt ≤ 200 := by
  obtain ⟨n, h1, h2⟩ := iv.2.2.2.2 a i.1 List.not_mem_nil i.2
  rw [e, h2, show nI n = Int32.ofInt (n : Int) from (Int32.ofInt_eq_ofNat ..).symm, Int32.toInt_ofInt, show Int32.size = 4294967296 from rfl, Int.bmod_def]
  split <;> omega
theorem tl_in {i y : Int32} {x : Bool} (p : x = isB i y) (h : ¬ bI x = 0) (b : 0 ≤ y.toInt ∧ y.toInt ≤ 200) : vp_in i 200 := by
  have z := isB_t (p ▸ bI_t h)
  exact vp_in_iff.mpr ⟨Int32.le_iff_toInt_le.mp z.1, by have := Int32.lt_iff_toInt_lt.mp z.2; omega⟩
theorem vp_in5 {k : Int32} (h : vp_in k 5) : 0 ≤ k.toInt ∧ k.toInt < 5 := by
  obtain ⟨h1, h2⟩ := vp_in_iff.mp h
  exact ⟨h1, by omega⟩
theorem dJ6_bitCount_0f7a4_0 : decode cJ6_bitCount_0f7a4 0 = .ok (.iload_n 0, 1) := by decide +kernel
theorem dJ6_bitCount_0f7a4_1 : decode cJ6_bitCount_0f7a4 1 = .ok (.iload_n 0, 1) := by decide +kernel
theorem dJ6_bitCount_0f7a4_2 : decode cJ6_bitCount_0f7a4 2 = .ok (.iconst 1, 1) := by decide +kernel
theorem dJ6_bitCount_0f7a4_3 : decode cJ6_bitCount_0f7a4 3 = .ok (.iushr, 1) := by decide +kernel
theorem dJ6_bitCount_0f7a4_4 : decode cJ6_bitCount_0f7a4 4 = .ok (.ldc_w 265, 3) := by decide +kernel
theorem dJ6_bitCount_0f7a4_7 : decode cJ6_bitCount_0f7a4 7 = .ok (.iand, 1) := by decide +kernel
theorem dJ6_bitCount_0f7a4_8 : decode cJ6_bitCount_0f7a4 8 = .ok (.isub, 1) := by decide +kernel
theorem dJ6_bitCount_0f7a4_9 : decode cJ6_bitCount_0f7a4 9 = .ok (.istore_n 0, 1) := by decide +kernel
theorem dJ6_bitCount_0f7a4_10 : decode cJ6_bitCount_0f7a4 10 = .ok (.iload_n 0, 1) := by decide +kernel
theorem dJ6_bitCount_0f7a4_11 : decode cJ6_bitCount_0f7a4 11 = .ok (.ldc_w 266, 3) := by decide +kernel
theorem dJ6_bitCount_0f7a4_14 : decode cJ6_bitCount_0f7a4 14 = .ok (.iand, 1) := by decide +kernel
theorem dJ6_bitCount_0f7a4_15 : decode cJ6_bitCount_0f7a4 15 = .ok (.iload_n 0, 1) := by decide +kernel
theorem dJ6_bitCount_0f7a4_16 : decode cJ6_bitCount_0f7a4 16 = .ok (.iconst 2, 1) := by decide +kernel
theorem dJ6_bitCount_0f7a4_17 : decode cJ6_bitCount_0f7a4 17 = .ok (.iushr, 1) := by decide +kernel
theorem dJ6_bitCount_0f7a4_18 : decode cJ6_bitCount_0f7a4 18 = .ok (.ldc_w 266, 3) := by decide +kernel
theorem dJ6_bitCount_0f7a4_21 : decode cJ6_bitCount_0f7a4 21 = .ok (.iand, 1) := by decide +kernel
theorem dJ6_bitCount_0f7a4_22 : decode cJ6_bitCount_0f7a4 22 = .ok (.iadd, 1) := by decide +kernel
theorem dJ6_bitCount_0f7a4_23 : decode cJ6_bitCount_0f7a4 23 = .ok (.istore_n 0, 1) := by decide +kernel
theorem dJ6_bitCount_0f7a4_24 : decode cJ6_bitCount_0f7a4 24 = .ok (.iload_n 0, 1) := by decide +kernel
theorem dJ6_bitCount_0f7a4_25 : decode cJ6_bitCount_0f7a4 25 = .ok (.iload_n 0, 1) := by decide +kernel
theorem dJ6_bitCount_0f7a4_26 : decode cJ6_bitCount_0f7a4 26 = .ok (.iconst 4, 1) := by decide +kernel
theorem dJ6_bitCount_0f7a4_27 : decode cJ6_bitCount_0f7a4 27 = .ok (.iushr, 1) := by decide +kernel
theorem dJ6_bitCount_0f7a4_28 : decode cJ6_bitCount_0f7a4 28 = .ok (.iadd, 1) := by decide +kernel
theorem dJ6_bitCount_0f7a4_29 : decode cJ6_bitCount_0f7a4 29 = .ok (.ldc_w 267, 3) := by decide +kernel
theorem dJ6_bitCount_0f7a4_32 : decode cJ6_bitCount_0f7a4 32 = .ok (.iand, 1) := by decide +kernel
theorem dJ6_bitCount_0f7a4_33 : decode cJ6_bitCount_0f7a4 33 = .ok (.istore_n 0, 1) := by decide +kernel
theorem dJ6_bitCount_0f7a4_34 : decode cJ6_bitCount_0f7a4 34 = .ok (.iload_n 0, 1) := by decide +kernel
theorem dJ6_bitCount_0f7a4_35 : decode cJ6_bitCount_0f7a4 35 = .ok (.iload_n 0, 1) := by decide +kernel
theorem dJ6_bitCount_0f7a4_36 : decode cJ6_bitCount_0f7a4 36 = .ok (.bipush 8, 2) := by decide +kernel
theorem dJ6_bitCount_0f7a4_38 : decode cJ6_bitCount_0f7a4 38 = .ok (.iushr, 1) := by decide +kernel
theorem dJ6_bitCount_0f7a4_39 : decode cJ6_bitCount_0f7a4 39 = .ok (.iadd, 1) := by decide +kernel
theorem dJ6_bitCount_0f7a4_40 : decode cJ6_bitCount_0f7a4 40 = .ok (.istore_n 0, 1) := by decide +kernel
theorem dJ6_bitCount_0f7a4_41 : decode cJ6_bitCount_0f7a4 41 = .ok (.iload_n 0, 1) := by decide +kernel
theorem dJ6_bitCount_0f7a4_42 : decode cJ6_bitCount_0f7a4 42 = .ok (.iload_n 0, 1) := by decide +kernel
theorem dJ6_bitCount_0f7a4_43 : decode cJ6_bitCount_0f7a4 43 = .ok (.bipush 16, 2) := by decide +kernel
theorem dJ6_bitCount_0f7a4_45 : decode cJ6_bitCount_0f7a4 45 = .ok (.iushr, 1) := by decide +kernel
theorem dJ6_bitCount_0f7a4_46 : decode cJ6_bitCount_0f7a4 46 = .ok (.iadd, 1) := by decide +kernel
theorem dJ6_bitCount_0f7a4_47 : decode cJ6_bitCount_0f7a4 47 = .ok (.istore_n 0, 1) := by decide +kernel
theorem dJ6_bitCount_0f7a4_48 : decode cJ6_bitCount_0f7a4 48 = .ok (.iload_n 0, 1) := by decide +kernel
theorem dJ6_bitCount_0f7a4_49 : decode cJ6_bitCount_0f7a4 49 = .ok (.bipush 63, 2) := by decide +kernel
theorem dJ6_bitCount_0f7a4_51 : decode cJ6_bitCount_0f7a4 51 = .ok (.iand, 1) := by decide +kernel
theorem dJ6_bitCount_0f7a4_52 : decode cJ6_bitCount_0f7a4 52 = .ok (.ireturn, 1) := by decide +kernel
set_option maxRecDepth 100000 in
set_option maxHeartbeats 4000000 in
theorem st_J6_bitCount_0f7a4 (l : Launch) (p0 : Int32) : Ct l yJ6_bitCount_0f7a4 cJ6_bitCount_0f7a4 1 (some .int) 0 0 0 0 (fun S av => av = [.int p0]) (fun S _ r S' => ∃ v, r = some (.int v) ∧ S' = S) := by
  refine ct_of (by decide) (fun S av h => by obtain rfl := h; exact Nat.le_of_ble_eq_true rfl) ?_
  intro p e s m args below meth c D G bs S av C hr hin hpre
  obtain rfl := hpre
  refine v_iload_n C dJ6_bitCount_0f7a4_0 rfl ?_
  refine v_iload_n C dJ6_bitCount_0f7a4_1 rfl ?_
  refine v_iconst (v := 1) C dJ6_bitCount_0f7a4_2 (by decide) ?_
  refine v_iushr C dJ6_bitCount_0f7a4_3 ?_
  refine v_ldcw (v := (1431655765)) C wd578 dJ6_bitCount_0f7a4_4 ?_
  refine v_iand C dJ6_bitCount_0f7a4_7 ?_
  refine v_isub C dJ6_bitCount_0f7a4_8 ?_
  refine v_istore_n C dJ6_bitCount_0f7a4_9 (by decide) (by first | rfl | exact cat_ok _ | simp [okS, cat_rf]) ?_
  refine v_iload_n C dJ6_bitCount_0f7a4_10 rfl ?_
  refine v_ldcw (v := (858993459)) C wd579 dJ6_bitCount_0f7a4_11 ?_
  refine v_iand C dJ6_bitCount_0f7a4_14 ?_
  refine v_iload_n C dJ6_bitCount_0f7a4_15 rfl ?_
  refine v_iconst (v := 2) C dJ6_bitCount_0f7a4_16 (by decide) ?_
  refine v_iushr C dJ6_bitCount_0f7a4_17 ?_
  refine v_ldcw (v := (858993459)) C wd579 dJ6_bitCount_0f7a4_18 ?_
  refine v_iand C dJ6_bitCount_0f7a4_21 ?_
  refine v_iadd C dJ6_bitCount_0f7a4_22 ?_
  refine v_istore_n C dJ6_bitCount_0f7a4_23 (by decide) (by first | rfl | exact cat_ok _ | simp [okS, cat_rf]) ?_
  refine v_iload_n C dJ6_bitCount_0f7a4_24 rfl ?_
  refine v_iload_n C dJ6_bitCount_0f7a4_25 rfl ?_
  refine v_iconst (v := 4) C dJ6_bitCount_0f7a4_26 (by decide) ?_
  refine v_iushr C dJ6_bitCount_0f7a4_27 ?_
  refine v_iadd C dJ6_bitCount_0f7a4_28 ?_
  refine v_ldcw (v := (252645135)) C wd580 dJ6_bitCount_0f7a4_29 ?_
  refine v_iand C dJ6_bitCount_0f7a4_32 ?_
  refine v_istore_n C dJ6_bitCount_0f7a4_33 (by decide) (by first | rfl | exact cat_ok _ | simp [okS, cat_rf]) ?_
  refine v_iload_n C dJ6_bitCount_0f7a4_34 rfl ?_
  refine v_iload_n C dJ6_bitCount_0f7a4_35 rfl ?_
  refine v_bipush (v := 8) C dJ6_bitCount_0f7a4_36 (by decide) ?_
  refine v_iushr C dJ6_bitCount_0f7a4_38 ?_
  refine v_iadd C dJ6_bitCount_0f7a4_39 ?_
  refine v_istore_n C dJ6_bitCount_0f7a4_40 (by decide) (by first | rfl | exact cat_ok _ | simp [okS, cat_rf]) ?_
  refine v_iload_n C dJ6_bitCount_0f7a4_41 rfl ?_
  refine v_iload_n C dJ6_bitCount_0f7a4_42 rfl ?_
  refine v_bipush (v := 16) C dJ6_bitCount_0f7a4_43 (by decide) ?_
  refine v_iushr C dJ6_bitCount_0f7a4_45 ?_
  refine v_iadd C dJ6_bitCount_0f7a4_46 ?_
  refine v_istore_n C dJ6_bitCount_0f7a4_47 (by decide) (by first | rfl | exact cat_ok _ | simp [okS, cat_rf]) ?_
  refine v_iload_n C dJ6_bitCount_0f7a4_48 rfl ?_
  refine v_bipush (v := 63) C dJ6_bitCount_0f7a4_49 (by decide) ?_
  refine v_iand C dJ6_bitCount_0f7a4_51 ?_
  refine v_iret C hr (Nat.le_of_ble_eq_true rfl) (Nat.le_of_ble_eq_true rfl) dJ6_bitCount_0f7a4_52 ?_
  exact ⟨_, rfl, rfl⟩
theorem dX0_empty_0 : decode cX0_empty 0 = .ok (.aload_n 0, 1) := by decide +kernel
theorem dX0_empty_1 : decode cX0_empty 1 = .ok (.aconst_null, 1) := by decide +kernel
theorem dX0_empty_2 : decode cX0_empty 2 = .ok (.putfield 9, 3) := by decide +kernel
theorem dX0_empty_5 : decode cX0_empty 5 = .ok (.aload_n 0, 1) := by decide +kernel
theorem dX0_empty_6 : decode cX0_empty 6 = .ok (.aconst_null, 1) := by decide +kernel
theorem dX0_empty_7 : decode cX0_empty 7 = .ok (.putfield 15, 3) := by decide +kernel
theorem dX0_empty_10 : decode cX0_empty 10 = .ok (.aload_n 0, 1) := by decide +kernel
theorem dX0_empty_11 : decode cX0_empty 11 = .ok (.aconst_null, 1) := by decide +kernel
theorem dX0_empty_12 : decode cX0_empty 12 = .ok (.putfield 18, 3) := by decide +kernel
theorem dX0_empty_15 : decode cX0_empty 15 = .ok (.aload_n 0, 1) := by decide +kernel
theorem dX0_empty_16 : decode cX0_empty 16 = .ok (.iconst 0, 1) := by decide +kernel
theorem dX0_empty_17 : decode cX0_empty 17 = .ok (.putfield 22, 3) := by decide +kernel
theorem dX0_empty_20 : decode cX0_empty 20 = .ok (.aload_n 0, 1) := by decide +kernel
theorem dX0_empty_21 : decode cX0_empty 21 = .ok (.iconst 0, 1) := by decide +kernel
theorem dX0_empty_22 : decode cX0_empty 22 = .ok (.putfield 26, 3) := by decide +kernel
theorem dX0_empty_25 : decode cX0_empty 25 = .ok (.aload_n 0, 1) := by decide +kernel
theorem dX0_empty_26 : decode cX0_empty 26 = .ok (.iconst 0, 1) := by decide +kernel
theorem dX0_empty_27 : decode cX0_empty 27 = .ok (.putfield 29, 3) := by decide +kernel
theorem dX0_empty_30 : decode cX0_empty 30 = .ok (.return_, 1) := by decide +kernel
set_option maxRecDepth 100000 in
set_option maxHeartbeats 4000000 in
theorem st_X0_empty (l : Launch) (M : Nat → Prop) (h : Nat) : Ct l yX0_empty cX0_empty 1 none 0 0 0 0 (fun S av => av = [.ref h] ∧ INV M [] S ∧ is S h 0) (fun S _ r S' => r = none ∧ INV M [] S' ∧ ext S S' (fun a => ¬ M a ∧ mK S a ∈ [0])) := by
  refine ct_of (by decide) (fun S av h => by obtain ⟨rfl, iv, i_this⟩ := h; exact Nat.le_of_ble_eq_true rfl) ?_
  intro p e s m args below meth c D G bs S av C hr hin hpre
  obtain ⟨rfl, iv, i_this⟩ := hpre
  have E0 : ext S S (fun a => ¬ M a ∧ mK S a ∈ [0]) := ext_rfl
  refine v_aload_n C dX0_empty_0 rfl ?_
  refine v_null C dX0_empty_1 ?_
  refine p0_9 C i_this dX0_empty_2 ?_
  refine V.gen (fun S2_2 e_2 => ?_)
  have iv' := inv_sO e_2 iv (Or.inr (F4 nOK_none))
  have x_2 := x_sO e_2
  have E0' := ext_tr E0 x_2 (xk_is E0 i_this iv (by decide) (by decide))
  have E0 := E0'
  have i_this := is_ext x_2 i_this
  have iv := iv'
  refine v_aload_n C dX0_empty_5 rfl ?_
  refine v_null C dX0_empty_6 ?_
  refine p0_15 C i_this dX0_empty_7 ?_
  refine V.gen (fun S2_7 e_7 => ?_)
  have iv' := inv_sO e_7 iv (Or.inr (F5 nOK_none))
  have x_7 := x_sO e_7
  have E0' := ext_tr E0 x_7 (xk_is E0 i_this iv (by decide) (by decide))
  have E0 := E0'
  have i_this := is_ext x_7 i_this
  have iv := iv'
  refine v_aload_n C dX0_empty_10 rfl ?_
  refine v_null C dX0_empty_11 ?_
  refine p0_18 C i_this dX0_empty_12 ?_
  refine V.gen (fun S2_12 e_12 => ?_)
  have iv' := inv_sO e_12 iv (Or.inr (F6 nOK_none))
  have x_12 := x_sO e_12
  have E0' := ext_tr E0 x_12 (xk_is E0 i_this iv (by decide) (by decide))
  have E0 := E0'
  have i_this := is_ext x_12 i_this
  have iv := iv'
  refine v_aload_n C dX0_empty_15 rfl ?_
  refine v_iconst (v := 0) C dX0_empty_16 (by decide) ?_
  refine p0_22 C i_this (by decide) dX0_empty_17 ?_
  refine V.gen (fun S2_17 e_17 => ?_)
  have iv' := inv_sI e_17 iv (by decide) (by decide)
  have x_17 := x_sI e_17
  have E0' := ext_tr E0 x_17 (xk_is E0 i_this iv (by decide) (by decide))
  have E0 := E0'
  have i_this := is_ext x_17 i_this
  have iv := iv'
  refine v_aload_n C dX0_empty_20 rfl ?_
  refine v_iconst (v := 0) C dX0_empty_21 (by decide) ?_
  refine p0_26 C i_this (by decide) dX0_empty_22 ?_
  refine V.gen (fun S2_22 e_22 => ?_)
  have iv' := inv_sI e_22 iv (by decide) (by decide)
  have x_22 := x_sI e_22
  have E0' := ext_tr E0 x_22 (xk_is E0 i_this iv (by decide) (by decide))
  have E0 := E0'
  have i_this := is_ext x_22 i_this
  have iv := iv'
  refine v_aload_n C dX0_empty_25 rfl ?_
  refine v_iconst (v := 0) C dX0_empty_26 (by decide) ?_
  refine p0_29 C i_this dX0_empty_27 ?_
  refine V.gen (fun S2_27 e_27 => ?_)
  have iv' := inv_sI e_27 iv (by decide) (by decide)
  have x_27 := x_sI e_27
  have E0' := ext_tr E0 x_27 (xk_is E0 i_this iv (by decide) (by decide))
  have E0 := E0'
  have i_this := is_ext x_27 i_this
  have iv := iv'
  refine v_vret C hr (Nat.le_of_ble_eq_true rfl) (Nat.le_of_ble_eq_true rfl) dX0_empty_30 ?_
  exact ⟨rfl, iv, E0⟩
theorem dX0_hear_0 : decode cX0_hear 0 = .ok (.aload_n 0, 1) := by decide +kernel
theorem dX0_hear_1 : decode cX0_hear 1 = .ok (.dup, 1) := by decide +kernel
theorem dX0_hear_2 : decode cX0_hear 2 = .ok (.getfield 29, 3) := by decide +kernel
theorem dX0_hear_5 : decode cX0_hear 5 = .ok (.iconst 1, 1) := by decide +kernel
theorem dX0_hear_6 : decode cX0_hear 6 = .ok (.aload_n 2, 1) := by decide +kernel
theorem dX0_hear_7 : decode cX0_hear 7 = .ok (.getfield 33, 3) := by decide +kernel
theorem dX0_hear_10 : decode cX0_hear 10 = .ok (.ishl, 1) := by decide +kernel
theorem dX0_hear_11 : decode cX0_hear 11 = .ok (.ior, 1) := by decide +kernel
theorem dX0_hear_12 : decode cX0_hear 12 = .ok (.putfield 29, 3) := by decide +kernel
theorem dX0_hear_15 : decode cX0_hear 15 = .ok (.aload_n 2, 1) := by decide +kernel
theorem dX0_hear_16 : decode cX0_hear 16 = .ok (.getfield 38, 3) := by decide +kernel
theorem dX0_hear_19 : decode cX0_hear 19 = .ok (.ifCond .eq 9, 3) := by decide +kernel
theorem dX0_hear_22 : decode cX0_hear 22 = .ok (.aload_n 0, 1) := by decide +kernel
theorem dX0_hear_23 : decode cX0_hear 23 = .ok (.iconst 1, 1) := by decide +kernel
theorem dX0_hear_24 : decode cX0_hear 24 = .ok (.putfield 26, 3) := by decide +kernel
theorem dX0_hear_27 : decode cX0_hear 27 = .ok (.return_, 1) := by decide +kernel
theorem dX0_hear_28 : decode cX0_hear 28 = .ok (.iload_n 3, 1) := by decide +kernel
theorem dX0_hear_29 : decode cX0_hear 29 = .ok (.ifCond .eq 8, 3) := by decide +kernel
theorem dX0_hear_32 : decode cX0_hear 32 = .ok (.aload_n 0, 1) := by decide +kernel
theorem dX0_hear_33 : decode cX0_hear 33 = .ok (.aload_n 2, 1) := by decide +kernel
theorem dX0_hear_34 : decode cX0_hear 34 = .ok (.putfield 9, 3) := by decide +kernel
theorem dX0_hear_37 : decode cX0_hear 37 = .ok (.aload_n 0, 1) := by decide +kernel
theorem dX0_hear_38 : decode cX0_hear 38 = .ok (.getfield 18, 3) := by decide +kernel
theorem dX0_hear_41 : decode cX0_hear 41 = .ok (.ifnonnull 16, 3) := by decide +kernel
theorem dX0_hear_44 : decode cX0_hear 44 = .ok (.aload_n 0, 1) := by decide +kernel
theorem dX0_hear_45 : decode cX0_hear 45 = .ok (.aload_n 2, 1) := by decide +kernel
theorem dX0_hear_46 : decode cX0_hear 46 = .ok (.putfield 15, 3) := by decide +kernel
theorem dX0_hear_49 : decode cX0_hear 49 = .ok (.aload_n 0, 1) := by decide +kernel
theorem dX0_hear_50 : decode cX0_hear 50 = .ok (.aload_n 1, 1) := by decide +kernel
theorem dX0_hear_51 : decode cX0_hear 51 = .ok (.putfield 18, 3) := by decide +kernel
theorem dX0_hear_54 : decode cX0_hear 54 = .ok (.goto 22, 3) := by decide +kernel
theorem dX0_hear_57 : decode cX0_hear 57 = .ok (.aload_n 0, 1) := by decide +kernel
theorem dX0_hear_58 : decode cX0_hear 58 = .ok (.getfield 18, 3) := by decide +kernel
theorem dX0_hear_61 : decode cX0_hear 61 = .ok (.aload_n 2, 1) := by decide +kernel
theorem dX0_hear_62 : decode cX0_hear 62 = .ok (.getfield 41, 3) := by decide +kernel
theorem dX0_hear_65 : decode cX0_hear 65 = .ok (.invokevirtual 44, 3) := by decide +kernel
theorem dX0_hear_68 : decode cX0_hear 68 = .ok (.ifCond .ne 8, 3) := by decide +kernel
theorem dX0_hear_71 : decode cX0_hear 71 = .ok (.aload_n 0, 1) := by decide +kernel
theorem dX0_hear_72 : decode cX0_hear 72 = .ok (.iconst 1, 1) := by decide +kernel
theorem dX0_hear_73 : decode cX0_hear 73 = .ok (.putfield 22, 3) := by decide +kernel
theorem dX0_hear_76 : decode cX0_hear 76 = .ok (.return_, 1) := by decide +kernel
set_option maxRecDepth 100000 in
set_option maxHeartbeats 4000000 in
theorem st_X0_hear (l : Launch) (M : Nat → Prop) (h : Nat) (p0 : Nat) (p1 : Nat) (p2 : Int32) : Ct l yX0_hear cX0_hear 4 none 2 0 0 42 (fun S av => av = [.ref h, .ref p0, .ref p1, .int p2] ∧ INV M [] S ∧ is S h 0 ∧ is S p0 3 ∧ is S p1 5) (fun S _ r S' => r = none ∧ INV M [] S' ∧ ext S S' (fun a => ¬ M a ∧ mK S a ∈ [0])) := by
  refine ct_of (by decide) (fun S av h => by obtain ⟨rfl, iv, i_this, i_p0, i_p1⟩ := h; exact Nat.le_of_ble_eq_true rfl) ?_
  intro p e s m args below meth c D G bs S av C hr hin hpre
  obtain ⟨rfl, iv, i_this, i_p0, i_p1⟩ := hpre
  have E0 : ext S S (fun a => ¬ M a ∧ mK S a ∈ [0]) := ext_rfl
  refine v_aload_n C dX0_hear_0 rfl ?_
  refine v_dup C dX0_hear_1 rfl ?_
  refine g0_29 C i_this dX0_hear_2 ?_
  refine v_topi (fun v2 e_v2 => ?_)
  refine v_iconst (v := 1) C dX0_hear_5 (by decide) ?_
  refine v_aload_n C dX0_hear_6 rfl ?_
  refine g0_33 C i_p1 dX0_hear_7 ?_
  refine v_topi (fun v7 e_v7 => ?_)
  refine v_ishl C dX0_hear_10 ?_
  refine v_ior C dX0_hear_11 ?_
  refine p0_29 C i_this dX0_hear_12 ?_
  refine V.gen (fun S2_12 e_12 => ?_)
  have iv' := inv_sI e_12 iv (by decide) (by decide)
  have x_12 := x_sI e_12
  have E0' := ext_tr E0 x_12 (xk_is E0 i_this iv (by decide) (by decide))
  have E0 := E0'
  have i_this := is_ext x_12 i_this
  have i_p0 := is_ext x_12 i_p0
  have i_p1 := is_ext x_12 i_p1
  have iv := iv'
  refine v_aload_n C dX0_hear_15 rfl ?_
  refine g0_38 C i_p1 dX0_hear_16 ?_
  refine v_topi (fun v16 e_v16 => ?_)
  refine v_if_eq (tgt := 28) C dX0_hear_19 (by decide) (fun c_19 => ?_) (fun c_19 => ?_)
  · skip
    refine v_iload_n C dX0_hear_28 rfl ?_
    refine v_if_eq (tgt := 37) C dX0_hear_29 (by decide) (fun c_29 => ?_) (fun c_29 => ?_)
    · skip
      refine v_aload_n C dX0_hear_37 rfl ?_
      have n_o38 := T6 iv i_this List.not_mem_nil
      refine g0_18 C i_this dX0_hear_38 ?_
      refine v_ifnonnull (tgt := 57) C dX0_hear_41 (by decide) (fun b41 c_41 => ?_) (fun c_41 => ?_)
      · skip
        have o_6 := c_41
        have i_b41 := nOK_some n_o38 c_41
        refine v_aload_n C dX0_hear_57 rfl ?_
        refine r0_18 C i_this o_6 dX0_hear_58 ?_
        refine v_aload_n C dX0_hear_61 rfl ?_
        refine g0_41 C i_p1 dX0_hear_62 ?_
        refine v_topi (fun v62 e_v62 => ?_)
        refine v_callV (As := [_]) (n := 1) C (st_X3_has l _ _ _) rfl i_b41 (by decide) rfl ⟨wd558, wd559, wd560, wd45, wd561⟩ ⟨rfl, hy_X3_has⟩ rfl ⟨Nat.le_of_ble_eq_true rfl, Nat.le_of_ble_eq_true rfl⟩ (Nat.le_of_ble_eq_true rfl) ⟨Nat.le_of_ble_eq_true rfl, Nat.le_of_ble_eq_true rfl⟩ dX0_hear_65 ⟨rfl, iv, i_b41⟩ (fun r_65 S8_65 h_65 => ?_)
        obtain ⟨v65, rfl, q_v65⟩ := h_65
        obtain rfl := q_v65.symm
        refine v_if_ne (tgt := 76) C dX0_hear_68 (by decide) (fun c_68 => ?_) (fun c_68 => ?_)
        · skip
          refine v_vret C hr (Nat.le_of_ble_eq_true rfl) (Nat.le_of_ble_eq_true rfl) dX0_hear_76 ?_
          exact ⟨rfl, iv, E0⟩
        · skip
          refine v_aload_n C dX0_hear_71 rfl ?_
          refine v_iconst (v := 1) C dX0_hear_72 (by decide) ?_
          refine p0_22 C i_this (by decide) dX0_hear_73 ?_
          refine V.gen (fun S10_73 e_73 => ?_)
          have iv' := inv_sI e_73 iv (by decide) (by decide)
          have x_73 := x_sI e_73
          have E0' := ext_tr E0 x_73 (xk_is E0 i_this iv (by decide) (by decide))
          have E0 := E0'
          have o_6 := mo_sI e_73 o_6
          have i_this := is_ext x_73 i_this
          have i_p0 := is_ext x_73 i_p0
          have i_p1 := is_ext x_73 i_p1
          have i_b41 := is_ext x_73 i_b41
          have iv := iv'
          refine v_vret C hr (Nat.le_of_ble_eq_true rfl) (Nat.le_of_ble_eq_true rfl) dX0_hear_76 ?_
          exact ⟨rfl, iv, E0⟩
      · skip
        refine v_aload_n C dX0_hear_44 rfl ?_
        refine v_aload_n C dX0_hear_45 rfl ?_
        refine p0_15 (v := some _) C i_this dX0_hear_46 ?_
        refine V.gen (fun S8_46 e_46 => ?_)
        have iv' := inv_sO e_46 iv (Or.inr (F5 (nOK_is i_p1)))
        have x_46 := x_sO e_46
        have E0' := ext_tr E0 x_46 (xk_is E0 i_this iv (by decide) (by decide))
        have E0 := E0'
        have i_this := is_ext x_46 i_this
        have i_p0 := is_ext x_46 i_p0
        have i_p1 := is_ext x_46 i_p1
        have iv := iv'
        refine v_aload_n C dX0_hear_49 rfl ?_
        refine v_aload_n C dX0_hear_50 rfl ?_
        refine p0_18 (v := some _) C i_this dX0_hear_51 ?_
        refine V.gen (fun S8_51 e_51 => ?_)
        have iv' := inv_sO e_51 iv (Or.inr (F6 (nOK_is i_p0)))
        have x_51 := x_sO e_51
        have E0' := ext_tr E0 x_51 (xk_is E0 i_this iv (by decide) (by decide))
        have E0 := E0'
        have i_this := is_ext x_51 i_this
        have i_p0 := is_ext x_51 i_p0
        have i_p1 := is_ext x_51 i_p1
        have iv := iv'
        refine v_goto (tgt := 76) C dX0_hear_54 (by decide) ?_
        refine v_vret C hr (Nat.le_of_ble_eq_true rfl) (Nat.le_of_ble_eq_true rfl) dX0_hear_76 ?_
        exact ⟨rfl, iv, E0⟩
    · skip
      refine v_aload_n C dX0_hear_32 rfl ?_
      refine v_aload_n C dX0_hear_33 rfl ?_
      refine p0_9 (v := some _) C i_this dX0_hear_34 ?_
      refine V.gen (fun S6_34 e_34 => ?_)
      have iv' := inv_sO e_34 iv (Or.inr (F4 (nOK_is i_p1)))
      have x_34 := x_sO e_34
      have E0' := ext_tr E0 x_34 (xk_is E0 i_this iv (by decide) (by decide))
      have E0 := E0'
      have i_this := is_ext x_34 i_this
      have i_p0 := is_ext x_34 i_p0
      have i_p1 := is_ext x_34 i_p1
      have iv := iv'
      refine v_aload_n C dX0_hear_37 rfl ?_
      have n_o38 := T6 iv i_this List.not_mem_nil
      refine g0_18 C i_this dX0_hear_38 ?_
      refine v_ifnonnull (tgt := 57) C dX0_hear_41 (by decide) (fun b41 c_41 => ?_) (fun c_41 => ?_)
      · skip
        have o_6 := c_41
        have i_b41 := nOK_some n_o38 c_41
        refine v_aload_n C dX0_hear_57 rfl ?_
        refine r0_18 C i_this o_6 dX0_hear_58 ?_
        refine v_aload_n C dX0_hear_61 rfl ?_
        refine g0_41 C i_p1 dX0_hear_62 ?_
        refine v_topi (fun v62 e_v62 => ?_)
        refine v_callV (As := [_]) (n := 1) C (st_X3_has l _ _ _) rfl i_b41 (by decide) rfl ⟨wd558, wd559, wd560, wd45, wd561⟩ ⟨rfl, hy_X3_has⟩ rfl ⟨Nat.le_of_ble_eq_true rfl, Nat.le_of_ble_eq_true rfl⟩ (Nat.le_of_ble_eq_true rfl) ⟨Nat.le_of_ble_eq_true rfl, Nat.le_of_ble_eq_true rfl⟩ dX0_hear_65 ⟨rfl, iv, i_b41⟩ (fun r_65 S8_65 h_65 => ?_)
        obtain ⟨v65, rfl, q_v65⟩ := h_65
        obtain rfl := q_v65.symm
        refine v_if_ne (tgt := 76) C dX0_hear_68 (by decide) (fun c_68 => ?_) (fun c_68 => ?_)
        · skip
          refine v_vret C hr (Nat.le_of_ble_eq_true rfl) (Nat.le_of_ble_eq_true rfl) dX0_hear_76 ?_
          exact ⟨rfl, iv, E0⟩
        · skip
          refine v_aload_n C dX0_hear_71 rfl ?_
          refine v_iconst (v := 1) C dX0_hear_72 (by decide) ?_
          refine p0_22 C i_this (by decide) dX0_hear_73 ?_
          refine V.gen (fun S10_73 e_73 => ?_)
          have iv' := inv_sI e_73 iv (by decide) (by decide)
          have x_73 := x_sI e_73
          have E0' := ext_tr E0 x_73 (xk_is E0 i_this iv (by decide) (by decide))
          have E0 := E0'
          have o_6 := mo_sI e_73 o_6
          have i_this := is_ext x_73 i_this
          have i_p0 := is_ext x_73 i_p0
          have i_p1 := is_ext x_73 i_p1
          have i_b41 := is_ext x_73 i_b41
          have iv := iv'
          refine v_vret C hr (Nat.le_of_ble_eq_true rfl) (Nat.le_of_ble_eq_true rfl) dX0_hear_76 ?_
          exact ⟨rfl, iv, E0⟩
      · skip
        refine v_aload_n C dX0_hear_44 rfl ?_
        refine v_aload_n C dX0_hear_45 rfl ?_
        refine p0_15 (v := some _) C i_this dX0_hear_46 ?_
        refine V.gen (fun S8_46 e_46 => ?_)
        have iv' := inv_sO e_46 iv (Or.inr (F5 (nOK_is i_p1)))
        have x_46 := x_sO e_46
        have E0' := ext_tr E0 x_46 (xk_is E0 i_this iv (by decide) (by decide))
        have E0 := E0'
        have i_this := is_ext x_46 i_this
        have i_p0 := is_ext x_46 i_p0
        have i_p1 := is_ext x_46 i_p1
        have iv := iv'
        refine v_aload_n C dX0_hear_49 rfl ?_
        refine v_aload_n C dX0_hear_50 rfl ?_
        refine p0_18 (v := some _) C i_this dX0_hear_51 ?_
        refine V.gen (fun S8_51 e_51 => ?_)
        have iv' := inv_sO e_51 iv (Or.inr (F6 (nOK_is i_p0)))
        have x_51 := x_sO e_51
        have E0' := ext_tr E0 x_51 (xk_is E0 i_this iv (by decide) (by decide))
        have E0 := E0'
        have i_this := is_ext x_51 i_this
        have i_p0 := is_ext x_51 i_p0
        have i_p1 := is_ext x_51 i_p1
        have iv := iv'
        refine v_goto (tgt := 76) C dX0_hear_54 (by decide) ?_
        refine v_vret C hr (Nat.le_of_ble_eq_true rfl) (Nat.le_of_ble_eq_true rfl) dX0_hear_76 ?_
        exact ⟨rfl, iv, E0⟩
  · skip
    refine v_aload_n C dX0_hear_22 rfl ?_
    refine v_iconst (v := 1) C dX0_hear_23 (by decide) ?_
    refine p0_26 C i_this (by decide) dX0_hear_24 ?_
    refine V.gen (fun S4_24 e_24 => ?_)
    have iv' := inv_sI e_24 iv (by decide) (by decide)
    have x_24 := x_sI e_24
    have E0' := ext_tr E0 x_24 (xk_is E0 i_this iv (by decide) (by decide))
    have E0 := E0'
    have i_this := is_ext x_24 i_this
    have i_p0 := is_ext x_24 i_p0
    have i_p1 := is_ext x_24 i_p1
    have iv := iv'
    refine v_vret C hr (Nat.le_of_ble_eq_true rfl) (Nat.le_of_ble_eq_true rfl) dX0_hear_27 ?_
    exact ⟨rfl, iv, E0⟩
theorem dX0_settle_0 : decode cX0_settle 0 = .ok (.aload_n 0, 1) := by decide +kernel
theorem dX0_settle_1 : decode cX0_settle 1 = .ok (.aload_n 1, 1) := by decide +kernel
theorem dX0_settle_2 : decode cX0_settle 2 = .ok (.ifnull 7, 3) := by decide +kernel
theorem dX0_settle_5 : decode cX0_settle 5 = .ok (.aload_n 1, 1) := by decide +kernel
theorem dX0_settle_6 : decode cX0_settle 6 = .ok (.goto 21, 3) := by decide +kernel
theorem dX0_settle_9 : decode cX0_settle 9 = .ok (.aload_n 0, 1) := by decide +kernel
theorem dX0_settle_10 : decode cX0_settle 10 = .ok (.getfield 9, 3) := by decide +kernel
theorem dX0_settle_13 : decode cX0_settle 13 = .ok (.ifnull 10, 3) := by decide +kernel
theorem dX0_settle_16 : decode cX0_settle 16 = .ok (.aload_n 0, 1) := by decide +kernel
theorem dX0_settle_17 : decode cX0_settle 17 = .ok (.getfield 9, 3) := by decide +kernel
theorem dX0_settle_20 : decode cX0_settle 20 = .ok (.goto 7, 3) := by decide +kernel
theorem dX0_settle_23 : decode cX0_settle 23 = .ok (.aload_n 0, 1) := by decide +kernel
theorem dX0_settle_24 : decode cX0_settle 24 = .ok (.getfield 15, 3) := by decide +kernel
theorem dX0_settle_27 : decode cX0_settle 27 = .ok (.putfield 50, 3) := by decide +kernel
theorem dX0_settle_30 : decode cX0_settle 30 = .ok (.aload_n 0, 1) := by decide +kernel
theorem dX0_settle_31 : decode cX0_settle 31 = .ok (.getfield 50, 3) := by decide +kernel
theorem dX0_settle_34 : decode cX0_settle 34 = .ok (.ifnonnull 32, 3) := by decide +kernel
theorem dX0_settle_37 : decode cX0_settle 37 = .ok (.aload_n 0, 1) := by decide +kernel
theorem dX0_settle_38 : decode cX0_settle 38 = .ok (.aload_n 0, 1) := by decide +kernel
theorem dX0_settle_39 : decode cX0_settle 39 = .ok (.getfield 26, 3) := by decide +kernel
theorem dX0_settle_42 : decode cX0_settle 42 = .ok (.ifCond .eq 8, 3) := by decide +kernel
theorem dX0_settle_45 : decode cX0_settle 45 = .ok (.bipush (-5), 2) := by decide +kernel
theorem dX0_settle_47 : decode cX0_settle 47 = .ok (.goto 5, 3) := by decide +kernel
theorem dX0_settle_50 : decode cX0_settle 50 = .ok (.bipush (-6), 2) := by decide +kernel
theorem dX0_settle_52 : decode cX0_settle 52 = .ok (.putfield 53, 3) := by decide +kernel
theorem dX0_settle_55 : decode cX0_settle 55 = .ok (.aload_n 0, 1) := by decide +kernel
theorem dX0_settle_56 : decode cX0_settle 56 = .ok (.iconst 0, 1) := by decide +kernel
theorem dX0_settle_57 : decode cX0_settle 57 = .ok (.putfield 54, 3) := by decide +kernel
theorem dX0_settle_60 : decode cX0_settle 60 = .ok (.aload_n 0, 1) := by decide +kernel
theorem dX0_settle_61 : decode cX0_settle 61 = .ok (.iconst (-1), 1) := by decide +kernel
theorem dX0_settle_62 : decode cX0_settle 62 = .ok (.putfield 57, 3) := by decide +kernel
theorem dX0_settle_65 : decode cX0_settle 65 = .ok (.return_, 1) := by decide +kernel
theorem dX0_settle_66 : decode cX0_settle 66 = .ok (.aload_n 0, 1) := by decide +kernel
theorem dX0_settle_67 : decode cX0_settle 67 = .ok (.aload_n 1, 1) := by decide +kernel
theorem dX0_settle_68 : decode cX0_settle 68 = .ok (.ifnull 8, 3) := by decide +kernel
theorem dX0_settle_71 : decode cX0_settle 71 = .ok (.bipush 100, 2) := by decide +kernel
theorem dX0_settle_73 : decode cX0_settle 73 = .ok (.goto 10, 3) := by decide +kernel
theorem dX0_settle_76 : decode cX0_settle 76 = .ok (.aload_n 0, 1) := by decide +kernel
theorem dX0_settle_77 : decode cX0_settle 77 = .ok (.getfield 50, 3) := by decide +kernel
theorem dX0_settle_80 : decode cX0_settle 80 = .ok (.getfield 41, 3) := by decide +kernel
theorem dX0_settle_83 : decode cX0_settle 83 = .ok (.putfield 53, 3) := by decide +kernel
theorem dX0_settle_86 : decode cX0_settle 86 = .ok (.aload_n 0, 1) := by decide +kernel
theorem dX0_settle_87 : decode cX0_settle 87 = .ok (.aload_n 0, 1) := by decide +kernel
theorem dX0_settle_88 : decode cX0_settle 88 = .ok (.getfield 29, 3) := by decide +kernel
theorem dX0_settle_91 : decode cX0_settle 91 = .ok (.aload_n 0, 1) := by decide +kernel
theorem dX0_settle_92 : decode cX0_settle 92 = .ok (.getfield 50, 3) := by decide +kernel
theorem dX0_settle_95 : decode cX0_settle 95 = .ok (.getfield 33, 3) := by decide +kernel
theorem dX0_settle_98 : decode cX0_settle 98 = .ok (.ishr, 1) := by decide +kernel
theorem dX0_settle_99 : decode cX0_settle 99 = .ok (.iconst 1, 1) := by decide +kernel
theorem dX0_settle_100 : decode cX0_settle 100 = .ok (.if_icmp .le 7, 3) := by decide +kernel
theorem dX0_settle_103 : decode cX0_settle 103 = .ok (.iconst 2, 1) := by decide +kernel
theorem dX0_settle_104 : decode cX0_settle 104 = .ok (.goto 4, 3) := by decide +kernel
theorem dX0_settle_107 : decode cX0_settle 107 = .ok (.iconst 0, 1) := by decide +kernel
theorem dX0_settle_108 : decode cX0_settle 108 = .ok (.putfield 54, 3) := by decide +kernel
theorem dX0_settle_111 : decode cX0_settle 111 = .ok (.aload_n 1, 1) := by decide +kernel
theorem dX0_settle_112 : decode cX0_settle 112 = .ok (.ifnonnull 22, 3) := by decide +kernel
theorem dX0_settle_115 : decode cX0_settle 115 = .ok (.aload_n 0, 1) := by decide +kernel
theorem dX0_settle_116 : decode cX0_settle 116 = .ok (.getfield 9, 3) := by decide +kernel
theorem dX0_settle_119 : decode cX0_settle 119 = .ok (.ifnonnull 15, 3) := by decide +kernel
theorem dX0_settle_122 : decode cX0_settle 122 = .ok (.aload_n 0, 1) := by decide +kernel
theorem dX0_settle_123 : decode cX0_settle 123 = .ok (.getfield 22, 3) := by decide +kernel
theorem dX0_settle_126 : decode cX0_settle 126 = .ok (.ifCond .eq 8, 3) := by decide +kernel
theorem dX0_settle_129 : decode cX0_settle 129 = .ok (.aload_n 0, 1) := by decide +kernel
theorem dX0_settle_130 : decode cX0_settle 130 = .ok (.iconst 1, 1) := by decide +kernel
theorem dX0_settle_131 : decode cX0_settle 131 = .ok (.putfield 54, 3) := by decide +kernel
theorem dX0_settle_134 : decode cX0_settle 134 = .ok (.iconst 1, 1) := by decide +kernel
theorem dX0_settle_135 : decode cX0_settle 135 = .ok (.aload_n 0, 1) := by decide +kernel
theorem dX0_settle_136 : decode cX0_settle 136 = .ok (.getfield 50, 3) := by decide +kernel
theorem dX0_settle_139 : decode cX0_settle 139 = .ok (.getfield 33, 3) := by decide +kernel
theorem dX0_settle_142 : decode cX0_settle 142 = .ok (.ishl, 1) := by decide +kernel
theorem dX0_settle_143 : decode cX0_settle 143 = .ok (.iconst 1, 1) := by decide +kernel
theorem dX0_settle_144 : decode cX0_settle 144 = .ok (.isub, 1) := by decide +kernel
theorem dX0_settle_145 : decode cX0_settle 145 = .ok (.istore_n 2, 1) := by decide +kernel
theorem dX0_settle_146 : decode cX0_settle 146 = .ok (.aload_n 0, 1) := by decide +kernel
theorem dX0_settle_147 : decode cX0_settle 147 = .ok (.aload_n 0, 1) := by decide +kernel
theorem dX0_settle_148 : decode cX0_settle 148 = .ok (.getfield 29, 3) := by decide +kernel
theorem dX0_settle_151 : decode cX0_settle 151 = .ok (.iload_n 2, 1) := by decide +kernel
theorem dX0_settle_152 : decode cX0_settle 152 = .ok (.iand, 1) := by decide +kernel
theorem dX0_settle_153 : decode cX0_settle 153 = .ok (.invokestatic 60, 3) := by decide +kernel
theorem dX0_settle_156 : decode cX0_settle 156 = .ok (.putfield 57, 3) := by decide +kernel
theorem dX0_settle_159 : decode cX0_settle 159 = .ok (.return_, 1) := by decide +kernel
set_option maxRecDepth 100000 in
set_option maxHeartbeats 4000000 in
theorem st_X0_settle (l : Launch) (M : Nat → Prop) (h : Nat) (p0 : Option Nat) : Ct l yX0_settle cX0_settle 3 none 1 0 0 20 (fun S av => av = [.ref h, va_rf p0] ∧ INV M [] S ∧ is S h 0 ∧ nOK S 5 p0) (fun S _ r S' => r = none ∧ INV M [] S' ∧ ext S S' (fun a => ¬ M a ∧ mK S a ∈ [0])) := by
  refine ct_of (by decide) (fun S av h => by obtain ⟨rfl, iv, i_this, n_p0⟩ := h; exact by simp only [lg_sl, List.flatMap_cons, List.flatMap_nil, cat_rf]; exact Nat.le_of_ble_eq_true rfl) ?_
  intro p e s m args below meth c D G bs S av C hr hin hpre
  obtain ⟨rfl, iv, i_this, n_p0⟩ := hpre
  have E0 : ext S S (fun a => ¬ M a ∧ mK S a ∈ [0]) := ext_rfl
  refine v_aload_n C dX0_settle_0 rfl ?_
  refine v_qload_n C dX0_settle_1 rfl ?_
  refine v_ifnull (tgt := 9) C dX0_settle_2 (by decide) (fun c_2 => ?_) (fun b2 c_2 => ?_)
  · skip
    subst c_2
    refine v_aload_n C dX0_settle_9 rfl ?_
    have n_o10 := T4 iv i_this List.not_mem_nil
    refine g0_9 C i_this dX0_settle_10 ?_
    refine v_topq n_o10 (fun o10 n_o10 => ?_)
    refine v_ifnull (tgt := 23) C dX0_settle_13 (by decide) (fun c_13 => ?_) (fun b13 c_13 => ?_)
    · skip
      subst c_13
      refine v_aload_n C dX0_settle_23 rfl ?_
      have n_o24 := T5 iv i_this List.not_mem_nil
      refine g0_15 C i_this dX0_settle_24 ?_
      refine v_topq n_o24 (fun o24 n_o24 => ?_)
      refine p0_50 C i_this dX0_settle_27 ?_
      refine V.gen (fun S6_27 e_27 => ?_)
      have iv' := inv_sO e_27 iv (Or.inr (F1 n_o24))
      have x_27 := x_sO e_27
      have E0' := ext_tr E0 x_27 (xk_is E0 i_this iv (by decide) (by decide))
      have E0 := E0'
      have i_this := is_ext x_27 i_this
      have n_o24 := nOK_ext x_27 n_o24
      have iv := iv'
      refine v_aload_n C dX0_settle_30 rfl ?_
      have n_o31 := T1 iv i_this List.not_mem_nil
      refine g0_50 C i_this dX0_settle_31 ?_
      refine v_ifnonnull (tgt := 66) C dX0_settle_34 (by decide) (fun b34 c_34 => ?_) (fun c_34 => ?_)
      · skip
        have o_1 := c_34
        have i_b34 := nOK_some n_o31 c_34
        refine v_aload_n C dX0_settle_66 rfl ?_
        refine v_qload_n C dX0_settle_67 rfl ?_
        refine v_ifnull (tgt := 76) C dX0_settle_68 (by decide) (fun c_68 => ?_) (fun b68 c_68 => ?_)
        · skip
          refine v_aload_n C dX0_settle_76 rfl ?_
          refine r0_50 C i_this o_1 dX0_settle_77 ?_
          refine g0_41 C i_b34 dX0_settle_80 ?_
          refine v_topi (fun v80 e_v80 => ?_)
          refine p0_53 C i_this dX0_settle_83 ?_
          refine V.gen (fun S10_83 e_83 => ?_)
          have iv' := inv_sI e_83 iv (by decide) (by decide)
          have x_83 := x_sI e_83
          have E0' := ext_tr E0 x_83 (xk_is E0 i_this iv (by decide) (by decide))
          have E0 := E0'
          have o_1 := mo_sI e_83 o_1
          have i_this := is_ext x_83 i_this
          have n_o24 := nOK_ext x_83 n_o24
          have i_b34 := is_ext x_83 i_b34
          have iv := iv'
          refine v_aload_n C dX0_settle_86 rfl ?_
          refine v_aload_n C dX0_settle_87 rfl ?_
          refine g0_29 C i_this dX0_settle_88 ?_
          refine v_topi (fun v88 e_v88 => ?_)
          refine v_aload_n C dX0_settle_91 rfl ?_
          refine r0_50 C i_this o_1 dX0_settle_92 ?_
          refine g0_33 C i_b34 dX0_settle_95 ?_
          refine v_topi (fun v95 e_v95 => ?_)
          refine v_ishr C dX0_settle_98 ?_
          refine v_iconst (v := 1) C dX0_settle_99 (by decide) ?_
          refine v_icmp_le (tgt := 107) C dX0_settle_100 (by decide) (fun c_100 => ?_) (fun c_100 => ?_)
          · skip
            refine v_iconst (v := 0) C dX0_settle_107 (by decide) ?_
            refine p0_54 C i_this dX0_settle_108 ?_
            refine V.gen (fun S12_108 e_108 => ?_)
            have iv' := inv_sI e_108 iv (by decide) (by decide)
            have x_108 := x_sI e_108
            have E0' := ext_tr E0 x_108 (xk_is E0 i_this iv (by decide) (by decide))
            have E0 := E0'
            have o_1 := mo_sI e_108 o_1
            have i_this := is_ext x_108 i_this
            have n_o24 := nOK_ext x_108 n_o24
            have i_b34 := is_ext x_108 i_b34
            have iv := iv'
            refine v_qload_n C dX0_settle_111 rfl ?_
            refine v_ifnonnull (tgt := 134) C dX0_settle_112 (by decide) (fun b112 c_112 => ?_) (fun c_112 => ?_)
            · skip
              cases c_112
            · skip
              refine v_aload_n C dX0_settle_115 rfl ?_
              have n_o116 := T4 iv i_this List.not_mem_nil
              refine g0_9 C i_this dX0_settle_116 ?_
              refine v_topq n_o116 (fun o116 n_o116 => ?_)
              refine v_ifnonnull (tgt := 134) C dX0_settle_119 (by decide) (fun b119 c_119 => ?_) (fun c_119 => ?_)
              · skip
                subst c_119
                have i_b119 := nOK_some n_o116 rfl
                refine v_iconst (v := 1) C dX0_settle_134 (by decide) ?_
                refine v_aload_n C dX0_settle_135 rfl ?_
                refine r0_50 C i_this o_1 dX0_settle_136 ?_
                refine g0_33 C i_b34 dX0_settle_139 ?_
                refine v_topi (fun v139 e_v139 => ?_)
                refine v_ishl C dX0_settle_142 ?_
                refine v_iconst (v := 1) C dX0_settle_143 (by decide) ?_
                refine v_isub C dX0_settle_144 ?_
                refine v_istore_n C dX0_settle_145 (by decide) (by first | rfl | exact cat_ok _ | simp [okS, cat_rf]) ?_
                refine v_aload_n C dX0_settle_146 rfl ?_
                refine v_aload_n C dX0_settle_147 rfl ?_
                refine g0_29 C i_this dX0_settle_148 ?_
                refine v_topi (fun v148 e_v148 => ?_)
                refine v_iload_n C dX0_settle_151 rfl ?_
                refine v_iand C dX0_settle_152 ?_
                refine v_callS (As := [_]) (n := 1) C (st_J6_bitCount_0f7a4 l _) rfl ⟨wd574, wd575, wd576, wd577⟩ hy_J6_bitCount_0f7a4 rfl ⟨Nat.le_of_ble_eq_true rfl, Nat.le_of_ble_eq_true rfl⟩ (Nat.le_of_ble_eq_true rfl) ⟨Nat.le_of_ble_eq_true rfl, Nat.le_of_ble_eq_true rfl⟩ dX0_settle_153 rfl (fun r_153 S16_153 h_153 => ?_)
                obtain ⟨v153, rfl, q_v153⟩ := h_153
                obtain rfl := q_v153.symm
                refine p0_57 C i_this dX0_settle_156 ?_
                refine V.gen (fun S16_156 e_156 => ?_)
                have iv' := inv_sI e_156 iv (by decide) (by decide)
                have x_156 := x_sI e_156
                have E0' := ext_tr E0 x_156 (xk_is E0 i_this iv (by decide) (by decide))
                have E0 := E0'
                have o_1 := mo_sI e_156 o_1
                have i_this := is_ext x_156 i_this
                have n_o24 := nOK_ext x_156 n_o24
                have i_b34 := is_ext x_156 i_b34
                have i_b119 := is_ext x_156 i_b119
                have iv := iv'
                refine v_vret C hr (Nat.le_of_ble_eq_true rfl) (Nat.le_of_ble_eq_true rfl) dX0_settle_159 ?_
                exact ⟨rfl, iv, E0⟩
              · skip
                subst c_119
                refine v_aload_n C dX0_settle_122 rfl ?_
                refine g0_22 C i_this dX0_settle_123 ?_
                refine v_topi (fun v123 e_v123 => ?_)
                refine v_if_eq (tgt := 134) C dX0_settle_126 (by decide) (fun c_126 => ?_) (fun c_126 => ?_)
                · skip
                  refine v_iconst (v := 1) C dX0_settle_134 (by decide) ?_
                  refine v_aload_n C dX0_settle_135 rfl ?_
                  refine r0_50 C i_this o_1 dX0_settle_136 ?_
                  refine g0_33 C i_b34 dX0_settle_139 ?_
                  refine v_topi (fun v139 e_v139 => ?_)
                  refine v_ishl C dX0_settle_142 ?_
                  refine v_iconst (v := 1) C dX0_settle_143 (by decide) ?_
                  refine v_isub C dX0_settle_144 ?_
                  refine v_istore_n C dX0_settle_145 (by decide) (by first | rfl | exact cat_ok _ | simp [okS, cat_rf]) ?_
                  refine v_aload_n C dX0_settle_146 rfl ?_
                  refine v_aload_n C dX0_settle_147 rfl ?_
                  refine g0_29 C i_this dX0_settle_148 ?_
                  refine v_topi (fun v148 e_v148 => ?_)
                  refine v_iload_n C dX0_settle_151 rfl ?_
                  refine v_iand C dX0_settle_152 ?_
                  refine v_callS (As := [_]) (n := 1) C (st_J6_bitCount_0f7a4 l _) rfl ⟨wd574, wd575, wd576, wd577⟩ hy_J6_bitCount_0f7a4 rfl ⟨Nat.le_of_ble_eq_true rfl, Nat.le_of_ble_eq_true rfl⟩ (Nat.le_of_ble_eq_true rfl) ⟨Nat.le_of_ble_eq_true rfl, Nat.le_of_ble_eq_true rfl⟩ dX0_settle_153 rfl (fun r_153 S18_153 h_153 => ?_)
                  obtain ⟨v153, rfl, q_v153⟩ := h_153
                  obtain rfl := q_v153.symm
                  refine p0_57 C i_this dX0_settle_156 ?_
                  refine V.gen (fun S18_156 e_156 => ?_)
                  have iv' := inv_sI e_156 iv (by decide) (by decide)
                  have x_156 := x_sI e_156
                  have E0' := ext_tr E0 x_156 (xk_is E0 i_this iv (by decide) (by decide))
                  have E0 := E0'
                  have o_1 := mo_sI e_156 o_1
                  have i_this := is_ext x_156 i_this
                  have n_o24 := nOK_ext x_156 n_o24
                  have i_b34 := is_ext x_156 i_b34
                  have iv := iv'
                  refine v_vret C hr (Nat.le_of_ble_eq_true rfl) (Nat.le_of_ble_eq_true rfl) dX0_settle_159 ?_
                  exact ⟨rfl, iv, E0⟩
                · skip
                  refine v_aload_n C dX0_settle_129 rfl ?_
                  refine v_iconst (v := 1) C dX0_settle_130 (by decide) ?_
                  refine p0_54 C i_this dX0_settle_131 ?_
                  refine V.gen (fun S18_131 e_131 => ?_)
                  have iv' := inv_sI e_131 iv (by decide) (by decide)
                  have x_131 := x_sI e_131
                  have E0' := ext_tr E0 x_131 (xk_is E0 i_this iv (by decide) (by decide))
                  have E0 := E0'
                  have o_1 := mo_sI e_131 o_1
                  have i_this := is_ext x_131 i_this
                  have n_o24 := nOK_ext x_131 n_o24
                  have i_b34 := is_ext x_131 i_b34
                  have iv := iv'
                  refine v_iconst (v := 1) C dX0_settle_134 (by decide) ?_
                  refine v_aload_n C dX0_settle_135 rfl ?_
                  refine r0_50 C i_this o_1 dX0_settle_136 ?_
                  refine g0_33 C i_b34 dX0_settle_139 ?_
                  refine v_topi (fun v139 e_v139 => ?_)
                  refine v_ishl C dX0_settle_142 ?_
                  refine v_iconst (v := 1) C dX0_settle_143 (by decide) ?_
                  refine v_isub C dX0_settle_144 ?_
                  refine v_istore_n C dX0_settle_145 (by decide) (by first | rfl | exact cat_ok _ | simp [okS, cat_rf]) ?_
                  refine v_aload_n C dX0_settle_146 rfl ?_
                  refine v_aload_n C dX0_settle_147 rfl ?_
                  refine g0_29 C i_this dX0_settle_148 ?_
                  refine v_topi (fun v148 e_v148 => ?_)
                  refine v_iload_n C dX0_settle_151 rfl ?_
                  refine v_iand C dX0_settle_152 ?_
                  refine v_callS (As := [_]) (n := 1) C (st_J6_bitCount_0f7a4 l _) rfl ⟨wd574, wd575, wd576, wd577⟩ hy_J6_bitCount_0f7a4 rfl ⟨Nat.le_of_ble_eq_true rfl, Nat.le_of_ble_eq_true rfl⟩ (Nat.le_of_ble_eq_true rfl) ⟨Nat.le_of_ble_eq_true rfl, Nat.le_of_ble_eq_true rfl⟩ dX0_settle_153 rfl (fun r_153 S18_153 h_153 => ?_)
                  obtain ⟨v153, rfl, q_v153⟩ := h_153
                  obtain rfl := q_v153.symm
                  refine p0_57 C i_this dX0_settle_156 ?_
                  refine V.gen (fun S18_156 e_156 => ?_)
                  have iv' := inv_sI e_156 iv (by decide) (by decide)
                  have x_156 := x_sI e_156
                  have E0' := ext_tr E0 x_156 (xk_is E0 i_this iv (by decide) (by decide))
                  have E0 := E0'
                  have o_1 := mo_sI e_156 o_1
                  have i_this := is_ext x_156 i_this
                  have n_o24 := nOK_ext x_156 n_o24
                  have i_b34 := is_ext x_156 i_b34
                  have iv := iv'
                  refine v_vret C hr (Nat.le_of_ble_eq_true rfl) (Nat.le_of_ble_eq_true rfl) dX0_settle_159 ?_
                  exact ⟨rfl, iv, E0⟩
          · skip
            refine v_iconst (v := 2) C dX0_settle_103 (by decide) ?_
            refine v_goto (tgt := 108) C dX0_settle_104 (by decide) ?_
            refine p0_54 C i_this dX0_settle_108 ?_
            refine V.gen (fun S12_108 e_108 => ?_)
            have iv' := inv_sI e_108 iv (by decide) (by decide)
            have x_108 := x_sI e_108
            have E0' := ext_tr E0 x_108 (xk_is E0 i_this iv (by decide) (by decide))
            have E0 := E0'
            have o_1 := mo_sI e_108 o_1
            have i_this := is_ext x_108 i_this
            have n_o24 := nOK_ext x_108 n_o24
            have i_b34 := is_ext x_108 i_b34
            have iv := iv'
            refine v_qload_n C dX0_settle_111 rfl ?_
            refine v_ifnonnull (tgt := 134) C dX0_settle_112 (by decide) (fun b112 c_112 => ?_) (fun c_112 => ?_)
            · skip
              cases c_112
            · skip
              refine v_aload_n C dX0_settle_115 rfl ?_
              have n_o116 := T4 iv i_this List.not_mem_nil
              refine g0_9 C i_this dX0_settle_116 ?_
              refine v_topq n_o116 (fun o116 n_o116 => ?_)
              refine v_ifnonnull (tgt := 134) C dX0_settle_119 (by decide) (fun b119 c_119 => ?_) (fun c_119 => ?_)
              · skip
                subst c_119
                have i_b119 := nOK_some n_o116 rfl
                refine v_iconst (v := 1) C dX0_settle_134 (by decide) ?_
                refine v_aload_n C dX0_settle_135 rfl ?_
                refine r0_50 C i_this o_1 dX0_settle_136 ?_
                refine g0_33 C i_b34 dX0_settle_139 ?_
                refine v_topi (fun v139 e_v139 => ?_)
                refine v_ishl C dX0_settle_142 ?_
                refine v_iconst (v := 1) C dX0_settle_143 (by decide) ?_
                refine v_isub C dX0_settle_144 ?_
                refine v_istore_n C dX0_settle_145 (by decide) (by first | rfl | exact cat_ok _ | simp [okS, cat_rf]) ?_
                refine v_aload_n C dX0_settle_146 rfl ?_
                refine v_aload_n C dX0_settle_147 rfl ?_
                refine g0_29 C i_this dX0_settle_148 ?_
                refine v_topi (fun v148 e_v148 => ?_)
                refine v_iload_n C dX0_settle_151 rfl ?_
                refine v_iand C dX0_settle_152 ?_
                refine v_callS (As := [_]) (n := 1) C (st_J6_bitCount_0f7a4 l _) rfl ⟨wd574, wd575, wd576, wd577⟩ hy_J6_bitCount_0f7a4 rfl ⟨Nat.le_of_ble_eq_true rfl, Nat.le_of_ble_eq_true rfl⟩ (Nat.le_of_ble_eq_true rfl) ⟨Nat.le_of_ble_eq_true rfl, Nat.le_of_ble_eq_true rfl⟩ dX0_settle_153 rfl (fun r_153 S16_153 h_153 => ?_)
                obtain ⟨v153, rfl, q_v153⟩ := h_153
                obtain rfl := q_v153.symm
                refine p0_57 C i_this dX0_settle_156 ?_
                refine V.gen (fun S16_156 e_156 => ?_)
                have iv' := inv_sI e_156 iv (by decide) (by decide)
                have x_156 := x_sI e_156
                have E0' := ext_tr E0 x_156 (xk_is E0 i_this iv (by decide) (by decide))
                have E0 := E0'
                have o_1 := mo_sI e_156 o_1
                have i_this := is_ext x_156 i_this
                have n_o24 := nOK_ext x_156 n_o24
                have i_b34 := is_ext x_156 i_b34
                have i_b119 := is_ext x_156 i_b119
                have iv := iv'
                refine v_vret C hr (Nat.le_of_ble_eq_true rfl) (Nat.le_of_ble_eq_true rfl) dX0_settle_159 ?_
                exact ⟨rfl, iv, E0⟩
              · skip
                subst c_119
                refine v_aload_n C dX0_settle_122 rfl ?_
                refine g0_22 C i_this dX0_settle_123 ?_
                refine v_topi (fun v123 e_v123 => ?_)
                refine v_if_eq (tgt := 134) C dX0_settle_126 (by decide) (fun c_126 => ?_) (fun c_126 => ?_)
                · skip
                  refine v_iconst (v := 1) C dX0_settle_134 (by decide) ?_
                  refine v_aload_n C dX0_settle_135 rfl ?_
                  refine r0_50 C i_this o_1 dX0_settle_136 ?_
                  refine g0_33 C i_b34 dX0_settle_139 ?_
                  refine v_topi (fun v139 e_v139 => ?_)
                  refine v_ishl C dX0_settle_142 ?_
                  refine v_iconst (v := 1) C dX0_settle_143 (by decide) ?_
                  refine v_isub C dX0_settle_144 ?_
                  refine v_istore_n C dX0_settle_145 (by decide) (by first | rfl | exact cat_ok _ | simp [okS, cat_rf]) ?_
                  refine v_aload_n C dX0_settle_146 rfl ?_
                  refine v_aload_n C dX0_settle_147 rfl ?_
                  refine g0_29 C i_this dX0_settle_148 ?_
                  refine v_topi (fun v148 e_v148 => ?_)
                  refine v_iload_n C dX0_settle_151 rfl ?_
                  refine v_iand C dX0_settle_152 ?_
                  refine v_callS (As := [_]) (n := 1) C (st_J6_bitCount_0f7a4 l _) rfl ⟨wd574, wd575, wd576, wd577⟩ hy_J6_bitCount_0f7a4 rfl ⟨Nat.le_of_ble_eq_true rfl, Nat.le_of_ble_eq_true rfl⟩ (Nat.le_of_ble_eq_true rfl) ⟨Nat.le_of_ble_eq_true rfl, Nat.le_of_ble_eq_true rfl⟩ dX0_settle_153 rfl (fun r_153 S18_153 h_153 => ?_)
                  obtain ⟨v153, rfl, q_v153⟩ := h_153
                  obtain rfl := q_v153.symm
                  refine p0_57 C i_this dX0_settle_156 ?_
                  refine V.gen (fun S18_156 e_156 => ?_)
                  have iv' := inv_sI e_156 iv (by decide) (by decide)
                  have x_156 := x_sI e_156
                  have E0' := ext_tr E0 x_156 (xk_is E0 i_this iv (by decide) (by decide))
                  have E0 := E0'
                  have o_1 := mo_sI e_156 o_1
                  have i_this := is_ext x_156 i_this
                  have n_o24 := nOK_ext x_156 n_o24
                  have i_b34 := is_ext x_156 i_b34
                  have iv := iv'
                  refine v_vret C hr (Nat.le_of_ble_eq_true rfl) (Nat.le_of_ble_eq_true rfl) dX0_settle_159 ?_
                  exact ⟨rfl, iv, E0⟩
                · skip
                  refine v_aload_n C dX0_settle_129 rfl ?_
                  refine v_iconst (v := 1) C dX0_settle_130 (by decide) ?_
                  refine p0_54 C i_this dX0_settle_131 ?_
                  refine V.gen (fun S18_131 e_131 => ?_)
                  have iv' := inv_sI e_131 iv (by decide) (by decide)
                  have x_131 := x_sI e_131
                  have E0' := ext_tr E0 x_131 (xk_is E0 i_this iv (by decide) (by decide))
                  have E0 := E0'
                  have o_1 := mo_sI e_131 o_1
                  have i_this := is_ext x_131 i_this
                  have n_o24 := nOK_ext x_131 n_o24
                  have i_b34 := is_ext x_131 i_b34
                  have iv := iv'
                  refine v_iconst (v := 1) C dX0_settle_134 (by decide) ?_
                  refine v_aload_n C dX0_settle_135 rfl ?_
                  refine r0_50 C i_this o_1 dX0_settle_136 ?_
                  refine g0_33 C i_b34 dX0_settle_139 ?_
                  refine v_topi (fun v139 e_v139 => ?_)
                  refine v_ishl C dX0_settle_142 ?_
                  refine v_iconst (v := 1) C dX0_settle_143 (by decide) ?_
                  refine v_isub C dX0_settle_144 ?_
                  refine v_istore_n C dX0_settle_145 (by decide) (by first | rfl | exact cat_ok _ | simp [okS, cat_rf]) ?_
                  refine v_aload_n C dX0_settle_146 rfl ?_
                  refine v_aload_n C dX0_settle_147 rfl ?_
                  refine g0_29 C i_this dX0_settle_148 ?_
                  refine v_topi (fun v148 e_v148 => ?_)
                  refine v_iload_n C dX0_settle_151 rfl ?_
                  refine v_iand C dX0_settle_152 ?_
                  refine v_callS (As := [_]) (n := 1) C (st_J6_bitCount_0f7a4 l _) rfl ⟨wd574, wd575, wd576, wd577⟩ hy_J6_bitCount_0f7a4 rfl ⟨Nat.le_of_ble_eq_true rfl, Nat.le_of_ble_eq_true rfl⟩ (Nat.le_of_ble_eq_true rfl) ⟨Nat.le_of_ble_eq_true rfl, Nat.le_of_ble_eq_true rfl⟩ dX0_settle_153 rfl (fun r_153 S18_153 h_153 => ?_)
                  obtain ⟨v153, rfl, q_v153⟩ := h_153
                  obtain rfl := q_v153.symm
                  refine p0_57 C i_this dX0_settle_156 ?_
                  refine V.gen (fun S18_156 e_156 => ?_)
                  have iv' := inv_sI e_156 iv (by decide) (by decide)
                  have x_156 := x_sI e_156
                  have E0' := ext_tr E0 x_156 (xk_is E0 i_this iv (by decide) (by decide))
                  have E0 := E0'
                  have o_1 := mo_sI e_156 o_1
                  have i_this := is_ext x_156 i_this
                  have n_o24 := nOK_ext x_156 n_o24
                  have i_b34 := is_ext x_156 i_b34
                  have iv := iv'
                  refine v_vret C hr (Nat.le_of_ble_eq_true rfl) (Nat.le_of_ble_eq_true rfl) dX0_settle_159 ?_
                  exact ⟨rfl, iv, E0⟩
        · skip
          cases c_68
      · skip
        refine v_aload_n C dX0_settle_37 rfl ?_
        refine v_aload_n C dX0_settle_38 rfl ?_
        refine g0_26 C i_this dX0_settle_39 ?_
        refine v_topi (fun v39 e_v39 => ?_)
        refine v_if_eq (tgt := 50) C dX0_settle_42 (by decide) (fun c_42 => ?_) (fun c_42 => ?_)
        · skip
          refine v_bipush (v := -6) C dX0_settle_50 (by decide) ?_
          refine p0_53 C i_this dX0_settle_52 ?_
          refine V.gen (fun S10_52 e_52 => ?_)
          have iv' := inv_sI e_52 iv (by decide) (by decide)
          have x_52 := x_sI e_52
          have E0' := ext_tr E0 x_52 (xk_is E0 i_this iv (by decide) (by decide))
          have E0 := E0'
          have i_this := is_ext x_52 i_this
          have n_o24 := nOK_ext x_52 n_o24
          have iv := iv'
          refine v_aload_n C dX0_settle_55 rfl ?_
          refine v_iconst (v := 0) C dX0_settle_56 (by decide) ?_
          refine p0_54 C i_this dX0_settle_57 ?_
          refine V.gen (fun S10_57 e_57 => ?_)
          have iv' := inv_sI e_57 iv (by decide) (by decide)
          have x_57 := x_sI e_57
          have E0' := ext_tr E0 x_57 (xk_is E0 i_this iv (by decide) (by decide))
          have E0 := E0'
          have i_this := is_ext x_57 i_this
          have n_o24 := nOK_ext x_57 n_o24
          have iv := iv'
          refine v_aload_n C dX0_settle_60 rfl ?_
          refine v_iconst (v := -1) C dX0_settle_61 (by decide) ?_
          refine p0_57 C i_this dX0_settle_62 ?_
          refine V.gen (fun S10_62 e_62 => ?_)
          have iv' := inv_sI e_62 iv (by decide) (by decide)
          have x_62 := x_sI e_62
          have E0' := ext_tr E0 x_62 (xk_is E0 i_this iv (by decide) (by decide))
          have E0 := E0'
          have i_this := is_ext x_62 i_this
          have n_o24 := nOK_ext x_62 n_o24
          have iv := iv'
          refine v_vret C hr (Nat.le_of_ble_eq_true rfl) (Nat.le_of_ble_eq_true rfl) dX0_settle_65 ?_
          exact ⟨rfl, iv, E0⟩
        · skip
          refine v_bipush (v := -5) C dX0_settle_45 (by decide) ?_
          refine v_goto (tgt := 52) C dX0_settle_47 (by decide) ?_
          refine p0_53 C i_this dX0_settle_52 ?_
          refine V.gen (fun S10_52 e_52 => ?_)
          have iv' := inv_sI e_52 iv (by decide) (by decide)
          have x_52 := x_sI e_52
          have E0' := ext_tr E0 x_52 (xk_is E0 i_this iv (by decide) (by decide))
          have E0 := E0'
          have i_this := is_ext x_52 i_this
          have n_o24 := nOK_ext x_52 n_o24
          have iv := iv'
          refine v_aload_n C dX0_settle_55 rfl ?_
          refine v_iconst (v := 0) C dX0_settle_56 (by decide) ?_
          refine p0_54 C i_this dX0_settle_57 ?_
          refine V.gen (fun S10_57 e_57 => ?_)
          have iv' := inv_sI e_57 iv (by decide) (by decide)
          have x_57 := x_sI e_57
          have E0' := ext_tr E0 x_57 (xk_is E0 i_this iv (by decide) (by decide))
          have E0 := E0'
          have i_this := is_ext x_57 i_this
          have n_o24 := nOK_ext x_57 n_o24
          have iv := iv'
          refine v_aload_n C dX0_settle_60 rfl ?_
          refine v_iconst (v := -1) C dX0_settle_61 (by decide) ?_
          refine p0_57 C i_this dX0_settle_62 ?_
          refine V.gen (fun S10_62 e_62 => ?_)
          have iv' := inv_sI e_62 iv (by decide) (by decide)
          have x_62 := x_sI e_62
          have E0' := ext_tr E0 x_62 (xk_is E0 i_this iv (by decide) (by decide))
          have E0 := E0'
          have i_this := is_ext x_62 i_this
          have n_o24 := nOK_ext x_62 n_o24
          have iv := iv'
          refine v_vret C hr (Nat.le_of_ble_eq_true rfl) (Nat.le_of_ble_eq_true rfl) dX0_settle_65 ?_
          exact ⟨rfl, iv, E0⟩
    · skip
      subst c_13
      have i_b13 := nOK_some n_o10 rfl
      refine v_aload_n C dX0_settle_16 rfl ?_
      have n_o17 := T4 iv i_this List.not_mem_nil
      refine g0_9 C i_this dX0_settle_17 ?_
      refine v_topq n_o17 (fun o17 n_o17 => ?_)
      refine v_goto (tgt := 27) C dX0_settle_20 (by decide) ?_
      refine p0_50 C i_this dX0_settle_27 ?_
      refine V.gen (fun S6_27 e_27 => ?_)
      have iv' := inv_sO e_27 iv (Or.inr (F1 n_o17))
      have x_27 := x_sO e_27
      have E0' := ext_tr E0 x_27 (xk_is E0 i_this iv (by decide) (by decide))
      have E0 := E0'
      have i_this := is_ext x_27 i_this
      have i_b13 := is_ext x_27 i_b13
      have n_o17 := nOK_ext x_27 n_o17
      have iv := iv'
      refine v_aload_n C dX0_settle_30 rfl ?_
      have n_o31 := T1 iv i_this List.not_mem_nil
      refine g0_50 C i_this dX0_settle_31 ?_
      refine v_ifnonnull (tgt := 66) C dX0_settle_34 (by decide) (fun b34 c_34 => ?_) (fun c_34 => ?_)
      · skip
        have o_1 := c_34
        have i_b34 := nOK_some n_o31 c_34
        refine v_aload_n C dX0_settle_66 rfl ?_
        refine v_qload_n C dX0_settle_67 rfl ?_
        refine v_ifnull (tgt := 76) C dX0_settle_68 (by decide) (fun c_68 => ?_) (fun b68 c_68 => ?_)
        · skip
          refine v_aload_n C dX0_settle_76 rfl ?_
          refine r0_50 C i_this o_1 dX0_settle_77 ?_
          refine g0_41 C i_b34 dX0_settle_80 ?_
          refine v_topi (fun v80 e_v80 => ?_)
          refine p0_53 C i_this dX0_settle_83 ?_
          refine V.gen (fun S10_83 e_83 => ?_)
          have iv' := inv_sI e_83 iv (by decide) (by decide)
          have x_83 := x_sI e_83
          have E0' := ext_tr E0 x_83 (xk_is E0 i_this iv (by decide) (by decide))
          have E0 := E0'
          have o_1 := mo_sI e_83 o_1
          have i_this := is_ext x_83 i_this
          have i_b13 := is_ext x_83 i_b13
          have n_o17 := nOK_ext x_83 n_o17
          have i_b34 := is_ext x_83 i_b34
          have iv := iv'
          refine v_aload_n C dX0_settle_86 rfl ?_
          refine v_aload_n C dX0_settle_87 rfl ?_
          refine g0_29 C i_this dX0_settle_88 ?_
          refine v_topi (fun v88 e_v88 => ?_)
          refine v_aload_n C dX0_settle_91 rfl ?_
          refine r0_50 C i_this o_1 dX0_settle_92 ?_
          refine g0_33 C i_b34 dX0_settle_95 ?_
          refine v_topi (fun v95 e_v95 => ?_)
          refine v_ishr C dX0_settle_98 ?_
          refine v_iconst (v := 1) C dX0_settle_99 (by decide) ?_
          refine v_icmp_le (tgt := 107) C dX0_settle_100 (by decide) (fun c_100 => ?_) (fun c_100 => ?_)
          · skip
            refine v_iconst (v := 0) C dX0_settle_107 (by decide) ?_
            refine p0_54 C i_this dX0_settle_108 ?_
            refine V.gen (fun S12_108 e_108 => ?_)
            have iv' := inv_sI e_108 iv (by decide) (by decide)
            have x_108 := x_sI e_108
            have E0' := ext_tr E0 x_108 (xk_is E0 i_this iv (by decide) (by decide))
            have E0 := E0'
            have o_1 := mo_sI e_108 o_1
            have i_this := is_ext x_108 i_this
            have i_b13 := is_ext x_108 i_b13
            have n_o17 := nOK_ext x_108 n_o17
            have i_b34 := is_ext x_108 i_b34
            have iv := iv'
            refine v_qload_n C dX0_settle_111 rfl ?_
            refine v_ifnonnull (tgt := 134) C dX0_settle_112 (by decide) (fun b112 c_112 => ?_) (fun c_112 => ?_)
            · skip
              cases c_112
            · skip
              refine v_aload_n C dX0_settle_115 rfl ?_
              have n_o116 := T4 iv i_this List.not_mem_nil
              refine g0_9 C i_this dX0_settle_116 ?_
              refine v_topq n_o116 (fun o116 n_o116 => ?_)
              refine v_ifnonnull (tgt := 134) C dX0_settle_119 (by decide) (fun b119 c_119 => ?_) (fun c_119 => ?_)
              · skip
                subst c_119
                have i_b119 := nOK_some n_o116 rfl
                refine v_iconst (v := 1) C dX0_settle_134 (by decide) ?_
                refine v_aload_n C dX0_settle_135 rfl ?_
                refine r0_50 C i_this o_1 dX0_settle_136 ?_
                refine g0_33 C i_b34 dX0_settle_139 ?_
                refine v_topi (fun v139 e_v139 => ?_)
                refine v_ishl C dX0_settle_142 ?_
                refine v_iconst (v := 1) C dX0_settle_143 (by decide) ?_
                refine v_isub C dX0_settle_144 ?_
                refine v_istore_n C dX0_settle_145 (by decide) (by first | rfl | exact cat_ok _ | simp [okS, cat_rf]) ?_
                refine v_aload_n C dX0_settle_146 rfl ?_
                refine v_aload_n C dX0_settle_147 rfl ?_
                refine g0_29 C i_this dX0_settle_148 ?_
                refine v_topi (fun v148 e_v148 => ?_)
                refine v_iload_n C dX0_settle_151 rfl ?_
                refine v_iand C dX0_settle_152 ?_
                refine v_callS (As := [_]) (n := 1) C (st_J6_bitCount_0f7a4 l _) rfl ⟨wd574, wd575, wd576, wd577⟩ hy_J6_bitCount_0f7a4 rfl ⟨Nat.le_of_ble_eq_true rfl, Nat.le_of_ble_eq_true rfl⟩ (Nat.le_of_ble_eq_true rfl) ⟨Nat.le_of_ble_eq_true rfl, Nat.le_of_ble_eq_true rfl⟩ dX0_settle_153 rfl (fun r_153 S16_153 h_153 => ?_)
                obtain ⟨v153, rfl, q_v153⟩ := h_153
                obtain rfl := q_v153.symm
                refine p0_57 C i_this dX0_settle_156 ?_
                refine V.gen (fun S16_156 e_156 => ?_)
                have iv' := inv_sI e_156 iv (by decide) (by decide)
                have x_156 := x_sI e_156
                have E0' := ext_tr E0 x_156 (xk_is E0 i_this iv (by decide) (by decide))
                have E0 := E0'
                have o_1 := mo_sI e_156 o_1
                have i_this := is_ext x_156 i_this
                have i_b13 := is_ext x_156 i_b13
                have n_o17 := nOK_ext x_156 n_o17
                have i_b34 := is_ext x_156 i_b34
                have i_b119 := is_ext x_156 i_b119
                have iv := iv'
                refine v_vret C hr (Nat.le_of_ble_eq_true rfl) (Nat.le_of_ble_eq_true rfl) dX0_settle_159 ?_
                exact ⟨rfl, iv, E0⟩
              · skip
                subst c_119
                refine v_aload_n C dX0_settle_122 rfl ?_
                refine g0_22 C i_this dX0_settle_123 ?_
                refine v_topi (fun v123 e_v123 => ?_)
                refine v_if_eq (tgt := 134) C dX0_settle_126 (by decide) (fun c_126 => ?_) (fun c_126 => ?_)
                · skip
                  refine v_iconst (v := 1) C dX0_settle_134 (by decide) ?_
                  refine v_aload_n C dX0_settle_135 rfl ?_
                  refine r0_50 C i_this o_1 dX0_settle_136 ?_
                  refine g0_33 C i_b34 dX0_settle_139 ?_
                  refine v_topi (fun v139 e_v139 => ?_)
                  refine v_ishl C dX0_settle_142 ?_
                  refine v_iconst (v := 1) C dX0_settle_143 (by decide) ?_
                  refine v_isub C dX0_settle_144 ?_
                  refine v_istore_n C dX0_settle_145 (by decide) (by first | rfl | exact cat_ok _ | simp [okS, cat_rf]) ?_
                  refine v_aload_n C dX0_settle_146 rfl ?_
                  refine v_aload_n C dX0_settle_147 rfl ?_
                  refine g0_29 C i_this dX0_settle_148 ?_
                  refine v_topi (fun v148 e_v148 => ?_)
                  refine v_iload_n C dX0_settle_151 rfl ?_
                  refine v_iand C dX0_settle_152 ?_
                  refine v_callS (As := [_]) (n := 1) C (st_J6_bitCount_0f7a4 l _) rfl ⟨wd574, wd575, wd576, wd577⟩ hy_J6_bitCount_0f7a4 rfl ⟨Nat.le_of_ble_eq_true rfl, Nat.le_of_ble_eq_true rfl⟩ (Nat.le_of_ble_eq_true rfl) ⟨Nat.le_of_ble_eq_true rfl, Nat.le_of_ble_eq_true rfl⟩ dX0_settle_153 rfl (fun r_153 S18_153 h_153 => ?_)
                  obtain ⟨v153, rfl, q_v153⟩ := h_153
                  obtain rfl := q_v153.symm
                  refine p0_57 C i_this dX0_settle_156 ?_
                  refine V.gen (fun S18_156 e_156 => ?_)
                  have iv' := inv_sI e_156 iv (by decide) (by decide)
                  have x_156 := x_sI e_156
                  have E0' := ext_tr E0 x_156 (xk_is E0 i_this iv (by decide) (by decide))
                  have E0 := E0'
                  have o_1 := mo_sI e_156 o_1
                  have i_this := is_ext x_156 i_this
                  have i_b13 := is_ext x_156 i_b13
                  have n_o17 := nOK_ext x_156 n_o17
                  have i_b34 := is_ext x_156 i_b34
                  have iv := iv'
                  refine v_vret C hr (Nat.le_of_ble_eq_true rfl) (Nat.le_of_ble_eq_true rfl) dX0_settle_159 ?_
                  exact ⟨rfl, iv, E0⟩
                · skip
                  refine v_aload_n C dX0_settle_129 rfl ?_
                  refine v_iconst (v := 1) C dX0_settle_130 (by decide) ?_
                  refine p0_54 C i_this dX0_settle_131 ?_
                  refine V.gen (fun S18_131 e_131 => ?_)
                  have iv' := inv_sI e_131 iv (by decide) (by decide)
                  have x_131 := x_sI e_131
                  have E0' := ext_tr E0 x_131 (xk_is E0 i_this iv (by decide) (by decide))
                  have E0 := E0'
                  have o_1 := mo_sI e_131 o_1
                  have i_this := is_ext x_131 i_this
                  have i_b13 := is_ext x_131 i_b13
                  have n_o17 := nOK_ext x_131 n_o17
                  have i_b34 := is_ext x_131 i_b34
                  have iv := iv'
                  refine v_iconst (v := 1) C dX0_settle_134 (by decide) ?_
                  refine v_aload_n C dX0_settle_135 rfl ?_
                  refine r0_50 C i_this o_1 dX0_settle_136 ?_
                  refine g0_33 C i_b34 dX0_settle_139 ?_
                  refine v_topi (fun v139 e_v139 => ?_)
                  refine v_ishl C dX0_settle_142 ?_
                  refine v_iconst (v := 1) C dX0_settle_143 (by decide) ?_
                  refine v_isub C dX0_settle_144 ?_
                  refine v_istore_n C dX0_settle_145 (by decide) (by first | rfl | exact cat_ok _ | simp [okS, cat_rf]) ?_
                  refine v_aload_n C dX0_settle_146 rfl ?_
                  refine v_aload_n C dX0_settle_147 rfl ?_
                  refine g0_29 C i_this dX0_settle_148 ?_
                  refine v_topi (fun v148 e_v148 => ?_)
                  refine v_iload_n C dX0_settle_151 rfl ?_
                  refine v_iand C dX0_settle_152 ?_
                  refine v_callS (As := [_]) (n := 1) C (st_J6_bitCount_0f7a4 l _) rfl ⟨wd574, wd575, wd576, wd577⟩ hy_J6_bitCount_0f7a4 rfl ⟨Nat.le_of_ble_eq_true rfl, Nat.le_of_ble_eq_true rfl⟩ (Nat.le_of_ble_eq_true rfl) ⟨Nat.le_of_ble_eq_true rfl, Nat.le_of_ble_eq_true rfl⟩ dX0_settle_153 rfl (fun r_153 S18_153 h_153 => ?_)
                  obtain ⟨v153, rfl, q_v153⟩ := h_153
                  obtain rfl := q_v153.symm
                  refine p0_57 C i_this dX0_settle_156 ?_
                  refine V.gen (fun S18_156 e_156 => ?_)
                  have iv' := inv_sI e_156 iv (by decide) (by decide)
                  have x_156 := x_sI e_156
                  have E0' := ext_tr E0 x_156 (xk_is E0 i_this iv (by decide) (by decide))
                  have E0 := E0'
                  have o_1 := mo_sI e_156 o_1
                  have i_this := is_ext x_156 i_this
                  have i_b13 := is_ext x_156 i_b13
                  have n_o17 := nOK_ext x_156 n_o17
                  have i_b34 := is_ext x_156 i_b34
                  have iv := iv'
                  refine v_vret C hr (Nat.le_of_ble_eq_true rfl) (Nat.le_of_ble_eq_true rfl) dX0_settle_159 ?_
                  exact ⟨rfl, iv, E0⟩
          · skip
            refine v_iconst (v := 2) C dX0_settle_103 (by decide) ?_
            refine v_goto (tgt := 108) C dX0_settle_104 (by decide) ?_
            refine p0_54 C i_this dX0_settle_108 ?_
            refine V.gen (fun S12_108 e_108 => ?_)
            have iv' := inv_sI e_108 iv (by decide) (by decide)
            have x_108 := x_sI e_108
            have E0' := ext_tr E0 x_108 (xk_is E0 i_this iv (by decide) (by decide))
            have E0 := E0'
            have o_1 := mo_sI e_108 o_1
            have i_this := is_ext x_108 i_this
            have i_b13 := is_ext x_108 i_b13
            have n_o17 := nOK_ext x_108 n_o17
            have i_b34 := is_ext x_108 i_b34
            have iv := iv'
            refine v_qload_n C dX0_settle_111 rfl ?_
            refine v_ifnonnull (tgt := 134) C dX0_settle_112 (by decide) (fun b112 c_112 => ?_) (fun c_112 => ?_)
            · skip
              cases c_112
            · skip
              refine v_aload_n C dX0_settle_115 rfl ?_
              have n_o116 := T4 iv i_this List.not_mem_nil
              refine g0_9 C i_this dX0_settle_116 ?_
              refine v_topq n_o116 (fun o116 n_o116 => ?_)
              refine v_ifnonnull (tgt := 134) C dX0_settle_119 (by decide) (fun b119 c_119 => ?_) (fun c_119 => ?_)
              · skip
                subst c_119
                have i_b119 := nOK_some n_o116 rfl
                refine v_iconst (v := 1) C dX0_settle_134 (by decide) ?_
                refine v_aload_n C dX0_settle_135 rfl ?_
                refine r0_50 C i_this o_1 dX0_settle_136 ?_
                refine g0_33 C i_b34 dX0_settle_139 ?_
                refine v_topi (fun v139 e_v139 => ?_)
                refine v_ishl C dX0_settle_142 ?_
                refine v_iconst (v := 1) C dX0_settle_143 (by decide) ?_
                refine v_isub C dX0_settle_144 ?_
                refine v_istore_n C dX0_settle_145 (by decide) (by first | rfl | exact cat_ok _ | simp [okS, cat_rf]) ?_
                refine v_aload_n C dX0_settle_146 rfl ?_
                refine v_aload_n C dX0_settle_147 rfl ?_
                refine g0_29 C i_this dX0_settle_148 ?_
                refine v_topi (fun v148 e_v148 => ?_)
                refine v_iload_n C dX0_settle_151 rfl ?_
                refine v_iand C dX0_settle_152 ?_
                refine v_callS (As := [_]) (n := 1) C (st_J6_bitCount_0f7a4 l _) rfl ⟨wd574, wd575, wd576, wd577⟩ hy_J6_bitCount_0f7a4 rfl ⟨Nat.le_of_ble_eq_true rfl, Nat.le_of_ble_eq_true rfl⟩ (Nat.le_of_ble_eq_true rfl) ⟨Nat.le_of_ble_eq_true rfl, Nat.le_of_ble_eq_true rfl⟩ dX0_settle_153 rfl (fun r_153 S16_153 h_153 => ?_)
                obtain ⟨v153, rfl, q_v153⟩ := h_153
                obtain rfl := q_v153.symm
                refine p0_57 C i_this dX0_settle_156 ?_
                refine V.gen (fun S16_156 e_156 => ?_)
                have iv' := inv_sI e_156 iv (by decide) (by decide)
                have x_156 := x_sI e_156
                have E0' := ext_tr E0 x_156 (xk_is E0 i_this iv (by decide) (by decide))
                have E0 := E0'
                have o_1 := mo_sI e_156 o_1
                have i_this := is_ext x_156 i_this
                have i_b13 := is_ext x_156 i_b13
                have n_o17 := nOK_ext x_156 n_o17
                have i_b34 := is_ext x_156 i_b34
                have i_b119 := is_ext x_156 i_b119
                have iv := iv'
                refine v_vret C hr (Nat.le_of_ble_eq_true rfl) (Nat.le_of_ble_eq_true rfl) dX0_settle_159 ?_
                exact ⟨rfl, iv, E0⟩
              · skip
                subst c_119
                refine v_aload_n C dX0_settle_122 rfl ?_
                refine g0_22 C i_this dX0_settle_123 ?_
                refine v_topi (fun v123 e_v123 => ?_)
                refine v_if_eq (tgt := 134) C dX0_settle_126 (by decide) (fun c_126 => ?_) (fun c_126 => ?_)
                · skip
                  refine v_iconst (v := 1) C dX0_settle_134 (by decide) ?_
                  refine v_aload_n C dX0_settle_135 rfl ?_
                  refine r0_50 C i_this o_1 dX0_settle_136 ?_
                  refine g0_33 C i_b34 dX0_settle_139 ?_
                  refine v_topi (fun v139 e_v139 => ?_)
                  refine v_ishl C dX0_settle_142 ?_
                  refine v_iconst (v := 1) C dX0_settle_143 (by decide) ?_
                  refine v_isub C dX0_settle_144 ?_
                  refine v_istore_n C dX0_settle_145 (by decide) (by first | rfl | exact cat_ok _ | simp [okS, cat_rf]) ?_
                  refine v_aload_n C dX0_settle_146 rfl ?_
                  refine v_aload_n C dX0_settle_147 rfl ?_
                  refine g0_29 C i_this dX0_settle_148 ?_
                  refine v_topi (fun v148 e_v148 => ?_)
                  refine v_iload_n C dX0_settle_151 rfl ?_
                  refine v_iand C dX0_settle_152 ?_
                  refine v_callS (As := [_]) (n := 1) C (st_J6_bitCount_0f7a4 l _) rfl ⟨wd574, wd575, wd576, wd577⟩ hy_J6_bitCount_0f7a4 rfl ⟨Nat.le_of_ble_eq_true rfl, Nat.le_of_ble_eq_true rfl⟩ (Nat.le_of_ble_eq_true rfl) ⟨Nat.le_of_ble_eq_true rfl, Nat.le_of_ble_eq_true rfl⟩ dX0_settle_153 rfl (fun r_153 S18_153 h_153 => ?_)
                  obtain ⟨v153, rfl, q_v153⟩ := h_153
                  obtain rfl := q_v153.symm
                  refine p0_57 C i_this dX0_settle_156 ?_
                  refine V.gen (fun S18_156 e_156 => ?_)
                  have iv' := inv_sI e_156 iv (by decide) (by decide)
                  have x_156 := x_sI e_156
                  have E0' := ext_tr E0 x_156 (xk_is E0 i_this iv (by decide) (by decide))
                  have E0 := E0'
                  have o_1 := mo_sI e_156 o_1
                  have i_this := is_ext x_156 i_this
                  have i_b13 := is_ext x_156 i_b13
                  have n_o17 := nOK_ext x_156 n_o17
                  have i_b34 := is_ext x_156 i_b34
                  have iv := iv'
                  refine v_vret C hr (Nat.le_of_ble_eq_true rfl) (Nat.le_of_ble_eq_true rfl) dX0_settle_159 ?_
                  exact ⟨rfl, iv, E0⟩
                · skip
                  refine v_aload_n C dX0_settle_129 rfl ?_
                  refine v_iconst (v := 1) C dX0_settle_130 (by decide) ?_
                  refine p0_54 C i_this dX0_settle_131 ?_
                  refine V.gen (fun S18_131 e_131 => ?_)
                  have iv' := inv_sI e_131 iv (by decide) (by decide)
                  have x_131 := x_sI e_131
                  have E0' := ext_tr E0 x_131 (xk_is E0 i_this iv (by decide) (by decide))
                  have E0 := E0'
                  have o_1 := mo_sI e_131 o_1
                  have i_this := is_ext x_131 i_this
                  have i_b13 := is_ext x_131 i_b13
                  have n_o17 := nOK_ext x_131 n_o17
                  have i_b34 := is_ext x_131 i_b34
                  have iv := iv'
                  refine v_iconst (v := 1) C dX0_settle_134 (by decide) ?_
                  refine v_aload_n C dX0_settle_135 rfl ?_
                  refine r0_50 C i_this o_1 dX0_settle_136 ?_
                  refine g0_33 C i_b34 dX0_settle_139 ?_
                  refine v_topi (fun v139 e_v139 => ?_)
                  refine v_ishl C dX0_settle_142 ?_
                  refine v_iconst (v := 1) C dX0_settle_143 (by decide) ?_
                  refine v_isub C dX0_settle_144 ?_
                  refine v_istore_n C dX0_settle_145 (by decide) (by first | rfl | exact cat_ok _ | simp [okS, cat_rf]) ?_
                  refine v_aload_n C dX0_settle_146 rfl ?_
                  refine v_aload_n C dX0_settle_147 rfl ?_
                  refine g0_29 C i_this dX0_settle_148 ?_
                  refine v_topi (fun v148 e_v148 => ?_)
                  refine v_iload_n C dX0_settle_151 rfl ?_
                  refine v_iand C dX0_settle_152 ?_
                  refine v_callS (As := [_]) (n := 1) C (st_J6_bitCount_0f7a4 l _) rfl ⟨wd574, wd575, wd576, wd577⟩ hy_J6_bitCount_0f7a4 rfl ⟨Nat.le_of_ble_eq_true rfl, Nat.le_of_ble_eq_true rfl⟩ (Nat.le_of_ble_eq_true rfl) ⟨Nat.le_of_ble_eq_true rfl, Nat.le_of_ble_eq_true rfl⟩ dX0_settle_153 rfl (fun r_153 S18_153 h_153 => ?_)
                  obtain ⟨v153, rfl, q_v153⟩ := h_153
                  obtain rfl := q_v153.symm
                  refine p0_57 C i_this dX0_settle_156 ?_
                  refine V.gen (fun S18_156 e_156 => ?_)
                  have iv' := inv_sI e_156 iv (by decide) (by decide)
                  have x_156 := x_sI e_156
                  have E0' := ext_tr E0 x_156 (xk_is E0 i_this iv (by decide) (by decide))
                  have E0 := E0'
                  have o_1 := mo_sI e_156 o_1
                  have i_this := is_ext x_156 i_this
                  have i_b13 := is_ext x_156 i_b13
                  have n_o17 := nOK_ext x_156 n_o17
                  have i_b34 := is_ext x_156 i_b34
                  have iv := iv'
                  refine v_vret C hr (Nat.le_of_ble_eq_true rfl) (Nat.le_of_ble_eq_true rfl) dX0_settle_159 ?_
                  exact ⟨rfl, iv, E0⟩
        · skip
          cases c_68
      · skip
        refine v_aload_n C dX0_settle_37 rfl ?_
        refine v_aload_n C dX0_settle_38 rfl ?_
        refine g0_26 C i_this dX0_settle_39 ?_
        refine v_topi (fun v39 e_v39 => ?_)
        refine v_if_eq (tgt := 50) C dX0_settle_42 (by decide) (fun c_42 => ?_) (fun c_42 => ?_)
        · skip
          refine v_bipush (v := -6) C dX0_settle_50 (by decide) ?_
          refine p0_53 C i_this dX0_settle_52 ?_
          refine V.gen (fun S10_52 e_52 => ?_)
          have iv' := inv_sI e_52 iv (by decide) (by decide)
          have x_52 := x_sI e_52
          have E0' := ext_tr E0 x_52 (xk_is E0 i_this iv (by decide) (by decide))
          have E0 := E0'
          have i_this := is_ext x_52 i_this
          have i_b13 := is_ext x_52 i_b13
          have n_o17 := nOK_ext x_52 n_o17
          have iv := iv'
          refine v_aload_n C dX0_settle_55 rfl ?_
          refine v_iconst (v := 0) C dX0_settle_56 (by decide) ?_
          refine p0_54 C i_this dX0_settle_57 ?_
          refine V.gen (fun S10_57 e_57 => ?_)
          have iv' := inv_sI e_57 iv (by decide) (by decide)
          have x_57 := x_sI e_57
          have E0' := ext_tr E0 x_57 (xk_is E0 i_this iv (by decide) (by decide))
          have E0 := E0'
          have i_this := is_ext x_57 i_this
          have i_b13 := is_ext x_57 i_b13
          have n_o17 := nOK_ext x_57 n_o17
          have iv := iv'
          refine v_aload_n C dX0_settle_60 rfl ?_
          refine v_iconst (v := -1) C dX0_settle_61 (by decide) ?_
          refine p0_57 C i_this dX0_settle_62 ?_
          refine V.gen (fun S10_62 e_62 => ?_)
          have iv' := inv_sI e_62 iv (by decide) (by decide)
          have x_62 := x_sI e_62
          have E0' := ext_tr E0 x_62 (xk_is E0 i_this iv (by decide) (by decide))
          have E0 := E0'
          have i_this := is_ext x_62 i_this
          have i_b13 := is_ext x_62 i_b13
          have n_o17 := nOK_ext x_62 n_o17
          have iv := iv'
          refine v_vret C hr (Nat.le_of_ble_eq_true rfl) (Nat.le_of_ble_eq_true rfl) dX0_settle_65 ?_
          exact ⟨rfl, iv, E0⟩
        · skip
          refine v_bipush (v := -5) C dX0_settle_45 (by decide) ?_
          refine v_goto (tgt := 52) C dX0_settle_47 (by decide) ?_
          refine p0_53 C i_this dX0_settle_52 ?_
          refine V.gen (fun S10_52 e_52 => ?_)
          have iv' := inv_sI e_52 iv (by decide) (by decide)
          have x_52 := x_sI e_52
          have E0' := ext_tr E0 x_52 (xk_is E0 i_this iv (by decide) (by decide))
          have E0 := E0'
          have i_this := is_ext x_52 i_this
          have i_b13 := is_ext x_52 i_b13
          have n_o17 := nOK_ext x_52 n_o17
          have iv := iv'
          refine v_aload_n C dX0_settle_55 rfl ?_
          refine v_iconst (v := 0) C dX0_settle_56 (by decide) ?_
          refine p0_54 C i_this dX0_settle_57 ?_
          refine V.gen (fun S10_57 e_57 => ?_)
          have iv' := inv_sI e_57 iv (by decide) (by decide)
          have x_57 := x_sI e_57
          have E0' := ext_tr E0 x_57 (xk_is E0 i_this iv (by decide) (by decide))
          have E0 := E0'
          have i_this := is_ext x_57 i_this
          have i_b13 := is_ext x_57 i_b13
          have n_o17 := nOK_ext x_57 n_o17
          have iv := iv'
          refine v_aload_n C dX0_settle_60 rfl ?_
          refine v_iconst (v := -1) C dX0_settle_61 (by decide) ?_
          refine p0_57 C i_this dX0_settle_62 ?_
          refine V.gen (fun S10_62 e_62 => ?_)
          have iv' := inv_sI e_62 iv (by decide) (by decide)
          have x_62 := x_sI e_62
          have E0' := ext_tr E0 x_62 (xk_is E0 i_this iv (by decide) (by decide))
          have E0 := E0'
          have i_this := is_ext x_62 i_this
          have i_b13 := is_ext x_62 i_b13
          have n_o17 := nOK_ext x_62 n_o17
          have iv := iv'
          refine v_vret C hr (Nat.le_of_ble_eq_true rfl) (Nat.le_of_ble_eq_true rfl) dX0_settle_65 ?_
          exact ⟨rfl, iv, E0⟩
  · skip
    subst c_2
    have i_b2 := nOK_some n_p0 rfl
    refine v_aload_n C dX0_settle_5 rfl ?_
    refine v_goto (tgt := 27) C dX0_settle_6 (by decide) ?_
    refine p0_50 (v := some _) C i_this dX0_settle_27 ?_
    refine V.gen (fun S4_27 e_27 => ?_)
    have iv' := inv_sO e_27 iv (Or.inr (F1 (nOK_is i_b2)))
    have x_27 := x_sO e_27
    have E0' := ext_tr E0 x_27 (xk_is E0 i_this iv (by decide) (by decide))
    have E0 := E0'
    have i_this := is_ext x_27 i_this
    have i_b2 := is_ext x_27 i_b2
    have iv := iv'
    refine v_aload_n C dX0_settle_30 rfl ?_
    have n_o31 := T1 iv i_this List.not_mem_nil
    refine g0_50 C i_this dX0_settle_31 ?_
    refine v_ifnonnull (tgt := 66) C dX0_settle_34 (by decide) (fun b34 c_34 => ?_) (fun c_34 => ?_)
    · skip
      have o_1 := c_34
      have i_b34 := nOK_some n_o31 c_34
      refine v_aload_n C dX0_settle_66 rfl ?_
      refine v_aload_n C dX0_settle_67 rfl ?_
      refine v_ifnull (o := some _) (tgt := 76) C dX0_settle_68 (by decide) (fun c => by cases c) (fun _ _ => ?_)
      refine v_bipush (v := 100) C dX0_settle_71 (by decide) ?_
      refine v_goto (tgt := 83) C dX0_settle_73 (by decide) ?_
      refine p0_53 C i_this dX0_settle_83 ?_
      refine V.gen (fun S6_83 e_83 => ?_)
      have iv' := inv_sI e_83 iv (by decide) (by decide)
      have x_83 := x_sI e_83
      have E0' := ext_tr E0 x_83 (xk_is E0 i_this iv (by decide) (by decide))
      have E0 := E0'
      have o_1 := mo_sI e_83 o_1
      have i_this := is_ext x_83 i_this
      have i_b2 := is_ext x_83 i_b2
      have i_b34 := is_ext x_83 i_b34
      have iv := iv'
      refine v_aload_n C dX0_settle_86 rfl ?_
      refine v_aload_n C dX0_settle_87 rfl ?_
      refine g0_29 C i_this dX0_settle_88 ?_
      refine v_topi (fun v88 e_v88 => ?_)
      refine v_aload_n C dX0_settle_91 rfl ?_
      refine r0_50 C i_this o_1 dX0_settle_92 ?_
      refine g0_33 C i_b34 dX0_settle_95 ?_
      refine v_topi (fun v95 e_v95 => ?_)
      refine v_ishr C dX0_settle_98 ?_
      refine v_iconst (v := 1) C dX0_settle_99 (by decide) ?_
      refine v_icmp_le (tgt := 107) C dX0_settle_100 (by decide) (fun c_100 => ?_) (fun c_100 => ?_)
      · skip
        refine v_iconst (v := 0) C dX0_settle_107 (by decide) ?_
        refine p0_54 C i_this dX0_settle_108 ?_
        refine V.gen (fun S8_108 e_108 => ?_)
        have iv' := inv_sI e_108 iv (by decide) (by decide)
        have x_108 := x_sI e_108
        have E0' := ext_tr E0 x_108 (xk_is E0 i_this iv (by decide) (by decide))
        have E0 := E0'
        have o_1 := mo_sI e_108 o_1
        have i_this := is_ext x_108 i_this
        have i_b2 := is_ext x_108 i_b2
        have i_b34 := is_ext x_108 i_b34
        have iv := iv'
        refine v_aload_n C dX0_settle_111 rfl ?_
        refine v_ifnonnull (o := some _) (tgt := 134) C dX0_settle_112 (by decide) (fun _ _ => ?_) (fun c => by cases c)
        refine v_iconst (v := 1) C dX0_settle_134 (by decide) ?_
        refine v_aload_n C dX0_settle_135 rfl ?_
        refine r0_50 C i_this o_1 dX0_settle_136 ?_
        refine g0_33 C i_b34 dX0_settle_139 ?_
        refine v_topi (fun v139 e_v139 => ?_)
        refine v_ishl C dX0_settle_142 ?_
        refine v_iconst (v := 1) C dX0_settle_143 (by decide) ?_
        refine v_isub C dX0_settle_144 ?_
        refine v_istore_n C dX0_settle_145 (by decide) (by first | rfl | exact cat_ok _ | simp [okS, cat_rf]) ?_
        refine v_aload_n C dX0_settle_146 rfl ?_
        refine v_aload_n C dX0_settle_147 rfl ?_
        refine g0_29 C i_this dX0_settle_148 ?_
        refine v_topi (fun v148 e_v148 => ?_)
        refine v_iload_n C dX0_settle_151 rfl ?_
        refine v_iand C dX0_settle_152 ?_
        refine v_callS (As := [_]) (n := 1) C (st_J6_bitCount_0f7a4 l _) rfl ⟨wd574, wd575, wd576, wd577⟩ hy_J6_bitCount_0f7a4 rfl ⟨Nat.le_of_ble_eq_true rfl, Nat.le_of_ble_eq_true rfl⟩ (Nat.le_of_ble_eq_true rfl) ⟨Nat.le_of_ble_eq_true rfl, Nat.le_of_ble_eq_true rfl⟩ dX0_settle_153 rfl (fun r_153 S8_153 h_153 => ?_)
        obtain ⟨v153, rfl, q_v153⟩ := h_153
        obtain rfl := q_v153.symm
        refine p0_57 C i_this dX0_settle_156 ?_
        refine V.gen (fun S8_156 e_156 => ?_)
        have iv' := inv_sI e_156 iv (by decide) (by decide)
        have x_156 := x_sI e_156
        have E0' := ext_tr E0 x_156 (xk_is E0 i_this iv (by decide) (by decide))
        have E0 := E0'
        have o_1 := mo_sI e_156 o_1
        have i_this := is_ext x_156 i_this
        have i_b2 := is_ext x_156 i_b2
        have i_b34 := is_ext x_156 i_b34
        have iv := iv'
        refine v_vret C hr (Nat.le_of_ble_eq_true rfl) (Nat.le_of_ble_eq_true rfl) dX0_settle_159 ?_
        exact ⟨rfl, iv, E0⟩
      · skip
        refine v_iconst (v := 2) C dX0_settle_103 (by decide) ?_
        refine v_goto (tgt := 108) C dX0_settle_104 (by decide) ?_
        refine p0_54 C i_this dX0_settle_108 ?_
        refine V.gen (fun S8_108 e_108 => ?_)
        have iv' := inv_sI e_108 iv (by decide) (by decide)
        have x_108 := x_sI e_108
        have E0' := ext_tr E0 x_108 (xk_is E0 i_this iv (by decide) (by decide))
        have E0 := E0'
        have o_1 := mo_sI e_108 o_1
        have i_this := is_ext x_108 i_this
        have i_b2 := is_ext x_108 i_b2
        have i_b34 := is_ext x_108 i_b34
        have iv := iv'
        refine v_aload_n C dX0_settle_111 rfl ?_
        refine v_ifnonnull (o := some _) (tgt := 134) C dX0_settle_112 (by decide) (fun _ _ => ?_) (fun c => by cases c)
        refine v_iconst (v := 1) C dX0_settle_134 (by decide) ?_
        refine v_aload_n C dX0_settle_135 rfl ?_
        refine r0_50 C i_this o_1 dX0_settle_136 ?_
        refine g0_33 C i_b34 dX0_settle_139 ?_
        refine v_topi (fun v139 e_v139 => ?_)
        refine v_ishl C dX0_settle_142 ?_
        refine v_iconst (v := 1) C dX0_settle_143 (by decide) ?_
        refine v_isub C dX0_settle_144 ?_
        refine v_istore_n C dX0_settle_145 (by decide) (by first | rfl | exact cat_ok _ | simp [okS, cat_rf]) ?_
        refine v_aload_n C dX0_settle_146 rfl ?_
        refine v_aload_n C dX0_settle_147 rfl ?_
        refine g0_29 C i_this dX0_settle_148 ?_
        refine v_topi (fun v148 e_v148 => ?_)
        refine v_iload_n C dX0_settle_151 rfl ?_
        refine v_iand C dX0_settle_152 ?_
        refine v_callS (As := [_]) (n := 1) C (st_J6_bitCount_0f7a4 l _) rfl ⟨wd574, wd575, wd576, wd577⟩ hy_J6_bitCount_0f7a4 rfl ⟨Nat.le_of_ble_eq_true rfl, Nat.le_of_ble_eq_true rfl⟩ (Nat.le_of_ble_eq_true rfl) ⟨Nat.le_of_ble_eq_true rfl, Nat.le_of_ble_eq_true rfl⟩ dX0_settle_153 rfl (fun r_153 S8_153 h_153 => ?_)
        obtain ⟨v153, rfl, q_v153⟩ := h_153
        obtain rfl := q_v153.symm
        refine p0_57 C i_this dX0_settle_156 ?_
        refine V.gen (fun S8_156 e_156 => ?_)
        have iv' := inv_sI e_156 iv (by decide) (by decide)
        have x_156 := x_sI e_156
        have E0' := ext_tr E0 x_156 (xk_is E0 i_this iv (by decide) (by decide))
        have E0 := E0'
        have o_1 := mo_sI e_156 o_1
        have i_this := is_ext x_156 i_this
        have i_b2 := is_ext x_156 i_b2
        have i_b34 := is_ext x_156 i_b34
        have iv := iv'
        refine v_vret C hr (Nat.le_of_ble_eq_true rfl) (Nat.le_of_ble_eq_true rfl) dX0_settle_159 ?_
        exact ⟨rfl, iv, E0⟩
    · skip
      refine v_aload_n C dX0_settle_37 rfl ?_
      refine v_aload_n C dX0_settle_38 rfl ?_
      refine g0_26 C i_this dX0_settle_39 ?_
      refine v_topi (fun v39 e_v39 => ?_)
      refine v_if_eq (tgt := 50) C dX0_settle_42 (by decide) (fun c_42 => ?_) (fun c_42 => ?_)
      · skip
        refine v_bipush (v := -6) C dX0_settle_50 (by decide) ?_
        refine p0_53 C i_this dX0_settle_52 ?_
        refine V.gen (fun S8_52 e_52 => ?_)
        have iv' := inv_sI e_52 iv (by decide) (by decide)
        have x_52 := x_sI e_52
        have E0' := ext_tr E0 x_52 (xk_is E0 i_this iv (by decide) (by decide))
        have E0 := E0'
        have i_this := is_ext x_52 i_this
        have i_b2 := is_ext x_52 i_b2
        have iv := iv'
        refine v_aload_n C dX0_settle_55 rfl ?_
        refine v_iconst (v := 0) C dX0_settle_56 (by decide) ?_
        refine p0_54 C i_this dX0_settle_57 ?_
        refine V.gen (fun S8_57 e_57 => ?_)
        have iv' := inv_sI e_57 iv (by decide) (by decide)
        have x_57 := x_sI e_57
        have E0' := ext_tr E0 x_57 (xk_is E0 i_this iv (by decide) (by decide))
        have E0 := E0'
        have i_this := is_ext x_57 i_this
        have i_b2 := is_ext x_57 i_b2
        have iv := iv'
        refine v_aload_n C dX0_settle_60 rfl ?_
        refine v_iconst (v := -1) C dX0_settle_61 (by decide) ?_
        refine p0_57 C i_this dX0_settle_62 ?_
        refine V.gen (fun S8_62 e_62 => ?_)
        have iv' := inv_sI e_62 iv (by decide) (by decide)
        have x_62 := x_sI e_62
        have E0' := ext_tr E0 x_62 (xk_is E0 i_this iv (by decide) (by decide))
        have E0 := E0'
        have i_this := is_ext x_62 i_this
        have i_b2 := is_ext x_62 i_b2
        have iv := iv'
        refine v_vret C hr (Nat.le_of_ble_eq_true rfl) (Nat.le_of_ble_eq_true rfl) dX0_settle_65 ?_
        exact ⟨rfl, iv, E0⟩
      · skip
        refine v_bipush (v := -5) C dX0_settle_45 (by decide) ?_
        refine v_goto (tgt := 52) C dX0_settle_47 (by decide) ?_
        refine p0_53 C i_this dX0_settle_52 ?_
        refine V.gen (fun S8_52 e_52 => ?_)
        have iv' := inv_sI e_52 iv (by decide) (by decide)
        have x_52 := x_sI e_52
        have E0' := ext_tr E0 x_52 (xk_is E0 i_this iv (by decide) (by decide))
        have E0 := E0'
        have i_this := is_ext x_52 i_this
        have i_b2 := is_ext x_52 i_b2
        have iv := iv'
        refine v_aload_n C dX0_settle_55 rfl ?_
        refine v_iconst (v := 0) C dX0_settle_56 (by decide) ?_
        refine p0_54 C i_this dX0_settle_57 ?_
        refine V.gen (fun S8_57 e_57 => ?_)
        have iv' := inv_sI e_57 iv (by decide) (by decide)
        have x_57 := x_sI e_57
        have E0' := ext_tr E0 x_57 (xk_is E0 i_this iv (by decide) (by decide))
        have E0 := E0'
        have i_this := is_ext x_57 i_this
        have i_b2 := is_ext x_57 i_b2
        have iv := iv'
        refine v_aload_n C dX0_settle_60 rfl ?_
        refine v_iconst (v := -1) C dX0_settle_61 (by decide) ?_
        refine p0_57 C i_this dX0_settle_62 ?_
        refine V.gen (fun S8_62 e_62 => ?_)
        have iv' := inv_sI e_62 iv (by decide) (by decide)
        have x_62 := x_sI e_62
        have E0' := ext_tr E0 x_62 (xk_is E0 i_this iv (by decide) (by decide))
        have E0 := E0'
        have i_this := is_ext x_62 i_this
        have i_b2 := is_ext x_62 i_b2
        have iv := iv'
        refine v_vret C hr (Nat.le_of_ble_eq_true rfl) (Nat.le_of_ble_eq_true rfl) dX0_settle_65 ?_
        exact ⟨rfl, iv, E0⟩
theorem dX1_weigh_0 : decode cX1_weigh 0 = .ok (.aload_n 1, 1) := by decide +kernel
theorem dX1_weigh_1 : decode cX1_weigh 1 = .ok (.iload_n 2, 1) := by decide +kernel
theorem dX1_weigh_2 : decode cX1_weigh 2 = .ok (.invokevirtual 135, 3) := by decide +kernel
theorem dX1_weigh_5 : decode cX1_weigh 5 = .ok (.istore_n 3, 1) := by decide +kernel
theorem dX1_weigh_6 : decode cX1_weigh 6 = .ok (.aload_n 0, 1) := by decide +kernel
theorem dX1_weigh_7 : decode cX1_weigh 7 = .ok (.getfield 33, 3) := by decide +kernel
theorem dX1_weigh_10 : decode cX1_weigh 10 = .ok (.invokevirtual 138, 3) := by decide +kernel
theorem dX1_weigh_13 : decode cX1_weigh 13 = .ok (.iconst 0, 1) := by decide +kernel
theorem dX1_weigh_14 : decode cX1_weigh 14 = .ok (.istore 4, 2) := by decide +kernel
theorem dX1_weigh_16 : decode cX1_weigh 16 = .ok (.iload 4, 2) := by decide +kernel
theorem dX1_weigh_18 : decode cX1_weigh 18 = .ok (.aload_n 1, 1) := by decide +kernel
theorem dX1_weigh_19 : decode cX1_weigh 19 = .ok (.getfield 101, 3) := by decide +kernel
theorem dX1_weigh_22 : decode cX1_weigh 22 = .ok (.getfield 129, 3) := by decide +kernel
theorem dX1_weigh_25 : decode cX1_weigh 25 = .ok (.if_icmp .ge 73, 3) := by decide +kernel
theorem dX1_weigh_28 : decode cX1_weigh 28 = .ok (.aload_n 1, 1) := by decide +kernel
theorem dX1_weigh_29 : decode cX1_weigh 29 = .ok (.getfield 101, 3) := by decide +kernel
theorem dX1_weigh_32 : decode cX1_weigh 32 = .ok (.iload 4, 2) := by decide +kernel
theorem dX1_weigh_34 : decode cX1_weigh 34 = .ok (.invokevirtual 132, 3) := by decide +kernel
theorem dX1_weigh_37 : decode cX1_weigh 37 = .ok (.istore 5, 2) := by decide +kernel
theorem dX1_weigh_39 : decode cX1_weigh 39 = .ok (.aload_n 0, 1) := by decide +kernel
theorem dX1_weigh_40 : decode cX1_weigh 40 = .ok (.iload 5, 2) := by decide +kernel
theorem dX1_weigh_42 : decode cX1_weigh 42 = .ok (.invokevirtual 45, 3) := by decide +kernel
theorem dX1_weigh_45 : decode cX1_weigh 45 = .ok (.astore 6, 2) := by decide +kernel
theorem dX1_weigh_47 : decode cX1_weigh 47 = .ok (.aload_n 0, 1) := by decide +kernel
theorem dX1_weigh_48 : decode cX1_weigh 48 = .ok (.aload_n 1, 1) := by decide +kernel
theorem dX1_weigh_49 : decode cX1_weigh 49 = .ok (.iload 5, 2) := by decide +kernel
theorem dX1_weigh_51 : decode cX1_weigh 51 = .ok (.iload_n 2, 1) := by decide +kernel
theorem dX1_weigh_52 : decode cX1_weigh 52 = .ok (.invokevirtual 116, 3) := by decide +kernel
theorem dX1_weigh_55 : decode cX1_weigh 55 = .ok (.astore 7, 2) := by decide +kernel
theorem dX1_weigh_57 : decode cX1_weigh 57 = .ok (.aload 6, 2) := by decide +kernel
theorem dX1_weigh_59 : decode cX1_weigh 59 = .ok (.ifnull 33, 3) := by decide +kernel
theorem dX1_weigh_62 : decode cX1_weigh 62 = .ok (.aload 7, 2) := by decide +kernel
theorem dX1_weigh_64 : decode cX1_weigh 64 = .ok (.ifnull 28, 3) := by decide +kernel
theorem dX1_weigh_67 : decode cX1_weigh 67 = .ok (.aload_n 0, 1) := by decide +kernel
theorem dX1_weigh_68 : decode cX1_weigh 68 = .ok (.getfield 33, 3) := by decide +kernel
theorem dX1_weigh_71 : decode cX1_weigh 71 = .ok (.aload 6, 2) := by decide +kernel
theorem dX1_weigh_73 : decode cX1_weigh 73 = .ok (.getfield 68, 3) := by decide +kernel
theorem dX1_weigh_76 : decode cX1_weigh 76 = .ok (.aload 7, 2) := by decide +kernel
theorem dX1_weigh_78 : decode cX1_weigh 78 = .ok (.iload 5, 2) := by decide +kernel
theorem dX1_weigh_80 : decode cX1_weigh 80 = .ok (.iload_n 3, 1) := by decide +kernel
theorem dX1_weigh_81 : decode cX1_weigh 81 = .ok (.if_icmp .ne 7, 3) := by decide +kernel
theorem dX1_weigh_84 : decode cX1_weigh 84 = .ok (.iconst 1, 1) := by decide +kernel
theorem dX1_weigh_85 : decode cX1_weigh 85 = .ok (.goto 4, 3) := by decide +kernel
theorem dX1_weigh_88 : decode cX1_weigh 88 = .ok (.iconst 0, 1) := by decide +kernel
theorem dX1_weigh_89 : decode cX1_weigh 89 = .ok (.invokevirtual 139, 3) := by decide +kernel
theorem dX1_weigh_92 : decode cX1_weigh 92 = .ok (.iinc 4 1, 3) := by decide +kernel
theorem dX1_weigh_95 : decode cX1_weigh 95 = .ok (.goto (-79), 3) := by decide +kernel
theorem dX1_weigh_98 : decode cX1_weigh 98 = .ok (.aload_n 0, 1) := by decide +kernel
theorem dX1_weigh_99 : decode cX1_weigh 99 = .ok (.getfield 33, 3) := by decide +kernel
theorem dX1_weigh_102 : decode cX1_weigh 102 = .ok (.aload_n 1, 1) := by decide +kernel
theorem dX1_weigh_103 : decode cX1_weigh 103 = .ok (.iload_n 2, 1) := by decide +kernel
theorem dX1_weigh_104 : decode cX1_weigh 104 = .ok (.invokevirtual 143, 3) := by decide +kernel
theorem dX1_weigh_107 : decode cX1_weigh 107 = .ok (.invokevirtual 146, 3) := by decide +kernel
theorem dX1_weigh_110 : decode cX1_weigh 110 = .ok (.aload_n 0, 1) := by decide +kernel
theorem dX1_weigh_111 : decode cX1_weigh 111 = .ok (.getfield 33, 3) := by decide +kernel
theorem dX1_weigh_114 : decode cX1_weigh 114 = .ok (.areturn, 1) := by decide +kernel
set_option maxRecDepth 100000 in
set_option maxHeartbeats 4000000 in
theorem st_X1_weigh (l : Launch) (M : Nat → Prop) (h : Nat) (p0 : Nat) (p1 : Int32) : Ct l yX1_weigh cX1_weigh 8 (some (.object "PuppetCast$Choice")) 3 0 0 69 (fun S av => av = [.ref h, .ref p0, .int p1] ∧ INV M [] S ∧ is S h 1 ∧ is S p0 2) (fun S _ r S' => ∃ v, r = some (.ref v) ∧ is S' v 0 ∧ INV M [] S' ∧ ext S S' (fun a => ¬ M a ∧ mK S a ∈ [0])) := by
  refine ct_of (by decide) (fun S av h => by obtain ⟨rfl, iv, i_this, i_p0⟩ := h; exact Nat.le_of_ble_eq_true rfl) ?_
  intro p e s m args below meth c D G bs S av C hr hin hpre
  obtain ⟨rfl, iv, i_this, i_p0⟩ := hpre
  have E0 : ext S S (fun a => ¬ M a ∧ mK S a ∈ [0]) := ext_rfl
  refine v_aload_n C dX1_weigh_0 rfl ?_
  refine v_iload_n C dX1_weigh_1 rfl ?_
  refine v_callV (As := [_]) (n := 1) C (st_X2_preferredFor l _ _ _) rfl i_p0 (by decide) rfl ⟨wd527, wd491, wd492, wd271, wd493⟩ ⟨rfl, hy_X2_preferredFor⟩ rfl ⟨Nat.le_of_ble_eq_true rfl, Nat.le_of_ble_eq_true rfl⟩ (Nat.le_of_ble_eq_true rfl) ⟨Nat.le_of_ble_eq_true rfl, Nat.le_of_ble_eq_true rfl⟩ dX1_weigh_2 ⟨rfl, iv, i_p0⟩ (fun r_2 S2_2 h_2 => ?_)
  obtain ⟨v2, rfl, q_v2⟩ := h_2
  obtain rfl := q_v2.symm
  refine v_istore_n C dX1_weigh_5 (by decide) (by first | rfl | exact cat_ok _ | simp [okS, cat_rf]) ?_
  refine v_aload_n C dX1_weigh_6 rfl ?_
  obtain ⟨a7, e_a7, i_a7⟩ := T69 iv i_this List.not_mem_nil
  refine r1_33 (b := a7) C i_this e_a7 dX1_weigh_7 ?_
  refine v_callV (As := []) (n := 0) C (st_X0_empty l _ _) rfl i_a7 (by decide) rfl ⟨wd528, wd529, wd530, wd35, wd531⟩ ⟨rfl, hy_X0_empty⟩ rfl ⟨Nat.le_of_ble_eq_true rfl, Nat.le_of_ble_eq_true rfl⟩ (Nat.le_of_ble_eq_true rfl) ⟨Nat.le_of_ble_eq_true rfl, Nat.le_of_ble_eq_true rfl⟩ dX1_weigh_10 ⟨rfl, iv, i_a7⟩ (fun r_10 S2_10 h_10 => ?_)
  obtain ⟨rfl, iv2, x_10⟩ := h_10
  have i_this := is_ext x_10 i_this
  have i_p0 := is_ext x_10 i_p0
  have i_a7 := is_ext x_10 i_a7
  have E0' := ext_tr E0 x_10 (xk_call E0 (by decide))
  have E0 := E0'
  have iv := iv2
  refine v_iconst (v := 0) C dX1_weigh_13 (by decide) ?_
  refine v_istore C dX1_weigh_14 (by decide) (by first | rfl | exact cat_ok _ | simp [okS, cat_rf]) ?_
  refine V.lits (lv' := [_, _, _, _, _, _, _, _]) rfl ?_
  refine v_loop (fun (t : Int32) lv0 => (lv0.set 4 (some (.int t)))) (fun (S1 : Mem) (t : Int32) => INV M [] S1 ∧ is S1 h 1 ∧ is S1 p0 2 ∧ ext S S1 (fun a => ¬ M a ∧ mK S a ∈ [0])) (fun (S1 : Mem) (t : Int32) => upm t) (t := _) rfl ⟨iv, i_this, i_p0, E0⟩ ?_
  intro L16 t h_16 ih_16
  revert h_16 ih_16
  revert t
  intro t0_16 h_16 ih_16
  obtain ⟨iv, i_this, i_p0, E0⟩ := h_16
  try dsimp only
  refine v_iload C dX1_weigh_16 rfl ?_
  refine v_aload_n C dX1_weigh_18 rfl ?_
  obtain ⟨a19, e_a19, i_a19⟩ := T130 iv i_p0 List.not_mem_nil
  refine r1_101 (b := a19) C i_p0 e_a19 dX1_weigh_19 ?_
  refine g1_129 C i_a19 dX1_weigh_22 ?_
  refine v_topi (fun v22 e_v22 => ?_)
  refine v_icmp_ge (tgt := 98) C dX1_weigh_25 (by decide) (fun c_25 => ?_) (fun c_25 => ?_)
  · skip
    refine v_aload_n C dX1_weigh_98 rfl ?_
    obtain ⟨a99, e_a99, i_a99⟩ := T69 iv i_this List.not_mem_nil
    refine r1_33 (b := a99) C i_this e_a99 dX1_weigh_99 ?_
    refine v_aload_n C dX1_weigh_102 rfl ?_
    refine v_iload_n C dX1_weigh_103 rfl ?_
    refine v_callV (As := [_]) (n := 1) C (st_X2_ownBody l _ _ _) rfl i_p0 (by decide) rfl ⟨wd562, wd563, wd564, wd271, wd565⟩ ⟨rfl, hy_X2_ownBody⟩ rfl ⟨Nat.le_of_ble_eq_true rfl, Nat.le_of_ble_eq_true rfl⟩ (Nat.le_of_ble_eq_true rfl) ⟨Nat.le_of_ble_eq_true rfl, Nat.le_of_ble_eq_true rfl⟩ dX1_weigh_104 ⟨rfl, iv, i_p0⟩ (fun r_104 S2_104 h_104 => ?_)
    obtain ⟨v104, rfl, n_v104, q_v104⟩ := h_104
    obtain rfl := q_v104.symm
    refine v_callV (As := [_]) (n := 1) C (st_X0_settle l _ _ _) rfl i_a99 (by decide) rfl ⟨wd566, wd567, wd568, wd35, wd569⟩ ⟨rfl, hy_X0_settle⟩ rfl ⟨Nat.le_of_ble_eq_true rfl, Nat.le_of_ble_eq_true rfl⟩ (Nat.le_of_ble_eq_true rfl) ⟨Nat.le_of_ble_eq_true rfl, Nat.le_of_ble_eq_true rfl⟩ dX1_weigh_107 ⟨rfl, iv, i_a99, n_v104⟩ (fun r_107 S2_107 h_107 => ?_)
    obtain ⟨rfl, iv2, x_107⟩ := h_107
    have i_this := is_ext x_107 i_this
    have i_p0 := is_ext x_107 i_p0
    have i_a19 := is_ext x_107 i_a19
    have i_a99 := is_ext x_107 i_a99
    have n_v104 := nOK_ext x_107 n_v104
    have E0' := ext_tr E0 x_107 (xk_call E0 (by decide))
    have E0 := E0'
    have iv := iv2
    refine v_aload_n C dX1_weigh_110 rfl ?_
    obtain ⟨a111, e_a111, i_a111⟩ := T69 iv i_this List.not_mem_nil
    refine r1_33 (b := a111) C i_this e_a111 dX1_weigh_111 ?_
    refine v_aret (o := some _) C hr (Nat.le_of_ble_eq_true rfl) (Nat.le_of_ble_eq_true rfl) dX1_weigh_114 ?_
    exact ⟨_, rfl, i_a111, iv, E0⟩
  · skip
    refine v_aload_n C dX1_weigh_28 rfl ?_
    obtain ⟨a29, e_a29, i_a29⟩ := T130 iv i_p0 List.not_mem_nil
    refine r1_101 (b := a29) C i_p0 e_a29 dX1_weigh_29 ?_
    refine v_iload C dX1_weigh_32 rfl ?_
    refine v_callV (As := [_]) (n := 1) C (st_X3_at l _ _ _) rfl i_a29 (by decide) rfl ⟨wd538, wd187, wd188, wd45, wd189⟩ ⟨rfl, hy_X3_at⟩ rfl ⟨Nat.le_of_ble_eq_true rfl, Nat.le_of_ble_eq_true rfl⟩ (Nat.le_of_ble_eq_true rfl) ⟨Nat.le_of_ble_eq_true rfl, Nat.le_of_ble_eq_true rfl⟩ dX1_weigh_34 ⟨rfl, iv, i_a29⟩ (fun r_34 S2_34 h_34 => ?_)
    obtain ⟨v34, rfl, q_v34⟩ := h_34
    obtain rfl := q_v34.symm
    refine v_istore C dX1_weigh_37 (by decide) (by first | rfl | exact cat_ok _ | simp [okS, cat_rf]) ?_
    refine v_aload_n C dX1_weigh_39 rfl ?_
    refine v_iload C dX1_weigh_40 rfl ?_
    refine v_callV (As := [_]) (n := 1) C (st_X1_traitAt l _ _ _) rfl i_this (by decide) rfl ⟨wd137, wd138, wd139, wd15, wd140⟩ ⟨rfl, hy_X1_traitAt⟩ rfl ⟨Nat.le_of_ble_eq_true rfl, Nat.le_of_ble_eq_true rfl⟩ (Nat.le_of_ble_eq_true rfl) ⟨Nat.le_of_ble_eq_true rfl, Nat.le_of_ble_eq_true rfl⟩ dX1_weigh_42 ⟨rfl, iv, i_this⟩ (fun r_42 S2_42 h_42 => ?_)
    obtain ⟨v42, rfl, n_v42, q_v42⟩ := h_42
    obtain rfl := q_v42.symm
    refine v_qstore C dX1_weigh_45 (by decide) (by first | rfl | exact cat_ok _ | simp [okS, cat_rf]) ?_
    refine v_aload_n C dX1_weigh_47 rfl ?_
    refine v_aload_n C dX1_weigh_48 rfl ?_
    refine v_iload C dX1_weigh_49 rfl ?_
    refine v_iload_n C dX1_weigh_51 rfl ?_
    refine v_callV (As := [_, _, _]) (n := 3) C (st_X1_offered l _ _ _ _ _) rfl i_this (by decide) rfl ⟨wd539, wd540, wd541, wd15, wd542⟩ ⟨rfl, hy_X1_offered⟩ rfl ⟨Nat.le_of_ble_eq_true rfl, Nat.le_of_ble_eq_true rfl⟩ (Nat.le_of_ble_eq_true rfl) ⟨Nat.le_of_ble_eq_true rfl, Nat.le_of_ble_eq_true rfl⟩ dX1_weigh_52 ⟨rfl, iv, i_this, i_p0⟩ (fun r_52 S2_52 h_52 => ?_)
    obtain ⟨v52, rfl, n_v52, q_v52⟩ := h_52
    obtain rfl := q_v52.symm
    refine v_qstore C dX1_weigh_55 (by decide) (by first | rfl | exact cat_ok _ | simp [okS, cat_rf]) ?_
    refine v_qload C dX1_weigh_57 rfl ?_
    refine v_ifnull (tgt := 92) C dX1_weigh_59 (by decide) (fun c_59 => ?_) (fun b59 c_59 => ?_)
    · skip
      subst c_59
      refine v_iinc C dX1_weigh_92 rfl rfl (by decide) (by first | rfl | exact cat_ok _ | simp [okS, cat_rf]) ?_
      refine v_goto (tgt := 16) C dX1_weigh_95 (by decide) ?_
      refine V.drop 5 ?_
      refine V.drop 6 ?_
      refine V.drop 7 ?_
      refine V.lits (lv' := [_, _, _, _, _, _, _, _]) rfl ?_
      exact ih_16 _ _ (upm_lt c_25) ⟨iv, i_this, i_p0, E0⟩
    · skip
      subst c_59
      have i_b59 := nOK_some n_v42 rfl
      refine v_qload C dX1_weigh_62 rfl ?_
      refine v_ifnull (tgt := 92) C dX1_weigh_64 (by decide) (fun c_64 => ?_) (fun b64 c_64 => ?_)
      · skip
        subst c_64
        refine v_iinc C dX1_weigh_92 rfl rfl (by decide) (by first | rfl | exact cat_ok _ | simp [okS, cat_rf]) ?_
        refine v_goto (tgt := 16) C dX1_weigh_95 (by decide) ?_
        refine V.drop 5 ?_
        refine V.drop 6 ?_
        refine V.drop 7 ?_
        refine V.lits (lv' := [_, _, _, _, _, _, _, _]) rfl ?_
        exact ih_16 _ _ (upm_lt c_25) ⟨iv, i_this, i_p0, E0⟩
      · skip
        subst c_64
        have i_b64 := nOK_some n_v52 rfl
        refine v_aload_n C dX1_weigh_67 rfl ?_
        obtain ⟨a68, e_a68, i_a68⟩ := T69 iv i_this List.not_mem_nil
        refine r1_33 (b := a68) C i_this e_a68 dX1_weigh_68 ?_
        refine v_aload C dX1_weigh_71 rfl ?_
        obtain ⟨a73, e_a73, i_a73⟩ := T512 iv i_b59 List.not_mem_nil
        refine r1_68 (b := a73) C i_b59 e_a73 dX1_weigh_73 ?_
        refine v_aload C dX1_weigh_76 rfl ?_
        refine v_iload C dX1_weigh_78 rfl ?_
        refine v_iload_n C dX1_weigh_80 rfl ?_
        refine v_icmp_ne (tgt := 88) C dX1_weigh_81 (by decide) (fun c_81 => ?_) (fun c_81 => ?_)
        · skip
          refine v_iconst (v := 0) C dX1_weigh_88 (by decide) ?_
          refine v_callV (As := [_, _, _]) (n := 3) C (st_X0_hear l _ _ _ _ _) rfl i_a68 (by decide) rfl ⟨wd551, wd552, wd553, wd35, wd554⟩ ⟨rfl, hy_X0_hear⟩ rfl ⟨Nat.le_of_ble_eq_true rfl, Nat.le_of_ble_eq_true rfl⟩ (Nat.le_of_ble_eq_true rfl) ⟨Nat.le_of_ble_eq_true rfl, Nat.le_of_ble_eq_true rfl⟩ dX1_weigh_89 ⟨rfl, iv, i_a68, i_a73, i_b64⟩ (fun r_89 S8_89 h_89 => ?_)
          obtain ⟨rfl, iv2, x_89⟩ := h_89
          have i_this := is_ext x_89 i_this
          have i_p0 := is_ext x_89 i_p0
          have i_a19 := is_ext x_89 i_a19
          have i_a29 := is_ext x_89 i_a29
          have i_b59 := is_ext x_89 i_b59
          have i_b64 := is_ext x_89 i_b64
          have i_a68 := is_ext x_89 i_a68
          have i_a73 := is_ext x_89 i_a73
          have E0' := ext_tr E0 x_89 (xk_call E0 (by decide))
          have E0 := E0'
          have iv := iv2
          refine v_iinc C dX1_weigh_92 rfl rfl (by decide) (by first | rfl | exact cat_ok _ | simp [okS, cat_rf]) ?_
          refine v_goto (tgt := 16) C dX1_weigh_95 (by decide) ?_
          refine V.drop 5 ?_
          refine V.drop 6 ?_
          refine V.drop 7 ?_
          refine V.lits (lv' := [_, _, _, _, _, _, _, _]) rfl ?_
          exact ih_16 _ _ (upm_lt c_25) ⟨iv, i_this, i_p0, E0⟩
        · skip
          refine v_iconst (v := 1) C dX1_weigh_84 (by decide) ?_
          refine v_goto (tgt := 89) C dX1_weigh_85 (by decide) ?_
          refine v_callV (As := [_, _, _]) (n := 3) C (st_X0_hear l _ _ _ _ _) rfl i_a68 (by decide) rfl ⟨wd551, wd552, wd553, wd35, wd554⟩ ⟨rfl, hy_X0_hear⟩ rfl ⟨Nat.le_of_ble_eq_true rfl, Nat.le_of_ble_eq_true rfl⟩ (Nat.le_of_ble_eq_true rfl) ⟨Nat.le_of_ble_eq_true rfl, Nat.le_of_ble_eq_true rfl⟩ dX1_weigh_89 ⟨rfl, iv, i_a68, i_a73, i_b64⟩ (fun r_89 S8_89 h_89 => ?_)
          obtain ⟨rfl, iv2, x_89⟩ := h_89
          have i_this := is_ext x_89 i_this
          have i_p0 := is_ext x_89 i_p0
          have i_a19 := is_ext x_89 i_a19
          have i_a29 := is_ext x_89 i_a29
          have i_b59 := is_ext x_89 i_b59
          have i_b64 := is_ext x_89 i_b64
          have i_a68 := is_ext x_89 i_a68
          have i_a73 := is_ext x_89 i_a73
          have E0' := ext_tr E0 x_89 (xk_call E0 (by decide))
          have E0 := E0'
          have iv := iv2
          refine v_iinc C dX1_weigh_92 rfl rfl (by decide) (by first | rfl | exact cat_ok _ | simp [okS, cat_rf]) ?_
          refine v_goto (tgt := 16) C dX1_weigh_95 (by decide) ?_
          refine V.drop 5 ?_
          refine V.drop 6 ?_
          refine V.drop 7 ?_
          refine V.lits (lv' := [_, _, _, _, _, _, _, _]) rfl ?_
          exact ih_16 _ _ (upm_lt c_25) ⟨iv, i_this, i_p0, E0⟩
theorem dX1_aboutChosen_0 : decode cX1_aboutChosen 0 = .ok (.aload_n 0, 1) := by decide +kernel
theorem dX1_aboutChosen_1 : decode cX1_aboutChosen 1 = .ok (.aload_n 1, 1) := by decide +kernel
theorem dX1_aboutChosen_2 : decode cX1_aboutChosen 2 = .ok (.iload_n 2, 1) := by decide +kernel
theorem dX1_aboutChosen_3 : decode cX1_aboutChosen 3 = .ok (.invokevirtual 150, 3) := by decide +kernel
theorem dX1_aboutChosen_6 : decode cX1_aboutChosen 6 = .ok (.astore 4, 2) := by decide +kernel
theorem dX1_aboutChosen_8 : decode cX1_aboutChosen 8 = .ok (.aload 4, 2) := by decide +kernel
theorem dX1_aboutChosen_10 : decode cX1_aboutChosen 10 = .ok (.getfield 154, 3) := by decide +kernel
theorem dX1_aboutChosen_13 : decode cX1_aboutChosen 13 = .ok (.ifnonnull 5, 3) := by decide +kernel
theorem dX1_aboutChosen_16 : decode cX1_aboutChosen 16 = .ok (.iconst (-1), 1) := by decide +kernel
theorem dX1_aboutChosen_17 : decode cX1_aboutChosen 17 = .ok (.ireturn, 1) := by decide +kernel
theorem dX1_aboutChosen_18 : decode cX1_aboutChosen 18 = .ok (.iload_n 3, 1) := by decide +kernel
theorem dX1_aboutChosen_19 : decode cX1_aboutChosen 19 = .ok (.tableswitch 52 0 2 #[25, 34, 43], 25) := by decide +kernel
theorem dX1_aboutChosen_44 : decode cX1_aboutChosen 44 = .ok (.aload 4, 2) := by decide +kernel
theorem dX1_aboutChosen_46 : decode cX1_aboutChosen 46 = .ok (.getfield 154, 3) := by decide +kernel
theorem dX1_aboutChosen_49 : decode cX1_aboutChosen 49 = .ok (.getfield 158, 3) := by decide +kernel
theorem dX1_aboutChosen_52 : decode cX1_aboutChosen 52 = .ok (.ireturn, 1) := by decide +kernel
theorem dX1_aboutChosen_53 : decode cX1_aboutChosen 53 = .ok (.aload 4, 2) := by decide +kernel
theorem dX1_aboutChosen_55 : decode cX1_aboutChosen 55 = .ok (.getfield 154, 3) := by decide +kernel
theorem dX1_aboutChosen_58 : decode cX1_aboutChosen 58 = .ok (.getfield 161, 3) := by decide +kernel
theorem dX1_aboutChosen_61 : decode cX1_aboutChosen 61 = .ok (.ireturn, 1) := by decide +kernel
theorem dX1_aboutChosen_62 : decode cX1_aboutChosen 62 = .ok (.aload 4, 2) := by decide +kernel
theorem dX1_aboutChosen_64 : decode cX1_aboutChosen 64 = .ok (.getfield 154, 3) := by decide +kernel
theorem dX1_aboutChosen_67 : decode cX1_aboutChosen 67 = .ok (.getfield 164, 3) := by decide +kernel
theorem dX1_aboutChosen_70 : decode cX1_aboutChosen 70 = .ok (.ireturn, 1) := by decide +kernel
theorem dX1_aboutChosen_71 : decode cX1_aboutChosen 71 = .ok (.aload 4, 2) := by decide +kernel
theorem dX1_aboutChosen_73 : decode cX1_aboutChosen 73 = .ok (.getfield 167, 3) := by decide +kernel
theorem dX1_aboutChosen_76 : decode cX1_aboutChosen 76 = .ok (.ireturn, 1) := by decide +kernel
set_option maxRecDepth 100000 in
set_option maxHeartbeats 4000000 in
theorem st_X1_aboutChosen (l : Launch) (M : Nat → Prop) (h : Nat) (p0 : Nat) (p1 : Int32) (p2 : Int32) : Ct l yX1_aboutChosen cX1_aboutChosen 5 (some .int) 4 0 0 96 (fun S av => av = [.ref h, .ref p0, .int p1, .int p2] ∧ INV M [] S ∧ is S h 1 ∧ is S p0 2) (fun S _ r S' => ∃ v, r = some (.int v) ∧ INV M [] S' ∧ ext S S' (fun a => ¬ M a ∧ mK S a ∈ [0])) := by
  refine ct_of (by decide) (fun S av h => by obtain ⟨rfl, iv, i_this, i_p0⟩ := h; exact Nat.le_of_ble_eq_true rfl) ?_
  intro p e s m args below meth c D G bs S av C hr hin hpre
  obtain ⟨rfl, iv, i_this, i_p0⟩ := hpre
  have E0 : ext S S (fun a => ¬ M a ∧ mK S a ∈ [0]) := ext_rfl
  refine v_aload_n C dX1_aboutChosen_0 rfl ?_
  refine v_aload_n C dX1_aboutChosen_1 rfl ?_
  refine v_iload_n C dX1_aboutChosen_2 rfl ?_
  refine v_callV (As := [_, _]) (n := 2) C (st_X1_weigh l _ _ _ _) rfl i_this (by decide) rfl ⟨wd655, wd523, wd524, wd15, wd525⟩ ⟨rfl, hy_X1_weigh⟩ rfl ⟨Nat.le_of_ble_eq_true rfl, Nat.le_of_ble_eq_true rfl⟩ (Nat.le_of_ble_eq_true rfl) ⟨Nat.le_of_ble_eq_true rfl, Nat.le_of_ble_eq_true rfl⟩ dX1_aboutChosen_3 ⟨rfl, iv, i_this, i_p0⟩ (fun r_3 S2_3 h_3 => ?_)
  obtain ⟨v3, rfl, i_v3, iv2, x_3⟩ := h_3
  have i_this := is_ext x_3 i_this
  have i_p0 := is_ext x_3 i_p0
  have E0' := ext_tr E0 x_3 (xk_call E0 (by decide))
  have E0 := E0'
  have iv := iv2
  refine v_astore C dX1_aboutChosen_6 (by decide) (by first | rfl | exact cat_ok _ | simp [okS, cat_rf]) ?_
  refine v_aload C dX1_aboutChosen_8 rfl ?_
  have n_o10 := T1 iv i_v3 List.not_mem_nil
  refine g1_154 C i_v3 dX1_aboutChosen_10 ?_
  refine v_ifnonnull (tgt := 18) C dX1_aboutChosen_13 (by decide) (fun b13 c_13 => ?_) (fun c_13 => ?_)
  · skip
    have o_1 := c_13
    have i_b13 := nOK_some n_o10 c_13
    refine v_iload_n C dX1_aboutChosen_18 rfl ?_
    refine v_topi (fun k19 ek19 => ?_)
    by_cases k_0 : k19 = 0
    · skip
      refine v_tableIn (off := 25) (tgt := 44) C dX1_aboutChosen_19 (by rw [k_0]; decide) (by rw [k_0]; decide) (by rw [k_0]; rfl) (by decide) ?_
      refine v_aload C dX1_aboutChosen_44 rfl ?_
      refine r1_154 C i_v3 o_1 dX1_aboutChosen_46 ?_
      refine g1_158 C i_b13 dX1_aboutChosen_49 ?_
      refine v_topi (fun v49 e_v49 => ?_)
      refine v_iret C hr (Nat.le_of_ble_eq_true rfl) (Nat.le_of_ble_eq_true rfl) dX1_aboutChosen_52 ?_
      exact ⟨_, rfl, iv, E0⟩
    by_cases k_1 : k19 = 1
    · skip
      refine v_tableIn (off := 34) (tgt := 53) C dX1_aboutChosen_19 (by rw [k_1]; decide) (by rw [k_1]; decide) (by rw [k_1]; rfl) (by decide) ?_
      refine v_aload C dX1_aboutChosen_53 rfl ?_
      refine r1_154 C i_v3 o_1 dX1_aboutChosen_55 ?_
      refine g1_161 C i_b13 dX1_aboutChosen_58 ?_
      refine v_topi (fun v58 e_v58 => ?_)
      refine v_iret C hr (Nat.le_of_ble_eq_true rfl) (Nat.le_of_ble_eq_true rfl) dX1_aboutChosen_61 ?_
      exact ⟨_, rfl, iv, E0⟩
    by_cases k_2 : k19 = 2
    · skip
      refine v_tableIn (off := 43) (tgt := 62) C dX1_aboutChosen_19 (by rw [k_2]; decide) (by rw [k_2]; decide) (by rw [k_2]; rfl) (by decide) ?_
      refine v_aload C dX1_aboutChosen_62 rfl ?_
      refine r1_154 C i_v3 o_1 dX1_aboutChosen_64 ?_
      refine g1_164 C i_b13 dX1_aboutChosen_67 ?_
      refine v_topi (fun v67 e_v67 => ?_)
      refine v_iret C hr (Nat.le_of_ble_eq_true rfl) (Nat.le_of_ble_eq_true rfl) dX1_aboutChosen_70 ?_
      exact ⟨_, rfl, iv, E0⟩
    refine v_tableOut (tgt := 71) C dX1_aboutChosen_19 (by have q0 := lv_neT k_0 (a := 0) rfl ; have q1 := lv_neT k_1 (a := 1) rfl ; have q2 := lv_neT k_2 (a := 2) rfl ; omega) (by decide) ?_
    refine v_aload C dX1_aboutChosen_71 rfl ?_
    refine g1_167 C i_v3 dX1_aboutChosen_73 ?_
    refine v_topi (fun v73 e_v73 => ?_)
    refine v_iret C hr (Nat.le_of_ble_eq_true rfl) (Nat.le_of_ble_eq_true rfl) dX1_aboutChosen_76 ?_
    exact ⟨_, rfl, iv, E0⟩
  · skip
    refine v_iconst (v := -1) C dX1_aboutChosen_16 (by decide) ?_
    refine v_iret C hr (Nat.le_of_ble_eq_true rfl) (Nat.le_of_ble_eq_true rfl) dX1_aboutChosen_17 ?_
    exact ⟨_, rfl, iv, E0⟩
theorem dX1_climb_0 : decode cX1_climb 0 = .ok (.aload_n 0, 1) := by decide +kernel
theorem dX1_climb_1 : decode cX1_climb 1 = .ok (.aload_n 1, 1) := by decide +kernel
theorem dX1_climb_2 : decode cX1_climb 2 = .ok (.iload_n 2, 1) := by decide +kernel
theorem dX1_climb_3 : decode cX1_climb 3 = .ok (.invokevirtual 150, 3) := by decide +kernel
theorem dX1_climb_6 : decode cX1_climb 6 = .ok (.getfield 154, 3) := by decide +kernel
theorem dX1_climb_9 : decode cX1_climb 9 = .ok (.astore 4, 2) := by decide +kernel
theorem dX1_climb_11 : decode cX1_climb 11 = .ok (.iconst 0, 1) := by decide +kernel
theorem dX1_climb_12 : decode cX1_climb 12 = .ok (.istore 5, 2) := by decide +kernel
theorem dX1_climb_14 : decode cX1_climb 14 = .ok (.iload 5, 2) := by decide +kernel
theorem dX1_climb_16 : decode cX1_climb 16 = .ok (.iload_n 3, 1) := by decide +kernel
theorem dX1_climb_17 : decode cX1_climb 17 = .ok (.if_icmp .ge 27, 3) := by decide +kernel
theorem dX1_climb_20 : decode cX1_climb 20 = .ok (.aload 4, 2) := by decide +kernel
theorem dX1_climb_22 : decode cX1_climb 22 = .ok (.ifnull 22, 3) := by decide +kernel
theorem dX1_climb_25 : decode cX1_climb 25 = .ok (.aload_n 0, 1) := by decide +kernel
theorem dX1_climb_26 : decode cX1_climb 26 = .ok (.aload_n 1, 1) := by decide +kernel
theorem dX1_climb_27 : decode cX1_climb 27 = .ok (.aload 4, 2) := by decide +kernel
theorem dX1_climb_29 : decode cX1_climb 29 = .ok (.getfield 170, 3) := by decide +kernel
theorem dX1_climb_32 : decode cX1_climb 32 = .ok (.iload_n 2, 1) := by decide +kernel
theorem dX1_climb_33 : decode cX1_climb 33 = .ok (.invokevirtual 173, 3) := by decide +kernel
theorem dX1_climb_36 : decode cX1_climb 36 = .ok (.astore 4, 2) := by decide +kernel
theorem dX1_climb_38 : decode cX1_climb 38 = .ok (.iinc 5 1, 3) := by decide +kernel
theorem dX1_climb_41 : decode cX1_climb 41 = .ok (.goto (-27), 3) := by decide +kernel
theorem dX1_climb_44 : decode cX1_climb 44 = .ok (.aload 4, 2) := by decide +kernel
theorem dX1_climb_46 : decode cX1_climb 46 = .ok (.ifnonnull 5, 3) := by decide +kernel
theorem dX1_climb_49 : decode cX1_climb 49 = .ok (.iconst (-1), 1) := by decide +kernel
theorem dX1_climb_50 : decode cX1_climb 50 = .ok (.ireturn, 1) := by decide +kernel
theorem dX1_climb_51 : decode cX1_climb 51 = .ok (.aload 4, 2) := by decide +kernel
theorem dX1_climb_53 : decode cX1_climb 53 = .ok (.getfield 170, 3) := by decide +kernel
theorem dX1_climb_56 : decode cX1_climb 56 = .ok (.iconst (-1), 1) := by decide +kernel
theorem dX1_climb_57 : decode cX1_climb 57 = .ok (.if_icmp .ne 8, 3) := by decide +kernel
theorem dX1_climb_60 : decode cX1_climb 60 = .ok (.bipush 100, 2) := by decide +kernel
theorem dX1_climb_62 : decode cX1_climb 62 = .ok (.goto 8, 3) := by decide +kernel
theorem dX1_climb_65 : decode cX1_climb 65 = .ok (.aload 4, 2) := by decide +kernel
theorem dX1_climb_67 : decode cX1_climb 67 = .ok (.getfield 170, 3) := by decide +kernel
theorem dX1_climb_70 : decode cX1_climb 70 = .ok (.ireturn, 1) := by decide +kernel
set_option maxRecDepth 100000 in
set_option maxHeartbeats 4000000 in
theorem st_X1_climb (l : Launch) (M : Nat → Prop) (h : Nat) (p0 : Nat) (p1 : Int32) (p2 : Int32) : Ct l yX1_climb cX1_climb 6 (some .int) 4 0 0 96 (fun S av => av = [.ref h, .ref p0, .int p1, .int p2] ∧ INV M [] S ∧ is S h 1 ∧ is S p0 2) (fun S _ r S' => ∃ v, r = some (.int v) ∧ INV M [] S' ∧ ext S S' (fun a => ¬ M a ∧ mK S a ∈ [0])) := by
  refine ct_of (by decide) (fun S av h => by obtain ⟨rfl, iv, i_this, i_p0⟩ := h; exact Nat.le_of_ble_eq_true rfl) ?_
  intro p e s m args below meth c D G bs S av C hr hin hpre
  obtain ⟨rfl, iv, i_this, i_p0⟩ := hpre
  have E0 : ext S S (fun a => ¬ M a ∧ mK S a ∈ [0]) := ext_rfl
  refine v_aload_n C dX1_climb_0 rfl ?_
  refine v_aload_n C dX1_climb_1 rfl ?_
  refine v_iload_n C dX1_climb_2 rfl ?_
  refine v_callV (As := [_, _]) (n := 2) C (st_X1_weigh l _ _ _ _) rfl i_this (by decide) rfl ⟨wd655, wd523, wd524, wd15, wd525⟩ ⟨rfl, hy_X1_weigh⟩ rfl ⟨Nat.le_of_ble_eq_true rfl, Nat.le_of_ble_eq_true rfl⟩ (Nat.le_of_ble_eq_true rfl) ⟨Nat.le_of_ble_eq_true rfl, Nat.le_of_ble_eq_true rfl⟩ dX1_climb_3 ⟨rfl, iv, i_this, i_p0⟩ (fun r_3 S2_3 h_3 => ?_)
  obtain ⟨v3, rfl, i_v3, iv2, x_3⟩ := h_3
  have i_this := is_ext x_3 i_this
  have i_p0 := is_ext x_3 i_p0
  have E0' := ext_tr E0 x_3 (xk_call E0 (by decide))
  have E0 := E0'
  have iv := iv2
  have n_o6 := T1 iv i_v3 List.not_mem_nil
  refine g1_154 C i_v3 dX1_climb_6 ?_
  refine v_topq n_o6 (fun o6 n_o6 => ?_)
  refine v_qstore C dX1_climb_9 (by decide) (by first | rfl | exact cat_ok _ | simp [okS, cat_rf]) ?_
  refine v_iconst (v := 0) C dX1_climb_11 (by decide) ?_
  refine v_istore C dX1_climb_12 (by decide) (by first | rfl | exact cat_ok _ | simp [okS, cat_rf]) ?_
  refine V.lits (lv' := [_, _, _, _, _, _]) rfl ?_
  refine v_loop (fun (t : Option Nat × Int32) lv0 => ((lv0.set 4 (some (va_rf t.1))).set 5 (some (.int t.2)))) (fun (S1 : Mem) (t : Option Nat × Int32) => INV M [] S1 ∧ is S1 h 1 ∧ is S1 p0 2 ∧ nOK S1 5 t.1 ∧ ext S S1 (fun a => ¬ M a ∧ mK S a ∈ [0])) (fun (S1 : Mem) (t : Option Nat × Int32) => upm t.2) (t := (_, _)) rfl ⟨iv, i_this, i_p0, n_o6, E0⟩ ?_
  intro L14 t h_14 ih_14
  obtain ⟨t0_14, t1_14⟩ := t
  obtain ⟨iv, i_this, i_p0, n_t4, E0⟩ := h_14
  try dsimp only
  refine v_iload C dX1_climb_14 rfl ?_
  refine v_iload_n C dX1_climb_16 rfl ?_
  refine v_icmp_ge (tgt := 44) C dX1_climb_17 (by decide) (fun c_17 => ?_) (fun c_17 => ?_)
  · skip
    refine v_qload C dX1_climb_44 rfl ?_
    refine v_ifnonnull (tgt := 51) C dX1_climb_46 (by decide) (fun b46 c_46 => ?_) (fun c_46 => ?_)
    · skip
      subst c_46
      have i_b46 := nOK_some n_t4 rfl
      refine v_aload C dX1_climb_51 rfl ?_
      refine g1_170 C i_b46 dX1_climb_53 ?_
      refine v_topi (fun v53 e_v53 => ?_)
      refine v_iconst (v := -1) C dX1_climb_56 (by decide) ?_
      refine v_icmp_ne (tgt := 65) C dX1_climb_57 (by decide) (fun c_57 => ?_) (fun c_57 => ?_)
      · skip
        refine v_aload C dX1_climb_65 rfl ?_
        refine g1_170 C i_b46 dX1_climb_67 ?_
        refine v_topi (fun v67 e_v67 => ?_)
        refine v_iret C hr (Nat.le_of_ble_eq_true rfl) (Nat.le_of_ble_eq_true rfl) dX1_climb_70 ?_
        exact ⟨_, rfl, iv, E0⟩
      · skip
        refine v_bipush (v := 100) C dX1_climb_60 (by decide) ?_
        refine v_goto (tgt := 70) C dX1_climb_62 (by decide) ?_
        refine v_iret C hr (Nat.le_of_ble_eq_true rfl) (Nat.le_of_ble_eq_true rfl) dX1_climb_70 ?_
        exact ⟨_, rfl, iv, E0⟩
    · skip
      subst c_46
      refine v_iconst (v := -1) C dX1_climb_49 (by decide) ?_
      refine v_iret C hr (Nat.le_of_ble_eq_true rfl) (Nat.le_of_ble_eq_true rfl) dX1_climb_50 ?_
      exact ⟨_, rfl, iv, E0⟩
  · skip
    refine v_qload C dX1_climb_20 rfl ?_
    refine v_ifnull (tgt := 44) C dX1_climb_22 (by decide) (fun c_22 => ?_) (fun b22 c_22 => ?_)
    · skip
      subst c_22
      refine v_qload C dX1_climb_44 rfl ?_
      refine v_ifnonnull (tgt := 51) C dX1_climb_46 (by decide) (fun b46 c_46 => ?_) (fun c_46 => ?_)
      · skip
        cases c_46
      · skip
        refine v_iconst (v := -1) C dX1_climb_49 (by decide) ?_
        refine v_iret C hr (Nat.le_of_ble_eq_true rfl) (Nat.le_of_ble_eq_true rfl) dX1_climb_50 ?_
        exact ⟨_, rfl, iv, E0⟩
    · skip
      subst c_22
      have i_b22 := nOK_some n_t4 rfl
      refine v_aload_n C dX1_climb_25 rfl ?_
      refine v_aload_n C dX1_climb_26 rfl ?_
      refine v_aload C dX1_climb_27 rfl ?_
      refine g1_170 C i_b22 dX1_climb_29 ?_
      refine v_topi (fun v29 e_v29 => ?_)
      refine v_iload_n C dX1_climb_32 rfl ?_
      refine v_callV (As := [_, _, _]) (n := 3) C (st_X1_bodyAbove l _ _ _ _ _) rfl i_this (by decide) rfl ⟨wd681, wd682, wd683, wd15, wd684⟩ ⟨rfl, hy_X1_bodyAbove⟩ rfl ⟨Nat.le_of_ble_eq_true rfl, Nat.le_of_ble_eq_true rfl⟩ (Nat.le_of_ble_eq_true rfl) ⟨Nat.le_of_ble_eq_true rfl, Nat.le_of_ble_eq_true rfl⟩ dX1_climb_33 ⟨rfl, iv, i_this, i_p0⟩ (fun r_33 S4_33 h_33 => ?_)
      obtain ⟨v33, rfl, n_v33, q_v33⟩ := h_33
      obtain rfl := q_v33.symm
      refine v_qstore C dX1_climb_36 (by decide) (by first | rfl | exact cat_ok _ | simp [okS, cat_rf]) ?_
      refine v_iinc C dX1_climb_38 rfl rfl (by decide) (by first | rfl | exact cat_ok _ | simp [okS, cat_rf]) ?_
      refine v_goto (tgt := 14) C dX1_climb_41 (by decide) ?_
      refine V.lits (lv' := [_, _, _, _, _, _]) rfl ?_
      exact ih_14 _ (_, _) (upm_lt c_17) ⟨iv, i_this, i_p0, n_v33, E0⟩
theorem dX1_countClashes_0 : decode cX1_countClashes 0 = .ok (.iconst 0, 1) := by decide +kernel
theorem dX1_countClashes_1 : decode cX1_countClashes 1 = .ok (.istore_n 1, 1) := by decide +kernel
theorem dX1_countClashes_2 : decode cX1_countClashes 2 = .ok (.iconst 0, 1) := by decide +kernel
theorem dX1_countClashes_3 : decode cX1_countClashes 3 = .ok (.istore_n 2, 1) := by decide +kernel
theorem dX1_countClashes_4 : decode cX1_countClashes 4 = .ok (.iload_n 2, 1) := by decide +kernel
theorem dX1_countClashes_5 : decode cX1_countClashes 5 = .ok (.aload_n 0, 1) := by decide +kernel
theorem dX1_countClashes_6 : decode cX1_countClashes 6 = .ok (.getfield 92, 3) := by decide +kernel
theorem dX1_countClashes_9 : decode cX1_countClashes 9 = .ok (.bipush 12, 2) := by decide +kernel
theorem dX1_countClashes_11 : decode cX1_countClashes 11 = .ok (.imul, 1) := by decide +kernel
theorem dX1_countClashes_12 : decode cX1_countClashes 12 = .ok (.if_icmp .ge 45, 3) := by decide +kernel
theorem dX1_countClashes_15 : decode cX1_countClashes 15 = .ok (.aload_n 0, 1) := by decide +kernel
theorem dX1_countClashes_16 : decode cX1_countClashes 16 = .ok (.iload_n 2, 1) := by decide +kernel
theorem dX1_countClashes_17 : decode cX1_countClashes 17 = .ok (.bipush 12, 2) := by decide +kernel
theorem dX1_countClashes_19 : decode cX1_countClashes 19 = .ok (.idiv, 1) := by decide +kernel
theorem dX1_countClashes_20 : decode cX1_countClashes 20 = .ok (.invokevirtual 192, 3) := by decide +kernel
theorem dX1_countClashes_23 : decode cX1_countClashes 23 = .ok (.astore_n 3, 1) := by decide +kernel
theorem dX1_countClashes_24 : decode cX1_countClashes 24 = .ok (.iload_n 1, 1) := by decide +kernel
theorem dX1_countClashes_25 : decode cX1_countClashes 25 = .ok (.aload_n 3, 1) := by decide +kernel
theorem dX1_countClashes_26 : decode cX1_countClashes 26 = .ok (.ifnull 22, 3) := by decide +kernel
theorem dX1_countClashes_29 : decode cX1_countClashes 29 = .ok (.aload_n 0, 1) := by decide +kernel
theorem dX1_countClashes_30 : decode cX1_countClashes 30 = .ok (.aload_n 3, 1) := by decide +kernel
theorem dX1_countClashes_31 : decode cX1_countClashes 31 = .ok (.iload_n 2, 1) := by decide +kernel
theorem dX1_countClashes_32 : decode cX1_countClashes 32 = .ok (.bipush 12, 2) := by decide +kernel
theorem dX1_countClashes_34 : decode cX1_countClashes 34 = .ok (.irem, 1) := by decide +kernel
theorem dX1_countClashes_35 : decode cX1_countClashes 35 = .ok (.invokevirtual 150, 3) := by decide +kernel
theorem dX1_countClashes_38 : decode cX1_countClashes 38 = .ok (.getfield 196, 3) := by decide +kernel
theorem dX1_countClashes_41 : decode cX1_countClashes 41 = .ok (.ifCond .eq 7, 3) := by decide +kernel
theorem dX1_countClashes_44 : decode cX1_countClashes 44 = .ok (.iconst 1, 1) := by decide +kernel
theorem dX1_countClashes_45 : decode cX1_countClashes 45 = .ok (.goto 4, 3) := by decide +kernel
theorem dX1_countClashes_48 : decode cX1_countClashes 48 = .ok (.iconst 0, 1) := by decide +kernel
theorem dX1_countClashes_49 : decode cX1_countClashes 49 = .ok (.iadd, 1) := by decide +kernel
theorem dX1_countClashes_50 : decode cX1_countClashes 50 = .ok (.istore_n 1, 1) := by decide +kernel
theorem dX1_countClashes_51 : decode cX1_countClashes 51 = .ok (.iinc 2 1, 3) := by decide +kernel
theorem dX1_countClashes_54 : decode cX1_countClashes 54 = .ok (.goto (-50), 3) := by decide +kernel
theorem dX1_countClashes_57 : decode cX1_countClashes 57 = .ok (.iload_n 1, 1) := by decide +kernel
theorem dX1_countClashes_58 : decode cX1_countClashes 58 = .ok (.ireturn, 1) := by decide +kernel
set_option maxRecDepth 100000 in
set_option maxHeartbeats 4000000 in
theorem st_X1_countClashes (l : Launch) (M : Nat → Prop) (h : Nat) : Ct l yX1_countClashes cX1_countClashes 4 (some .int) 4 0 0 96 (fun S av => av = [.ref h] ∧ INV M [] S ∧ is S h 1) (fun S _ r S' => ∃ v, r = some (.int v) ∧ INV M [] S' ∧ ext S S' (fun a => ¬ M a ∧ mK S a ∈ [0])) := by
  refine ct_of (by decide) (fun S av h => by obtain ⟨rfl, iv, i_this⟩ := h; exact Nat.le_of_ble_eq_true rfl) ?_
  intro p e s m args below meth c D G bs S av C hr hin hpre
  obtain ⟨rfl, iv, i_this⟩ := hpre
  have E0 : ext S S (fun a => ¬ M a ∧ mK S a ∈ [0]) := ext_rfl
  refine v_iconst (v := 0) C dX1_countClashes_0 (by decide) ?_
  refine v_istore_n C dX1_countClashes_1 (by decide) (by first | rfl | exact cat_ok _ | simp [okS, cat_rf]) ?_
  refine v_iconst (v := 0) C dX1_countClashes_2 (by decide) ?_
  refine v_istore_n C dX1_countClashes_3 (by decide) (by first | rfl | exact cat_ok _ | simp [okS, cat_rf]) ?_
  refine V.lits (lv' := [_, _, _, _]) rfl ?_
  refine v_loop (fun (t : Int32 × Int32) lv0 => ((lv0.set 1 (some (.int t.1))).set 2 (some (.int t.2)))) (fun (S1 : Mem) (t : Int32 × Int32) => INV M [] S1 ∧ is S1 h 1 ∧ ext S S1 (fun a => ¬ M a ∧ mK S a ∈ [0])) (fun (S1 : Mem) (t : Int32 × Int32) => upm t.2) (t := (_, _)) rfl ⟨iv, i_this, E0⟩ ?_
  intro L4 t h_4 ih_4
  obtain ⟨t0_4, t1_4⟩ := t
  obtain ⟨iv, i_this, E0⟩ := h_4
  try dsimp only
  refine v_iload_n C dX1_countClashes_4 rfl ?_
  refine v_aload_n C dX1_countClashes_5 rfl ?_
  refine g1_92 C i_this dX1_countClashes_6 ?_
  refine v_topi (fun v6 e_v6 => ?_)
  refine v_bipush (v := 12) C dX1_countClashes_9 (by decide) ?_
  refine v_imul C dX1_countClashes_11 ?_
  refine v_icmp_ge (tgt := 57) C dX1_countClashes_12 (by decide) (fun c_12 => ?_) (fun c_12 => ?_)
  · skip
    refine v_iload_n C dX1_countClashes_57 rfl ?_
    refine v_iret C hr (Nat.le_of_ble_eq_true rfl) (Nat.le_of_ble_eq_true rfl) dX1_countClashes_58 ?_
    exact ⟨_, rfl, iv, E0⟩
  · skip
    refine v_aload_n C dX1_countClashes_15 rfl ?_
    refine v_iload_n C dX1_countClashes_16 rfl ?_
    refine v_bipush (v := 12) C dX1_countClashes_17 (by decide) ?_
    refine v_idiv C dX1_countClashes_19 (by decide) ?_
    refine v_callV (As := [_]) (n := 1) C (st_X1_figureAt l _ _ _) rfl i_this (by decide) rfl ⟨wd958, wd301, wd302, wd15, wd303⟩ ⟨rfl, hy_X1_figureAt⟩ rfl ⟨Nat.le_of_ble_eq_true rfl, Nat.le_of_ble_eq_true rfl⟩ (Nat.le_of_ble_eq_true rfl) ⟨Nat.le_of_ble_eq_true rfl, Nat.le_of_ble_eq_true rfl⟩ dX1_countClashes_20 ⟨rfl, iv, i_this⟩ (fun r_20 S2_20 h_20 => ?_)
    obtain ⟨v20, rfl, n_v20, q_v20⟩ := h_20
    obtain rfl := q_v20.symm
    refine v_qstore_n C dX1_countClashes_23 (by decide) (by first | rfl | exact cat_ok _ | simp [okS, cat_rf]) ?_
    refine v_iload_n C dX1_countClashes_24 rfl ?_
    refine v_qload_n C dX1_countClashes_25 rfl ?_
    refine v_ifnull (tgt := 48) C dX1_countClashes_26 (by decide) (fun c_26 => ?_) (fun b26 c_26 => ?_)
    · skip
      subst c_26
      refine v_iconst (v := 0) C dX1_countClashes_48 (by decide) ?_
      refine v_iadd C dX1_countClashes_49 ?_
      refine v_istore_n C dX1_countClashes_50 (by decide) (by first | rfl | exact cat_ok _ | simp [okS, cat_rf]) ?_
      refine v_iinc C dX1_countClashes_51 rfl rfl (by decide) (by first | rfl | exact cat_ok _ | simp [okS, cat_rf]) ?_
      refine v_goto (tgt := 4) C dX1_countClashes_54 (by decide) ?_
      refine V.drop 3 ?_
      refine V.lits (lv' := [_, _, _, _]) rfl ?_
      exact ih_4 _ (_, _) (upm_lt c_12) ⟨iv, i_this, E0⟩
    · skip
      subst c_26
      have i_b26 := nOK_some n_v20 rfl
      refine v_aload_n C dX1_countClashes_29 rfl ?_
      refine v_aload_n C dX1_countClashes_30 rfl ?_
      refine v_iload_n C dX1_countClashes_31 rfl ?_
      refine v_bipush (v := 12) C dX1_countClashes_32 (by decide) ?_
      refine v_irem C dX1_countClashes_34 (by decide) ?_
      refine v_callV (As := [_, _]) (n := 2) C (st_X1_weigh l _ _ _ _) rfl i_this (by decide) rfl ⟨wd655, wd523, wd524, wd15, wd525⟩ ⟨rfl, hy_X1_weigh⟩ rfl ⟨Nat.le_of_ble_eq_true rfl, Nat.le_of_ble_eq_true rfl⟩ (Nat.le_of_ble_eq_true rfl) ⟨Nat.le_of_ble_eq_true rfl, Nat.le_of_ble_eq_true rfl⟩ dX1_countClashes_35 ⟨rfl, iv, i_this, i_b26⟩ (fun r_35 S4_35 h_35 => ?_)
      obtain ⟨v35, rfl, i_v35, iv2, x_35⟩ := h_35
      have i_this := is_ext x_35 i_this
      have i_b26 := is_ext x_35 i_b26
      have E0' := ext_tr E0 x_35 (xk_call E0 (by decide))
      have E0 := E0'
      have iv := iv2
      refine g1_196 C i_v35 dX1_countClashes_38 ?_
      refine v_topi (fun v38 e_v38 => ?_)
      refine v_if_eq (tgt := 48) C dX1_countClashes_41 (by decide) (fun c_41 => ?_) (fun c_41 => ?_)
      · skip
        refine v_iconst (v := 0) C dX1_countClashes_48 (by decide) ?_
        refine v_iadd C dX1_countClashes_49 ?_
        refine v_istore_n C dX1_countClashes_50 (by decide) (by first | rfl | exact cat_ok _ | simp [okS, cat_rf]) ?_
        refine v_iinc C dX1_countClashes_51 rfl rfl (by decide) (by first | rfl | exact cat_ok _ | simp [okS, cat_rf]) ?_
        refine v_goto (tgt := 4) C dX1_countClashes_54 (by decide) ?_
        refine V.drop 3 ?_
        refine V.lits (lv' := [_, _, _, _]) rfl ?_
        exact ih_4 _ (_, _) (upm_lt c_12) ⟨iv, i_this, E0⟩
      · skip
        refine v_iconst (v := 1) C dX1_countClashes_44 (by decide) ?_
        refine v_goto (tgt := 49) C dX1_countClashes_45 (by decide) ?_
        refine v_iadd C dX1_countClashes_49 ?_
        refine v_istore_n C dX1_countClashes_50 (by decide) (by first | rfl | exact cat_ok _ | simp [okS, cat_rf]) ?_
        refine v_iinc C dX1_countClashes_51 rfl rfl (by decide) (by first | rfl | exact cat_ok _ | simp [okS, cat_rf]) ?_
        refine v_goto (tgt := 4) C dX1_countClashes_54 (by decide) ?_
        refine V.drop 3 ?_
        refine V.lits (lv' := [_, _, _, _]) rfl ?_
        exact ih_4 _ (_, _) (upm_lt c_12) ⟨iv, i_this, E0⟩
theorem dX1_countMissing_0 : decode cX1_countMissing 0 = .ok (.iconst 0, 1) := by decide +kernel
theorem dX1_countMissing_1 : decode cX1_countMissing 1 = .ok (.istore_n 1, 1) := by decide +kernel
theorem dX1_countMissing_2 : decode cX1_countMissing 2 = .ok (.iconst 0, 1) := by decide +kernel
theorem dX1_countMissing_3 : decode cX1_countMissing 3 = .ok (.istore_n 2, 1) := by decide +kernel
theorem dX1_countMissing_4 : decode cX1_countMissing 4 = .ok (.iload_n 2, 1) := by decide +kernel
theorem dX1_countMissing_5 : decode cX1_countMissing 5 = .ok (.aload_n 0, 1) := by decide +kernel
theorem dX1_countMissing_6 : decode cX1_countMissing 6 = .ok (.getfield 92, 3) := by decide +kernel
theorem dX1_countMissing_9 : decode cX1_countMissing 9 = .ok (.bipush 12, 2) := by decide +kernel
theorem dX1_countMissing_11 : decode cX1_countMissing 11 = .ok (.imul, 1) := by decide +kernel
theorem dX1_countMissing_12 : decode cX1_countMissing 12 = .ok (.if_icmp .ge 47, 3) := by decide +kernel
theorem dX1_countMissing_15 : decode cX1_countMissing 15 = .ok (.aload_n 0, 1) := by decide +kernel
theorem dX1_countMissing_16 : decode cX1_countMissing 16 = .ok (.iload_n 2, 1) := by decide +kernel
theorem dX1_countMissing_17 : decode cX1_countMissing 17 = .ok (.bipush 12, 2) := by decide +kernel
theorem dX1_countMissing_19 : decode cX1_countMissing 19 = .ok (.idiv, 1) := by decide +kernel
theorem dX1_countMissing_20 : decode cX1_countMissing 20 = .ok (.invokevirtual 192, 3) := by decide +kernel
theorem dX1_countMissing_23 : decode cX1_countMissing 23 = .ok (.astore_n 3, 1) := by decide +kernel
theorem dX1_countMissing_24 : decode cX1_countMissing 24 = .ok (.iload_n 1, 1) := by decide +kernel
theorem dX1_countMissing_25 : decode cX1_countMissing 25 = .ok (.aload_n 3, 1) := by decide +kernel
theorem dX1_countMissing_26 : decode cX1_countMissing 26 = .ok (.ifnull 24, 3) := by decide +kernel
theorem dX1_countMissing_29 : decode cX1_countMissing 29 = .ok (.aload_n 0, 1) := by decide +kernel
theorem dX1_countMissing_30 : decode cX1_countMissing 30 = .ok (.aload_n 3, 1) := by decide +kernel
theorem dX1_countMissing_31 : decode cX1_countMissing 31 = .ok (.iload_n 2, 1) := by decide +kernel
theorem dX1_countMissing_32 : decode cX1_countMissing 32 = .ok (.bipush 12, 2) := by decide +kernel
theorem dX1_countMissing_34 : decode cX1_countMissing 34 = .ok (.irem, 1) := by decide +kernel
theorem dX1_countMissing_35 : decode cX1_countMissing 35 = .ok (.invokevirtual 150, 3) := by decide +kernel
theorem dX1_countMissing_38 : decode cX1_countMissing 38 = .ok (.getfield 199, 3) := by decide +kernel
theorem dX1_countMissing_41 : decode cX1_countMissing 41 = .ok (.bipush (-5), 2) := by decide +kernel
theorem dX1_countMissing_43 : decode cX1_countMissing 43 = .ok (.if_icmp .ne 7, 3) := by decide +kernel
theorem dX1_countMissing_46 : decode cX1_countMissing 46 = .ok (.iconst 1, 1) := by decide +kernel
theorem dX1_countMissing_47 : decode cX1_countMissing 47 = .ok (.goto 4, 3) := by decide +kernel
theorem dX1_countMissing_50 : decode cX1_countMissing 50 = .ok (.iconst 0, 1) := by decide +kernel
theorem dX1_countMissing_51 : decode cX1_countMissing 51 = .ok (.iadd, 1) := by decide +kernel
theorem dX1_countMissing_52 : decode cX1_countMissing 52 = .ok (.istore_n 1, 1) := by decide +kernel
theorem dX1_countMissing_53 : decode cX1_countMissing 53 = .ok (.iinc 2 1, 3) := by decide +kernel
theorem dX1_countMissing_56 : decode cX1_countMissing 56 = .ok (.goto (-52), 3) := by decide +kernel
theorem dX1_countMissing_59 : decode cX1_countMissing 59 = .ok (.iload_n 1, 1) := by decide +kernel
theorem dX1_countMissing_60 : decode cX1_countMissing 60 = .ok (.ireturn, 1) := by decide +kernel
set_option maxRecDepth 100000 in
set_option maxHeartbeats 4000000 in
theorem st_X1_countMissing (l : Launch) (M : Nat → Prop) (h : Nat) : Ct l yX1_countMissing cX1_countMissing 4 (some .int) 4 0 0 96 (fun S av => av = [.ref h] ∧ INV M [] S ∧ is S h 1) (fun S _ r S' => ∃ v, r = some (.int v) ∧ INV M [] S' ∧ ext S S' (fun a => ¬ M a ∧ mK S a ∈ [0])) := by
  refine ct_of (by decide) (fun S av h => by obtain ⟨rfl, iv, i_this⟩ := h; exact Nat.le_of_ble_eq_true rfl) ?_
  intro p e s m args below meth c D G bs S av C hr hin hpre
  obtain ⟨rfl, iv, i_this⟩ := hpre
  have E0 : ext S S (fun a => ¬ M a ∧ mK S a ∈ [0]) := ext_rfl
  refine v_iconst (v := 0) C dX1_countMissing_0 (by decide) ?_
  refine v_istore_n C dX1_countMissing_1 (by decide) (by first | rfl | exact cat_ok _ | simp [okS, cat_rf]) ?_
  refine v_iconst (v := 0) C dX1_countMissing_2 (by decide) ?_
  refine v_istore_n C dX1_countMissing_3 (by decide) (by first | rfl | exact cat_ok _ | simp [okS, cat_rf]) ?_
  refine V.lits (lv' := [_, _, _, _]) rfl ?_
  refine v_loop (fun (t : Int32 × Int32) lv0 => ((lv0.set 1 (some (.int t.1))).set 2 (some (.int t.2)))) (fun (S1 : Mem) (t : Int32 × Int32) => INV M [] S1 ∧ is S1 h 1 ∧ ext S S1 (fun a => ¬ M a ∧ mK S a ∈ [0])) (fun (S1 : Mem) (t : Int32 × Int32) => upm t.2) (t := (_, _)) rfl ⟨iv, i_this, E0⟩ ?_
  intro L4 t h_4 ih_4
  obtain ⟨t0_4, t1_4⟩ := t
  obtain ⟨iv, i_this, E0⟩ := h_4
  try dsimp only
  refine v_iload_n C dX1_countMissing_4 rfl ?_
  refine v_aload_n C dX1_countMissing_5 rfl ?_
  refine g1_92 C i_this dX1_countMissing_6 ?_
  refine v_topi (fun v6 e_v6 => ?_)
  refine v_bipush (v := 12) C dX1_countMissing_9 (by decide) ?_
  refine v_imul C dX1_countMissing_11 ?_
  refine v_icmp_ge (tgt := 59) C dX1_countMissing_12 (by decide) (fun c_12 => ?_) (fun c_12 => ?_)
  · skip
    refine v_iload_n C dX1_countMissing_59 rfl ?_
    refine v_iret C hr (Nat.le_of_ble_eq_true rfl) (Nat.le_of_ble_eq_true rfl) dX1_countMissing_60 ?_
    exact ⟨_, rfl, iv, E0⟩
  · skip
    refine v_aload_n C dX1_countMissing_15 rfl ?_
    refine v_iload_n C dX1_countMissing_16 rfl ?_
    refine v_bipush (v := 12) C dX1_countMissing_17 (by decide) ?_
    refine v_idiv C dX1_countMissing_19 (by decide) ?_
    refine v_callV (As := [_]) (n := 1) C (st_X1_figureAt l _ _ _) rfl i_this (by decide) rfl ⟨wd958, wd301, wd302, wd15, wd303⟩ ⟨rfl, hy_X1_figureAt⟩ rfl ⟨Nat.le_of_ble_eq_true rfl, Nat.le_of_ble_eq_true rfl⟩ (Nat.le_of_ble_eq_true rfl) ⟨Nat.le_of_ble_eq_true rfl, Nat.le_of_ble_eq_true rfl⟩ dX1_countMissing_20 ⟨rfl, iv, i_this⟩ (fun r_20 S2_20 h_20 => ?_)
    obtain ⟨v20, rfl, n_v20, q_v20⟩ := h_20
    obtain rfl := q_v20.symm
    refine v_qstore_n C dX1_countMissing_23 (by decide) (by first | rfl | exact cat_ok _ | simp [okS, cat_rf]) ?_
    refine v_iload_n C dX1_countMissing_24 rfl ?_
    refine v_qload_n C dX1_countMissing_25 rfl ?_
    refine v_ifnull (tgt := 50) C dX1_countMissing_26 (by decide) (fun c_26 => ?_) (fun b26 c_26 => ?_)
    · skip
      subst c_26
      refine v_iconst (v := 0) C dX1_countMissing_50 (by decide) ?_
      refine v_iadd C dX1_countMissing_51 ?_
      refine v_istore_n C dX1_countMissing_52 (by decide) (by first | rfl | exact cat_ok _ | simp [okS, cat_rf]) ?_
      refine v_iinc C dX1_countMissing_53 rfl rfl (by decide) (by first | rfl | exact cat_ok _ | simp [okS, cat_rf]) ?_
      refine v_goto (tgt := 4) C dX1_countMissing_56 (by decide) ?_
      refine V.drop 3 ?_
      refine V.lits (lv' := [_, _, _, _]) rfl ?_
      exact ih_4 _ (_, _) (upm_lt c_12) ⟨iv, i_this, E0⟩
    · skip
      subst c_26
      have i_b26 := nOK_some n_v20 rfl
      refine v_aload_n C dX1_countMissing_29 rfl ?_
      refine v_aload_n C dX1_countMissing_30 rfl ?_
      refine v_iload_n C dX1_countMissing_31 rfl ?_
      refine v_bipush (v := 12) C dX1_countMissing_32 (by decide) ?_
      refine v_irem C dX1_countMissing_34 (by decide) ?_
      refine v_callV (As := [_, _]) (n := 2) C (st_X1_weigh l _ _ _ _) rfl i_this (by decide) rfl ⟨wd655, wd523, wd524, wd15, wd525⟩ ⟨rfl, hy_X1_weigh⟩ rfl ⟨Nat.le_of_ble_eq_true rfl, Nat.le_of_ble_eq_true rfl⟩ (Nat.le_of_ble_eq_true rfl) ⟨Nat.le_of_ble_eq_true rfl, Nat.le_of_ble_eq_true rfl⟩ dX1_countMissing_35 ⟨rfl, iv, i_this, i_b26⟩ (fun r_35 S4_35 h_35 => ?_)
      obtain ⟨v35, rfl, i_v35, iv2, x_35⟩ := h_35
      have i_this := is_ext x_35 i_this
      have i_b26 := is_ext x_35 i_b26
      have E0' := ext_tr E0 x_35 (xk_call E0 (by decide))
      have E0 := E0'
      have iv := iv2
      refine g1_199 C i_v35 dX1_countMissing_38 ?_
      refine v_topi (fun v38 e_v38 => ?_)
      refine v_bipush (v := -5) C dX1_countMissing_41 (by decide) ?_
      refine v_icmp_ne (tgt := 50) C dX1_countMissing_43 (by decide) (fun c_43 => ?_) (fun c_43 => ?_)
      · skip
        refine v_iconst (v := 0) C dX1_countMissing_50 (by decide) ?_
        refine v_iadd C dX1_countMissing_51 ?_
        refine v_istore_n C dX1_countMissing_52 (by decide) (by first | rfl | exact cat_ok _ | simp [okS, cat_rf]) ?_
        refine v_iinc C dX1_countMissing_53 rfl rfl (by decide) (by first | rfl | exact cat_ok _ | simp [okS, cat_rf]) ?_
        refine v_goto (tgt := 4) C dX1_countMissing_56 (by decide) ?_
        refine V.drop 3 ?_
        refine V.lits (lv' := [_, _, _, _]) rfl ?_
        exact ih_4 _ (_, _) (upm_lt c_12) ⟨iv, i_this, E0⟩
      · skip
        refine v_iconst (v := 1) C dX1_countMissing_46 (by decide) ?_
        refine v_goto (tgt := 51) C dX1_countMissing_47 (by decide) ?_
        refine v_iadd C dX1_countMissing_51 ?_
        refine v_istore_n C dX1_countMissing_52 (by decide) (by first | rfl | exact cat_ok _ | simp [okS, cat_rf]) ?_
        refine v_iinc C dX1_countMissing_53 rfl rfl (by decide) (by first | rfl | exact cat_ok _ | simp [okS, cat_rf]) ?_
        refine v_goto (tgt := 4) C dX1_countMissing_56 (by decide) ?_
        refine V.drop 3 ?_
        refine V.lits (lv' := [_, _, _, _]) rfl ?_
        exact ih_4 _ (_, _) (upm_lt c_12) ⟨iv, i_this, E0⟩
theorem dX1_digestFigure_0 : decode cX1_digestFigure 0 = .ok (.lload_n 1, 1) := by decide +kernel
theorem dX1_digestFigure_1 : decode cX1_digestFigure 1 = .ok (.lstore 4, 2) := by decide +kernel
theorem dX1_digestFigure_3 : decode cX1_digestFigure 3 = .ok (.aload_n 3, 1) := by decide +kernel
theorem dX1_digestFigure_4 : decode cX1_digestFigure 4 = .ok (.ifnonnull 6, 3) := by decide +kernel
theorem dX1_digestFigure_7 : decode cX1_digestFigure 7 = .ok (.lload 4, 2) := by decide +kernel
theorem dX1_digestFigure_9 : decode cX1_digestFigure 9 = .ok (.lreturn, 1) := by decide +kernel
theorem dX1_digestFigure_10 : decode cX1_digestFigure 10 = .ok (.iconst 0, 1) := by decide +kernel
theorem dX1_digestFigure_11 : decode cX1_digestFigure 11 = .ok (.istore 6, 2) := by decide +kernel
theorem dX1_digestFigure_13 : decode cX1_digestFigure 13 = .ok (.iload 6, 2) := by decide +kernel
theorem dX1_digestFigure_15 : decode cX1_digestFigure 15 = .ok (.aload_n 3, 1) := by decide +kernel
theorem dX1_digestFigure_16 : decode cX1_digestFigure 16 = .ok (.getfield 101, 3) := by decide +kernel
theorem dX1_digestFigure_19 : decode cX1_digestFigure 19 = .ok (.getfield 129, 3) := by decide +kernel
theorem dX1_digestFigure_22 : decode cX1_digestFigure 22 = .ok (.if_icmp .ge 28, 3) := by decide +kernel
theorem dX1_digestFigure_25 : decode cX1_digestFigure 25 = .ok (.ldc2_w 200, 3) := by decide +kernel
theorem dX1_digestFigure_28 : decode cX1_digestFigure 28 = .ok (.lload 4, 2) := by decide +kernel
theorem dX1_digestFigure_30 : decode cX1_digestFigure 30 = .ok (.lmul, 1) := by decide +kernel
theorem dX1_digestFigure_31 : decode cX1_digestFigure 31 = .ok (.aload_n 3, 1) := by decide +kernel
theorem dX1_digestFigure_32 : decode cX1_digestFigure 32 = .ok (.getfield 101, 3) := by decide +kernel
theorem dX1_digestFigure_35 : decode cX1_digestFigure 35 = .ok (.iload 6, 2) := by decide +kernel
theorem dX1_digestFigure_37 : decode cX1_digestFigure 37 = .ok (.invokevirtual 132, 3) := by decide +kernel
theorem dX1_digestFigure_40 : decode cX1_digestFigure 40 = .ok (.i2l, 1) := by decide +kernel
theorem dX1_digestFigure_41 : decode cX1_digestFigure 41 = .ok (.ladd, 1) := by decide +kernel
theorem dX1_digestFigure_42 : decode cX1_digestFigure 42 = .ok (.lstore 4, 2) := by decide +kernel
theorem dX1_digestFigure_44 : decode cX1_digestFigure 44 = .ok (.iinc 6 1, 3) := by decide +kernel
theorem dX1_digestFigure_47 : decode cX1_digestFigure 47 = .ok (.goto (-34), 3) := by decide +kernel
theorem dX1_digestFigure_50 : decode cX1_digestFigure 50 = .ok (.iconst 0, 1) := by decide +kernel
theorem dX1_digestFigure_51 : decode cX1_digestFigure 51 = .ok (.istore 6, 2) := by decide +kernel
theorem dX1_digestFigure_53 : decode cX1_digestFigure 53 = .ok (.iload 6, 2) := by decide +kernel
theorem dX1_digestFigure_55 : decode cX1_digestFigure 55 = .ok (.bipush 12, 2) := by decide +kernel
theorem dX1_digestFigure_57 : decode cX1_digestFigure 57 = .ok (.if_icmp .ge 63, 3) := by decide +kernel
theorem dX1_digestFigure_60 : decode cX1_digestFigure 60 = .ok (.aload_n 0, 1) := by decide +kernel
theorem dX1_digestFigure_61 : decode cX1_digestFigure 61 = .ok (.aload_n 3, 1) := by decide +kernel
theorem dX1_digestFigure_62 : decode cX1_digestFigure 62 = .ok (.iload 6, 2) := by decide +kernel
theorem dX1_digestFigure_64 : decode cX1_digestFigure 64 = .ok (.invokevirtual 150, 3) := by decide +kernel
theorem dX1_digestFigure_67 : decode cX1_digestFigure 67 = .ok (.astore 7, 2) := by decide +kernel
theorem dX1_digestFigure_69 : decode cX1_digestFigure 69 = .ok (.ldc2_w 200, 3) := by decide +kernel
theorem dX1_digestFigure_72 : decode cX1_digestFigure 72 = .ok (.lload 4, 2) := by decide +kernel
theorem dX1_digestFigure_74 : decode cX1_digestFigure 74 = .ok (.lmul, 1) := by decide +kernel
theorem dX1_digestFigure_75 : decode cX1_digestFigure 75 = .ok (.aload 7, 2) := by decide +kernel
theorem dX1_digestFigure_77 : decode cX1_digestFigure 77 = .ok (.getfield 199, 3) := by decide +kernel
theorem dX1_digestFigure_80 : decode cX1_digestFigure 80 = .ok (.i2l, 1) := by decide +kernel
theorem dX1_digestFigure_81 : decode cX1_digestFigure 81 = .ok (.ladd, 1) := by decide +kernel
theorem dX1_digestFigure_82 : decode cX1_digestFigure 82 = .ok (.lstore 4, 2) := by decide +kernel
theorem dX1_digestFigure_84 : decode cX1_digestFigure 84 = .ok (.ldc2_w 200, 3) := by decide +kernel
theorem dX1_digestFigure_87 : decode cX1_digestFigure 87 = .ok (.lload 4, 2) := by decide +kernel
theorem dX1_digestFigure_89 : decode cX1_digestFigure 89 = .ok (.lmul, 1) := by decide +kernel
theorem dX1_digestFigure_90 : decode cX1_digestFigure 90 = .ok (.aload 7, 2) := by decide +kernel
theorem dX1_digestFigure_92 : decode cX1_digestFigure 92 = .ok (.getfield 196, 3) := by decide +kernel
theorem dX1_digestFigure_95 : decode cX1_digestFigure 95 = .ok (.i2l, 1) := by decide +kernel
theorem dX1_digestFigure_96 : decode cX1_digestFigure 96 = .ok (.ladd, 1) := by decide +kernel
theorem dX1_digestFigure_97 : decode cX1_digestFigure 97 = .ok (.lstore 4, 2) := by decide +kernel
theorem dX1_digestFigure_99 : decode cX1_digestFigure 99 = .ok (.ldc2_w 200, 3) := by decide +kernel
theorem dX1_digestFigure_102 : decode cX1_digestFigure 102 = .ok (.lload 4, 2) := by decide +kernel
theorem dX1_digestFigure_104 : decode cX1_digestFigure 104 = .ok (.lmul, 1) := by decide +kernel
theorem dX1_digestFigure_105 : decode cX1_digestFigure 105 = .ok (.aload 7, 2) := by decide +kernel
theorem dX1_digestFigure_107 : decode cX1_digestFigure 107 = .ok (.getfield 167, 3) := by decide +kernel
theorem dX1_digestFigure_110 : decode cX1_digestFigure 110 = .ok (.i2l, 1) := by decide +kernel
theorem dX1_digestFigure_111 : decode cX1_digestFigure 111 = .ok (.ladd, 1) := by decide +kernel
theorem dX1_digestFigure_112 : decode cX1_digestFigure 112 = .ok (.lstore 4, 2) := by decide +kernel
theorem dX1_digestFigure_114 : decode cX1_digestFigure 114 = .ok (.iinc 6 1, 3) := by decide +kernel
theorem dX1_digestFigure_117 : decode cX1_digestFigure 117 = .ok (.goto (-64), 3) := by decide +kernel
theorem dX1_digestFigure_120 : decode cX1_digestFigure 120 = .ok (.iconst 0, 1) := by decide +kernel
theorem dX1_digestFigure_121 : decode cX1_digestFigure 121 = .ok (.istore 6, 2) := by decide +kernel
theorem dX1_digestFigure_123 : decode cX1_digestFigure 123 = .ok (.iload 6, 2) := by decide +kernel
theorem dX1_digestFigure_125 : decode cX1_digestFigure 125 = .ok (.iconst 4, 1) := by decide +kernel
theorem dX1_digestFigure_126 : decode cX1_digestFigure 126 = .ok (.if_icmp .ge 24, 3) := by decide +kernel
theorem dX1_digestFigure_129 : decode cX1_digestFigure 129 = .ok (.ldc2_w 200, 3) := by decide +kernel
theorem dX1_digestFigure_132 : decode cX1_digestFigure 132 = .ok (.lload 4, 2) := by decide +kernel
theorem dX1_digestFigure_134 : decode cX1_digestFigure 134 = .ok (.lmul, 1) := by decide +kernel
theorem dX1_digestFigure_135 : decode cX1_digestFigure 135 = .ok (.aload_n 3, 1) := by decide +kernel
theorem dX1_digestFigure_136 : decode cX1_digestFigure 136 = .ok (.iload 6, 2) := by decide +kernel
theorem dX1_digestFigure_138 : decode cX1_digestFigure 138 = .ok (.invokevirtual 202, 3) := by decide +kernel
theorem dX1_digestFigure_141 : decode cX1_digestFigure 141 = .ok (.ladd, 1) := by decide +kernel
theorem dX1_digestFigure_142 : decode cX1_digestFigure 142 = .ok (.lstore 4, 2) := by decide +kernel
theorem dX1_digestFigure_144 : decode cX1_digestFigure 144 = .ok (.iinc 6 1, 3) := by decide +kernel
theorem dX1_digestFigure_147 : decode cX1_digestFigure 147 = .ok (.goto (-24), 3) := by decide +kernel
theorem dX1_digestFigure_150 : decode cX1_digestFigure 150 = .ok (.lload 4, 2) := by decide +kernel
theorem dX1_digestFigure_152 : decode cX1_digestFigure 152 = .ok (.lreturn, 1) := by decide +kernel
set_option maxRecDepth 100000 in
set_option maxHeartbeats 4000000 in
theorem st_X1_digestFigure (l : Launch) (M : Nat → Prop) (h : Nat) (p0 : Int64) (p1 : Option Nat) : Ct l yX1_digestFigure cX1_digestFigure 8 (some .long) 4 0 0 96 (fun S av => av = [.ref h, .long p0, va_rf p1] ∧ INV M [] S ∧ is S h 1 ∧ nOK S 2 p1) (fun S _ r S' => ∃ v, r = some (.long v) ∧ INV M [] S' ∧ ext S S' (fun a => ¬ M a ∧ mK S a ∈ [0])) := by
  refine ct_of (by decide) (fun S av h => by obtain ⟨rfl, iv, i_this, n_p1⟩ := h; exact by simp only [lg_sl, List.flatMap_cons, List.flatMap_nil, cat_rf]; exact Nat.le_of_ble_eq_true rfl) ?_
  intro p e s m args below meth c D G bs S av C hr hin hpre
  obtain ⟨rfl, iv, i_this, n_p1⟩ := hpre
  have E0 : ext S S (fun a => ¬ M a ∧ mK S a ∈ [0]) := ext_rfl
  refine v_lload_n C dX1_digestFigure_0 rfl ?_
  refine v_lstore C dX1_digestFigure_1 (by decide) (by first | rfl | exact cat_ok _ | simp [okS, cat_rf]) ?_
  refine v_qload_n C dX1_digestFigure_3 rfl ?_
  refine v_ifnonnull (tgt := 10) C dX1_digestFigure_4 (by decide) (fun b4 c_4 => ?_) (fun c_4 => ?_)
  · skip
    subst c_4
    have i_b4 := nOK_some n_p1 rfl
    refine v_iconst (v := 0) C dX1_digestFigure_10 (by decide) ?_
    refine v_istore C dX1_digestFigure_11 (by decide) (by first | rfl | exact cat_ok _ | simp [okS, cat_rf]) ?_
    refine V.lits (lv' := [_, _, _, _, _, _, _, _]) rfl ?_
    refine v_loop (fun (t : Int64 × Int32) lv0 => ((lv0.set 4 (some (.long t.1))).set 6 (some (.int t.2)))) (fun (S1 : Mem) (t : Int64 × Int32) => INV M [] S1 ∧ is S1 h 1 ∧ is S1 b4 2 ∧ ext S S1 (fun a => ¬ M a ∧ mK S a ∈ [0])) (fun (S1 : Mem) (t : Int64 × Int32) => upm t.2) (t := (_, _)) rfl ⟨iv, i_this, i_b4, E0⟩ ?_
    intro L13 t h_13 ih_13
    obtain ⟨t0_13, t1_13⟩ := t
    obtain ⟨iv, i_this, i_b4, E0⟩ := h_13
    try dsimp only
    refine v_iload C dX1_digestFigure_13 rfl ?_
    refine v_aload_n C dX1_digestFigure_15 rfl ?_
    obtain ⟨a16, e_a16, i_a16⟩ := T130 iv i_b4 List.not_mem_nil
    refine r1_101 (b := a16) C i_b4 e_a16 dX1_digestFigure_16 ?_
    refine g1_129 C i_a16 dX1_digestFigure_19 ?_
    refine v_topi (fun v19 e_v19 => ?_)
    refine v_icmp_ge (tgt := 50) C dX1_digestFigure_22 (by decide) (fun c_22 => ?_) (fun c_22 => ?_)
    · skip
      refine v_iconst (v := 0) C dX1_digestFigure_50 (by decide) ?_
      refine v_istore C dX1_digestFigure_51 (by decide) (by first | rfl | exact cat_ok _ | simp [okS, cat_rf]) ?_
      refine V.lits (lv' := [_, _, _, _, _, _, _, _]) rfl ?_
      refine v_loop (fun (t : Int64 × Int32) lv0 => ((lv0.set 4 (some (.long t.1))).set 6 (some (.int t.2)))) (fun (S1 : Mem) (t : Int64 × Int32) => INV M [] S1 ∧ is S1 h 1 ∧ is S1 b4 2 ∧ ext S S1 (fun a => ¬ M a ∧ mK S a ∈ [0])) (fun (S1 : Mem) (t : Int64 × Int32) => upm t.2) (t := (_, _)) rfl ⟨iv, i_this, i_b4, E0⟩ ?_
      intro L53 t h_53 ih_53
      obtain ⟨t0_53, t1_53⟩ := t
      obtain ⟨iv, i_this, i_b4, E0⟩ := h_53
      try dsimp only
      refine v_iload C dX1_digestFigure_53 rfl ?_
      refine v_bipush (v := 12) C dX1_digestFigure_55 (by decide) ?_
      refine v_icmp_ge (tgt := 120) C dX1_digestFigure_57 (by decide) (fun c_57 => ?_) (fun c_57 => ?_)
      · skip
        refine v_iconst (v := 0) C dX1_digestFigure_120 (by decide) ?_
        refine v_istore C dX1_digestFigure_121 (by decide) (by first | rfl | exact cat_ok _ | simp [okS, cat_rf]) ?_
        refine V.lits (lv' := [_, _, _, _, _, _, _, _]) rfl ?_
        refine v_loop (fun (t : Int64 × Int32) lv0 => ((lv0.set 4 (some (.long t.1))).set 6 (some (.int t.2)))) (fun (S1 : Mem) (t : Int64 × Int32) => INV M [] S1 ∧ is S1 h 1 ∧ is S1 b4 2 ∧ ext S S1 (fun a => ¬ M a ∧ mK S a ∈ [0])) (fun (S1 : Mem) (t : Int64 × Int32) => upm t.2) (t := (_, _)) rfl ⟨iv, i_this, i_b4, E0⟩ ?_
        intro L123 t h_123 ih_123
        obtain ⟨t0_123, t1_123⟩ := t
        obtain ⟨iv, i_this, i_b4, E0⟩ := h_123
        try dsimp only
        refine v_iload C dX1_digestFigure_123 rfl ?_
        refine v_iconst (v := 4) C dX1_digestFigure_125 (by decide) ?_
        refine v_icmp_ge (tgt := 150) C dX1_digestFigure_126 (by decide) (fun c_126 => ?_) (fun c_126 => ?_)
        · skip
          refine v_lload C dX1_digestFigure_150 rfl ?_
          refine v_lret C hr (Nat.le_of_ble_eq_true rfl) (Nat.le_of_ble_eq_true rfl) dX1_digestFigure_152 ?_
          exact ⟨_, rfl, iv, E0⟩
        · skip
          refine v_ldc2 (v := (31)) C wd977 dX1_digestFigure_129 ?_
          refine v_lload C dX1_digestFigure_132 rfl ?_
          refine v_lmul C dX1_digestFigure_134 ?_
          refine v_aload_n C dX1_digestFigure_135 rfl ?_
          refine v_iload C dX1_digestFigure_136 rfl ?_
          refine v_callV (As := [_]) (n := 1) C (st_X2_moodAt l _ _ _) rfl i_b4 (by decide) rfl ⟨wd978, wd809, wd810, wd271, wd811⟩ ⟨rfl, hy_X2_moodAt⟩ rfl ⟨Nat.le_of_ble_eq_true rfl, Nat.le_of_ble_eq_true rfl⟩ (Nat.le_of_ble_eq_true rfl) ⟨Nat.le_of_ble_eq_true rfl, Nat.le_of_ble_eq_true rfl⟩ dX1_digestFigure_138 ⟨rfl, iv, i_b4⟩ (fun r_138 S2_138 h_138 => ?_)
          obtain ⟨v138, rfl, q_v138⟩ := h_138
          obtain rfl := q_v138.symm
          refine v_ladd C dX1_digestFigure_141 ?_
          refine v_lstore C dX1_digestFigure_142 (by decide) (by first | rfl | exact cat_ok _ | simp [okS, cat_rf]) ?_
          refine v_iinc C dX1_digestFigure_144 rfl rfl (by decide) (by first | rfl | exact cat_ok _ | simp [okS, cat_rf]) ?_
          refine v_goto (tgt := 123) C dX1_digestFigure_147 (by decide) ?_
          refine V.lits (lv' := [_, _, _, _, _, _, _, _]) rfl ?_
          exact ih_123 _ (_, _) (upm_lt c_126) ⟨iv, i_this, i_b4, E0⟩
      · skip
        refine v_aload_n C dX1_digestFigure_60 rfl ?_
        refine v_aload_n C dX1_digestFigure_61 rfl ?_
        refine v_iload C dX1_digestFigure_62 rfl ?_
        refine v_callV (As := [_, _]) (n := 2) C (st_X1_weigh l _ _ _ _) rfl i_this (by decide) rfl ⟨wd655, wd523, wd524, wd15, wd525⟩ ⟨rfl, hy_X1_weigh⟩ rfl ⟨Nat.le_of_ble_eq_true rfl, Nat.le_of_ble_eq_true rfl⟩ (Nat.le_of_ble_eq_true rfl) ⟨Nat.le_of_ble_eq_true rfl, Nat.le_of_ble_eq_true rfl⟩ dX1_digestFigure_64 ⟨rfl, iv, i_this, i_b4⟩ (fun r_64 S2_64 h_64 => ?_)
        obtain ⟨v64, rfl, i_v64, iv2, x_64⟩ := h_64
        have i_this := is_ext x_64 i_this
        have i_b4 := is_ext x_64 i_b4
        have E0' := ext_tr E0 x_64 (xk_call E0 (by decide))
        have E0 := E0'
        have iv := iv2
        refine v_astore C dX1_digestFigure_67 (by decide) (by first | rfl | exact cat_ok _ | simp [okS, cat_rf]) ?_
        refine v_ldc2 (v := (31)) C wd977 dX1_digestFigure_69 ?_
        refine v_lload C dX1_digestFigure_72 rfl ?_
        refine v_lmul C dX1_digestFigure_74 ?_
        refine v_aload C dX1_digestFigure_75 rfl ?_
        refine g1_199 C i_v64 dX1_digestFigure_77 ?_
        refine v_topi (fun v77 e_v77 => ?_)
        refine v_i2l C dX1_digestFigure_80 ?_
        refine v_ladd C dX1_digestFigure_81 ?_
        refine v_lstore C dX1_digestFigure_82 (by decide) (by first | rfl | exact cat_ok _ | simp [okS, cat_rf]) ?_
        refine v_ldc2 (v := (31)) C wd977 dX1_digestFigure_84 ?_
        refine v_lload C dX1_digestFigure_87 rfl ?_
        refine v_lmul C dX1_digestFigure_89 ?_
        refine v_aload C dX1_digestFigure_90 rfl ?_
        refine g1_196 C i_v64 dX1_digestFigure_92 ?_
        refine v_topi (fun v92 e_v92 => ?_)
        refine v_i2l C dX1_digestFigure_95 ?_
        refine v_ladd C dX1_digestFigure_96 ?_
        refine v_lstore C dX1_digestFigure_97 (by decide) (by first | rfl | exact cat_ok _ | simp [okS, cat_rf]) ?_
        refine v_ldc2 (v := (31)) C wd977 dX1_digestFigure_99 ?_
        refine v_lload C dX1_digestFigure_102 rfl ?_
        refine v_lmul C dX1_digestFigure_104 ?_
        refine v_aload C dX1_digestFigure_105 rfl ?_
        refine g1_167 C i_v64 dX1_digestFigure_107 ?_
        refine v_topi (fun v107 e_v107 => ?_)
        refine v_i2l C dX1_digestFigure_110 ?_
        refine v_ladd C dX1_digestFigure_111 ?_
        refine v_lstore C dX1_digestFigure_112 (by decide) (by first | rfl | exact cat_ok _ | simp [okS, cat_rf]) ?_
        refine v_iinc C dX1_digestFigure_114 rfl rfl (by decide) (by first | rfl | exact cat_ok _ | simp [okS, cat_rf]) ?_
        refine v_goto (tgt := 53) C dX1_digestFigure_117 (by decide) ?_
        refine V.drop 7 ?_
        refine V.lits (lv' := [_, _, _, _, _, _, _, _]) rfl ?_
        exact ih_53 _ (_, _) (upm_lt c_57) ⟨iv, i_this, i_b4, E0⟩
    · skip
      refine v_ldc2 (v := (31)) C wd977 dX1_digestFigure_25 ?_
      refine v_lload C dX1_digestFigure_28 rfl ?_
      refine v_lmul C dX1_digestFigure_30 ?_
      refine v_aload_n C dX1_digestFigure_31 rfl ?_
      obtain ⟨a32, e_a32, i_a32⟩ := T130 iv i_b4 List.not_mem_nil
      refine r1_101 (b := a32) C i_b4 e_a32 dX1_digestFigure_32 ?_
      refine v_iload C dX1_digestFigure_35 rfl ?_
      refine v_callV (As := [_]) (n := 1) C (st_X3_at l _ _ _) rfl i_a32 (by decide) rfl ⟨wd538, wd187, wd188, wd45, wd189⟩ ⟨rfl, hy_X3_at⟩ rfl ⟨Nat.le_of_ble_eq_true rfl, Nat.le_of_ble_eq_true rfl⟩ (Nat.le_of_ble_eq_true rfl) ⟨Nat.le_of_ble_eq_true rfl, Nat.le_of_ble_eq_true rfl⟩ dX1_digestFigure_37 ⟨rfl, iv, i_a32⟩ (fun r_37 S2_37 h_37 => ?_)
      obtain ⟨v37, rfl, q_v37⟩ := h_37
      obtain rfl := q_v37.symm
      refine v_i2l C dX1_digestFigure_40 ?_
      refine v_ladd C dX1_digestFigure_41 ?_
      refine v_lstore C dX1_digestFigure_42 (by decide) (by first | rfl | exact cat_ok _ | simp [okS, cat_rf]) ?_
      refine v_iinc C dX1_digestFigure_44 rfl rfl (by decide) (by first | rfl | exact cat_ok _ | simp [okS, cat_rf]) ?_
      refine v_goto (tgt := 13) C dX1_digestFigure_47 (by decide) ?_
      refine V.lits (lv' := [_, _, _, _, _, _, _, _]) rfl ?_
      exact ih_13 _ (_, _) (upm_lt c_22) ⟨iv, i_this, i_b4, E0⟩
  · skip
    subst c_4
    refine v_lload C dX1_digestFigure_7 rfl ?_
    refine v_lret C hr (Nat.le_of_ble_eq_true rfl) (Nat.le_of_ble_eq_true rfl) dX1_digestFigure_9 ?_
    exact ⟨_, rfl, iv, E0⟩
