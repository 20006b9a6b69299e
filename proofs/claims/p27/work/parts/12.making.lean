theorem xn {S : Mem} {r : Nat} {X : Nat → Prop} (h : ¬ r ∈ mL S) : ∀ a, a ∈ mL S → a = r → X a := fun a ha z => absurd (z ▸ ha) h
theorem mo_put {S S' : Mem} {g a : Nat} {v : Option Nat} (e : S' = sO S g a v) : mO S' g a = v := by rw [e, mO_sO, if_pos ⟨rfl, rfl⟩]
theorem mo_sO {S S' : Mem} {g a g' a' : Nat} {v o : Option Nat} (e : S' = sO S g' a' v) (n : g ≠ g' ∨ a ≠ a') (h : mO S g a = o) : mO S' g a = o := by rw [e, mO_sO, if_neg (fun z => n.elim (fun n => n z.1) (fun n => n z.2))]; exact h
theorem mo_sI {S S' : Mem} {g a g' a' : Nat} {v : Int32} {o : Option Nat} (e : S' = sI S g' a' v) (h : mO S g a = o) : mO S' g a = o := by rw [e, mO_sI]; exact h
theorem mo_sJ {S S' : Mem} {g a g' a' : Nat} {v : Int64} {o : Option Nat} (e : S' = sJ S g' a' v) (h : mO S g a = o) : mO S' g a = o := by rw [e, mO_sJ]; exact h
theorem mo_sA {S S' : Mem} {g a a' i : Nat} {v : Int32} {o : Option Nat} (e : S' = sA S a' i v) (h : mO S g a = o) : mO S' g a = o := by rw [e, mO_sA]; exact h
theorem mo_sFill {S S' : Mem} {g a a' n : Nat} {v : Int32} {o : Option Nat} (e : S' = sFill S a' n v) (h : mO S g a = o) : mO S' g a = o := by rw [e, mO_sFill]; exact h
theorem mo_sArr {S S' : Mem} {g a a' k n : Nat} {o : Option Nat} (e : S' = sArr S a' k n) (h : mO S g a = o) : mO S' g a = o := by rw [e, mO_sArr]; exact h
theorem mo_sNew {S S' : Mem} {g a a' c : Nat} {o : Option Nat} (e : S' = sNew S a' c) (n : a ≠ a') (h : mO S g a = o) : mO S' g a = o := by rw [e, mO_sNew, if_neg n]; exact h
theorem mo_ext {S S' : Mem} {X : Nat → Prop} {g a k : Nat} {o : Option Nat} (x : ext S S' X) (i : is S a k) (n : ¬ X a) (h : mO S g a = o) : mO S' g a = o := by rw [(x.2 a i.1 n).2.1]; exact h
theorem mI_newE {S S' : Mem} {a c : Nat} (e : S' = sNew S a c) (g : Nat) : mI S' g a = 0 := by rw [e, mI_sNew, if_pos rfl]
theorem mI_A {S S' : Mem} {g a a' i : Nat} {v : Int32} (e : S' = sA S a' i v) : mI S' g a = mI S g a := by rw [e, mI_sA]
theorem i32_sc {v : Int32} {n : Nat} (h : vp_in v n) (hn : n ≤ 1000) : ∃ k, k + 1 ≤ n ∧ v + 1 = nI (k + 1) := by
  obtain ⟨h1, h2⟩ := vp_in_iff.mp h
  refine ⟨v.toInt.toNat, by omega, Int32.toInt_inj.mp ?_⟩
  have e : (v + 1).toInt = v.toInt + 1 := by
    rw [Int32.toInt_add, show (1 : Int32).toInt = 1 from rfl, Int.bmod_def]
    split <;> omega
  rw [e]
  show _ = (Int32.ofNat _).toInt
  rw [show Int32.ofNat (v.toInt.toNat + 1) = Int32.ofInt ((v.toInt.toNat + 1 : Nat) : Int) from (Int32.ofInt_eq_ofNat ..).symm, Int32.toInt_ofInt, show Int32.size = 4294967296 from rfl, Int.bmod_def]
  split <;> omega
theorem inv_len {M : Nat → Prop} {E : List Nat} {S S' : Mem} {a : Nat} {v : Int32} (e : S' = sI S 194 a (v + 1)) (h : INV M E S) (hv : vp_in v 20) : INV M E S' := by
  obtain ⟨k, h1, h2⟩ := i32_sc hv (by decide)
  exact inv_sIn e h h2 ⟨fun _ => h1, fun z => by cases z⟩
theorem ct_cons {l : Launch} {y : MethodName} {cc : ByteArray} {maxL : Nat} {ret : Option FieldType} {f mc ms lo : Nat} {Pre Pre' : Mem → List Value → Prop} {Post Post' : Mem → List Value → Option Value → Mem → Prop} (h : Ct l y cc maxL ret f mc ms lo Pre Post) (h0 : ∀ S av, Pre' S av → Pre S av) (hp : ∀ S av r S', Pre' S av → Post S av r S' → Post' S av r S') : Ct l y cc maxL ret f mc ms lo Pre' Post' := fun D G bs S av hpre p e ha hc hk s m args below hf h1 h2 h3 => by
  obtain ⟨t, o, g1, g2, g3, ⟨⟨r, S', e1, e2, e3⟩, e4⟩, g5⟩ := h D G bs S av (h0 _ _ hpre) p e ha hc hk s m args below hf h1 h2 h3
  exact ⟨t, o, g1, g2, g3, ⟨⟨r, S', e1, hp _ _ _ _ hpre e2, e3⟩, e4⟩, g5⟩
theorem FT_c3 : ∀ q ∈ FT, q.1 / 64 = 3 → q = (192, 11, 20, false) ∨ q = (193, 11, 20, false) := by decide +kernel
theorem FT_c8 : ∀ q ∈ FT, q.1 / 64 = 8 → q = (512, 3, 0, false) ∨ q = (513, 16, 12, false) ∨ q = (514, 16, 12, false) := by decide +kernel
theorem FT_c5 : ∀ q ∈ FT, q.1 / 64 = 5 → q = (325, 11, 8, false) ∨ q = (326, 11, 8, false) ∨ q = (327, 11, 8, false) := by decide +kernel
theorem FT_c2 : ∀ q ∈ FT, q.1 / 64 = 2 → q = (130, 3, 0, false) ∨ q = (131, 11, 5, false) ∨ q = (133, 16, 12, false) ∨ q = (134, 13, 240, false) ∨ q = (136, 11, 240, false) ∨ q = (137, 11, 240, false) ∨ q = (139, 11, 12, false) ∨ q = (140, 12, 4, false) := by decide +kernel
theorem sc_X3_init (l : Launch) (M : Nat → Prop) (E : List Nat) (h : Nat) : Ct l yX3_init cX3_init 1 none 1 2 40 23 (fun S av => av = [.ref h] ∧ INV M (h :: E) S ∧ is S h 3 ∧ mI S 194 h = 0) (fun S _ r S' => r = none ∧ INV M E S' ∧ ext S S' (fun a => a = h)) := by
  refine ct_cons (ct_X3_init l h) (fun S av k => ⟨k.1, k.2.2.1⟩) ?_
  rintro S av r S' ⟨_, iv, i, z⟩ ⟨e0, r1, r2, n1, n2, n3, e⟩
  have la := lineAt_nLineE e i n1 n2 n3
  have m1 := inv_new iv n1
  have m2 := inv_new iv n2
  have g1 := inv_sArr (kd := 11) (n := 20) rfl iv n1 (by decide)
  have g2 := inv_sO (g := 192) (a := h) (v := some r1) rfl g1 (Or.inl List.mem_cons_self)
  have n2' : ¬ r2 ∈ mL (sO (sArr S r1 11 20) 192 h (some r1)) := by
    rw [mL_sO, mL_sArr]
    exact fun z => (List.mem_append.mp z).elim n2 (fun z => n3 (List.mem_singleton.mp z))
  have g3 := inv_sArr (kd := 11) (n := 20) rfl g2 n2' (by decide)
  have g4 := inv_sO (g := 193) (a := h) (v := some r2) rfl g3 (Or.inl List.mem_cons_self)
  have g5 := inv_sFill (a := r2) (n := 20) (v := -1) (S' := S') e g4
  refine ⟨e0, inv_done g5 la.1.2 ?_ (fun _ => ⟨0, by decide, ?_⟩) (fun z => by cases z), x_nLine e n1 n2 n3⟩
  · intro q hq hc
    rcases FT_c3 q hq hc with rfl | rfl
    · exact Or.inr ⟨_, la.2.1, Or.inr ⟨by decide, la.2.2.1, m1⟩⟩
    · exact Or.inr ⟨_, la.2.2.2.1, Or.inr ⟨by decide, la.2.2.2.2, m2⟩⟩
  · rw [e, mI_nLine, z]; rfl
theorem dX3_empty_0 : decode cX3_empty 0 = .ok (.aload_n 0, 1) := by decide +kernel
theorem dX3_empty_1 : decode cX3_empty 1 = .ok (.getfield 15, 3) := by decide +kernel
theorem dX3_empty_4 : decode cX3_empty 4 = .ok (.iconst (-1), 1) := by decide +kernel
theorem dX3_empty_5 : decode cX3_empty 5 = .ok (.invokestatic 18, 3) := by decide +kernel
theorem dX3_empty_8 : decode cX3_empty 8 = .ok (.aload_n 0, 1) := by decide +kernel
theorem dX3_empty_9 : decode cX3_empty 9 = .ok (.iconst 0, 1) := by decide +kernel
theorem dX3_empty_10 : decode cX3_empty 10 = .ok (.putfield 24, 3) := by decide +kernel
theorem dX3_empty_13 : decode cX3_empty 13 = .ok (.return_, 1) := by decide +kernel
set_option maxRecDepth 100000 in
set_option maxHeartbeats 4000000 in
theorem st_X3_empty (l : Launch) (M : Nat → Prop) (h : Nat) : Ct l yX3_empty cX3_empty 1 none 1 0 0 23 (fun S av => av = [.ref h] ∧ INV M [] S ∧ is S h 3) (fun S _ r S' => r = none ∧ INV M [] S' ∧ ext S S' (fun a => ¬ M a ∧ mK S a ∈ [3, 11])) := by
  refine ct_of (by decide) (fun S av h => by obtain ⟨rfl, iv, i_this⟩ := h; exact Nat.le_of_ble_eq_true rfl) ?_
  intro p e s m args below meth c D G bs S av C hr hin hpre
  obtain ⟨rfl, iv, i_this⟩ := hpre
  have E0 : ext S S (fun a => ¬ M a ∧ mK S a ∈ [3, 11]) := ext_rfl
  refine v_aload_n C dX3_empty_0 rfl ?_
  obtain ⟨r1, e_r1, i_r1, m_r1⟩ := T193 iv i_this List.not_mem_nil
  refine r3_15 (b := r1) C i_this e_r1 dX3_empty_1 ?_
  refine v_iconst (v := -1) C dX3_empty_4 (by decide) ?_
  refine v_callS (As := [_, _]) (n := 2) C (ct_J7_fill_53178 l _ _ _) rfl ⟨wd54, wd55, wd56, wd57⟩ hy_J7_fill_53178 rfl ⟨Nat.le_of_ble_eq_true rfl, Nat.le_of_ble_eq_true rfl⟩ (Nat.le_of_ble_eq_true rfl) ⟨Nat.le_of_ble_eq_true rfl, Nat.le_of_ble_eq_true rfl⟩ dX3_empty_5 ⟨rfl, i_r1, by decide⟩ (fun r_5 S2_5 h_5 => ?_)
  obtain ⟨rfl, e_5⟩ := h_5
  have iv' := inv_sFill e_5 iv
  have x_5 := x_sFill e_5
  have E0' := ext_tr E0 x_5 (xk_A E0 i_r1 m_r1 (by decide))
  have E0 := E0'
  have i_this := is_ext x_5 i_this
  have i_r1 := isA_ext x_5 i_r1
  have iv := iv'
  refine v_aload_n C dX3_empty_8 rfl ?_
  refine v_iconst (v := 0) C dX3_empty_9 (by decide) ?_
  refine p3_24 C i_this dX3_empty_10 ?_
  refine V.gen (fun S2_10 e_10 => ?_)
  have iv' := inv_sIn e_10 iv (n := 0) rfl ⟨fun _ => by decide, fun _ => by decide⟩
  have x_10 := x_sI e_10
  have E0' := ext_tr E0 x_10 (xk_is E0 i_this iv (by decide) (by decide))
  have E0 := E0'
  have i_this := is_ext x_10 i_this
  have i_r1 := isA_ext x_10 i_r1
  have iv := iv'
  refine v_vret C hr (Nat.le_of_ble_eq_true rfl) (Nat.le_of_ble_eq_true rfl) dX3_empty_13 ?_
  exact ⟨rfl, iv, E0⟩
theorem dX3_add_0 : decode cX3_add 0 = .ok (.iload_n 1, 1) := by decide +kernel
theorem dX3_add_1 : decode cX3_add 1 = .ok (.bipush 20, 2) := by decide +kernel
theorem dX3_add_3 : decode cX3_add 3 = .ok (.invokestatic 28, 3) := by decide +kernel
theorem dX3_add_6 : decode cX3_add 6 = .ok (.ifCond .eq 45, 3) := by decide +kernel
theorem dX3_add_9 : decode cX3_add 9 = .ok (.aload_n 0, 1) := by decide +kernel
theorem dX3_add_10 : decode cX3_add 10 = .ok (.getfield 24, 3) := by decide +kernel
theorem dX3_add_13 : decode cX3_add 13 = .ok (.bipush 20, 2) := by decide +kernel
theorem dX3_add_15 : decode cX3_add 15 = .ok (.invokestatic 28, 3) := by decide +kernel
theorem dX3_add_18 : decode cX3_add 18 = .ok (.ifCond .eq 33, 3) := by decide +kernel
theorem dX3_add_21 : decode cX3_add 21 = .ok (.aload_n 0, 1) := by decide +kernel
theorem dX3_add_22 : decode cX3_add 22 = .ok (.getfield 9, 3) := by decide +kernel
theorem dX3_add_25 : decode cX3_add 25 = .ok (.aload_n 0, 1) := by decide +kernel
theorem dX3_add_26 : decode cX3_add 26 = .ok (.getfield 24, 3) := by decide +kernel
theorem dX3_add_29 : decode cX3_add 29 = .ok (.iload_n 1, 1) := by decide +kernel
theorem dX3_add_30 : decode cX3_add 30 = .ok (.iastore, 1) := by decide +kernel
theorem dX3_add_31 : decode cX3_add 31 = .ok (.aload_n 0, 1) := by decide +kernel
theorem dX3_add_32 : decode cX3_add 32 = .ok (.getfield 15, 3) := by decide +kernel
theorem dX3_add_35 : decode cX3_add 35 = .ok (.iload_n 1, 1) := by decide +kernel
theorem dX3_add_36 : decode cX3_add 36 = .ok (.aload_n 0, 1) := by decide +kernel
theorem dX3_add_37 : decode cX3_add 37 = .ok (.getfield 24, 3) := by decide +kernel
theorem dX3_add_40 : decode cX3_add 40 = .ok (.iastore, 1) := by decide +kernel
theorem dX3_add_41 : decode cX3_add 41 = .ok (.aload_n 0, 1) := by decide +kernel
theorem dX3_add_42 : decode cX3_add 42 = .ok (.dup, 1) := by decide +kernel
theorem dX3_add_43 : decode cX3_add 43 = .ok (.getfield 24, 3) := by decide +kernel
theorem dX3_add_46 : decode cX3_add 46 = .ok (.iconst 1, 1) := by decide +kernel
theorem dX3_add_47 : decode cX3_add 47 = .ok (.iadd, 1) := by decide +kernel
theorem dX3_add_48 : decode cX3_add 48 = .ok (.putfield 24, 3) := by decide +kernel
theorem dX3_add_51 : decode cX3_add 51 = .ok (.return_, 1) := by decide +kernel
set_option maxRecDepth 100000 in
set_option maxHeartbeats 4000000 in
theorem st_X3_add (l : Launch) (M : Nat → Prop) (h : Nat) (p0 : Int32) : Ct l yX3_add cX3_add 2 none 1 0 0 21 (fun S av => av = [.ref h, .int p0] ∧ INV M [] S ∧ is S h 3) (fun S _ r S' => r = none ∧ INV M [] S' ∧ ext S S' (fun a => ¬ M a ∧ mK S a ∈ [3, 11])) := by
  refine ct_of (by decide) (fun S av h => by obtain ⟨rfl, iv, i_this⟩ := h; exact Nat.le_of_ble_eq_true rfl) ?_
  intro p e s m args below meth c D G bs S av C hr hin hpre
  obtain ⟨rfl, iv, i_this⟩ := hpre
  have E0 : ext S S (fun a => ¬ M a ∧ mK S a ∈ [3, 11]) := ext_rfl
  refine v_iload_n C dX3_add_0 rfl ?_
  refine v_bipush (v := 20) C dX3_add_1 (by decide) ?_
  refine v_callSN (As := [_, _]) (n := 2) C (sb_isBelow l _ _) rfl ⟨(by decide +kernel), wd141, wd2, wd142⟩ hy_X9_isBelow rfl ⟨Nat.le_of_ble_eq_true rfl, Nat.le_of_ble_eq_true rfl⟩ (Nat.le_of_ble_eq_true rfl) ⟨Nat.le_of_ble_eq_true rfl, Nat.le_of_ble_eq_true rfl⟩ dX3_add_3 rfl (fun r_3 S2_3 h_3 => ?_)
  obtain ⟨v3, rfl, p_v3, q_v3⟩ := h_3
  obtain rfl := q_v3.symm
  refine v_if_eq (tgt := 51) C dX3_add_6 (by decide) (fun c_6 => ?_) (fun c_6 => ?_)
  · skip
    refine v_vret C hr (Nat.le_of_ble_eq_true rfl) (Nat.le_of_ble_eq_true rfl) dX3_add_51 ?_
    exact ⟨rfl, iv, E0⟩
  · skip
    refine v_aload_n C dX3_add_9 rfl ?_
    refine g3_24 C i_this dX3_add_10 ?_
    refine v_topi (fun v10 e_v10 => ?_)
    refine v_bipush (v := 20) C dX3_add_13 (by decide) ?_
    refine v_callSN (As := [_, _]) (n := 2) C (sb_isBelow l _ _) rfl ⟨(by decide +kernel), wd141, wd2, wd142⟩ hy_X9_isBelow rfl ⟨Nat.le_of_ble_eq_true rfl, Nat.le_of_ble_eq_true rfl⟩ (Nat.le_of_ble_eq_true rfl) ⟨Nat.le_of_ble_eq_true rfl, Nat.le_of_ble_eq_true rfl⟩ dX3_add_15 rfl (fun r_15 S4_15 h_15 => ?_)
    obtain ⟨v15, rfl, p_v15, q_v15⟩ := h_15
    obtain rfl := q_v15.symm
    refine v_if_eq (tgt := 51) C dX3_add_18 (by decide) (fun c_18 => ?_) (fun c_18 => ?_)
    · skip
      refine v_vret C hr (Nat.le_of_ble_eq_true rfl) (Nat.le_of_ble_eq_true rfl) dX3_add_51 ?_
      exact ⟨rfl, iv, E0⟩
    · skip
      refine v_aload_n C dX3_add_21 rfl ?_
      obtain ⟨r22, e_r22, i_r22, m_r22⟩ := T192 iv i_this List.not_mem_nil
      refine r3_9 (b := r22) C i_this e_r22 dX3_add_22 ?_
      refine v_aload_n C dX3_add_25 rfl ?_
      refine g3_24 C i_this dX3_add_26 ?_
      refine v_topi (fun v26 e_v26 => ?_)
      refine v_iload_n C dX3_add_29 rfl ?_
      refine v_iast C i_r22 (eq_in (e_v26.trans e_v10.symm) (bI_ne p_v15 c_18 rfl)) dX3_add_30 ?_
      refine V.gen (fun S6_30 e_30 => ?_)
      have iv' := inv_sA e_30 iv
      have x_30 := x_sA e_30
      have E0' := ext_tr E0 x_30 (xk_A E0 i_r22 m_r22 (by decide))
      have E0 := E0'
      have i_this := is_ext x_30 i_this
      have i_r22 := isA_ext x_30 i_r22
      have iv := iv'
      refine v_aload_n C dX3_add_31 rfl ?_
      obtain ⟨r32, e_r32, i_r32, m_r32⟩ := T193 iv i_this List.not_mem_nil
      refine r3_15 (b := r32) C i_this e_r32 dX3_add_32 ?_
      refine v_iload_n C dX3_add_35 rfl ?_
      refine v_aload_n C dX3_add_36 rfl ?_
      refine g3_24 C i_this dX3_add_37 ?_
      refine v_topi (fun v37 e_v37 => ?_)
      refine v_iast C i_r32 (bI_ne p_v3 c_6 rfl) dX3_add_40 ?_
      refine V.gen (fun S6_40 e_40 => ?_)
      have iv' := inv_sA e_40 iv
      have x_40 := x_sA e_40
      have E0' := ext_tr E0 x_40 (xk_A E0 i_r32 m_r32 (by decide))
      have E0 := E0'
      have i_this := is_ext x_40 i_this
      have i_r22 := isA_ext x_40 i_r22
      have i_r32 := isA_ext x_40 i_r32
      have iv := iv'
      refine v_aload_n C dX3_add_41 rfl ?_
      refine v_dup C dX3_add_42 rfl ?_
      refine g3_24 C i_this dX3_add_43 ?_
      refine v_topi (fun v43 e_v43 => ?_)
      refine v_iconst (v := 1) C dX3_add_46 (by decide) ?_
      refine v_iadd C dX3_add_47 ?_
      refine p3_24 C i_this dX3_add_48 ?_
      refine V.gen (fun S6_48 e_48 => ?_)
      have iv' := inv_len e_48 iv (eq_in (e_v43.trans ((mI_A e_40).trans ((mI_A e_30).trans e_v10.symm))) (bI_ne p_v15 c_18 rfl))
      have x_48 := x_sI e_48
      have E0' := ext_tr E0 x_48 (xk_is E0 i_this iv (by decide) (by decide))
      have E0 := E0'
      have i_this := is_ext x_48 i_this
      have i_r22 := isA_ext x_48 i_r22
      have i_r32 := isA_ext x_48 i_r32
      have iv := iv'
      refine v_vret C hr (Nat.le_of_ble_eq_true rfl) (Nat.le_of_ble_eq_true rfl) dX3_add_51 ?_
      exact ⟨rfl, iv, E0⟩
theorem dX3_addAll_0 : decode cX3_addAll 0 = .ok (.iconst 0, 1) := by decide +kernel
theorem dX3_addAll_1 : decode cX3_addAll 1 = .ok (.istore_n 2, 1) := by decide +kernel
theorem dX3_addAll_2 : decode cX3_addAll 2 = .ok (.iload_n 2, 1) := by decide +kernel
theorem dX3_addAll_3 : decode cX3_addAll 3 = .ok (.aload_n 1, 1) := by decide +kernel
theorem dX3_addAll_4 : decode cX3_addAll 4 = .ok (.getfield 24, 3) := by decide +kernel
theorem dX3_addAll_7 : decode cX3_addAll 7 = .ok (.if_icmp .ge 18, 3) := by decide +kernel
theorem dX3_addAll_10 : decode cX3_addAll 10 = .ok (.aload_n 0, 1) := by decide +kernel
theorem dX3_addAll_11 : decode cX3_addAll 11 = .ok (.aload_n 1, 1) := by decide +kernel
theorem dX3_addAll_12 : decode cX3_addAll 12 = .ok (.iload_n 2, 1) := by decide +kernel
theorem dX3_addAll_13 : decode cX3_addAll 13 = .ok (.invokevirtual 32, 3) := by decide +kernel
theorem dX3_addAll_16 : decode cX3_addAll 16 = .ok (.invokevirtual 36, 3) := by decide +kernel
theorem dX3_addAll_19 : decode cX3_addAll 19 = .ok (.iinc 2 1, 3) := by decide +kernel
theorem dX3_addAll_22 : decode cX3_addAll 22 = .ok (.goto (-20), 3) := by decide +kernel
theorem dX3_addAll_25 : decode cX3_addAll 25 = .ok (.return_, 1) := by decide +kernel
set_option maxRecDepth 100000 in
set_option maxHeartbeats 4000000 in
theorem st_X3_addAll (l : Launch) (M : Nat → Prop) (h : Nat) (p0 : Nat) : Ct l yX3_addAll cX3_addAll 3 none 2 0 0 42 (fun S av => av = [.ref h, .ref p0] ∧ INV M [] S ∧ is S h 3 ∧ is S p0 3) (fun S _ r S' => r = none ∧ INV M [] S' ∧ ext S S' (fun a => ¬ M a ∧ mK S a ∈ [3, 11])) := by
  refine ct_of (by decide) (fun S av h => by obtain ⟨rfl, iv, i_this, i_p0⟩ := h; exact Nat.le_of_ble_eq_true rfl) ?_
  intro p e s m args below meth c D G bs S av C hr hin hpre
  obtain ⟨rfl, iv, i_this, i_p0⟩ := hpre
  have E0 : ext S S (fun a => ¬ M a ∧ mK S a ∈ [3, 11]) := ext_rfl
  refine v_iconst (v := 0) C dX3_addAll_0 (by decide) ?_
  refine v_istore_n C dX3_addAll_1 (by decide) (by first | rfl | exact cat_ok _ | simp [okS, cat_rf]) ?_
  refine V.lits (lv' := [_, _, _]) rfl ?_
  refine v_loop (fun (t : Int32) lv0 => (lv0.set 2 (some (.int t)))) (fun (S1 : Mem) (t : Int32) => INV M [] S1 ∧ is S1 h 3 ∧ is S1 p0 3 ∧ ext S S1 (fun a => ¬ M a ∧ mK S a ∈ [3, 11])) (fun (S1 : Mem) (t : Int32) => upm t) (t := _) rfl ⟨iv, i_this, i_p0, E0⟩ ?_
  intro L2 t h_2 ih_2
  revert h_2 ih_2
  revert t
  intro t0_2 h_2 ih_2
  obtain ⟨iv, i_this, i_p0, E0⟩ := h_2
  try dsimp only
  refine v_iload_n C dX3_addAll_2 rfl ?_
  refine v_aload_n C dX3_addAll_3 rfl ?_
  refine g3_24 C i_p0 dX3_addAll_4 ?_
  refine v_topi (fun v4 e_v4 => ?_)
  refine v_icmp_ge (tgt := 25) C dX3_addAll_7 (by decide) (fun c_7 => ?_) (fun c_7 => ?_)
  · skip
    refine v_vret C hr (Nat.le_of_ble_eq_true rfl) (Nat.le_of_ble_eq_true rfl) dX3_addAll_25 ?_
    exact ⟨rfl, iv, E0⟩
  · skip
    refine v_aload_n C dX3_addAll_10 rfl ?_
    refine v_aload_n C dX3_addAll_11 rfl ?_
    refine v_iload_n C dX3_addAll_12 rfl ?_
    refine v_callV (As := [_]) (n := 1) C (st_X3_at l _ _ _) rfl i_p0 (by decide) rfl ⟨wd228, wd187, wd188, wd45, wd189⟩ ⟨rfl, hy_X3_at⟩ rfl ⟨Nat.le_of_ble_eq_true rfl, Nat.le_of_ble_eq_true rfl⟩ (Nat.le_of_ble_eq_true rfl) ⟨Nat.le_of_ble_eq_true rfl, Nat.le_of_ble_eq_true rfl⟩ dX3_addAll_13 ⟨rfl, iv, i_p0⟩ (fun r_13 S2_13 h_13 => ?_)
    obtain ⟨v13, rfl, q_v13⟩ := h_13
    obtain rfl := q_v13.symm
    refine v_callV (As := [_]) (n := 1) C (st_X3_add l _ _ _) rfl i_this (by decide) rfl ⟨wd229, wd167, wd168, wd45, wd169⟩ ⟨rfl, hy_X3_add⟩ rfl ⟨Nat.le_of_ble_eq_true rfl, Nat.le_of_ble_eq_true rfl⟩ (Nat.le_of_ble_eq_true rfl) ⟨Nat.le_of_ble_eq_true rfl, Nat.le_of_ble_eq_true rfl⟩ dX3_addAll_16 ⟨rfl, iv, i_this⟩ (fun r_16 S2_16 h_16 => ?_)
    obtain ⟨rfl, iv2, x_16⟩ := h_16
    have i_this := is_ext x_16 i_this
    have i_p0 := is_ext x_16 i_p0
    have E0' := ext_tr E0 x_16 (xk_call E0 (by decide))
    have E0 := E0'
    have iv := iv2
    refine v_iinc C dX3_addAll_19 rfl rfl (by decide) (by first | rfl | exact cat_ok _ | simp [okS, cat_rf]) ?_
    refine v_goto (tgt := 2) C dX3_addAll_22 (by decide) ?_
    refine V.lits (lv' := [_, _, _]) rfl ?_
    exact ih_2 _ _ (upm_lt c_7) ⟨iv, i_this, i_p0, E0⟩
theorem dX5_addOp_0 : decode cX5_addOp 0 = .ok (.aload_n 0, 1) := by decide +kernel
theorem dX5_addOp_1 : decode cX5_addOp 1 = .ok (.getfield 38, 3) := by decide +kernel
theorem dX5_addOp_4 : decode cX5_addOp 4 = .ok (.bipush 8, 2) := by decide +kernel
theorem dX5_addOp_6 : decode cX5_addOp 6 = .ok (.invokestatic 41, 3) := by decide +kernel
theorem dX5_addOp_9 : decode cX5_addOp 9 = .ok (.ifCond .eq 43, 3) := by decide +kernel
theorem dX5_addOp_12 : decode cX5_addOp 12 = .ok (.aload_n 0, 1) := by decide +kernel
theorem dX5_addOp_13 : decode cX5_addOp 13 = .ok (.getfield 9, 3) := by decide +kernel
theorem dX5_addOp_16 : decode cX5_addOp 16 = .ok (.aload_n 0, 1) := by decide +kernel
theorem dX5_addOp_17 : decode cX5_addOp 17 = .ok (.getfield 38, 3) := by decide +kernel
theorem dX5_addOp_20 : decode cX5_addOp 20 = .ok (.iload_n 1, 1) := by decide +kernel
theorem dX5_addOp_21 : decode cX5_addOp 21 = .ok (.iastore, 1) := by decide +kernel
theorem dX5_addOp_22 : decode cX5_addOp 22 = .ok (.aload_n 0, 1) := by decide +kernel
theorem dX5_addOp_23 : decode cX5_addOp 23 = .ok (.getfield 15, 3) := by decide +kernel
theorem dX5_addOp_26 : decode cX5_addOp 26 = .ok (.aload_n 0, 1) := by decide +kernel
theorem dX5_addOp_27 : decode cX5_addOp 27 = .ok (.getfield 38, 3) := by decide +kernel
theorem dX5_addOp_30 : decode cX5_addOp 30 = .ok (.iload_n 2, 1) := by decide +kernel
theorem dX5_addOp_31 : decode cX5_addOp 31 = .ok (.iastore, 1) := by decide +kernel
theorem dX5_addOp_32 : decode cX5_addOp 32 = .ok (.aload_n 0, 1) := by decide +kernel
theorem dX5_addOp_33 : decode cX5_addOp 33 = .ok (.getfield 18, 3) := by decide +kernel
theorem dX5_addOp_36 : decode cX5_addOp 36 = .ok (.aload_n 0, 1) := by decide +kernel
theorem dX5_addOp_37 : decode cX5_addOp 37 = .ok (.getfield 38, 3) := by decide +kernel
theorem dX5_addOp_40 : decode cX5_addOp 40 = .ok (.iload_n 3, 1) := by decide +kernel
theorem dX5_addOp_41 : decode cX5_addOp 41 = .ok (.iastore, 1) := by decide +kernel
theorem dX5_addOp_42 : decode cX5_addOp 42 = .ok (.aload_n 0, 1) := by decide +kernel
theorem dX5_addOp_43 : decode cX5_addOp 43 = .ok (.dup, 1) := by decide +kernel
theorem dX5_addOp_44 : decode cX5_addOp 44 = .ok (.getfield 38, 3) := by decide +kernel
theorem dX5_addOp_47 : decode cX5_addOp 47 = .ok (.iconst 1, 1) := by decide +kernel
theorem dX5_addOp_48 : decode cX5_addOp 48 = .ok (.iadd, 1) := by decide +kernel
theorem dX5_addOp_49 : decode cX5_addOp 49 = .ok (.putfield 38, 3) := by decide +kernel
theorem dX5_addOp_52 : decode cX5_addOp 52 = .ok (.aload_n 0, 1) := by decide +kernel
theorem dX5_addOp_53 : decode cX5_addOp 53 = .ok (.getfield 38, 3) := by decide +kernel
theorem dX5_addOp_56 : decode cX5_addOp 56 = .ok (.ireturn, 1) := by decide +kernel
set_option maxRecDepth 100000 in
set_option maxHeartbeats 4000000 in
theorem st_X5_addOp (l : Launch) (M : Nat → Prop) (h : Nat) (p0 : Int32) (p1 : Int32) (p2 : Int32) : Ct l yX5_addOp cX5_addOp 4 (some .int) 1 0 0 21 (fun S av => av = [.ref h, .int p0, .int p1, .int p2] ∧ INV M [] S ∧ is S h 5) (fun S _ r S' => ∃ v, r = some (.int v) ∧ INV M [] S' ∧ ext S S' (fun a => ¬ M a ∧ mK S a ∈ [5, 11])) := by
  refine ct_of (by decide) (fun S av h => by obtain ⟨rfl, iv, i_this⟩ := h; exact Nat.le_of_ble_eq_true rfl) ?_
  intro p e s m args below meth c D G bs S av C hr hin hpre
  obtain ⟨rfl, iv, i_this⟩ := hpre
  have E0 : ext S S (fun a => ¬ M a ∧ mK S a ∈ [5, 11]) := ext_rfl
  refine v_aload_n C dX5_addOp_0 rfl ?_
  refine g5_38 C i_this dX5_addOp_1 ?_
  refine v_topi (fun v1 e_v1 => ?_)
  refine v_bipush (v := 8) C dX5_addOp_4 (by decide) ?_
  refine v_callSN (As := [_, _]) (n := 2) C (sb_isBelow l _ _) rfl ⟨(by decide +kernel), wd141, wd2, wd142⟩ hy_X9_isBelow rfl ⟨Nat.le_of_ble_eq_true rfl, Nat.le_of_ble_eq_true rfl⟩ (Nat.le_of_ble_eq_true rfl) ⟨Nat.le_of_ble_eq_true rfl, Nat.le_of_ble_eq_true rfl⟩ dX5_addOp_6 rfl (fun r_6 S2_6 h_6 => ?_)
  obtain ⟨v6, rfl, p_v6, q_v6⟩ := h_6
  obtain rfl := q_v6.symm
  refine v_if_eq (tgt := 52) C dX5_addOp_9 (by decide) (fun c_9 => ?_) (fun c_9 => ?_)
  · skip
    refine v_aload_n C dX5_addOp_52 rfl ?_
    refine g5_38 C i_this dX5_addOp_53 ?_
    refine v_topi (fun v53 e_v53 => ?_)
    refine v_iret C hr (Nat.le_of_ble_eq_true rfl) (Nat.le_of_ble_eq_true rfl) dX5_addOp_56 ?_
    exact ⟨_, rfl, iv, E0⟩
  · skip
    refine v_aload_n C dX5_addOp_12 rfl ?_
    obtain ⟨r13, e_r13, i_r13, m_r13⟩ := T325 iv i_this List.not_mem_nil
    refine r5_9 (b := r13) C i_this e_r13 dX5_addOp_13 ?_
    refine v_aload_n C dX5_addOp_16 rfl ?_
    refine g5_38 C i_this dX5_addOp_17 ?_
    refine v_topi (fun v17 e_v17 => ?_)
    refine v_iload_n C dX5_addOp_20 rfl ?_
    refine v_iast C i_r13 (eq_in (e_v17.trans e_v1.symm) (bI_ne p_v6 c_9 rfl)) dX5_addOp_21 ?_
    refine V.gen (fun S4_21 e_21 => ?_)
    have iv' := inv_sA e_21 iv
    have x_21 := x_sA e_21
    have E0' := ext_tr E0 x_21 (xk_A E0 i_r13 m_r13 (by decide))
    have E0 := E0'
    have i_this := is_ext x_21 i_this
    have i_r13 := isA_ext x_21 i_r13
    have iv := iv'
    refine v_aload_n C dX5_addOp_22 rfl ?_
    obtain ⟨r23, e_r23, i_r23, m_r23⟩ := T326 iv i_this List.not_mem_nil
    refine r5_15 (b := r23) C i_this e_r23 dX5_addOp_23 ?_
    refine v_aload_n C dX5_addOp_26 rfl ?_
    refine g5_38 C i_this dX5_addOp_27 ?_
    refine v_topi (fun v27 e_v27 => ?_)
    refine v_iload_n C dX5_addOp_30 rfl ?_
    refine v_iast C i_r23 (eq_in (e_v27.trans ((mI_A e_21).trans e_v1.symm)) (bI_ne p_v6 c_9 rfl)) dX5_addOp_31 ?_
    refine V.gen (fun S4_31 e_31 => ?_)
    have iv' := inv_sA e_31 iv
    have x_31 := x_sA e_31
    have E0' := ext_tr E0 x_31 (xk_A E0 i_r23 m_r23 (by decide))
    have E0 := E0'
    have i_this := is_ext x_31 i_this
    have i_r13 := isA_ext x_31 i_r13
    have i_r23 := isA_ext x_31 i_r23
    have iv := iv'
    refine v_aload_n C dX5_addOp_32 rfl ?_
    obtain ⟨r33, e_r33, i_r33, m_r33⟩ := T327 iv i_this List.not_mem_nil
    refine r5_18 (b := r33) C i_this e_r33 dX5_addOp_33 ?_
    refine v_aload_n C dX5_addOp_36 rfl ?_
    refine g5_38 C i_this dX5_addOp_37 ?_
    refine v_topi (fun v37 e_v37 => ?_)
    refine v_iload_n C dX5_addOp_40 rfl ?_
    refine v_iast C i_r33 (eq_in (e_v37.trans ((mI_A e_31).trans ((mI_A e_21).trans e_v1.symm))) (bI_ne p_v6 c_9 rfl)) dX5_addOp_41 ?_
    refine V.gen (fun S4_41 e_41 => ?_)
    have iv' := inv_sA e_41 iv
    have x_41 := x_sA e_41
    have E0' := ext_tr E0 x_41 (xk_A E0 i_r33 m_r33 (by decide))
    have E0 := E0'
    have i_this := is_ext x_41 i_this
    have i_r13 := isA_ext x_41 i_r13
    have i_r23 := isA_ext x_41 i_r23
    have i_r33 := isA_ext x_41 i_r33
    have iv := iv'
    refine v_aload_n C dX5_addOp_42 rfl ?_
    refine v_dup C dX5_addOp_43 rfl ?_
    refine g5_38 C i_this dX5_addOp_44 ?_
    refine v_topi (fun v44 e_v44 => ?_)
    refine v_iconst (v := 1) C dX5_addOp_47 (by decide) ?_
    refine v_iadd C dX5_addOp_48 ?_
    refine p5_38 C i_this dX5_addOp_49 ?_
    refine V.gen (fun S4_49 e_49 => ?_)
    have iv' := inv_sI e_49 iv (by decide) (by decide)
    have x_49 := x_sI e_49
    have E0' := ext_tr E0 x_49 (xk_is E0 i_this iv (by decide) (by decide))
    have E0 := E0'
    have i_this := is_ext x_49 i_this
    have i_r13 := isA_ext x_49 i_r13
    have i_r23 := isA_ext x_49 i_r23
    have i_r33 := isA_ext x_49 i_r33
    have iv := iv'
    refine v_aload_n C dX5_addOp_52 rfl ?_
    refine g5_38 C i_this dX5_addOp_53 ?_
    refine v_topi (fun v53 e_v53 => ?_)
    refine v_iret C hr (Nat.le_of_ble_eq_true rfl) (Nat.le_of_ble_eq_true rfl) dX5_addOp_56 ?_
    exact ⟨_, rfl, iv, E0⟩
theorem dX8_init_0 : decode cX8_init 0 = .ok (.aload_n 0, 1) := by decide +kernel
theorem dX8_init_1 : decode cX8_init 1 = .ok (.invokespecial 3, 3) := by decide +kernel
theorem dX8_init_4 : decode cX8_init 4 = .ok (.aload_n 0, 1) := by decide +kernel
theorem dX8_init_5 : decode cX8_init 5 = .ok (.new 9, 3) := by decide +kernel
theorem dX8_init_8 : decode cX8_init 8 = .ok (.dup, 1) := by decide +kernel
theorem dX8_init_9 : decode cX8_init 9 = .ok (.invokespecial 11, 3) := by decide +kernel
theorem dX8_init_12 : decode cX8_init 12 = .ok (.putfield 12, 3) := by decide +kernel
theorem dX8_init_15 : decode cX8_init 15 = .ok (.aload_n 0, 1) := by decide +kernel
theorem dX8_init_16 : decode cX8_init 16 = .ok (.bipush 12, 2) := by decide +kernel
theorem dX8_init_18 : decode cX8_init 18 = .ok (.anewarray 18, 3) := by decide +kernel
theorem dX8_init_21 : decode cX8_init 21 = .ok (.putfield 20, 3) := by decide +kernel
theorem dX8_init_24 : decode cX8_init 24 = .ok (.aload_n 0, 1) := by decide +kernel
theorem dX8_init_25 : decode cX8_init 25 = .ok (.bipush 12, 2) := by decide +kernel
theorem dX8_init_27 : decode cX8_init 27 = .ok (.anewarray 18, 3) := by decide +kernel
theorem dX8_init_30 : decode cX8_init 30 = .ok (.putfield 24, 3) := by decide +kernel
theorem dX8_init_33 : decode cX8_init 33 = .ok (.return_, 1) := by decide +kernel
set_option maxRecDepth 100000 in
set_option maxHeartbeats 4000000 in
theorem st_X8_init (l : Launch) (M : Nat → Prop) (E : List Nat) (h : Nat) : Ct l yX8_init cX8_init 1 none 2 5 67 43 (fun S av => av = [.ref h] ∧ INV M (h :: E) S ∧ is S h 8) (fun S _ r S' => r = none ∧ INV M E S' ∧ ext S S' (fun a => a = h)) := by
  refine ct_of (by decide) (fun S av h => by obtain ⟨rfl, iv, i_this⟩ := h; exact Nat.le_of_ble_eq_true rfl) ?_
  intro p e s m args below meth c D G bs S av C hr hin hpre
  obtain ⟨rfl, iv, i_this⟩ := hpre
  have E0 : ext S S (fun a => a = h) := ext_rfl
  refine v_aload_n C dX8_init_0 rfl ?_
  refine v_objInit C wd216 wd11 wd12 dX8_init_1 (Nat.le_of_ble_eq_true rfl) (Nat.le_of_ble_eq_true rfl) ?_
  refine v_aload_n C dX8_init_4 rfl ?_
  refine v_new C (ci := 3) (by decide) rfl inlX3 tyX3_ok wd217 wd44 wd45 nfX3 (Nat.le_of_ble_eq_true rfl) (Nat.le_of_ble_eq_true rfl) dX8_init_5 (fun a5 n_a5 => ?_)
  have nn_a5 := fun z => n_a5 (E0.1 a5 z).1
  refine V.gen (fun S2_5 e_5 => ?_)
  have iv' := inv_sNew e_5 iv n_a5 (by decide)
  have x_5 := x_sNew e_5 n_a5
  have E0' := ext_tr E0 x_5 (fun _ _ z => z.elim)
  have E0 := E0'
  have i_this := is_ext x_5 i_this
  have iv := iv'
  have i_a5 := is_sNewE e_5 n_a5
  have z_a5 := mI_newE e_5
  refine v_dup C dX8_init_8 rfl ?_
  refine v_callI (As := []) (n := 0) C (sc_X3_init l _ _ _) rfl ⟨wd222, wd49, wd45, wd50⟩ rfl hy_X3_init rfl ⟨Nat.le_of_ble_eq_true rfl, Nat.le_of_ble_eq_true rfl⟩ (Nat.le_of_ble_eq_true rfl) ⟨Nat.le_of_ble_eq_true rfl, Nat.le_of_ble_eq_true rfl⟩ dX8_init_9 ⟨rfl, iv, i_a5, z_a5 194⟩ (fun r_9 S2_9 h_9 => ?_)
  obtain ⟨rfl, iv2, x_9⟩ := h_9
  have E0' := ext_tr E0 x_9 (xn nn_a5)
  have E0 := E0'
  have i_this := is_ext x_9 i_this
  have i_a5 := is_ext x_9 i_a5
  have iv := iv2
  refine p8_12 (v := some _) C i_this (hin rfl) dX8_init_12 ?_
  refine V.gen (fun S2_12 e_12 => ?_)
  have iv' := inv_sO e_12 iv (Or.inl List.mem_cons_self)
  have x_12 := x_sO e_12
  have E0' := ext_tr E0 x_12 (fun _ _ z => z)
  have E0 := E0'
  have i_this := is_ext x_12 i_this
  have i_a5 := is_ext x_12 i_a5
  have iv := iv'
  have o_512 := mo_put e_12
  refine v_aload_n C dX8_init_15 rfl ?_
  refine v_bipush (v := 12) C dX8_init_16 (by decide) ?_
  refine v_newrefs C (kd := 16) (N := 12) (t0 := 5) (by decide) (by decide +kernel) wd219 rfl (by decide) (by decide) (Nat.le_of_ble_eq_true rfl) (Nat.le_of_ble_eq_true rfl) (Nat.le_of_ble_eq_true rfl) dX8_init_18 (fun a18 n_a18 => ?_)
  have nn_a18 := fun z => n_a18 (E0.1 a18 z).1
  have m_a18 := inv_new iv n_a18
  refine V.gen (fun S2_18 e_18 => ?_)
  have iv' := inv_sArr e_18 iv n_a18 (by decide)
  have x_18 := x_sArr e_18 n_a18
  have E0' := ext_tr E0 x_18 (fun _ _ z => z.elim)
  have E0 := E0'
  have o_512 := mo_sArr e_18 o_512
  have i_this := is_ext x_18 i_this
  have i_a5 := is_ext x_18 i_a5
  have iv := iv'
  have i_a18 := isA_sArrE e_18 n_a18
  refine p8_20 (v := some _) C i_this (hin rfl) dX8_init_21 ?_
  refine V.gen (fun S2_21 e_21 => ?_)
  have iv' := inv_sO e_21 iv (Or.inl List.mem_cons_self)
  have x_21 := x_sO e_21
  have E0' := ext_tr E0 x_21 (fun _ _ z => z)
  have E0 := E0'
  have o_512 := mo_sO e_21 (Or.inl (by decide)) o_512
  have i_this := is_ext x_21 i_this
  have i_a5 := is_ext x_21 i_a5
  have i_a18 := isA_ext x_21 i_a18
  have iv := iv'
  have o_513 := mo_put e_21
  refine v_aload_n C dX8_init_24 rfl ?_
  refine v_bipush (v := 12) C dX8_init_25 (by decide) ?_
  refine v_newrefs C (kd := 16) (N := 12) (t0 := 5) (by decide) (by decide +kernel) wd219 rfl (by decide) (by decide) (Nat.le_of_ble_eq_true rfl) (Nat.le_of_ble_eq_true rfl) (Nat.le_of_ble_eq_true rfl) dX8_init_27 (fun a27 n_a27 => ?_)
  have nn_a27 := fun z => n_a27 (E0.1 a27 z).1
  have m_a27 := inv_new iv n_a27
  refine V.gen (fun S2_27 e_27 => ?_)
  have iv' := inv_sArr e_27 iv n_a27 (by decide)
  have x_27 := x_sArr e_27 n_a27
  have E0' := ext_tr E0 x_27 (fun _ _ z => z.elim)
  have E0 := E0'
  have o_512 := mo_sArr e_27 o_512
  have o_513 := mo_sArr e_27 o_513
  have i_this := is_ext x_27 i_this
  have i_a5 := is_ext x_27 i_a5
  have i_a18 := isA_ext x_27 i_a18
  have iv := iv'
  have i_a27 := isA_sArrE e_27 n_a27
  refine p8_24 (v := some _) C i_this (hin rfl) dX8_init_30 ?_
  refine V.gen (fun S2_30 e_30 => ?_)
  have iv' := inv_sO e_30 iv (Or.inl List.mem_cons_self)
  have x_30 := x_sO e_30
  have E0' := ext_tr E0 x_30 (fun _ _ z => z)
  have E0 := E0'
  have o_512 := mo_sO e_30 (Or.inl (by decide)) o_512
  have o_513 := mo_sO e_30 (Or.inl (by decide)) o_513
  have i_this := is_ext x_30 i_this
  have i_a5 := is_ext x_30 i_a5
  have i_a18 := isA_ext x_30 i_a18
  have i_a27 := isA_ext x_30 i_a27
  have iv := iv'
  have o_514 := mo_put e_30
  refine v_vret C hr (Nat.le_of_ble_eq_true rfl) (Nat.le_of_ble_eq_true rfl) dX8_init_33 ?_
  refine ⟨rfl, inv_done iv i_this.2 ?_ (fun z => by cases z) (fun z => by cases z), E0⟩
  intro q hq hc
  rcases FT_c8 q hq hc with rfl | rfl | rfl
  · exact Or.inr ⟨_, o_512, Or.inl ⟨rfl, i_a5⟩⟩
  · exact Or.inr ⟨_, o_513, Or.inr ⟨by decide, i_a18, m_a18⟩⟩
  · exact Or.inr ⟨_, o_514, Or.inr ⟨by decide, i_a27, m_a27⟩⟩
theorem dX5_init_0 : decode cX5_init 0 = .ok (.aload_n 0, 1) := by decide +kernel
theorem dX5_init_1 : decode cX5_init 1 = .ok (.invokespecial 3, 3) := by decide +kernel
theorem dX5_init_4 : decode cX5_init 4 = .ok (.aload_n 0, 1) := by decide +kernel
theorem dX5_init_5 : decode cX5_init 5 = .ok (.bipush 8, 2) := by decide +kernel
theorem dX5_init_7 : decode cX5_init 7 = .ok (.newarray .int, 2) := by decide +kernel
theorem dX5_init_9 : decode cX5_init 9 = .ok (.putfield 9, 3) := by decide +kernel
theorem dX5_init_12 : decode cX5_init 12 = .ok (.aload_n 0, 1) := by decide +kernel
theorem dX5_init_13 : decode cX5_init 13 = .ok (.bipush 8, 2) := by decide +kernel
theorem dX5_init_15 : decode cX5_init 15 = .ok (.newarray .int, 2) := by decide +kernel
theorem dX5_init_17 : decode cX5_init 17 = .ok (.putfield 15, 3) := by decide +kernel
theorem dX5_init_20 : decode cX5_init 20 = .ok (.aload_n 0, 1) := by decide +kernel
theorem dX5_init_21 : decode cX5_init 21 = .ok (.bipush 8, 2) := by decide +kernel
theorem dX5_init_23 : decode cX5_init 23 = .ok (.newarray .int, 2) := by decide +kernel
theorem dX5_init_25 : decode cX5_init 25 = .ok (.putfield 18, 3) := by decide +kernel
theorem dX5_init_28 : decode cX5_init 28 = .ok (.aload_n 0, 1) := by decide +kernel
theorem dX5_init_29 : decode cX5_init 29 = .ok (.iload_n 1, 1) := by decide +kernel
theorem dX5_init_30 : decode cX5_init 30 = .ok (.putfield 21, 3) := by decide +kernel
theorem dX5_init_33 : decode cX5_init 33 = .ok (.aload_n 0, 1) := by decide +kernel
theorem dX5_init_34 : decode cX5_init 34 = .ok (.iload_n 2, 1) := by decide +kernel
theorem dX5_init_35 : decode cX5_init 35 = .ok (.putfield 25, 3) := by decide +kernel
theorem dX5_init_38 : decode cX5_init 38 = .ok (.aload_n 0, 1) := by decide +kernel
theorem dX5_init_39 : decode cX5_init 39 = .ok (.iload_n 3, 1) := by decide +kernel
theorem dX5_init_40 : decode cX5_init 40 = .ok (.putfield 28, 3) := by decide +kernel
theorem dX5_init_43 : decode cX5_init 43 = .ok (.aload_n 0, 1) := by decide +kernel
theorem dX5_init_44 : decode cX5_init 44 = .ok (.iload 4, 2) := by decide +kernel
theorem dX5_init_46 : decode cX5_init 46 = .ok (.putfield 31, 3) := by decide +kernel
theorem dX5_init_49 : decode cX5_init 49 = .ok (.aload_n 0, 1) := by decide +kernel
theorem dX5_init_50 : decode cX5_init 50 = .ok (.iload 5, 2) := by decide +kernel
theorem dX5_init_52 : decode cX5_init 52 = .ok (.putfield 34, 3) := by decide +kernel
theorem dX5_init_55 : decode cX5_init 55 = .ok (.return_, 1) := by decide +kernel
set_option maxRecDepth 100000 in
set_option maxHeartbeats 4000000 in
theorem st_X5_init (l : Launch) (M : Nat → Prop) (E : List Nat) (h : Nat) (p0 : Int32) (p1 : Int32) (p2 : Int32) (p3 : Int32) (p4 : Int32) : Ct l yX5_init cX5_init 6 none 1 3 24 14 (fun S av => av = [.ref h, .int p0, .int p1, .int p2, .int p3, .int p4] ∧ INV M (h :: E) S ∧ is S h 5 ∧ (p4 = 0 ∨ p4 = 1)) (fun S _ r S' => r = none ∧ INV M E S' ∧ ext S S' (fun a => a = h)) := by
  refine ct_of (by decide) (fun S av h => by obtain ⟨rfl, iv, i_this, z_p4⟩ := h; exact Nat.le_of_ble_eq_true rfl) ?_
  intro p e s m args below meth c D G bs S av C hr hin hpre
  obtain ⟨rfl, iv, i_this, z_p4⟩ := hpre
  have E0 : ext S S (fun a => a = h) := ext_rfl
  refine v_aload_n C dX5_init_0 rfl ?_
  refine v_objInit C wd351 wd11 wd12 dX5_init_1 (Nat.le_of_ble_eq_true rfl) (Nat.le_of_ble_eq_true rfl) ?_
  refine v_aload_n C dX5_init_4 rfl ?_
  refine v_bipush (v := 8) C dX5_init_5 (by decide) ?_
  refine v_newarr C (kd := 11) (N := 8) wd42 rfl (t0 := 0) rfl (by decide) (fun _ => cell_newI (Or.inl rfl)) (fun _ => vp_cell_i _ _ _) (by decide) (by decide) (Nat.le_of_ble_eq_true rfl) (Nat.le_of_ble_eq_true rfl) (Nat.le_of_ble_eq_true rfl) dX5_init_7 (fun a7 n_a7 => ?_)
  have nn_a7 := fun z => n_a7 (E0.1 a7 z).1
  have m_a7 := inv_new iv n_a7
  refine V.gen (fun S2_7 e_7 => ?_)
  have iv' := inv_sArr e_7 iv n_a7 (by decide)
  have x_7 := x_sArr e_7 n_a7
  have E0' := ext_tr E0 x_7 (fun _ _ z => z.elim)
  have E0 := E0'
  have i_this := is_ext x_7 i_this
  have iv := iv'
  have i_a7 := isA_sArrE e_7 n_a7
  refine p5_9 (v := some _) C i_this (hin rfl) dX5_init_9 ?_
  refine V.gen (fun S2_9 e_9 => ?_)
  have iv' := inv_sO e_9 iv (Or.inl List.mem_cons_self)
  have x_9 := x_sO e_9
  have E0' := ext_tr E0 x_9 (fun _ _ z => z)
  have E0 := E0'
  have i_this := is_ext x_9 i_this
  have i_a7 := isA_ext x_9 i_a7
  have iv := iv'
  have o_325 := mo_put e_9
  refine v_aload_n C dX5_init_12 rfl ?_
  refine v_bipush (v := 8) C dX5_init_13 (by decide) ?_
  refine v_newarr C (kd := 11) (N := 8) wd42 rfl (t0 := 0) rfl (by decide) (fun _ => cell_newI (Or.inl rfl)) (fun _ => vp_cell_i _ _ _) (by decide) (by decide) (Nat.le_of_ble_eq_true rfl) (Nat.le_of_ble_eq_true rfl) (Nat.le_of_ble_eq_true rfl) dX5_init_15 (fun a15 n_a15 => ?_)
  have nn_a15 := fun z => n_a15 (E0.1 a15 z).1
  have m_a15 := inv_new iv n_a15
  refine V.gen (fun S2_15 e_15 => ?_)
  have iv' := inv_sArr e_15 iv n_a15 (by decide)
  have x_15 := x_sArr e_15 n_a15
  have E0' := ext_tr E0 x_15 (fun _ _ z => z.elim)
  have E0 := E0'
  have o_325 := mo_sArr e_15 o_325
  have i_this := is_ext x_15 i_this
  have i_a7 := isA_ext x_15 i_a7
  have iv := iv'
  have i_a15 := isA_sArrE e_15 n_a15
  refine p5_15 (v := some _) C i_this (hin rfl) dX5_init_17 ?_
  refine V.gen (fun S2_17 e_17 => ?_)
  have iv' := inv_sO e_17 iv (Or.inl List.mem_cons_self)
  have x_17 := x_sO e_17
  have E0' := ext_tr E0 x_17 (fun _ _ z => z)
  have E0 := E0'
  have o_325 := mo_sO e_17 (Or.inl (by decide)) o_325
  have i_this := is_ext x_17 i_this
  have i_a7 := isA_ext x_17 i_a7
  have i_a15 := isA_ext x_17 i_a15
  have iv := iv'
  have o_326 := mo_put e_17
  refine v_aload_n C dX5_init_20 rfl ?_
  refine v_bipush (v := 8) C dX5_init_21 (by decide) ?_
  refine v_newarr C (kd := 11) (N := 8) wd42 rfl (t0 := 0) rfl (by decide) (fun _ => cell_newI (Or.inl rfl)) (fun _ => vp_cell_i _ _ _) (by decide) (by decide) (Nat.le_of_ble_eq_true rfl) (Nat.le_of_ble_eq_true rfl) (Nat.le_of_ble_eq_true rfl) dX5_init_23 (fun a23 n_a23 => ?_)
  have nn_a23 := fun z => n_a23 (E0.1 a23 z).1
  have m_a23 := inv_new iv n_a23
  refine V.gen (fun S2_23 e_23 => ?_)
  have iv' := inv_sArr e_23 iv n_a23 (by decide)
  have x_23 := x_sArr e_23 n_a23
  have E0' := ext_tr E0 x_23 (fun _ _ z => z.elim)
  have E0 := E0'
  have o_325 := mo_sArr e_23 o_325
  have o_326 := mo_sArr e_23 o_326
  have i_this := is_ext x_23 i_this
  have i_a7 := isA_ext x_23 i_a7
  have i_a15 := isA_ext x_23 i_a15
  have iv := iv'
  have i_a23 := isA_sArrE e_23 n_a23
  refine p5_18 (v := some _) C i_this (hin rfl) dX5_init_25 ?_
  refine V.gen (fun S2_25 e_25 => ?_)
  have iv' := inv_sO e_25 iv (Or.inl List.mem_cons_self)
  have x_25 := x_sO e_25
  have E0' := ext_tr E0 x_25 (fun _ _ z => z)
  have E0 := E0'
  have o_325 := mo_sO e_25 (Or.inl (by decide)) o_325
  have o_326 := mo_sO e_25 (Or.inl (by decide)) o_326
  have i_this := is_ext x_25 i_this
  have i_a7 := isA_ext x_25 i_a7
  have i_a15 := isA_ext x_25 i_a15
  have i_a23 := isA_ext x_25 i_a23
  have iv := iv'
  have o_327 := mo_put e_25
  refine v_aload_n C dX5_init_28 rfl ?_
  refine v_iload_n C dX5_init_29 rfl ?_
  refine p5_21 C i_this (hin rfl) dX5_init_30 ?_
  refine V.gen (fun S2_30 e_30 => ?_)
  have iv' := inv_sI e_30 iv (by decide) (by decide)
  have x_30 := x_sI e_30
  have E0' := ext_tr E0 x_30 (fun _ _ z => z)
  have E0 := E0'
  have o_325 := mo_sI e_30 o_325
  have o_326 := mo_sI e_30 o_326
  have o_327 := mo_sI e_30 o_327
  have i_this := is_ext x_30 i_this
  have i_a7 := isA_ext x_30 i_a7
  have i_a15 := isA_ext x_30 i_a15
  have i_a23 := isA_ext x_30 i_a23
  have iv := iv'
  refine v_aload_n C dX5_init_33 rfl ?_
  refine v_iload_n C dX5_init_34 rfl ?_
  refine p5_25 C i_this (hin rfl) dX5_init_35 ?_
  refine V.gen (fun S2_35 e_35 => ?_)
  have iv' := inv_sI e_35 iv (by decide) (by decide)
  have x_35 := x_sI e_35
  have E0' := ext_tr E0 x_35 (fun _ _ z => z)
  have E0 := E0'
  have o_325 := mo_sI e_35 o_325
  have o_326 := mo_sI e_35 o_326
  have o_327 := mo_sI e_35 o_327
  have i_this := is_ext x_35 i_this
  have i_a7 := isA_ext x_35 i_a7
  have i_a15 := isA_ext x_35 i_a15
  have i_a23 := isA_ext x_35 i_a23
  have iv := iv'
  refine v_aload_n C dX5_init_38 rfl ?_
  refine v_iload_n C dX5_init_39 rfl ?_
  refine p5_28 C i_this (hin rfl) dX5_init_40 ?_
  refine V.gen (fun S2_40 e_40 => ?_)
  have iv' := inv_sI e_40 iv (by decide) (by decide)
  have x_40 := x_sI e_40
  have E0' := ext_tr E0 x_40 (fun _ _ z => z)
  have E0 := E0'
  have o_325 := mo_sI e_40 o_325
  have o_326 := mo_sI e_40 o_326
  have o_327 := mo_sI e_40 o_327
  have i_this := is_ext x_40 i_this
  have i_a7 := isA_ext x_40 i_a7
  have i_a15 := isA_ext x_40 i_a15
  have i_a23 := isA_ext x_40 i_a23
  have iv := iv'
  refine v_aload_n C dX5_init_43 rfl ?_
  refine v_iload C dX5_init_44 rfl ?_
  refine p5_31 C i_this (hin rfl) dX5_init_46 ?_
  refine V.gen (fun S2_46 e_46 => ?_)
  have iv' := inv_sI e_46 iv (by decide) (by decide)
  have x_46 := x_sI e_46
  have E0' := ext_tr E0 x_46 (fun _ _ z => z)
  have E0 := E0'
  have o_325 := mo_sI e_46 o_325
  have o_326 := mo_sI e_46 o_326
  have o_327 := mo_sI e_46 o_327
  have i_this := is_ext x_46 i_this
  have i_a7 := isA_ext x_46 i_a7
  have i_a15 := isA_ext x_46 i_a15
  have i_a23 := isA_ext x_46 i_a23
  have iv := iv'
  refine v_aload_n C dX5_init_49 rfl ?_
  refine v_iload C dX5_init_50 rfl ?_
  refine p5_34 C i_this (hin rfl) z_p4 dX5_init_52 ?_
  refine V.gen (fun S2_52 e_52 => ?_)
  have iv' := inv_sI e_52 iv (by decide) (by decide)
  have x_52 := x_sI e_52
  have E0' := ext_tr E0 x_52 (fun _ _ z => z)
  have E0 := E0'
  have o_325 := mo_sI e_52 o_325
  have o_326 := mo_sI e_52 o_326
  have o_327 := mo_sI e_52 o_327
  have i_this := is_ext x_52 i_this
  have i_a7 := isA_ext x_52 i_a7
  have i_a15 := isA_ext x_52 i_a15
  have i_a23 := isA_ext x_52 i_a23
  have iv := iv'
  refine v_vret C hr (Nat.le_of_ble_eq_true rfl) (Nat.le_of_ble_eq_true rfl) dX5_init_55 ?_
  refine ⟨rfl, inv_done iv i_this.2 ?_ (fun z => by cases z) (fun z => by cases z), E0⟩
  intro q hq hc
  rcases FT_c5 q hq hc with rfl | rfl | rfl
  · exact Or.inr ⟨_, o_325, Or.inr ⟨by decide, i_a7, m_a7⟩⟩
  · exact Or.inr ⟨_, o_326, Or.inr ⟨by decide, i_a15, m_a15⟩⟩
  · exact Or.inr ⟨_, o_327, Or.inr ⟨by decide, i_a23, m_a23⟩⟩
theorem dX2_init_0 : decode cX2_init 0 = .ok (.aload_n 0, 1) := by decide +kernel
theorem dX2_init_1 : decode cX2_init 1 = .ok (.invokespecial 3, 3) := by decide +kernel
theorem dX2_init_4 : decode cX2_init 4 = .ok (.aload_n 0, 1) := by decide +kernel
theorem dX2_init_5 : decode cX2_init 5 = .ok (.new 9, 3) := by decide +kernel
theorem dX2_init_8 : decode cX2_init 8 = .ok (.dup, 1) := by decide +kernel
theorem dX2_init_9 : decode cX2_init 9 = .ok (.invokespecial 11, 3) := by decide +kernel
theorem dX2_init_12 : decode cX2_init 12 = .ok (.putfield 12, 3) := by decide +kernel
theorem dX2_init_15 : decode cX2_init 15 = .ok (.aload_n 0, 1) := by decide +kernel
theorem dX2_init_16 : decode cX2_init 16 = .ok (.iconst 5, 1) := by decide +kernel
theorem dX2_init_17 : decode cX2_init 17 = .ok (.newarray .int, 2) := by decide +kernel
theorem dX2_init_19 : decode cX2_init 19 = .ok (.putfield 18, 3) := by decide +kernel
theorem dX2_init_22 : decode cX2_init 22 = .ok (.aload_n 0, 1) := by decide +kernel
theorem dX2_init_23 : decode cX2_init 23 = .ok (.bipush 12, 2) := by decide +kernel
theorem dX2_init_25 : decode cX2_init 25 = .ok (.anewarray 22, 3) := by decide +kernel
theorem dX2_init_28 : decode cX2_init 28 = .ok (.putfield 24, 3) := by decide +kernel
theorem dX2_init_31 : decode cX2_init 31 = .ok (.aload_n 0, 1) := by decide +kernel
theorem dX2_init_32 : decode cX2_init 32 = .ok (.sipush 240, 3) := by decide +kernel
theorem dX2_init_35 : decode cX2_init 35 = .ok (.newarray .boolean, 2) := by decide +kernel
theorem dX2_init_37 : decode cX2_init 37 = .ok (.putfield 28, 3) := by decide +kernel
theorem dX2_init_40 : decode cX2_init 40 = .ok (.aload_n 0, 1) := by decide +kernel
theorem dX2_init_41 : decode cX2_init 41 = .ok (.sipush 240, 3) := by decide +kernel
theorem dX2_init_44 : decode cX2_init 44 = .ok (.newarray .int, 2) := by decide +kernel
theorem dX2_init_46 : decode cX2_init 46 = .ok (.putfield 32, 3) := by decide +kernel
theorem dX2_init_49 : decode cX2_init 49 = .ok (.aload_n 0, 1) := by decide +kernel
theorem dX2_init_50 : decode cX2_init 50 = .ok (.sipush 240, 3) := by decide +kernel
theorem dX2_init_53 : decode cX2_init 53 = .ok (.newarray .int, 2) := by decide +kernel
theorem dX2_init_55 : decode cX2_init 55 = .ok (.putfield 35, 3) := by decide +kernel
theorem dX2_init_58 : decode cX2_init 58 = .ok (.aload_n 0, 1) := by decide +kernel
theorem dX2_init_59 : decode cX2_init 59 = .ok (.bipush 12, 2) := by decide +kernel
theorem dX2_init_61 : decode cX2_init 61 = .ok (.newarray .int, 2) := by decide +kernel
theorem dX2_init_63 : decode cX2_init 63 = .ok (.putfield 38, 3) := by decide +kernel
theorem dX2_init_66 : decode cX2_init 66 = .ok (.aload_n 0, 1) := by decide +kernel
theorem dX2_init_67 : decode cX2_init 67 = .ok (.iconst 4, 1) := by decide +kernel
theorem dX2_init_68 : decode cX2_init 68 = .ok (.newarray .long, 2) := by decide +kernel
theorem dX2_init_70 : decode cX2_init 70 = .ok (.putfield 41, 3) := by decide +kernel
theorem dX2_init_73 : decode cX2_init 73 = .ok (.aload_n 0, 1) := by decide +kernel
theorem dX2_init_74 : decode cX2_init 74 = .ok (.iload_n 1, 1) := by decide +kernel
theorem dX2_init_75 : decode cX2_init 75 = .ok (.putfield 45, 3) := by decide +kernel
theorem dX2_init_78 : decode cX2_init 78 = .ok (.aload_n 0, 1) := by decide +kernel
theorem dX2_init_79 : decode cX2_init 79 = .ok (.iload_n 2, 1) := by decide +kernel
theorem dX2_init_80 : decode cX2_init 80 = .ok (.putfield 49, 3) := by decide +kernel
theorem dX2_init_83 : decode cX2_init 83 = .ok (.aload_n 0, 1) := by decide +kernel
theorem dX2_init_84 : decode cX2_init 84 = .ok (.getfield 32, 3) := by decide +kernel
theorem dX2_init_87 : decode cX2_init 87 = .ok (.iconst (-1), 1) := by decide +kernel
theorem dX2_init_88 : decode cX2_init 88 = .ok (.invokestatic 52, 3) := by decide +kernel
theorem dX2_init_91 : decode cX2_init 91 = .ok (.aload_n 0, 1) := by decide +kernel
theorem dX2_init_92 : decode cX2_init 92 = .ok (.getfield 35, 3) := by decide +kernel
theorem dX2_init_95 : decode cX2_init 95 = .ok (.iconst (-1), 1) := by decide +kernel
theorem dX2_init_96 : decode cX2_init 96 = .ok (.invokestatic 52, 3) := by decide +kernel
theorem dX2_init_99 : decode cX2_init 99 = .ok (.aload_n 0, 1) := by decide +kernel
theorem dX2_init_100 : decode cX2_init 100 = .ok (.getfield 38, 3) := by decide +kernel
theorem dX2_init_103 : decode cX2_init 103 = .ok (.iconst (-1), 1) := by decide +kernel
theorem dX2_init_104 : decode cX2_init 104 = .ok (.invokestatic 52, 3) := by decide +kernel
theorem dX2_init_107 : decode cX2_init 107 = .ok (.return_, 1) := by decide +kernel
set_option maxRecDepth 100000 in
set_option maxHeartbeats 4000000 in
theorem st_X2_init (l : Launch) (M : Nat → Prop) (E : List Nat) (h : Nat) (p0 : Int32) (p1 : Int32) : Ct l yX2_init cX2_init 3 none 2 10 796 43 (fun S av => av = [.ref h, .int p0, .int p1] ∧ INV M (h :: E) S ∧ is S h 2) (fun S _ r S' => r = none ∧ INV M E S' ∧ ext S S' (fun a => a = h)) := by
  refine ct_of (by decide) (fun S av h => by obtain ⟨rfl, iv, i_this⟩ := h; exact Nat.le_of_ble_eq_true rfl) ?_
  intro p e s m args below meth c D G bs S av C hr hin hpre
  obtain ⟨rfl, iv, i_this⟩ := hpre
  have E0 : ext S S (fun a => a = h) := ext_rfl
  refine v_aload_n C dX2_init_0 rfl ?_
  refine v_objInit C wd275 wd11 wd12 dX2_init_1 (Nat.le_of_ble_eq_true rfl) (Nat.le_of_ble_eq_true rfl) ?_
  refine v_aload_n C dX2_init_4 rfl ?_
  refine v_new C (ci := 3) (by decide) rfl inlX3 tyX3_ok wd276 wd44 wd45 nfX3 (Nat.le_of_ble_eq_true rfl) (Nat.le_of_ble_eq_true rfl) dX2_init_5 (fun a5 n_a5 => ?_)
  have nn_a5 := fun z => n_a5 (E0.1 a5 z).1
  refine V.gen (fun S2_5 e_5 => ?_)
  have iv' := inv_sNew e_5 iv n_a5 (by decide)
  have x_5 := x_sNew e_5 n_a5
  have E0' := ext_tr E0 x_5 (fun _ _ z => z.elim)
  have E0 := E0'
  have i_this := is_ext x_5 i_this
  have iv := iv'
  have i_a5 := is_sNewE e_5 n_a5
  have z_a5 := mI_newE e_5
  refine v_dup C dX2_init_8 rfl ?_
  refine v_callI (As := []) (n := 0) C (sc_X3_init l _ _ _) rfl ⟨wd288, wd49, wd45, wd50⟩ rfl hy_X3_init rfl ⟨Nat.le_of_ble_eq_true rfl, Nat.le_of_ble_eq_true rfl⟩ (Nat.le_of_ble_eq_true rfl) ⟨Nat.le_of_ble_eq_true rfl, Nat.le_of_ble_eq_true rfl⟩ dX2_init_9 ⟨rfl, iv, i_a5, z_a5 194⟩ (fun r_9 S2_9 h_9 => ?_)
  obtain ⟨rfl, iv2, x_9⟩ := h_9
  have E0' := ext_tr E0 x_9 (xn nn_a5)
  have E0 := E0'
  have i_this := is_ext x_9 i_this
  have i_a5 := is_ext x_9 i_a5
  have iv := iv2
  refine p2_12 (v := some _) C i_this (hin rfl) dX2_init_12 ?_
  refine V.gen (fun S2_12 e_12 => ?_)
  have iv' := inv_sO e_12 iv (Or.inl List.mem_cons_self)
  have x_12 := x_sO e_12
  have E0' := ext_tr E0 x_12 (fun _ _ z => z)
  have E0 := E0'
  have i_this := is_ext x_12 i_this
  have i_a5 := is_ext x_12 i_a5
  have iv := iv'
  have o_130 := mo_put e_12
  refine v_aload_n C dX2_init_15 rfl ?_
  refine v_iconst (v := 5) C dX2_init_16 (by decide) ?_
  refine v_newarr C (kd := 11) (N := 5) wd42 rfl (t0 := 0) rfl (by decide) (fun _ => cell_newI (Or.inl rfl)) (fun _ => vp_cell_i _ _ _) (by decide) (by decide) (Nat.le_of_ble_eq_true rfl) (Nat.le_of_ble_eq_true rfl) (Nat.le_of_ble_eq_true rfl) dX2_init_17 (fun a17 n_a17 => ?_)
  have nn_a17 := fun z => n_a17 (E0.1 a17 z).1
  have m_a17 := inv_new iv n_a17
  refine V.gen (fun S2_17 e_17 => ?_)
  have iv' := inv_sArr e_17 iv n_a17 (by decide)
  have x_17 := x_sArr e_17 n_a17
  have E0' := ext_tr E0 x_17 (fun _ _ z => z.elim)
  have E0 := E0'
  have o_130 := mo_sArr e_17 o_130
  have i_this := is_ext x_17 i_this
  have i_a5 := is_ext x_17 i_a5
  have iv := iv'
  have i_a17 := isA_sArrE e_17 n_a17
  refine p2_18 (v := some _) C i_this (hin rfl) dX2_init_19 ?_
  refine V.gen (fun S2_19 e_19 => ?_)
  have iv' := inv_sO e_19 iv (Or.inl List.mem_cons_self)
  have x_19 := x_sO e_19
  have E0' := ext_tr E0 x_19 (fun _ _ z => z)
  have E0 := E0'
  have o_130 := mo_sO e_19 (Or.inl (by decide)) o_130
  have i_this := is_ext x_19 i_this
  have i_a5 := is_ext x_19 i_a5
  have i_a17 := isA_ext x_19 i_a17
  have iv := iv'
  have o_131 := mo_put e_19
  refine v_aload_n C dX2_init_22 rfl ?_
  refine v_bipush (v := 12) C dX2_init_23 (by decide) ?_
  refine v_newrefs C (kd := 16) (N := 12) (t0 := 5) (by decide) (by decide +kernel) wd279 rfl (by decide) (by decide) (Nat.le_of_ble_eq_true rfl) (Nat.le_of_ble_eq_true rfl) (Nat.le_of_ble_eq_true rfl) dX2_init_25 (fun a25 n_a25 => ?_)
  have nn_a25 := fun z => n_a25 (E0.1 a25 z).1
  have m_a25 := inv_new iv n_a25
  refine V.gen (fun S2_25 e_25 => ?_)
  have iv' := inv_sArr e_25 iv n_a25 (by decide)
  have x_25 := x_sArr e_25 n_a25
  have E0' := ext_tr E0 x_25 (fun _ _ z => z.elim)
  have E0 := E0'
  have o_130 := mo_sArr e_25 o_130
  have o_131 := mo_sArr e_25 o_131
  have i_this := is_ext x_25 i_this
  have i_a5 := is_ext x_25 i_a5
  have i_a17 := isA_ext x_25 i_a17
  have iv := iv'
  have i_a25 := isA_sArrE e_25 n_a25
  refine p2_24 (v := some _) C i_this (hin rfl) dX2_init_28 ?_
  refine V.gen (fun S2_28 e_28 => ?_)
  have iv' := inv_sO e_28 iv (Or.inl List.mem_cons_self)
  have x_28 := x_sO e_28
  have E0' := ext_tr E0 x_28 (fun _ _ z => z)
  have E0 := E0'
  have o_130 := mo_sO e_28 (Or.inl (by decide)) o_130
  have o_131 := mo_sO e_28 (Or.inl (by decide)) o_131
  have i_this := is_ext x_28 i_this
  have i_a5 := is_ext x_28 i_a5
  have i_a17 := isA_ext x_28 i_a17
  have i_a25 := isA_ext x_28 i_a25
  have iv := iv'
  have o_133 := mo_put e_28
  refine v_aload_n C dX2_init_31 rfl ?_
  refine v_sipush (v := 240) C dX2_init_32 (by decide) ?_
  refine v_newarr C (kd := 13) (N := 240) wd87 rfl (t0 := 2) rfl (by decide) (fun _ => cell_newI (Or.inr rfl)) (fun _ => vp_cell_i _ _ _) (by decide) (by decide) (Nat.le_of_ble_eq_true rfl) (Nat.le_of_ble_eq_true rfl) (Nat.le_of_ble_eq_true rfl) dX2_init_35 (fun a35 n_a35 => ?_)
  have nn_a35 := fun z => n_a35 (E0.1 a35 z).1
  have m_a35 := inv_new iv n_a35
  refine V.gen (fun S2_35 e_35 => ?_)
  have iv' := inv_sArr e_35 iv n_a35 (by decide)
  have x_35 := x_sArr e_35 n_a35
  have E0' := ext_tr E0 x_35 (fun _ _ z => z.elim)
  have E0 := E0'
  have o_130 := mo_sArr e_35 o_130
  have o_131 := mo_sArr e_35 o_131
  have o_133 := mo_sArr e_35 o_133
  have i_this := is_ext x_35 i_this
  have i_a5 := is_ext x_35 i_a5
  have i_a17 := isA_ext x_35 i_a17
  have i_a25 := isA_ext x_35 i_a25
  have iv := iv'
  have i_a35 := isA_sArrE e_35 n_a35
  refine p2_28 (v := some _) C i_this (hin rfl) dX2_init_37 ?_
  refine V.gen (fun S2_37 e_37 => ?_)
  have iv' := inv_sO e_37 iv (Or.inl List.mem_cons_self)
  have x_37 := x_sO e_37
  have E0' := ext_tr E0 x_37 (fun _ _ z => z)
  have E0 := E0'
  have o_130 := mo_sO e_37 (Or.inl (by decide)) o_130
  have o_131 := mo_sO e_37 (Or.inl (by decide)) o_131
  have o_133 := mo_sO e_37 (Or.inl (by decide)) o_133
  have i_this := is_ext x_37 i_this
  have i_a5 := is_ext x_37 i_a5
  have i_a17 := isA_ext x_37 i_a17
  have i_a25 := isA_ext x_37 i_a25
  have i_a35 := isA_ext x_37 i_a35
  have iv := iv'
  have o_134 := mo_put e_37
  refine v_aload_n C dX2_init_40 rfl ?_
  refine v_sipush (v := 240) C dX2_init_41 (by decide) ?_
  refine v_newarr C (kd := 11) (N := 240) wd42 rfl (t0 := 0) rfl (by decide) (fun _ => cell_newI (Or.inl rfl)) (fun _ => vp_cell_i _ _ _) (by decide) (by decide) (Nat.le_of_ble_eq_true rfl) (Nat.le_of_ble_eq_true rfl) (Nat.le_of_ble_eq_true rfl) dX2_init_44 (fun a44 n_a44 => ?_)
  have nn_a44 := fun z => n_a44 (E0.1 a44 z).1
  have m_a44 := inv_new iv n_a44
  refine V.gen (fun S2_44 e_44 => ?_)
  have iv' := inv_sArr e_44 iv n_a44 (by decide)
  have x_44 := x_sArr e_44 n_a44
  have E0' := ext_tr E0 x_44 (fun _ _ z => z.elim)
  have E0 := E0'
  have o_130 := mo_sArr e_44 o_130
  have o_131 := mo_sArr e_44 o_131
  have o_133 := mo_sArr e_44 o_133
  have o_134 := mo_sArr e_44 o_134
  have i_this := is_ext x_44 i_this
  have i_a5 := is_ext x_44 i_a5
  have i_a17 := isA_ext x_44 i_a17
  have i_a25 := isA_ext x_44 i_a25
  have i_a35 := isA_ext x_44 i_a35
  have iv := iv'
  have i_a44 := isA_sArrE e_44 n_a44
  refine p2_32 (v := some _) C i_this (hin rfl) dX2_init_46 ?_
  refine V.gen (fun S2_46 e_46 => ?_)
  have iv' := inv_sO e_46 iv (Or.inl List.mem_cons_self)
  have x_46 := x_sO e_46
  have E0' := ext_tr E0 x_46 (fun _ _ z => z)
  have E0 := E0'
  have o_130 := mo_sO e_46 (Or.inl (by decide)) o_130
  have o_131 := mo_sO e_46 (Or.inl (by decide)) o_131
  have o_133 := mo_sO e_46 (Or.inl (by decide)) o_133
  have o_134 := mo_sO e_46 (Or.inl (by decide)) o_134
  have i_this := is_ext x_46 i_this
  have i_a5 := is_ext x_46 i_a5
  have i_a17 := isA_ext x_46 i_a17
  have i_a25 := isA_ext x_46 i_a25
  have i_a35 := isA_ext x_46 i_a35
  have i_a44 := isA_ext x_46 i_a44
  have iv := iv'
  have o_136 := mo_put e_46
  refine v_aload_n C dX2_init_49 rfl ?_
  refine v_sipush (v := 240) C dX2_init_50 (by decide) ?_
  refine v_newarr C (kd := 11) (N := 240) wd42 rfl (t0 := 0) rfl (by decide) (fun _ => cell_newI (Or.inl rfl)) (fun _ => vp_cell_i _ _ _) (by decide) (by decide) (Nat.le_of_ble_eq_true rfl) (Nat.le_of_ble_eq_true rfl) (Nat.le_of_ble_eq_true rfl) dX2_init_53 (fun a53 n_a53 => ?_)
  have nn_a53 := fun z => n_a53 (E0.1 a53 z).1
  have m_a53 := inv_new iv n_a53
  refine V.gen (fun S2_53 e_53 => ?_)
  have iv' := inv_sArr e_53 iv n_a53 (by decide)
  have x_53 := x_sArr e_53 n_a53
  have E0' := ext_tr E0 x_53 (fun _ _ z => z.elim)
  have E0 := E0'
  have o_130 := mo_sArr e_53 o_130
  have o_131 := mo_sArr e_53 o_131
  have o_133 := mo_sArr e_53 o_133
  have o_134 := mo_sArr e_53 o_134
  have o_136 := mo_sArr e_53 o_136
  have i_this := is_ext x_53 i_this
  have i_a5 := is_ext x_53 i_a5
  have i_a17 := isA_ext x_53 i_a17
  have i_a25 := isA_ext x_53 i_a25
  have i_a35 := isA_ext x_53 i_a35
  have i_a44 := isA_ext x_53 i_a44
  have iv := iv'
  have i_a53 := isA_sArrE e_53 n_a53
  refine p2_35 (v := some _) C i_this (hin rfl) dX2_init_55 ?_
  refine V.gen (fun S2_55 e_55 => ?_)
  have iv' := inv_sO e_55 iv (Or.inl List.mem_cons_self)
  have x_55 := x_sO e_55
  have E0' := ext_tr E0 x_55 (fun _ _ z => z)
  have E0 := E0'
  have o_130 := mo_sO e_55 (Or.inl (by decide)) o_130
  have o_131 := mo_sO e_55 (Or.inl (by decide)) o_131
  have o_133 := mo_sO e_55 (Or.inl (by decide)) o_133
  have o_134 := mo_sO e_55 (Or.inl (by decide)) o_134
  have o_136 := mo_sO e_55 (Or.inl (by decide)) o_136
  have i_this := is_ext x_55 i_this
  have i_a5 := is_ext x_55 i_a5
  have i_a17 := isA_ext x_55 i_a17
  have i_a25 := isA_ext x_55 i_a25
  have i_a35 := isA_ext x_55 i_a35
  have i_a44 := isA_ext x_55 i_a44
  have i_a53 := isA_ext x_55 i_a53
  have iv := iv'
  have o_137 := mo_put e_55
  refine v_aload_n C dX2_init_58 rfl ?_
  refine v_bipush (v := 12) C dX2_init_59 (by decide) ?_
  refine v_newarr C (kd := 11) (N := 12) wd42 rfl (t0 := 0) rfl (by decide) (fun _ => cell_newI (Or.inl rfl)) (fun _ => vp_cell_i _ _ _) (by decide) (by decide) (Nat.le_of_ble_eq_true rfl) (Nat.le_of_ble_eq_true rfl) (Nat.le_of_ble_eq_true rfl) dX2_init_61 (fun a61 n_a61 => ?_)
  have nn_a61 := fun z => n_a61 (E0.1 a61 z).1
  have m_a61 := inv_new iv n_a61
  refine V.gen (fun S2_61 e_61 => ?_)
  have iv' := inv_sArr e_61 iv n_a61 (by decide)
  have x_61 := x_sArr e_61 n_a61
  have E0' := ext_tr E0 x_61 (fun _ _ z => z.elim)
  have E0 := E0'
  have o_130 := mo_sArr e_61 o_130
  have o_131 := mo_sArr e_61 o_131
  have o_133 := mo_sArr e_61 o_133
  have o_134 := mo_sArr e_61 o_134
  have o_136 := mo_sArr e_61 o_136
  have o_137 := mo_sArr e_61 o_137
  have i_this := is_ext x_61 i_this
  have i_a5 := is_ext x_61 i_a5
  have i_a17 := isA_ext x_61 i_a17
  have i_a25 := isA_ext x_61 i_a25
  have i_a35 := isA_ext x_61 i_a35
  have i_a44 := isA_ext x_61 i_a44
  have i_a53 := isA_ext x_61 i_a53
  have iv := iv'
  have i_a61 := isA_sArrE e_61 n_a61
  refine p2_38 (v := some _) C i_this (hin rfl) dX2_init_63 ?_
  refine V.gen (fun S2_63 e_63 => ?_)
  have iv' := inv_sO e_63 iv (Or.inl List.mem_cons_self)
  have x_63 := x_sO e_63
  have E0' := ext_tr E0 x_63 (fun _ _ z => z)
  have E0 := E0'
  have o_130 := mo_sO e_63 (Or.inl (by decide)) o_130
  have o_131 := mo_sO e_63 (Or.inl (by decide)) o_131
  have o_133 := mo_sO e_63 (Or.inl (by decide)) o_133
  have o_134 := mo_sO e_63 (Or.inl (by decide)) o_134
  have o_136 := mo_sO e_63 (Or.inl (by decide)) o_136
  have o_137 := mo_sO e_63 (Or.inl (by decide)) o_137
  have i_this := is_ext x_63 i_this
  have i_a5 := is_ext x_63 i_a5
  have i_a17 := isA_ext x_63 i_a17
  have i_a25 := isA_ext x_63 i_a25
  have i_a35 := isA_ext x_63 i_a35
  have i_a44 := isA_ext x_63 i_a44
  have i_a53 := isA_ext x_63 i_a53
  have i_a61 := isA_ext x_63 i_a61
  have iv := iv'
  have o_139 := mo_put e_63
  refine v_aload_n C dX2_init_66 rfl ?_
  refine v_iconst (v := 4) C dX2_init_67 (by decide) ?_
  refine v_newarr C (kd := 12) (N := 4) wd73 rfl (t0 := 1) rfl (by decide) (fun _ => cell_newJ) (fun _ => vp_cell_l _ _ _) (by decide) (by decide) (Nat.le_of_ble_eq_true rfl) (Nat.le_of_ble_eq_true rfl) (Nat.le_of_ble_eq_true rfl) dX2_init_68 (fun a68 n_a68 => ?_)
  have nn_a68 := fun z => n_a68 (E0.1 a68 z).1
  have m_a68 := inv_new iv n_a68
  refine V.gen (fun S2_68 e_68 => ?_)
  have iv' := inv_sArr e_68 iv n_a68 (by decide)
  have x_68 := x_sArr e_68 n_a68
  have E0' := ext_tr E0 x_68 (fun _ _ z => z.elim)
  have E0 := E0'
  have o_130 := mo_sArr e_68 o_130
  have o_131 := mo_sArr e_68 o_131
  have o_133 := mo_sArr e_68 o_133
  have o_134 := mo_sArr e_68 o_134
  have o_136 := mo_sArr e_68 o_136
  have o_137 := mo_sArr e_68 o_137
  have o_139 := mo_sArr e_68 o_139
  have i_this := is_ext x_68 i_this
  have i_a5 := is_ext x_68 i_a5
  have i_a17 := isA_ext x_68 i_a17
  have i_a25 := isA_ext x_68 i_a25
  have i_a35 := isA_ext x_68 i_a35
  have i_a44 := isA_ext x_68 i_a44
  have i_a53 := isA_ext x_68 i_a53
  have i_a61 := isA_ext x_68 i_a61
  have iv := iv'
  have i_a68 := isA_sArrE e_68 n_a68
  refine p2_41 (v := some _) C i_this (hin rfl) dX2_init_70 ?_
  refine V.gen (fun S2_70 e_70 => ?_)
  have iv' := inv_sO e_70 iv (Or.inl List.mem_cons_self)
  have x_70 := x_sO e_70
  have E0' := ext_tr E0 x_70 (fun _ _ z => z)
  have E0 := E0'
  have o_130 := mo_sO e_70 (Or.inl (by decide)) o_130
  have o_131 := mo_sO e_70 (Or.inl (by decide)) o_131
  have o_133 := mo_sO e_70 (Or.inl (by decide)) o_133
  have o_134 := mo_sO e_70 (Or.inl (by decide)) o_134
  have o_136 := mo_sO e_70 (Or.inl (by decide)) o_136
  have o_137 := mo_sO e_70 (Or.inl (by decide)) o_137
  have o_139 := mo_sO e_70 (Or.inl (by decide)) o_139
  have i_this := is_ext x_70 i_this
  have i_a5 := is_ext x_70 i_a5
  have i_a17 := isA_ext x_70 i_a17
  have i_a25 := isA_ext x_70 i_a25
  have i_a35 := isA_ext x_70 i_a35
  have i_a44 := isA_ext x_70 i_a44
  have i_a53 := isA_ext x_70 i_a53
  have i_a61 := isA_ext x_70 i_a61
  have i_a68 := isA_ext x_70 i_a68
  have iv := iv'
  have o_140 := mo_put e_70
  refine v_aload_n C dX2_init_73 rfl ?_
  refine v_iload_n C dX2_init_74 rfl ?_
  refine p2_45 C i_this (hin rfl) dX2_init_75 ?_
  refine V.gen (fun S2_75 e_75 => ?_)
  have iv' := inv_sI e_75 iv (by decide) (by decide)
  have x_75 := x_sI e_75
  have E0' := ext_tr E0 x_75 (fun _ _ z => z)
  have E0 := E0'
  have o_130 := mo_sI e_75 o_130
  have o_131 := mo_sI e_75 o_131
  have o_133 := mo_sI e_75 o_133
  have o_134 := mo_sI e_75 o_134
  have o_136 := mo_sI e_75 o_136
  have o_137 := mo_sI e_75 o_137
  have o_139 := mo_sI e_75 o_139
  have o_140 := mo_sI e_75 o_140
  have i_this := is_ext x_75 i_this
  have i_a5 := is_ext x_75 i_a5
  have i_a17 := isA_ext x_75 i_a17
  have i_a25 := isA_ext x_75 i_a25
  have i_a35 := isA_ext x_75 i_a35
  have i_a44 := isA_ext x_75 i_a44
  have i_a53 := isA_ext x_75 i_a53
  have i_a61 := isA_ext x_75 i_a61
  have i_a68 := isA_ext x_75 i_a68
  have iv := iv'
  refine v_aload_n C dX2_init_78 rfl ?_
  refine v_iload_n C dX2_init_79 rfl ?_
  refine p2_49 C i_this (hin rfl) dX2_init_80 ?_
  refine V.gen (fun S2_80 e_80 => ?_)
  have iv' := inv_sI e_80 iv (by decide) (by decide)
  have x_80 := x_sI e_80
  have E0' := ext_tr E0 x_80 (fun _ _ z => z)
  have E0 := E0'
  have o_130 := mo_sI e_80 o_130
  have o_131 := mo_sI e_80 o_131
  have o_133 := mo_sI e_80 o_133
  have o_134 := mo_sI e_80 o_134
  have o_136 := mo_sI e_80 o_136
  have o_137 := mo_sI e_80 o_137
  have o_139 := mo_sI e_80 o_139
  have o_140 := mo_sI e_80 o_140
  have i_this := is_ext x_80 i_this
  have i_a5 := is_ext x_80 i_a5
  have i_a17 := isA_ext x_80 i_a17
  have i_a25 := isA_ext x_80 i_a25
  have i_a35 := isA_ext x_80 i_a35
  have i_a44 := isA_ext x_80 i_a44
  have i_a53 := isA_ext x_80 i_a53
  have i_a61 := isA_ext x_80 i_a61
  have i_a68 := isA_ext x_80 i_a68
  have iv := iv'
  refine v_aload_n C dX2_init_83 rfl ?_
  refine r2_32 C i_this o_136 dX2_init_84 ?_
  refine v_iconst (v := -1) C dX2_init_87 (by decide) ?_
  refine v_callS (As := [_, _]) (n := 2) C (ct_J7_fill_53178 l _ _ _) rfl ⟨wd289, wd55, wd56, wd57⟩ hy_J7_fill_53178 rfl ⟨Nat.le_of_ble_eq_true rfl, Nat.le_of_ble_eq_true rfl⟩ (Nat.le_of_ble_eq_true rfl) ⟨Nat.le_of_ble_eq_true rfl, Nat.le_of_ble_eq_true rfl⟩ dX2_init_88 ⟨rfl, i_a44, by decide⟩ (fun r_88 S2_88 h_88 => ?_)
  obtain ⟨rfl, e_88⟩ := h_88
  have iv' := inv_sFill e_88 iv
  have x_88 := x_sFill e_88
  have E0' := ext_tr E0 x_88 (xn nn_a44)
  have E0 := E0'
  have o_130 := mo_sFill e_88 o_130
  have o_131 := mo_sFill e_88 o_131
  have o_133 := mo_sFill e_88 o_133
  have o_134 := mo_sFill e_88 o_134
  have o_136 := mo_sFill e_88 o_136
  have o_137 := mo_sFill e_88 o_137
  have o_139 := mo_sFill e_88 o_139
  have o_140 := mo_sFill e_88 o_140
  have i_this := is_ext x_88 i_this
  have i_a5 := is_ext x_88 i_a5
  have i_a17 := isA_ext x_88 i_a17
  have i_a25 := isA_ext x_88 i_a25
  have i_a35 := isA_ext x_88 i_a35
  have i_a44 := isA_ext x_88 i_a44
  have i_a53 := isA_ext x_88 i_a53
  have i_a61 := isA_ext x_88 i_a61
  have i_a68 := isA_ext x_88 i_a68
  have iv := iv'
  refine v_aload_n C dX2_init_91 rfl ?_
  refine r2_35 C i_this o_137 dX2_init_92 ?_
  refine v_iconst (v := -1) C dX2_init_95 (by decide) ?_
  refine v_callS (As := [_, _]) (n := 2) C (ct_J7_fill_53178 l _ _ _) rfl ⟨wd289, wd55, wd56, wd57⟩ hy_J7_fill_53178 rfl ⟨Nat.le_of_ble_eq_true rfl, Nat.le_of_ble_eq_true rfl⟩ (Nat.le_of_ble_eq_true rfl) ⟨Nat.le_of_ble_eq_true rfl, Nat.le_of_ble_eq_true rfl⟩ dX2_init_96 ⟨rfl, i_a53, by decide⟩ (fun r_96 S2_96 h_96 => ?_)
  obtain ⟨rfl, e_96⟩ := h_96
  have iv' := inv_sFill e_96 iv
  have x_96 := x_sFill e_96
  have E0' := ext_tr E0 x_96 (xn nn_a53)
  have E0 := E0'
  have o_130 := mo_sFill e_96 o_130
  have o_131 := mo_sFill e_96 o_131
  have o_133 := mo_sFill e_96 o_133
  have o_134 := mo_sFill e_96 o_134
  have o_136 := mo_sFill e_96 o_136
  have o_137 := mo_sFill e_96 o_137
  have o_139 := mo_sFill e_96 o_139
  have o_140 := mo_sFill e_96 o_140
  have i_this := is_ext x_96 i_this
  have i_a5 := is_ext x_96 i_a5
  have i_a17 := isA_ext x_96 i_a17
  have i_a25 := isA_ext x_96 i_a25
  have i_a35 := isA_ext x_96 i_a35
  have i_a44 := isA_ext x_96 i_a44
  have i_a53 := isA_ext x_96 i_a53
  have i_a61 := isA_ext x_96 i_a61
  have i_a68 := isA_ext x_96 i_a68
  have iv := iv'
  refine v_aload_n C dX2_init_99 rfl ?_
  refine r2_38 C i_this o_139 dX2_init_100 ?_
  refine v_iconst (v := -1) C dX2_init_103 (by decide) ?_
  refine v_callS (As := [_, _]) (n := 2) C (ct_J7_fill_53178 l _ _ _) rfl ⟨wd289, wd55, wd56, wd57⟩ hy_J7_fill_53178 rfl ⟨Nat.le_of_ble_eq_true rfl, Nat.le_of_ble_eq_true rfl⟩ (Nat.le_of_ble_eq_true rfl) ⟨Nat.le_of_ble_eq_true rfl, Nat.le_of_ble_eq_true rfl⟩ dX2_init_104 ⟨rfl, i_a61, by decide⟩ (fun r_104 S2_104 h_104 => ?_)
  obtain ⟨rfl, e_104⟩ := h_104
  have iv' := inv_sFill e_104 iv
  have x_104 := x_sFill e_104
  have E0' := ext_tr E0 x_104 (xn nn_a61)
  have E0 := E0'
  have o_130 := mo_sFill e_104 o_130
  have o_131 := mo_sFill e_104 o_131
  have o_133 := mo_sFill e_104 o_133
  have o_134 := mo_sFill e_104 o_134
  have o_136 := mo_sFill e_104 o_136
  have o_137 := mo_sFill e_104 o_137
  have o_139 := mo_sFill e_104 o_139
  have o_140 := mo_sFill e_104 o_140
  have i_this := is_ext x_104 i_this
  have i_a5 := is_ext x_104 i_a5
  have i_a17 := isA_ext x_104 i_a17
  have i_a25 := isA_ext x_104 i_a25
  have i_a35 := isA_ext x_104 i_a35
  have i_a44 := isA_ext x_104 i_a44
  have i_a53 := isA_ext x_104 i_a53
  have i_a61 := isA_ext x_104 i_a61
  have i_a68 := isA_ext x_104 i_a68
  have iv := iv'
  refine v_vret C hr (Nat.le_of_ble_eq_true rfl) (Nat.le_of_ble_eq_true rfl) dX2_init_107 ?_
  refine ⟨rfl, inv_done iv i_this.2 ?_ (fun z => by cases z) (fun z => by cases z), E0⟩
  intro q hq hc
  rcases FT_c2 q hq hc with rfl | rfl | rfl | rfl | rfl | rfl | rfl | rfl
  · exact Or.inr ⟨_, o_130, Or.inl ⟨rfl, i_a5⟩⟩
  · exact Or.inr ⟨_, o_131, Or.inr ⟨by decide, i_a17, m_a17⟩⟩
  · exact Or.inr ⟨_, o_133, Or.inr ⟨by decide, i_a25, m_a25⟩⟩
  · exact Or.inr ⟨_, o_134, Or.inr ⟨by decide, i_a35, m_a35⟩⟩
  · exact Or.inr ⟨_, o_136, Or.inr ⟨by decide, i_a44, m_a44⟩⟩
  · exact Or.inr ⟨_, o_137, Or.inr ⟨by decide, i_a53, m_a53⟩⟩
  · exact Or.inr ⟨_, o_139, Or.inr ⟨by decide, i_a61, m_a61⟩⟩
  · exact Or.inr ⟨_, o_140, Or.inr ⟨by decide, i_a68, m_a68⟩⟩
