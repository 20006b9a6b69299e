theorem mo_sIy {S S' : Mem} {g a : Nat} {q : Option Nat} {g' a' : Nat} {v : Int32} (e : S' = sI S g' a' v) (h : mO S g a = q) : mO S' g a = q := by rw [e, mO_sI]; exact h
theorem mo_sOx {S S' : Mem} {g a : Nat} {q : Option Nat} {g' a' : Nat} {v : Option Nat} (e : S' = sO S g' a' v) (n : g ≠ g' ∨ a ≠ a') (h : mO S g a = q) : mO S' g a = q := by rw [e, mO_sO, if_neg (fun z => n.elim (fun n => n z.1) (fun n => n z.2))]; exact h
theorem mo_sJy {S S' : Mem} {g a : Nat} {q : Option Nat} {g' a' : Nat} {v : Int64} (e : S' = sJ S g' a' v) (h : mO S g a = q) : mO S' g a = q := by rw [e, mO_sJ]; exact h
theorem mo_sAy {S S' : Mem} {g a : Nat} {q : Option Nat} {a' i : Nat} {v : Int32} (e : S' = sA S a' i v) (h : mO S g a = q) : mO S' g a = q := by rw [e, mO_sA]; exact h
theorem mo_sPy {S S' : Mem} {g a : Nat} {q : Option Nat} {a' i : Nat} {v : Option Nat} (e : S' = sP S a' i v) (h : mO S g a = q) : mO S' g a = q := by rw [e, mO_sP]; exact h
theorem mo_sQy {S S' : Mem} {g a : Nat} {q : Option Nat} {a' i : Nat} {v : Int64} (e : S' = sQ S a' i v) (h : mO S g a = q) : mO S' g a = q := by rw [e, mO_sQ]; exact h
theorem mo_sFilly {S S' : Mem} {g a : Nat} {q : Option Nat} {a' n : Nat} {v : Int32} (e : S' = sFill S a' n v) (h : mO S g a = q) : mO S' g a = q := by rw [e, mO_sFill]; exact h
theorem mo_sArry {S S' : Mem} {g a : Nat} {q : Option Nat} {a' kd n : Nat} (e : S' = sArr S a' kd n) (h : mO S g a = q) : mO S' g a = q := by rw [e, mO_sArr]; exact h
theorem mo_sNewx {S S' : Mem} {g a a' c : Nat} {q : Option Nat} (e : S' = sNew S a' c) (n : a ≠ a') (h : mO S g a = q) : mO S' g a = q := by rw [e, mO_sNew, if_neg n]; exact h
theorem mo_extx {S S' : Mem} {X : Nat → Prop} {g a k : Nat} {q : Option Nat} (x : ext S S' X) (i : is S a k) (n : ¬ X a) (h : mO S g a = q) : mO S' g a = q := by rw [(x.2 a i.1 n).2.1]; exact h
theorem mi_sIx {S S' : Mem} {g a : Nat} {q : Int32} {g' a' : Nat} {v : Int32} (e : S' = sI S g' a' v) (n : g ≠ g' ∨ a ≠ a') (h : mI S g a = q) : mI S' g a = q := by rw [e, mI_sI, if_neg (fun z => n.elim (fun n => n z.1) (fun n => n z.2))]; exact h
theorem mi_sOy {S S' : Mem} {g a : Nat} {q : Int32} {g' a' : Nat} {v : Option Nat} (e : S' = sO S g' a' v) (h : mI S g a = q) : mI S' g a = q := by rw [e, mI_sO]; exact h
theorem mi_sJy {S S' : Mem} {g a : Nat} {q : Int32} {g' a' : Nat} {v : Int64} (e : S' = sJ S g' a' v) (h : mI S g a = q) : mI S' g a = q := by rw [e, mI_sJ]; exact h
theorem mi_sAy {S S' : Mem} {g a : Nat} {q : Int32} {a' i : Nat} {v : Int32} (e : S' = sA S a' i v) (h : mI S g a = q) : mI S' g a = q := by rw [e, mI_sA]; exact h
theorem mi_sPy {S S' : Mem} {g a : Nat} {q : Int32} {a' i : Nat} {v : Option Nat} (e : S' = sP S a' i v) (h : mI S g a = q) : mI S' g a = q := by rw [e, mI_sP]; exact h
theorem mi_sQy {S S' : Mem} {g a : Nat} {q : Int32} {a' i : Nat} {v : Int64} (e : S' = sQ S a' i v) (h : mI S g a = q) : mI S' g a = q := by rw [e, mI_sQ]; exact h
theorem mi_sFilly {S S' : Mem} {g a : Nat} {q : Int32} {a' n : Nat} {v : Int32} (e : S' = sFill S a' n v) (h : mI S g a = q) : mI S' g a = q := by rw [e, mI_sFill]; exact h
theorem mi_sArry {S S' : Mem} {g a : Nat} {q : Int32} {a' kd n : Nat} (e : S' = sArr S a' kd n) (h : mI S g a = q) : mI S' g a = q := by rw [e, mI_sArr]; exact h
theorem mi_sNewx {S S' : Mem} {g a a' c : Nat} {q : Int32} (e : S' = sNew S a' c) (n : a ≠ a') (h : mI S g a = q) : mI S' g a = q := by rw [e, mI_sNew, if_neg n]; exact h
theorem mi_extx {S S' : Mem} {X : Nat → Prop} {g a k : Nat} {q : Int32} (x : ext S S' X) (i : is S a k) (n : ¬ X a) (h : mI S g a = q) : mI S' g a = q := by rw [(x.2 a i.1 n).1]; exact h
theorem mO_newE {S S' : Mem} {a c : Nat} (e : S' = sNew S a c) (g : Nat) : mO S' g a = none := by rw [e, mO_sNew, if_pos rfl]
theorem FT_c0 : ∀ q ∈ FT, q.1 / 64 = 0 → q = (1, 5, 0, true) ∨ q = (4, 5, 0, true) ∨ q = (5, 5, 0, true) ∨ q = (6, 3, 0, true) := by decide +kernel
theorem FT_c1 : ∀ q ∈ FT, q.1 / 64 = 1 → q = (64, 17, 20, false) ∨ q = (66, 14, 12, false) ∨ q = (68, 4, 0, false) ∨ q = (69, 0, 0, false) := by decide +kernel
theorem FT_c4 : ∀ q ∈ FT, q.1 / 64 = 4 → q = (256, 15, 7, false) ∨ q = (257, 11, 7, false) ∨ q = (258, 3, 0, false) ∨ q = (259, 3, 0, false) := by decide +kernel
theorem FT_c6 : ∀ q ∈ FT, q.1 / 64 = 6 → q = (384, 1, 0, false) ∨ q = (385, 7, 0, false) := by decide +kernel
theorem FT_c7 : ∀ q ∈ FT, q.1 / 64 = 7 → q = (448, 12, 1000, false) := by decide +kernel
theorem FT_c9 : ∀ q ∈ FT, q.1 / 64 = 9 → q = (576, 1, 0, false) ∨ q = (577, 6, 0, false) ∨ q = (578, 5, 0, true) := by decide +kernel
theorem sc_X0_init (l : Launch) (M : Nat → Prop) (E : List Nat) (h : Nat) : Ct l yX0_init cX0_init 1 none 1 0 0 14 (fun S av => av = [.ref h] ∧ INV M (h :: E) S ∧ is S h 0 ∧ ∀ g, mO S g h = none) (fun S _ r S' => r = none ∧ INV M E S' ∧ ext S S' (fun a => a = h)) := by
  refine ct_of (by decide) (fun S av h => by obtain ⟨rfl, iv, i_this, zo⟩ := h; exact Nat.le_of_ble_eq_true rfl) ?_
  intro p e s m args below meth c D G bs S av C hr hin hpre
  obtain ⟨rfl, iv, i_this, zo⟩ := hpre
  refine v_aload_n C dX0_init_0 rfl ?_
  refine v_objInit C wd60 wd11 wd12 dX0_init_1 (Nat.le_of_ble_eq_true rfl) (Nat.le_of_ble_eq_true rfl) ?_
  refine v_vret C hr (Nat.le_of_ble_eq_true rfl) (Nat.le_of_ble_eq_true rfl) dX0_init_4 ?_
  refine ⟨rfl, inv_done iv i_this.2 ?_ (fun z => by cases z) (fun z => by cases z), ext_rfl⟩
  intro q hq hc
  have hn : q.2.2.2 = true := by rcases FT_c0 q hq hc with rfl | rfl | rfl | rfl <;> rfl
  exact Or.inl ⟨hn, zo _⟩
theorem inv_add {S S' : Mem} {m0 : Nat} {ad : Nat → Nat} {K : RS} (h : INV (fun _ => False) [] S) (k : mdR S' m0 ad K) (n0 : m0 ∉ mL S) (na : ∀ q ∈ mTab, ad q.1 ∉ mL S) (hl : ∀ a, a ∈ mL S' → a ∈ mL S ∨ mX m0 ad a) (x : ext S S' (fun _ => False)) : INV (mX m0 ad) [] S' := by
  have hm : mono S S' := x.1
  have kd : ∀ a, mX m0 ad a → 10 ≤ mK S' a ∧ mK S' a ≤ 13 := fun a ha => by
    rcases ha with rfl | ⟨q, hq, rfl⟩
    · rw [k.1.2]; decide
    · rw [(k.2.1 q hq).2.2.1]; exact (show ∀ q ∈ mTab, 10 ≤ q.2.1 ∧ q.2.1 ≤ 13 by decide +kernel) q hq
  have nm : ∀ a, a ∈ mL S → ¬ mX m0 ad a := fun a ha z => by
    rcases z with rfl | ⟨q, hq, rfl⟩
    · exact n0 ha
    · exact na q hq ha
  have old : ∀ a, a ∈ mL S' → mK S' a < 10 ∨ 13 < mK S' a → a ∈ mL S := fun a ha hk => (hl a ha).elim id (fun z => by have := kd a z; omega)
  obtain ⟨h1, h2, h3, h4, h5⟩ := h
  refine ⟨fun a ha => ⟨?_, kd a ha⟩, fun q hq a ha hE hk => ?_, fun q hq a ha hk i => ?_, fun a ha hE hk => ?_, fun a ha hE hk => ?_⟩
  · rcases ha with rfl | ⟨q, hq, rfl⟩
    · exact k.1.1
    · exact (k.2.1 q hq).2.1
  · have lt := (show ∀ q ∈ FT, q.1 / 64 < 10 by decide +kernel) q hq
    have g1 := old a ha (Or.inl (by omega))
    have g := h2 q hq a g1 hE (by rw [← (hm a g1).2.1]; exact hk)
    rw [(x.2 a g1 (fun z => z)).2.1]
    rcases g with g | ⟨b, e, ⟨z, i⟩ | ⟨z, i, _⟩⟩
    · exact Or.inl g
    · exact Or.inr ⟨b, e, Or.inl ⟨z, is_mono hm i⟩⟩
    · exact Or.inr ⟨b, e, Or.inr ⟨z, isA_mono hm i, nm b i.1⟩⟩
  · have gt := (show ∀ q ∈ ET, 13 < q.1 by decide +kernel) q hq
    have g1 := old a ha (Or.inr (by omega))
    rw [(x.2 a g1 (fun z => z)).2.2.2.2.1]
    exact nOK_mono hm (h3 q hq a g1 (by rw [← (hm a g1).2.1]; exact hk) i)
  · have g1 := old a ha (Or.inl (by omega))
    rw [(x.2 a g1 (fun z => z)).1]
    exact h4 a g1 hE (by rw [← (hm a g1).2.1]; exact hk)
  · have g1 := old a ha (Or.inl (by omega))
    rw [(x.2 a g1 (fun z => z)).1]
    exact h5 a g1 hE (by rw [← (hm a g1).2.1]; exact hk)
/-- what the reference does leaves the class's cells -/
theorem inv_exm {S S' : Mem} {m0 : Nat} {ad : Nat → Nat} (h : INV (mX m0 ad) [] S) (x : exm S S' m0 ad) : INV (mX m0 ad) [] S' := by
  have hm : mono S S' := x.1.1
  have ag : ∀ a k, a ∈ mL S → mK S a = k → (k < 10 ∨ 13 < k) → agr S S' a := fun a k ha hk hz => x.1.2 a ha (fun z => by
    have := h.1 a z
    omega)
  obtain ⟨h1, h2, h3, h4, h5⟩ := h
  refine ⟨fun a ha => by rw [x.2.1, x.2.2]; exact h1 a ha, fun q hq a ha hE hk => ?_, fun q hq a ha hk i => ?_, fun a ha hE hk => ?_, fun a ha hE hk => ?_⟩
  · rw [x.2.1] at ha; rw [x.2.2] at hk
    have lt := (show ∀ q ∈ FT, q.1 / 64 < 10 by decide +kernel) q hq
    rw [(ag a _ ha hk (Or.inl (by omega))).2.1]
    exact fOK_mono hm (h2 q hq a ha hE hk)
  · rw [x.2.1] at ha; rw [x.2.2] at hk
    have gt := (show ∀ q ∈ ET, 13 < q.1 by decide +kernel) q hq
    rw [(ag a _ ha hk (Or.inr (by omega))).2.2.2.2.1]
    exact nOK_mono hm (h3 q hq a ha hk i)
  · rw [x.2.1] at ha; rw [x.2.2] at hk
    rw [(ag a _ ha hk (Or.inl (by omega))).1]
    exact h4 a ha hE hk
  · rw [x.2.1] at ha; rw [x.2.2] at hk
    rw [(ag a _ ha hk (Or.inl (by omega))).1]
    exact h5 a ha hE hk
/-- what is said of a character's coming -/
def charN (k : Nat) (x v m : Int32) : Prop := (isB x 4 = false ∧ v = -2 ∧ m = nI k) ∨ (isB x 4 = true ∧ k = 12 ∧ v = -4 ∧ m = nI k) ∨ (isB x 4 = true ∧ k < 12 ∧ v = nI k ∧ m = nI (k + 1))
set_option maxRecDepth 100000 in
set_option maxHeartbeats 4000000 in
theorem sc_X4_init (l : Launch) (M : Nat → Prop) (E : List Nat) (h : Nat) : Ct l yX4_init cX4_init 1 none 2 8 100 43 (fun S av => av = [.ref h] ∧ INV M (h :: E) S ∧ is S h 4) (fun S _ r S' => r = none ∧ INV M E S' ∧ ext S S' (fun a => a = h)) := by
  refine ct_of (by decide) (fun S av h => by obtain ⟨rfl, iv, i_this⟩ := h; exact Nat.le_of_ble_eq_true rfl) ?_
  intro p e s m args below meth c D G bs S av C hr hin hpre
  obtain ⟨rfl, iv, i_this⟩ := hpre
  have E0 : ext S S (fun a => a = h) := ext_rfl
  refine v_aload_n C dX4_init_0 rfl ?_
  refine v_objInit C wd39 wd11 wd12 dX4_init_1 (Nat.le_of_ble_eq_true rfl) (Nat.le_of_ble_eq_true rfl) ?_
  refine v_aload_n C dX4_init_4 rfl ?_
  refine v_bipush (v := 7) C dX4_init_5 (by decide) ?_
  refine v_newrefs C (kd := 15) (N := 7) (t0 := 4) (by decide) (by decide +kernel) wd40 rfl (by decide) (by decide) (Nat.le_of_ble_eq_true rfl) (Nat.le_of_ble_eq_true rfl) (Nat.le_of_ble_eq_true rfl) dX4_init_7 (fun a7 n_a7 => ?_)
  have nn_a7 := fun z => n_a7 (E0.1 a7 z).1
  have m_a7 := inv_new iv n_a7
  refine V.gen (fun S2_7 e_7 => ?_)
  have iv' := inv_sArr e_7 iv n_a7 (by decide)
  have x_7 := x_sArr e_7 n_a7
  have E0' := ext_tr E0 x_7 (fun _ _ z => z.elim)
  have E0 := E0'
  have i_this := is_ext x_7 i_this
  have iv := iv'
  have i_a7 := isA_sArrE e_7 n_a7
  refine p4_13 (v := some _) C i_this (hin rfl) dX4_init_10 ?_
  refine V.gen (fun S2_10 e_10 => ?_)
  have iv' := inv_sO e_10 iv (Or.inl List.mem_cons_self)
  have x_10 := x_sO e_10
  have E0' := ext_tr E0 x_10 (fun _ _ z => z)
  have E0 := E0'
  have i_this := is_ext x_10 i_this
  have i_a7 := isA_ext x_10 i_a7
  have iv := iv'
  have o_256 := mo_put e_10
  refine v_aload_n C dX4_init_13 rfl ?_
  refine v_bipush (v := 7) C dX4_init_14 (by decide) ?_
  refine v_newarr C (kd := 11) (N := 7) wd42 rfl (t0 := 0) rfl (by decide) (fun _ => cell_newI (Or.inl rfl)) (fun _ => vp_cell_i _ _ _) (by decide) (by decide) (Nat.le_of_ble_eq_true rfl) (Nat.le_of_ble_eq_true rfl) (Nat.le_of_ble_eq_true rfl) dX4_init_16 (fun a16 n_a16 => ?_)
  have nn_a16 := fun z => n_a16 (E0.1 a16 z).1
  have m_a16 := inv_new iv n_a16
  refine V.gen (fun S2_16 e_16 => ?_)
  have iv' := inv_sArr e_16 iv n_a16 (by decide)
  have x_16 := x_sArr e_16 n_a16
  have E0' := ext_tr E0 x_16 (fun _ _ z => z.elim)
  have E0 := E0'
  have o_256 := mo_sArr e_16 o_256
  have i_this := is_ext x_16 i_this
  have i_a7 := isA_ext x_16 i_a7
  have iv := iv'
  have i_a16 := isA_sArrE e_16 n_a16
  refine p4_17 (v := some _) C i_this (hin rfl) dX4_init_18 ?_
  refine V.gen (fun S2_18 e_18 => ?_)
  have iv' := inv_sO e_18 iv (Or.inl List.mem_cons_self)
  have x_18 := x_sO e_18
  have E0' := ext_tr E0 x_18 (fun _ _ z => z)
  have E0 := E0'
  have o_256 := mo_sO e_18 (Or.inl (by decide)) o_256
  have i_this := is_ext x_18 i_this
  have i_a7 := isA_ext x_18 i_a7
  have i_a16 := isA_ext x_18 i_a16
  have iv := iv'
  have o_257 := mo_put e_18
  refine v_aload_n C dX4_init_21 rfl ?_
  refine v_new C (ci := 3) (by decide) rfl inlX3 tyX3_ok wd40 wd44 wd45 nfX3 (Nat.le_of_ble_eq_true rfl) (Nat.le_of_ble_eq_true rfl) dX4_init_22 (fun a22 n_a22 => ?_)
  have nn_a22 := fun z => n_a22 (E0.1 a22 z).1
  have i_this0 := i_this
  refine V.gen (fun S2_22 e_22 => ?_)
  have iv' := inv_sNew e_22 iv n_a22 (by decide)
  have x_22 := x_sNew e_22 n_a22
  have E0' := ext_tr E0 x_22 (fun _ _ z => z.elim)
  have E0 := E0'
  have o_256 := mo_sNew e_22 (fun z => n_a22 (z ▸ i_this.1)) o_256
  have o_257 := mo_sNew e_22 (fun z => n_a22 (z ▸ i_this.1)) o_257
  have i_this := is_ext x_22 i_this
  have i_a7 := isA_ext x_22 i_a7
  have i_a16 := isA_ext x_22 i_a16
  have iv := iv'
  have i_a22 := is_sNewE e_22 n_a22
  have z_a22 := mI_newE e_22
  refine v_dup C dX4_init_25 rfl ?_
  refine v_callI (As := []) (n := 0) C (sc_X3_init l _ _ _) rfl ⟨wd48, wd49, wd45, wd50⟩ rfl hy_X3_init rfl ⟨Nat.le_of_ble_eq_true rfl, Nat.le_of_ble_eq_true rfl⟩ (Nat.le_of_ble_eq_true rfl) ⟨Nat.le_of_ble_eq_true rfl, Nat.le_of_ble_eq_true rfl⟩ dX4_init_26 ⟨rfl, iv, i_a22, z_a22 194⟩ (fun r_26 S2_26 h_26 => ?_)
  obtain ⟨rfl, iv2, x_26⟩ := h_26
  have E0' := ext_tr E0 x_26 (xn nn_a22)
  have E0 := E0'
  have o_256 := mo_ext x_26 i_this (fun z => n_a22 (z ▸ i_this0.1)) o_256
  have o_257 := mo_ext x_26 i_this (fun z => n_a22 (z ▸ i_this0.1)) o_257
  have i_this := is_ext x_26 i_this
  have i_a7 := isA_ext x_26 i_a7
  have i_a16 := isA_ext x_26 i_a16
  have i_a22 := is_ext x_26 i_a22
  have iv := iv2
  refine p4_22 (v := some _) C i_this (hin rfl) dX4_init_29 ?_
  refine V.gen (fun S2_29 e_29 => ?_)
  have iv' := inv_sO e_29 iv (Or.inl List.mem_cons_self)
  have x_29 := x_sO e_29
  have E0' := ext_tr E0 x_29 (fun _ _ z => z)
  have E0 := E0'
  have o_256 := mo_sO e_29 (Or.inl (by decide)) o_256
  have o_257 := mo_sO e_29 (Or.inl (by decide)) o_257
  have i_this := is_ext x_29 i_this
  have i_a7 := isA_ext x_29 i_a7
  have i_a16 := isA_ext x_29 i_a16
  have i_a22 := is_ext x_29 i_a22
  have iv := iv'
  have o_258 := mo_put e_29
  refine v_aload_n C dX4_init_32 rfl ?_
  refine v_new C (ci := 3) (by decide) rfl inlX3 tyX3_ok wd40 wd44 wd45 nfX3 (Nat.le_of_ble_eq_true rfl) (Nat.le_of_ble_eq_true rfl) dX4_init_33 (fun a33 n_a33 => ?_)
  have nn_a33 := fun z => n_a33 (E0.1 a33 z).1
  have i_this0 := i_this
  refine V.gen (fun S2_33 e_33 => ?_)
  have iv' := inv_sNew e_33 iv n_a33 (by decide)
  have x_33 := x_sNew e_33 n_a33
  have E0' := ext_tr E0 x_33 (fun _ _ z => z.elim)
  have E0 := E0'
  have o_256 := mo_sNew e_33 (fun z => n_a33 (z ▸ i_this.1)) o_256
  have o_257 := mo_sNew e_33 (fun z => n_a33 (z ▸ i_this.1)) o_257
  have o_258 := mo_sNew e_33 (fun z => n_a33 (z ▸ i_this.1)) o_258
  have i_this := is_ext x_33 i_this
  have i_a7 := isA_ext x_33 i_a7
  have i_a16 := isA_ext x_33 i_a16
  have i_a22 := is_ext x_33 i_a22
  have iv := iv'
  have i_a33 := is_sNewE e_33 n_a33
  have z_a33 := mI_newE e_33
  refine v_dup C dX4_init_36 rfl ?_
  refine v_callI (As := []) (n := 0) C (sc_X3_init l _ _ _) rfl ⟨wd48, wd49, wd45, wd50⟩ rfl hy_X3_init rfl ⟨Nat.le_of_ble_eq_true rfl, Nat.le_of_ble_eq_true rfl⟩ (Nat.le_of_ble_eq_true rfl) ⟨Nat.le_of_ble_eq_true rfl, Nat.le_of_ble_eq_true rfl⟩ dX4_init_37 ⟨rfl, iv, i_a33, z_a33 194⟩ (fun r_37 S2_37 h_37 => ?_)
  obtain ⟨rfl, iv2, x_37⟩ := h_37
  have E0' := ext_tr E0 x_37 (xn nn_a33)
  have E0 := E0'
  have o_256 := mo_ext x_37 i_this (fun z => n_a33 (z ▸ i_this0.1)) o_256
  have o_257 := mo_ext x_37 i_this (fun z => n_a33 (z ▸ i_this0.1)) o_257
  have o_258 := mo_ext x_37 i_this (fun z => n_a33 (z ▸ i_this0.1)) o_258
  have i_this := is_ext x_37 i_this
  have i_a7 := isA_ext x_37 i_a7
  have i_a16 := isA_ext x_37 i_a16
  have i_a22 := is_ext x_37 i_a22
  have i_a33 := is_ext x_37 i_a33
  have iv := iv2
  refine p4_26 (v := some _) C i_this (hin rfl) dX4_init_40 ?_
  refine V.gen (fun S2_40 e_40 => ?_)
  have iv' := inv_sO e_40 iv (Or.inl List.mem_cons_self)
  have x_40 := x_sO e_40
  have E0' := ext_tr E0 x_40 (fun _ _ z => z)
  have E0 := E0'
  have o_256 := mo_sO e_40 (Or.inl (by decide)) o_256
  have o_257 := mo_sO e_40 (Or.inl (by decide)) o_257
  have o_258 := mo_sO e_40 (Or.inl (by decide)) o_258
  have i_this := is_ext x_40 i_this
  have i_a7 := isA_ext x_40 i_a7
  have i_a16 := isA_ext x_40 i_a16
  have i_a22 := is_ext x_40 i_a22
  have i_a33 := is_ext x_40 i_a33
  have iv := iv'
  have o_259 := mo_put e_40
  refine v_vret C hr (Nat.le_of_ble_eq_true rfl) (Nat.le_of_ble_eq_true rfl) dX4_init_43 ?_
  refine ⟨rfl, inv_done iv i_this.2 ?_ (fun z => by cases z) (fun z => by cases z), E0⟩
  intro q hq hc
  rcases FT_c4 q hq hc with rfl | rfl | rfl | rfl
  · exact Or.inr ⟨_, o_256, Or.inr ⟨by decide, i_a7, m_a7⟩⟩
  · exact Or.inr ⟨_, o_257, Or.inr ⟨by decide, i_a16, m_a16⟩⟩
  · exact Or.inr ⟨_, o_258, Or.inl ⟨rfl, i_a22⟩⟩
  · exact Or.inr ⟨_, o_259, Or.inl ⟨rfl, i_a33⟩⟩
set_option maxRecDepth 100000 in
set_option maxHeartbeats 4000000 in
theorem sc_X7_init (l : Launch) (M : Nat → Prop) (E : List Nat) (h : Nat) : Ct l yX7_init cX7_init 1 none 1 1 1000 14 (fun S av => av = [.ref h] ∧ INV M (h :: E) S ∧ is S h 7 ∧ mI S 449 h = 0) (fun S _ r S' => r = none ∧ INV M E S' ∧ ext S S' (fun a => a = h)) := by
  refine ct_of (by decide) (fun S av h => by obtain ⟨rfl, iv, i_this, k_449⟩ := h; exact Nat.le_of_ble_eq_true rfl) ?_
  intro p e s m args below meth c D G bs S av C hr hin hpre
  obtain ⟨rfl, iv, i_this, k_449⟩ := hpre
  have E0 : ext S S (fun a => a = h) := ext_rfl
  refine v_aload_n C dX7_init_0 rfl ?_
  refine v_objInit C wd72 wd11 wd12 dX7_init_1 (Nat.le_of_ble_eq_true rfl) (Nat.le_of_ble_eq_true rfl) ?_
  refine v_aload_n C dX7_init_4 rfl ?_
  refine v_sipush (v := 1000) C dX7_init_5 (by decide) ?_
  refine v_newarr C (kd := 12) (N := 1000) wd73 rfl (t0 := 1) rfl (by decide) (fun _ => cell_newJ) (fun _ => vp_cell_l _ _ _) (by decide) (by decide) (Nat.le_of_ble_eq_true rfl) (Nat.le_of_ble_eq_true rfl) (Nat.le_of_ble_eq_true rfl) dX7_init_8 (fun a8 n_a8 => ?_)
  have nn_a8 := fun z => n_a8 (E0.1 a8 z).1
  have m_a8 := inv_new iv n_a8
  refine V.gen (fun S2_8 e_8 => ?_)
  have iv' := inv_sArr e_8 iv n_a8 (by decide)
  have x_8 := x_sArr e_8 n_a8
  have E0' := ext_tr E0 x_8 (fun _ _ z => z.elim)
  have E0 := E0'
  have k_449 := mi_sArry e_8 k_449
  have i_this := is_ext x_8 i_this
  have iv := iv'
  have i_a8 := isA_sArrE e_8 n_a8
  refine p7_11 (v := some _) C i_this (hin rfl) dX7_init_10 ?_
  refine V.gen (fun S2_10 e_10 => ?_)
  have iv' := inv_sO e_10 iv (Or.inl List.mem_cons_self)
  have x_10 := x_sO e_10
  have E0' := ext_tr E0 x_10 (fun _ _ z => z)
  have E0 := E0'
  have k_449 := mi_sOy e_10 k_449
  have i_this := is_ext x_10 i_this
  have i_a8 := isA_ext x_10 i_a8
  have iv := iv'
  have o_448 := mo_put e_10
  refine v_vret C hr (Nat.le_of_ble_eq_true rfl) (Nat.le_of_ble_eq_true rfl) dX7_init_13 ?_
  refine ⟨rfl, inv_done iv i_this.2 ?_ (fun z => by cases z) (fun _ => ⟨0, by decide, k_449⟩), E0⟩
  intro q hq hc
  rcases FT_c7 q hq hc with rfl
  · exact Or.inr ⟨_, o_448, Or.inr ⟨by decide, i_a8, m_a8⟩⟩
set_option maxRecDepth 100000 in
set_option maxHeartbeats 4000000 in
theorem sc_X1_init (l : Launch) (M : Nat → Prop) (E : List Nat) (h : Nat) : Ct l yX1_init cX1_init 1 none 3 12 147 63 (fun S av => av = [.ref h] ∧ INV M (h :: E) S ∧ is S h 1 ∧ mI S 67 h = 0) (fun S _ r S' => r = none ∧ INV M E S' ∧ ext S S' (fun a => a = h) ∧ mI S' 67 h = 0) := by
  refine ct_of (by decide) (fun S av h => by obtain ⟨rfl, iv, i_this, k_67⟩ := h; exact Nat.le_of_ble_eq_true rfl) ?_
  intro p e s m args below meth c D G bs S av C hr hin hpre
  obtain ⟨rfl, iv, i_this, k_67⟩ := hpre
  have E0 : ext S S (fun a => a = h) := ext_rfl
  refine v_aload_n C dX1_init_0 rfl ?_
  refine v_objInit C wd24 wd11 wd12 dX1_init_1 (Nat.le_of_ble_eq_true rfl) (Nat.le_of_ble_eq_true rfl) ?_
  refine v_aload_n C dX1_init_4 rfl ?_
  refine v_bipush (v := 20) C dX1_init_5 (by decide) ?_
  refine v_newrefs C (kd := 17) (N := 20) (t0 := 6) (by decide) (by decide +kernel) wd25 rfl (by decide) (by decide) (Nat.le_of_ble_eq_true rfl) (Nat.le_of_ble_eq_true rfl) (Nat.le_of_ble_eq_true rfl) dX1_init_7 (fun a7 n_a7 => ?_)
  have nn_a7 := fun z => n_a7 (E0.1 a7 z).1
  have m_a7 := inv_new iv n_a7
  refine V.gen (fun S2_7 e_7 => ?_)
  have iv' := inv_sArr e_7 iv n_a7 (by decide)
  have x_7 := x_sArr e_7 n_a7
  have E0' := ext_tr E0 x_7 (fun _ _ z => z.elim)
  have E0 := E0'
  have k_67 := mi_sArry e_7 k_67
  have i_this := is_ext x_7 i_this
  have iv := iv'
  have i_a7 := isA_sArrE e_7 n_a7
  refine p1_11 (v := some _) C i_this (hin rfl) dX1_init_10 ?_
  refine V.gen (fun S2_10 e_10 => ?_)
  have iv' := inv_sO e_10 iv (Or.inl List.mem_cons_self)
  have x_10 := x_sO e_10
  have E0' := ext_tr E0 x_10 (fun _ _ z => z)
  have E0 := E0'
  have k_67 := mi_sOy e_10 k_67
  have i_this := is_ext x_10 i_this
  have i_a7 := isA_ext x_10 i_a7
  have iv := iv'
  have o_64 := mo_put e_10
  refine v_aload_n C dX1_init_13 rfl ?_
  refine v_bipush (v := 12) C dX1_init_14 (by decide) ?_
  refine v_newrefs C (kd := 14) (N := 12) (t0 := 3) (by decide) (by decide +kernel) wd27 rfl (by decide) (by decide) (Nat.le_of_ble_eq_true rfl) (Nat.le_of_ble_eq_true rfl) (Nat.le_of_ble_eq_true rfl) dX1_init_16 (fun a16 n_a16 => ?_)
  have nn_a16 := fun z => n_a16 (E0.1 a16 z).1
  have m_a16 := inv_new iv n_a16
  refine V.gen (fun S2_16 e_16 => ?_)
  have iv' := inv_sArr e_16 iv n_a16 (by decide)
  have x_16 := x_sArr e_16 n_a16
  have E0' := ext_tr E0 x_16 (fun _ _ z => z.elim)
  have E0 := E0'
  have k_67 := mi_sArry e_16 k_67
  have o_64 := mo_sArr e_16 o_64
  have i_this := is_ext x_16 i_this
  have i_a7 := isA_ext x_16 i_a7
  have iv := iv'
  have i_a16 := isA_sArrE e_16 n_a16
  refine p1_19 (v := some _) C i_this (hin rfl) dX1_init_19 ?_
  refine V.gen (fun S2_19 e_19 => ?_)
  have iv' := inv_sO e_19 iv (Or.inl List.mem_cons_self)
  have x_19 := x_sO e_19
  have E0' := ext_tr E0 x_19 (fun _ _ z => z)
  have E0 := E0'
  have k_67 := mi_sOy e_19 k_67
  have o_64 := mo_sO e_19 (Or.inl (by decide)) o_64
  have i_this := is_ext x_19 i_this
  have i_a7 := isA_ext x_19 i_a7
  have i_a16 := isA_ext x_19 i_a16
  have iv := iv'
  have o_66 := mo_put e_19
  refine v_aload_n C dX1_init_22 rfl ?_
  refine v_new C (ci := 4) (by decide) rfl inlX4 tyX4_ok wd29 wd30 wd31 nfX4 (Nat.le_of_ble_eq_true rfl) (Nat.le_of_ble_eq_true rfl) dX1_init_23 (fun a23 n_a23 => ?_)
  have nn_a23 := fun z => n_a23 (E0.1 a23 z).1
  have d_k_67_a23 := ne_of_is n_a23 i_this
  have i_this0 := i_this
  refine V.gen (fun S2_23 e_23 => ?_)
  have iv' := inv_sNew e_23 iv n_a23 (by decide)
  have x_23 := x_sNew e_23 n_a23
  have E0' := ext_tr E0 x_23 (fun _ _ z => z.elim)
  have E0 := E0'
  have k_67 := mi_sNewx e_23 d_k_67_a23 k_67
  have o_64 := mo_sNew e_23 (fun z => n_a23 (z ▸ i_this.1)) o_64
  have o_66 := mo_sNew e_23 (fun z => n_a23 (z ▸ i_this.1)) o_66
  have i_this := is_ext x_23 i_this
  have i_a7 := isA_ext x_23 i_a7
  have i_a16 := isA_ext x_23 i_a16
  have iv := iv'
  have i_a23 := is_sNewE e_23 n_a23
  have z_a23 := mI_newE e_23
  refine v_dup C dX1_init_26 rfl ?_
  refine v_callIN (As := []) (n := 0) C (sc_X4_init l _ _ _) rfl ⟨(by decide +kernel), wd37, wd31, wd38⟩ rfl hy_X4_init rfl ⟨Nat.le_of_ble_eq_true rfl, Nat.le_of_ble_eq_true rfl⟩ (Nat.le_of_ble_eq_true rfl) ⟨Nat.le_of_ble_eq_true rfl, Nat.le_of_ble_eq_true rfl⟩ dX1_init_27 ⟨rfl, iv, i_a23⟩ (fun r_27 S2_27 h_27 => ?_)
  obtain ⟨rfl, iv2, x_27⟩ := h_27
  have k_67 := mi_extx x_27 i_this d_k_67_a23 k_67
  have E0' := ext_tr E0 x_27 (xn nn_a23)
  have E0 := E0'
  have o_64 := mo_ext x_27 i_this (fun z => n_a23 (z ▸ i_this0.1)) o_64
  have o_66 := mo_ext x_27 i_this (fun z => n_a23 (z ▸ i_this0.1)) o_66
  have i_this := is_ext x_27 i_this
  have i_a7 := isA_ext x_27 i_a7
  have i_a16 := isA_ext x_27 i_a16
  have i_a23 := is_ext x_27 i_a23
  have iv := iv2
  refine p1_26 (v := some _) C i_this (hin rfl) dX1_init_30 ?_
  refine V.gen (fun S2_30 e_30 => ?_)
  have iv' := inv_sO e_30 iv (Or.inl List.mem_cons_self)
  have x_30 := x_sO e_30
  have E0' := ext_tr E0 x_30 (fun _ _ z => z)
  have E0 := E0'
  have k_67 := mi_sOy e_30 k_67
  have o_64 := mo_sO e_30 (Or.inl (by decide)) o_64
  have o_66 := mo_sO e_30 (Or.inl (by decide)) o_66
  have i_this := is_ext x_30 i_this
  have i_a7 := isA_ext x_30 i_a7
  have i_a16 := isA_ext x_30 i_a16
  have i_a23 := is_ext x_30 i_a23
  have iv := iv'
  have o_68 := mo_put e_30
  refine v_aload_n C dX1_init_33 rfl ?_
  refine v_new C (ci := 0) (by decide) rfl inlX0 tyX0_ok wd33 wd34 wd35 nfX0 (Nat.le_of_ble_eq_true rfl) (Nat.le_of_ble_eq_true rfl) dX1_init_34 (fun a34 n_a34 => ?_)
  have nn_a34 := fun z => n_a34 (E0.1 a34 z).1
  have d_k_67_a34 := ne_of_is n_a34 i_this
  have i_this0 := i_this
  refine V.gen (fun S2_34 e_34 => ?_)
  have iv' := inv_sNew e_34 iv n_a34 (by decide)
  have x_34 := x_sNew e_34 n_a34
  have E0' := ext_tr E0 x_34 (fun _ _ z => z.elim)
  have E0 := E0'
  have k_67 := mi_sNewx e_34 d_k_67_a34 k_67
  have o_64 := mo_sNew e_34 (fun z => n_a34 (z ▸ i_this.1)) o_64
  have o_66 := mo_sNew e_34 (fun z => n_a34 (z ▸ i_this.1)) o_66
  have o_68 := mo_sNew e_34 (fun z => n_a34 (z ▸ i_this.1)) o_68
  have i_this := is_ext x_34 i_this
  have i_a7 := isA_ext x_34 i_a7
  have i_a16 := isA_ext x_34 i_a16
  have i_a23 := is_ext x_34 i_a23
  have iv := iv'
  have i_a34 := is_sNewE e_34 n_a34
  have z_a34 := mI_newE e_34
  have zo_a34 := mO_newE e_34
  refine v_dup C dX1_init_37 rfl ?_
  refine v_callIN (As := []) (n := 0) C (sc_X0_init l _ _ _) rfl ⟨(by decide +kernel), wd58, wd35, wd59⟩ rfl hy_X0_init rfl ⟨Nat.le_of_ble_eq_true rfl, Nat.le_of_ble_eq_true rfl⟩ (Nat.le_of_ble_eq_true rfl) ⟨Nat.le_of_ble_eq_true rfl, Nat.le_of_ble_eq_true rfl⟩ dX1_init_38 ⟨rfl, iv, i_a34, zo_a34⟩ (fun r_38 S2_38 h_38 => ?_)
  obtain ⟨rfl, iv2, x_38⟩ := h_38
  have k_67 := mi_extx x_38 i_this d_k_67_a34 k_67
  have E0' := ext_tr E0 x_38 (xn nn_a34)
  have E0 := E0'
  have o_64 := mo_ext x_38 i_this (fun z => n_a34 (z ▸ i_this0.1)) o_64
  have o_66 := mo_ext x_38 i_this (fun z => n_a34 (z ▸ i_this0.1)) o_66
  have o_68 := mo_ext x_38 i_this (fun z => n_a34 (z ▸ i_this0.1)) o_68
  have i_this := is_ext x_38 i_this
  have i_a7 := isA_ext x_38 i_a7
  have i_a16 := isA_ext x_38 i_a16
  have i_a23 := is_ext x_38 i_a23
  have i_a34 := is_ext x_38 i_a34
  have iv := iv2
  refine p1_33 (v := some _) C i_this (hin rfl) dX1_init_41 ?_
  refine V.gen (fun S2_41 e_41 => ?_)
  have iv' := inv_sO e_41 iv (Or.inl List.mem_cons_self)
  have x_41 := x_sO e_41
  have E0' := ext_tr E0 x_41 (fun _ _ z => z)
  have E0 := E0'
  have k_67 := mi_sOy e_41 k_67
  have o_64 := mo_sO e_41 (Or.inl (by decide)) o_64
  have o_66 := mo_sO e_41 (Or.inl (by decide)) o_66
  have o_68 := mo_sO e_41 (Or.inl (by decide)) o_68
  have i_this := is_ext x_41 i_this
  have i_a7 := isA_ext x_41 i_a7
  have i_a16 := isA_ext x_41 i_a16
  have i_a23 := is_ext x_41 i_a23
  have i_a34 := is_ext x_41 i_a34
  have iv := iv'
  have o_69 := mo_put e_41
  refine v_vret C hr (Nat.le_of_ble_eq_true rfl) (Nat.le_of_ble_eq_true rfl) dX1_init_44 ?_
  refine ⟨rfl, inv_done iv i_this.2 ?_ (fun z => by cases z) (fun z => by cases z), E0, k_67⟩
  intro q hq hc
  rcases FT_c1 q hq hc with rfl | rfl | rfl | rfl
  · exact Or.inr ⟨_, o_64, Or.inr ⟨by decide, i_a7, m_a7⟩⟩
  · exact Or.inr ⟨_, o_66, Or.inr ⟨by decide, i_a16, m_a16⟩⟩
  · exact Or.inr ⟨_, o_68, Or.inl ⟨rfl, i_a23⟩⟩
  · exact Or.inr ⟨_, o_69, Or.inl ⟨rfl, i_a34⟩⟩
set_option maxRecDepth 100000 in
set_option maxHeartbeats 4000000 in
theorem sc_X6_init (l : Launch) (M : Nat → Prop) (E : List Nat) (h : Nat) (p0 : Nat) : Ct l yX6_init cX6_init 2 none 2 2 1002 34 (fun S av => av = [.ref h, .ref p0] ∧ INV M (h :: E) S ∧ is S h 6 ∧ is S p0 1) (fun S _ r S' => r = none ∧ INV M E S' ∧ ext S S' (fun a => a = h)) := by
  refine ct_of (by decide) (fun S av h => by obtain ⟨rfl, iv, i_this, i_p0⟩ := h; exact Nat.le_of_ble_eq_true rfl) ?_
  intro p e s m args below meth c D G bs S av C hr hin hpre
  obtain ⟨rfl, iv, i_this, i_p0⟩ := hpre
  have E0 : ext S S (fun a => a = h) := ext_rfl
  refine v_aload_n C dX6_init_0 rfl ?_
  refine v_objInit C wd64 wd11 wd12 dX6_init_1 (Nat.le_of_ble_eq_true rfl) (Nat.le_of_ble_eq_true rfl) ?_
  refine v_aload_n C dX6_init_4 rfl ?_
  refine v_new C (ci := 7) (by decide) rfl inlX7 tyX7_ok wd65 wd66 wd67 nfX7 (Nat.le_of_ble_eq_true rfl) (Nat.le_of_ble_eq_true rfl) dX6_init_5 (fun a5 n_a5 => ?_)
  have nn_a5 := fun z => n_a5 (E0.1 a5 z).1
  refine V.gen (fun S2_5 e_5 => ?_)
  have iv' := inv_sNew e_5 iv n_a5 (by decide)
  have x_5 := x_sNew e_5 n_a5
  have E0' := ext_tr E0 x_5 (fun _ _ z => z.elim)
  have E0 := E0'
  have i_this := is_ext x_5 i_this
  have i_p0 := is_ext x_5 i_p0
  have iv := iv'
  have i_a5 := is_sNewE e_5 n_a5
  have z_a5 := mI_newE e_5
  refine v_dup C dX6_init_8 rfl ?_
  refine v_callIN (As := []) (n := 0) C (sc_X7_init l _ _ _) rfl ⟨(by decide +kernel), wd70, wd67, wd71⟩ rfl hy_X7_init rfl ⟨Nat.le_of_ble_eq_true rfl, Nat.le_of_ble_eq_true rfl⟩ (Nat.le_of_ble_eq_true rfl) ⟨Nat.le_of_ble_eq_true rfl, Nat.le_of_ble_eq_true rfl⟩ dX6_init_9 ⟨rfl, iv, i_a5, z_a5 449⟩ (fun r_9 S2_9 h_9 => ?_)
  obtain ⟨rfl, iv2, x_9⟩ := h_9
  have E0' := ext_tr E0 x_9 (xn nn_a5)
  have E0 := E0'
  have i_this := is_ext x_9 i_this
  have i_p0 := is_ext x_9 i_p0
  have i_a5 := is_ext x_9 i_a5
  have iv := iv2
  refine p6_12 (v := some _) C i_this (hin rfl) dX6_init_12 ?_
  refine V.gen (fun S2_12 e_12 => ?_)
  have iv' := inv_sO e_12 iv (Or.inl List.mem_cons_self)
  have x_12 := x_sO e_12
  have E0' := ext_tr E0 x_12 (fun _ _ z => z)
  have E0 := E0'
  have i_this := is_ext x_12 i_this
  have i_p0 := is_ext x_12 i_p0
  have i_a5 := is_ext x_12 i_a5
  have iv := iv'
  have o_385 := mo_put e_12
  refine v_aload_n C dX6_init_15 rfl ?_
  refine v_aload_n C dX6_init_16 rfl ?_
  refine p6_18 (v := some _) C i_this (hin rfl) dX6_init_17 ?_
  refine V.gen (fun S2_17 e_17 => ?_)
  have iv' := inv_sO e_17 iv (Or.inl List.mem_cons_self)
  have x_17 := x_sO e_17
  have E0' := ext_tr E0 x_17 (fun _ _ z => z)
  have E0 := E0'
  have o_385 := mo_sO e_17 (Or.inl (by decide)) o_385
  have i_this := is_ext x_17 i_this
  have i_p0 := is_ext x_17 i_p0
  have i_a5 := is_ext x_17 i_a5
  have iv := iv'
  have o_384 := mo_put e_17
  refine v_vret C hr (Nat.le_of_ble_eq_true rfl) (Nat.le_of_ble_eq_true rfl) dX6_init_20 ?_
  refine ⟨rfl, inv_done iv i_this.2 ?_ (fun z => by cases z) (fun z => by cases z), E0⟩
  intro q hq hc
  rcases FT_c6 q hq hc with rfl | rfl
  · exact Or.inr ⟨_, o_384, Or.inl ⟨rfl, i_p0⟩⟩
  · exact Or.inr ⟨_, o_385, Or.inl ⟨rfl, i_a5⟩⟩
set_option maxRecDepth 100000 in
set_option maxHeartbeats 4000000 in
theorem sc_X9_init (l : Launch) (M : Nat → Prop) (E : List Nat) (h : Nat) : Ct l yX9_init cX9_init 1 none 4 16 1162 83 (fun S av => av = [.ref h] ∧ INV M (h :: E) S ∧ is S h 9) (fun S _ r S' => r = none ∧ INV M E S' ∧ ext S S' (fun a => a = h) ∧ ∃ co, mO S' 576 h = some co ∧ is S' co 1 ∧ mI S' 67 co = 0) := by
  refine ct_of (by decide) (fun S av h => by obtain ⟨rfl, iv, i_this⟩ := h; exact Nat.le_of_ble_eq_true rfl) ?_
  intro p e s m args below meth c D G bs S av C hr hin hpre
  obtain ⟨rfl, iv, i_this⟩ := hpre
  have E0 : ext S S (fun a => a = h) := ext_rfl
  refine v_aload_n C dX9_init_0 rfl ?_
  refine v_objInit C wd10 wd11 wd12 dX9_init_1 (Nat.le_of_ble_eq_true rfl) (Nat.le_of_ble_eq_true rfl) ?_
  refine v_aload_n C dX9_init_4 rfl ?_
  refine v_new C (ci := 1) (by decide) rfl inlX1 tyX1_ok wd13 wd14 wd15 nfX1 (Nat.le_of_ble_eq_true rfl) (Nat.le_of_ble_eq_true rfl) dX9_init_5 (fun a5 n_a5 => ?_)
  have nn_a5 := fun z => n_a5 (E0.1 a5 z).1
  refine V.gen (fun S2_5 e_5 => ?_)
  have iv' := inv_sNew e_5 iv n_a5 (by decide)
  have x_5 := x_sNew e_5 n_a5
  have E0' := ext_tr E0 x_5 (fun _ _ z => z.elim)
  have E0 := E0'
  have i_this := is_ext x_5 i_this
  have iv := iv'
  have i_a5 := is_sNewE e_5 n_a5
  have z_a5 := mI_newE e_5
  refine v_dup C dX9_init_8 rfl ?_
  refine v_callIN (As := []) (n := 0) C (sc_X1_init l _ _ _) rfl ⟨(by decide +kernel), wd22, wd15, wd23⟩ rfl hy_X1_init rfl ⟨Nat.le_of_ble_eq_true rfl, Nat.le_of_ble_eq_true rfl⟩ (Nat.le_of_ble_eq_true rfl) ⟨Nat.le_of_ble_eq_true rfl, Nat.le_of_ble_eq_true rfl⟩ dX9_init_9 ⟨rfl, iv, i_a5, z_a5 67⟩ (fun r_9 S2_9 h_9 => ?_)
  obtain ⟨rfl, iv2, x_9, p_9⟩ := h_9
  have E0' := ext_tr E0 x_9 (xn nn_a5)
  have E0 := E0'
  have i_this := is_ext x_9 i_this
  have i_a5 := is_ext x_9 i_a5
  have iv := iv2
  have k_67 := p_9
  refine p9_10 (v := some _) C i_this (hin rfl) dX9_init_12 ?_
  refine V.gen (fun S2_12 e_12 => ?_)
  have iv' := inv_sO e_12 iv (Or.inl List.mem_cons_self)
  have x_12 := x_sO e_12
  have E0' := ext_tr E0 x_12 (fun _ _ z => z)
  have E0 := E0'
  have k_67 := mi_sOy e_12 k_67
  have i_this := is_ext x_12 i_this
  have i_a5 := is_ext x_12 i_a5
  have iv := iv'
  have o_576 := mo_put e_12
  refine v_aload_n C dX9_init_15 rfl ?_
  refine v_new C (ci := 6) (by decide) rfl inlX6 tyX6_ok wd17 wd18 wd19 nfX6 (Nat.le_of_ble_eq_true rfl) (Nat.le_of_ble_eq_true rfl) dX9_init_16 (fun a16 n_a16 => ?_)
  have nn_a16 := fun z => n_a16 (E0.1 a16 z).1
  have d_k_67_a16 := ne_of_is n_a16 i_a5
  have i_this0 := i_this
  refine V.gen (fun S2_16 e_16 => ?_)
  have iv' := inv_sNew e_16 iv n_a16 (by decide)
  have x_16 := x_sNew e_16 n_a16
  have E0' := ext_tr E0 x_16 (fun _ _ z => z.elim)
  have E0 := E0'
  have k_67 := mi_sNewx e_16 d_k_67_a16 k_67
  have o_576 := mo_sNew e_16 (fun z => n_a16 (z ▸ i_this.1)) o_576
  have i_this := is_ext x_16 i_this
  have i_a5 := is_ext x_16 i_a5
  have iv := iv'
  have i_a16 := is_sNewE e_16 n_a16
  have z_a16 := mI_newE e_16
  refine v_dup C dX9_init_19 rfl ?_
  refine v_aload_n C dX9_init_20 rfl ?_
  refine r9_10 C i_this o_576 dX9_init_21 ?_
  refine v_callI (As := [_]) (n := 1) C (sc_X6_init l _ _ _ _) rfl ⟨wd61, wd62, wd19, wd63⟩ rfl hy_X6_init rfl ⟨Nat.le_of_ble_eq_true rfl, Nat.le_of_ble_eq_true rfl⟩ (Nat.le_of_ble_eq_true rfl) ⟨Nat.le_of_ble_eq_true rfl, Nat.le_of_ble_eq_true rfl⟩ dX9_init_24 ⟨rfl, iv, i_a16, i_a5⟩ (fun r_24 S2_24 h_24 => ?_)
  obtain ⟨rfl, iv2, x_24⟩ := h_24
  have k_67 := mi_extx x_24 i_a5 d_k_67_a16 k_67
  have E0' := ext_tr E0 x_24 (xn nn_a16)
  have E0 := E0'
  have o_576 := mo_ext x_24 i_this (fun z => n_a16 (z ▸ i_this0.1)) o_576
  have i_this := is_ext x_24 i_this
  have i_a5 := is_ext x_24 i_a5
  have i_a16 := is_ext x_24 i_a16
  have iv := iv2
  refine p9_21 (v := some _) C i_this (hin rfl) dX9_init_27 ?_
  refine V.gen (fun S2_27 e_27 => ?_)
  have iv' := inv_sO e_27 iv (Or.inl List.mem_cons_self)
  have x_27 := x_sO e_27
  have E0' := ext_tr E0 x_27 (fun _ _ z => z)
  have E0 := E0'
  have k_67 := mi_sOy e_27 k_67
  have o_576 := mo_sO e_27 (Or.inl (by decide)) o_576
  have i_this := is_ext x_27 i_this
  have i_a5 := is_ext x_27 i_a5
  have i_a16 := is_ext x_27 i_a16
  have iv := iv'
  have o_577 := mo_put e_27
  refine v_aload_n C dX9_init_30 rfl ?_
  refine v_null C dX9_init_31 ?_
  refine p9_25 C i_this dX9_init_32 ?_
  refine V.gen (fun S2_32 e_32 => ?_)
  have iv' := inv_sO e_32 iv (Or.inl List.mem_cons_self)
  have x_32 := x_sO e_32
  have E0' := ext_tr E0 x_32 (fun _ _ z => z)
  have E0 := E0'
  have k_67 := mi_sOy e_32 k_67
  have o_576 := mo_sO e_32 (Or.inl (by decide)) o_576
  have o_577 := mo_sO e_32 (Or.inl (by decide)) o_577
  have i_this := is_ext x_32 i_this
  have i_a5 := is_ext x_32 i_a5
  have i_a16 := is_ext x_32 i_a16
  have iv := iv'
  have o_578 := mo_put e_32
  refine v_vret C hr (Nat.le_of_ble_eq_true rfl) (Nat.le_of_ble_eq_true rfl) dX9_init_35 ?_
  refine ⟨rfl, inv_done iv i_this.2 ?_ (fun z => by cases z) (fun z => by cases z), E0, _, o_576, i_a5, k_67⟩
  intro q hq hc
  rcases FT_c9 q hq hc with rfl | rfl | rfl
  · exact Or.inr ⟨_, o_576, Or.inl ⟨rfl, i_a5⟩⟩
  · exact Or.inr ⟨_, o_577, Or.inl ⟨rfl, i_a16⟩⟩
  · exact Or.inl ⟨rfl, o_578⟩
set_option maxRecDepth 100000 in
set_option maxHeartbeats 4000000 in
theorem su_X9_body (l : Launch) (M : Nat → Prop) (h : Nat) (p0 : Int32) (p1 : Int32) (p2 : Int32) (p3 : Int32) (co : Nat) : Ct l yX9_body cX9_body 6 (some .int) 2 4 33 43 (fun S av => av = [.ref h, .int p0, .int p1, .int p2, .int p3] ∧ INV M [] S ∧ is S h 9 ∧ mO S 576 h = some co ∧ is S co 1) (fun S _ r S' => ∃ v, r = some (.int v) ∧ mO S' 576 h = some co ∧ INV M [] S' ∧ ext S S' (fun a => ¬ M a ∧ mK S a ∈ [9, 16])) := by
  refine ct_of (by decide) (fun S av h => by obtain ⟨rfl, iv, i_this, hco⟩ := h; exact Nat.le_of_ble_eq_true rfl) ?_
  intro p e s m args below meth c D G bs S av C hr hin hpre
  obtain ⟨rfl, iv, i_this, hco⟩ := hpre
  have E0 : ext S S (fun a => ¬ M a ∧ mK S a ∈ [9, 16]) := ext_rfl
  obtain ⟨o_576, i_co⟩ := hco
  refine v_aload_n C dX9_body_0 rfl ?_
  refine r9_10 C i_this o_576 dX9_body_1 ?_
  refine v_iload_n C dX9_body_4 rfl ?_
  refine v_callV (As := [_]) (n := 1) C (st_X1_traitAt l _ _ _) rfl i_co (by decide) rfl ⟨wd304, wd138, wd139, wd15, wd140⟩ ⟨rfl, hy_X1_traitAt⟩ rfl ⟨Nat.le_of_ble_eq_true rfl, Nat.le_of_ble_eq_true rfl⟩ (Nat.le_of_ble_eq_true rfl) ⟨Nat.le_of_ble_eq_true rfl, Nat.le_of_ble_eq_true rfl⟩ dX9_body_5 ⟨rfl, iv, i_co⟩ (fun r_5 S2_5 h_5 => ?_)
  obtain ⟨v5, rfl, n_v5, q_v5⟩ := h_5
  obtain rfl := q_v5.symm
  refine v_qstore C dX9_body_8 (by decide) (by first | rfl | exact cat_ok _ | simp [okS, cat_rf]) ?_
  refine v_qload C dX9_body_10 rfl ?_
  refine v_ifnull (tgt := 39) C dX9_body_12 (by decide) (fun c_12 => ?_) (fun b12 c_12 => ?_)
  · skip
    subst c_12
    refine v_bipush (v := -2) C dX9_body_39 (by decide) ?_
    refine v_iret C hr (Nat.le_of_ble_eq_true rfl) (Nat.le_of_ble_eq_true rfl) dX9_body_41 ?_
    exact ⟨_, rfl, o_576, iv, E0⟩
  · skip
    subst c_12
    have i_b12 := nOK_some n_v5 rfl
    refine v_iload_n C dX9_body_15 rfl ?_
    refine v_callS (As := [_]) (n := 1) C (sb_isAct l _) rfl ⟨wd345, wd346, wd2, wd347⟩ hy_X9_isAct rfl ⟨Nat.le_of_ble_eq_true rfl, Nat.le_of_ble_eq_true rfl⟩ (Nat.le_of_ble_eq_true rfl) ⟨Nat.le_of_ble_eq_true rfl, Nat.le_of_ble_eq_true rfl⟩ dX9_body_16 rfl (fun r_16 S4_16 h_16 => ?_)
    obtain ⟨v16, rfl, p_v16, q_v16⟩ := h_16
    obtain rfl := q_v16.symm
    refine v_if_eq (tgt := 39) C dX9_body_19 (by decide) (fun c_19 => ?_) (fun c_19 => ?_)
    · skip
      refine v_bipush (v := -2) C dX9_body_39 (by decide) ?_
      refine v_iret C hr (Nat.le_of_ble_eq_true rfl) (Nat.le_of_ble_eq_true rfl) dX9_body_41 ?_
      exact ⟨_, rfl, o_576, iv, E0⟩
    · skip
      refine v_iload_n C dX9_body_22 rfl ?_
      refine v_iconst (v := 3) C dX9_body_23 (by decide) ?_
      refine v_callS (As := [_, _]) (n := 2) C (sb_isBelow l _ _) rfl ⟨wd264, wd141, wd2, wd142⟩ hy_X9_isBelow rfl ⟨Nat.le_of_ble_eq_true rfl, Nat.le_of_ble_eq_true rfl⟩ (Nat.le_of_ble_eq_true rfl) ⟨Nat.le_of_ble_eq_true rfl, Nat.le_of_ble_eq_true rfl⟩ dX9_body_24 rfl (fun r_24 S6_24 h_24 => ?_)
      obtain ⟨v24, rfl, p_v24, q_v24⟩ := h_24
      obtain rfl := q_v24.symm
      refine v_if_eq (tgt := 39) C dX9_body_27 (by decide) (fun c_27 => ?_) (fun c_27 => ?_)
      · skip
        refine v_bipush (v := -2) C dX9_body_39 (by decide) ?_
        refine v_iret C hr (Nat.le_of_ble_eq_true rfl) (Nat.le_of_ble_eq_true rfl) dX9_body_41 ?_
        exact ⟨_, rfl, o_576, iv, E0⟩
      · skip
        refine v_iload C dX9_body_30 rfl ?_
        refine v_iconst (v := 4) C dX9_body_32 (by decide) ?_
        refine v_callS (As := [_, _]) (n := 2) C (sb_isBelow l _ _) rfl ⟨wd264, wd141, wd2, wd142⟩ hy_X9_isBelow rfl ⟨Nat.le_of_ble_eq_true rfl, Nat.le_of_ble_eq_true rfl⟩ (Nat.le_of_ble_eq_true rfl) ⟨Nat.le_of_ble_eq_true rfl, Nat.le_of_ble_eq_true rfl⟩ dX9_body_33 rfl (fun r_33 S8_33 h_33 => ?_)
        obtain ⟨v33, rfl, p_v33, q_v33⟩ := h_33
        obtain rfl := q_v33.symm
        refine v_if_ne (tgt := 42) C dX9_body_36 (by decide) (fun c_36 => ?_) (fun c_36 => ?_)
        · skip
          refine v_aload_n C dX9_body_42 rfl ?_
          refine v_new C (ci := 5) (by decide) rfl inlX5 tyX5_ok wd342 wd343 wd344 nfX5 (Nat.le_of_ble_eq_true rfl) (Nat.le_of_ble_eq_true rfl) dX9_body_43 (fun a43 n_a43 => ?_)
          have nn_a43 := fun z => n_a43 (E0.1 a43 z).1
          have d_o_576_a43 := ne_of_is n_a43 i_this
          refine V.gen (fun S10_43 e_43 => ?_)
          have iv' := inv_sNew e_43 iv n_a43 (by decide)
          have x_43 := x_sNew e_43 n_a43
          have E0' := ext_tr E0 x_43 (fun _ _ z => z.elim)
          have E0 := E0'
          have o_576 := mo_sNewx e_43 d_o_576_a43 o_576
          have i_this := is_ext x_43 i_this
          have i_co := is_ext x_43 i_co
          have i_b12 := is_ext x_43 i_b12
          have iv := iv'
          have i_a43 := is_sNewE e_43 n_a43
          have z_a43 := mI_newE e_43
          refine v_dup C dX9_body_46 rfl ?_
          refine v_iload_n C dX9_body_47 rfl ?_
          refine v_iconst (v := -1) C dX9_body_48 (by decide) ?_
          refine v_iload_n C dX9_body_49 rfl ?_
          refine v_iload C dX9_body_50 rfl ?_
          refine v_iconst (v := 0) C dX9_body_52 (by decide) ?_
          refine v_callI (As := [_, _, _, _, _]) (n := 5) C (st_X5_init l _ _ _ _ _ _ _ _) rfl ⟨wd348, wd349, wd344, wd350⟩ rfl hy_X5_init rfl ⟨Nat.le_of_ble_eq_true rfl, Nat.le_of_ble_eq_true rfl⟩ (Nat.le_of_ble_eq_true rfl) ⟨Nat.le_of_ble_eq_true rfl, Nat.le_of_ble_eq_true rfl⟩ dX9_body_53 ⟨rfl, iv, i_a43, (by decide)⟩ (fun r_53 S10_53 h_53 => ?_)
          obtain ⟨rfl, iv2, x_53⟩ := h_53
          have o_576 := mo_extx x_53 i_this d_o_576_a43 o_576
          have E0' := ext_tr E0 x_53 (xn nn_a43)
          have E0 := E0'
          have i_this := is_ext x_53 i_this
          have i_co := is_ext x_53 i_co
          have i_b12 := is_ext x_53 i_b12
          have i_a43 := is_ext x_53 i_a43
          have iv := iv2
          refine p9_25 (v := some _) C i_this dX9_body_56 ?_
          refine V.gen (fun S10_56 e_56 => ?_)
          have iv' := inv_sO e_56 iv (Or.inr (F578 (nOK_is i_a43)))
          have x_56 := x_sO e_56
          have E0' := ext_tr E0 x_56 (xk_is E0 i_this iv (by decide) (by decide))
          have E0 := E0'
          have o_576 := mo_sOx e_56 (Or.inl (by decide)) o_576
          have i_this := is_ext x_56 i_this
          have i_co := is_ext x_56 i_co
          have i_b12 := is_ext x_56 i_b12
          have i_a43 := is_ext x_56 i_a43
          have iv := iv'
          have o_578 := mo_put e_56
          refine v_aload C dX9_body_59 rfl ?_
          refine v_iload_n C dX9_body_61 rfl ?_
          refine v_aload_n C dX9_body_62 rfl ?_
          refine r9_25 C i_this o_578 dX9_body_63 ?_
          refine v_callV (As := [_, _]) (n := 2) C (st_X8_setBody l _ _ _ _) rfl i_b12 (by decide) rfl ⟨wd360, wd361, wd362, wd212, wd363⟩ ⟨rfl, hy_X8_setBody⟩ rfl ⟨Nat.le_of_ble_eq_true rfl, Nat.le_of_ble_eq_true rfl⟩ (Nat.le_of_ble_eq_true rfl) ⟨Nat.le_of_ble_eq_true rfl, Nat.le_of_ble_eq_true rfl⟩ dX9_body_66 ⟨rfl, iv, i_b12, i_a43⟩ (fun r_66 S10_66 h_66 => ?_)
          obtain ⟨rfl, iv2, x_66⟩ := h_66
          have o_576 := mo_extx x_66 i_this (fun z => absurd z.2 (by rw [i_this.2]; decide)) o_576
          have i_this := is_ext x_66 i_this
          have i_co := is_ext x_66 i_co
          have i_b12 := is_ext x_66 i_b12
          have i_a43 := is_ext x_66 i_a43
          have E0' := ext_tr E0 x_66 (xk_call E0 (by decide))
          have E0 := E0'
          have iv := iv2
          refine v_iconst (v := 1) C dX9_body_69 (by decide) ?_
          refine v_iret C hr (Nat.le_of_ble_eq_true rfl) (Nat.le_of_ble_eq_true rfl) dX9_body_70 ?_
          exact ⟨_, rfl, o_576, iv, E0⟩
        · skip
          refine v_bipush (v := -2) C dX9_body_39 (by decide) ?_
          refine v_iret C hr (Nat.le_of_ble_eq_true rfl) (Nat.le_of_ble_eq_true rfl) dX9_body_41 ?_
          exact ⟨_, rfl, o_576, iv, E0⟩
set_option maxRecDepth 100000 in
set_option maxHeartbeats 4000000 in
theorem su_X9_need (l : Launch) (M : Nat → Prop) (h : Nat) (p0 : Int32) (p1 : Int32) (p2 : Int32) (co : Nat) : Ct l yX9_need cX9_need 5 (some .int) 2 4 33 43 (fun S av => av = [.ref h, .int p0, .int p1, .int p2] ∧ INV M [] S ∧ is S h 9 ∧ mO S 576 h = some co ∧ is S co 1) (fun S _ r S' => ∃ v, r = some (.int v) ∧ mO S' 576 h = some co ∧ INV M [] S' ∧ ext S S' (fun a => ¬ M a ∧ mK S a ∈ [9, 16])) := by
  refine ct_of (by decide) (fun S av h => by obtain ⟨rfl, iv, i_this, hco⟩ := h; exact Nat.le_of_ble_eq_true rfl) ?_
  intro p e s m args below meth c D G bs S av C hr hin hpre
  obtain ⟨rfl, iv, i_this, hco⟩ := hpre
  have E0 : ext S S (fun a => ¬ M a ∧ mK S a ∈ [9, 16]) := ext_rfl
  obtain ⟨o_576, i_co⟩ := hco
  refine v_aload_n C dX9_need_0 rfl ?_
  refine r9_10 C i_this o_576 dX9_need_1 ?_
  refine v_iload_n C dX9_need_4 rfl ?_
  refine v_callV (As := [_]) (n := 1) C (st_X1_traitAt l _ _ _) rfl i_co (by decide) rfl ⟨wd304, wd138, wd139, wd15, wd140⟩ ⟨rfl, hy_X1_traitAt⟩ rfl ⟨Nat.le_of_ble_eq_true rfl, Nat.le_of_ble_eq_true rfl⟩ (Nat.le_of_ble_eq_true rfl) ⟨Nat.le_of_ble_eq_true rfl, Nat.le_of_ble_eq_true rfl⟩ dX9_need_5 ⟨rfl, iv, i_co⟩ (fun r_5 S2_5 h_5 => ?_)
  obtain ⟨v5, rfl, n_v5, q_v5⟩ := h_5
  obtain rfl := q_v5.symm
  refine v_qstore C dX9_need_8 (by decide) (by first | rfl | exact cat_ok _ | simp [okS, cat_rf]) ?_
  refine v_qload C dX9_need_10 rfl ?_
  refine v_ifnull (tgt := 30) C dX9_need_12 (by decide) (fun c_12 => ?_) (fun b12 c_12 => ?_)
  · skip
    subst c_12
    refine v_bipush (v := -2) C dX9_need_30 (by decide) ?_
    refine v_iret C hr (Nat.le_of_ble_eq_true rfl) (Nat.le_of_ble_eq_true rfl) dX9_need_32 ?_
    exact ⟨_, rfl, o_576, iv, E0⟩
  · skip
    subst c_12
    have i_b12 := nOK_some n_v5 rfl
    refine v_iload_n C dX9_need_15 rfl ?_
    refine v_callS (As := [_]) (n := 1) C (sb_isAct l _) rfl ⟨wd345, wd346, wd2, wd347⟩ hy_X9_isAct rfl ⟨Nat.le_of_ble_eq_true rfl, Nat.le_of_ble_eq_true rfl⟩ (Nat.le_of_ble_eq_true rfl) ⟨Nat.le_of_ble_eq_true rfl, Nat.le_of_ble_eq_true rfl⟩ dX9_need_16 rfl (fun r_16 S4_16 h_16 => ?_)
    obtain ⟨v16, rfl, p_v16, q_v16⟩ := h_16
    obtain rfl := q_v16.symm
    refine v_if_eq (tgt := 30) C dX9_need_19 (by decide) (fun c_19 => ?_) (fun c_19 => ?_)
    · skip
      refine v_bipush (v := -2) C dX9_need_30 (by decide) ?_
      refine v_iret C hr (Nat.le_of_ble_eq_true rfl) (Nat.le_of_ble_eq_true rfl) dX9_need_32 ?_
      exact ⟨_, rfl, o_576, iv, E0⟩
    · skip
      refine v_iload_n C dX9_need_22 rfl ?_
      refine v_iconst (v := 4) C dX9_need_23 (by decide) ?_
      refine v_callS (As := [_, _]) (n := 2) C (sb_isBelow l _ _) rfl ⟨wd264, wd141, wd2, wd142⟩ hy_X9_isBelow rfl ⟨Nat.le_of_ble_eq_true rfl, Nat.le_of_ble_eq_true rfl⟩ (Nat.le_of_ble_eq_true rfl) ⟨Nat.le_of_ble_eq_true rfl, Nat.le_of_ble_eq_true rfl⟩ dX9_need_24 rfl (fun r_24 S6_24 h_24 => ?_)
      obtain ⟨v24, rfl, p_v24, q_v24⟩ := h_24
      obtain rfl := q_v24.symm
      refine v_if_ne (tgt := 33) C dX9_need_27 (by decide) (fun c_27 => ?_) (fun c_27 => ?_)
      · skip
        refine v_aload C dX9_need_33 rfl ?_
        refine v_iload_n C dX9_need_35 rfl ?_
        refine v_new C (ci := 5) (by decide) rfl inlX5 tyX5_ok wd342 wd343 wd344 nfX5 (Nat.le_of_ble_eq_true rfl) (Nat.le_of_ble_eq_true rfl) dX9_need_36 (fun a36 n_a36 => ?_)
        have nn_a36 := fun z => n_a36 (E0.1 a36 z).1
        have d_o_576_a36 := ne_of_is n_a36 i_this
        refine V.gen (fun S8_36 e_36 => ?_)
        have iv' := inv_sNew e_36 iv n_a36 (by decide)
        have x_36 := x_sNew e_36 n_a36
        have E0' := ext_tr E0 x_36 (fun _ _ z => z.elim)
        have E0 := E0'
        have o_576 := mo_sNewx e_36 d_o_576_a36 o_576
        have i_this := is_ext x_36 i_this
        have i_co := is_ext x_36 i_co
        have i_b12 := is_ext x_36 i_b12
        have iv := iv'
        have i_a36 := is_sNewE e_36 n_a36
        have z_a36 := mI_newE e_36
        refine v_dup C dX9_need_39 rfl ?_
        refine v_iload_n C dX9_need_40 rfl ?_
        refine v_iconst (v := -1) C dX9_need_41 (by decide) ?_
        refine v_iconst (v := 0) C dX9_need_42 (by decide) ?_
        refine v_iload_n C dX9_need_43 rfl ?_
        refine v_iconst (v := 1) C dX9_need_44 (by decide) ?_
        refine v_callI (As := [_, _, _, _, _]) (n := 5) C (st_X5_init l _ _ _ _ _ _ _ _) rfl ⟨wd348, wd349, wd344, wd350⟩ rfl hy_X5_init rfl ⟨Nat.le_of_ble_eq_true rfl, Nat.le_of_ble_eq_true rfl⟩ (Nat.le_of_ble_eq_true rfl) ⟨Nat.le_of_ble_eq_true rfl, Nat.le_of_ble_eq_true rfl⟩ dX9_need_45 ⟨rfl, iv, i_a36, (by decide)⟩ (fun r_45 S8_45 h_45 => ?_)
        obtain ⟨rfl, iv2, x_45⟩ := h_45
        have o_576 := mo_extx x_45 i_this d_o_576_a36 o_576
        have E0' := ext_tr E0 x_45 (xn nn_a36)
        have E0 := E0'
        have i_this := is_ext x_45 i_this
        have i_co := is_ext x_45 i_co
        have i_b12 := is_ext x_45 i_b12
        have i_a36 := is_ext x_45 i_a36
        have iv := iv2
        refine v_callV (As := [_, _]) (n := 2) C (st_X8_setBody l _ _ _ _) rfl i_b12 (by decide) rfl ⟨wd360, wd361, wd362, wd212, wd363⟩ ⟨rfl, hy_X8_setBody⟩ rfl ⟨Nat.le_of_ble_eq_true rfl, Nat.le_of_ble_eq_true rfl⟩ (Nat.le_of_ble_eq_true rfl) ⟨Nat.le_of_ble_eq_true rfl, Nat.le_of_ble_eq_true rfl⟩ dX9_need_48 ⟨rfl, iv, i_b12, i_a36⟩ (fun r_48 S8_48 h_48 => ?_)
        obtain ⟨rfl, iv2, x_48⟩ := h_48
        have o_576 := mo_extx x_48 i_this (fun z => absurd z.2 (by rw [i_this.2]; decide)) o_576
        have i_this := is_ext x_48 i_this
        have i_co := is_ext x_48 i_co
        have i_b12 := is_ext x_48 i_b12
        have i_a36 := is_ext x_48 i_a36
        have E0' := ext_tr E0 x_48 (xk_call E0 (by decide))
        have E0 := E0'
        have iv := iv2
        refine v_aload_n C dX9_need_51 rfl ?_
        refine v_null C dX9_need_52 ?_
        refine p9_25 C i_this dX9_need_53 ?_
        refine V.gen (fun S8_53 e_53 => ?_)
        have iv' := inv_sO e_53 iv (Or.inr (F578 nOK_none))
        have x_53 := x_sO e_53
        have E0' := ext_tr E0 x_53 (xk_is E0 i_this iv (by decide) (by decide))
        have E0 := E0'
        have o_576 := mo_sOx e_53 (Or.inl (by decide)) o_576
        have i_this := is_ext x_53 i_this
        have i_co := is_ext x_53 i_co
        have i_b12 := is_ext x_53 i_b12
        have i_a36 := is_ext x_53 i_a36
        have iv := iv'
        refine v_iconst (v := 1) C dX9_need_56 (by decide) ?_
        refine v_iret C hr (Nat.le_of_ble_eq_true rfl) (Nat.le_of_ble_eq_true rfl) dX9_need_57 ?_
        exact ⟨_, rfl, o_576, iv, E0⟩
      · skip
        refine v_bipush (v := -2) C dX9_need_30 (by decide) ?_
        refine v_iret C hr (Nat.le_of_ble_eq_true rfl) (Nat.le_of_ble_eq_true rfl) dX9_need_32 ?_
        exact ⟨_, rfl, o_576, iv, E0⟩
set_option maxRecDepth 100000 in
set_option maxHeartbeats 4000000 in
theorem su_X9_guard (l : Launch) (M : Nat → Prop) (h : Nat) (p0 : Int32) (p1 : Int32) (p2 : Int32) (co : Nat) : Ct l yX9_guard cX9_guard 5 (some .int) 2 4 33 43 (fun S av => av = [.ref h, .int p0, .int p1, .int p2] ∧ INV M [] S ∧ is S h 9 ∧ mO S 576 h = some co ∧ is S co 1) (fun S _ r S' => ∃ v, r = some (.int v) ∧ mO S' 576 h = some co ∧ INV M [] S' ∧ ext S S' (fun a => ¬ M a ∧ mK S a ∈ [9, 16])) := by
  refine ct_of (by decide) (fun S av h => by obtain ⟨rfl, iv, i_this, hco⟩ := h; exact Nat.le_of_ble_eq_true rfl) ?_
  intro p e s m args below meth c D G bs S av C hr hin hpre
  obtain ⟨rfl, iv, i_this, hco⟩ := hpre
  have E0 : ext S S (fun a => ¬ M a ∧ mK S a ∈ [9, 16]) := ext_rfl
  obtain ⟨o_576, i_co⟩ := hco
  refine v_aload_n C dX9_guard_0 rfl ?_
  refine r9_10 C i_this o_576 dX9_guard_1 ?_
  refine v_iload_n C dX9_guard_4 rfl ?_
  refine v_callV (As := [_]) (n := 1) C (st_X1_traitAt l _ _ _) rfl i_co (by decide) rfl ⟨wd304, wd138, wd139, wd15, wd140⟩ ⟨rfl, hy_X1_traitAt⟩ rfl ⟨Nat.le_of_ble_eq_true rfl, Nat.le_of_ble_eq_true rfl⟩ (Nat.le_of_ble_eq_true rfl) ⟨Nat.le_of_ble_eq_true rfl, Nat.le_of_ble_eq_true rfl⟩ dX9_guard_5 ⟨rfl, iv, i_co⟩ (fun r_5 S2_5 h_5 => ?_)
  obtain ⟨v5, rfl, n_v5, q_v5⟩ := h_5
  obtain rfl := q_v5.symm
  refine v_qstore C dX9_guard_8 (by decide) (by first | rfl | exact cat_ok _ | simp [okS, cat_rf]) ?_
  refine v_qload C dX9_guard_10 rfl ?_
  refine v_ifnull (tgt := 30) C dX9_guard_12 (by decide) (fun c_12 => ?_) (fun b12 c_12 => ?_)
  · skip
    subst c_12
    refine v_bipush (v := -2) C dX9_guard_30 (by decide) ?_
    refine v_iret C hr (Nat.le_of_ble_eq_true rfl) (Nat.le_of_ble_eq_true rfl) dX9_guard_32 ?_
    exact ⟨_, rfl, o_576, iv, E0⟩
  · skip
    subst c_12
    have i_b12 := nOK_some n_v5 rfl
    refine v_iload_n C dX9_guard_15 rfl ?_
    refine v_callS (As := [_]) (n := 1) C (sb_isAct l _) rfl ⟨wd345, wd346, wd2, wd347⟩ hy_X9_isAct rfl ⟨Nat.le_of_ble_eq_true rfl, Nat.le_of_ble_eq_true rfl⟩ (Nat.le_of_ble_eq_true rfl) ⟨Nat.le_of_ble_eq_true rfl, Nat.le_of_ble_eq_true rfl⟩ dX9_guard_16 rfl (fun r_16 S4_16 h_16 => ?_)
    obtain ⟨v16, rfl, p_v16, q_v16⟩ := h_16
    obtain rfl := q_v16.symm
    refine v_if_eq (tgt := 30) C dX9_guard_19 (by decide) (fun c_19 => ?_) (fun c_19 => ?_)
    · skip
      refine v_bipush (v := -2) C dX9_guard_30 (by decide) ?_
      refine v_iret C hr (Nat.le_of_ble_eq_true rfl) (Nat.le_of_ble_eq_true rfl) dX9_guard_32 ?_
      exact ⟨_, rfl, o_576, iv, E0⟩
    · skip
      refine v_iload_n C dX9_guard_22 rfl ?_
      refine v_iconst (v := 3) C dX9_guard_23 (by decide) ?_
      refine v_callS (As := [_, _]) (n := 2) C (sb_isBelow l _ _) rfl ⟨wd264, wd141, wd2, wd142⟩ hy_X9_isBelow rfl ⟨Nat.le_of_ble_eq_true rfl, Nat.le_of_ble_eq_true rfl⟩ (Nat.le_of_ble_eq_true rfl) ⟨Nat.le_of_ble_eq_true rfl, Nat.le_of_ble_eq_true rfl⟩ dX9_guard_24 rfl (fun r_24 S6_24 h_24 => ?_)
      obtain ⟨v24, rfl, p_v24, q_v24⟩ := h_24
      obtain rfl := q_v24.symm
      refine v_if_ne (tgt := 33) C dX9_guard_27 (by decide) (fun c_27 => ?_) (fun c_27 => ?_)
      · skip
        refine v_aload_n C dX9_guard_33 rfl ?_
        refine v_new C (ci := 5) (by decide) rfl inlX5 tyX5_ok wd342 wd343 wd344 nfX5 (Nat.le_of_ble_eq_true rfl) (Nat.le_of_ble_eq_true rfl) dX9_guard_34 (fun a34 n_a34 => ?_)
        have nn_a34 := fun z => n_a34 (E0.1 a34 z).1
        have d_o_576_a34 := ne_of_is n_a34 i_this
        refine V.gen (fun S8_34 e_34 => ?_)
        have iv' := inv_sNew e_34 iv n_a34 (by decide)
        have x_34 := x_sNew e_34 n_a34
        have E0' := ext_tr E0 x_34 (fun _ _ z => z.elim)
        have E0 := E0'
        have o_576 := mo_sNewx e_34 d_o_576_a34 o_576
        have i_this := is_ext x_34 i_this
        have i_co := is_ext x_34 i_co
        have i_b12 := is_ext x_34 i_b12
        have iv := iv'
        have i_a34 := is_sNewE e_34 n_a34
        have z_a34 := mI_newE e_34
        refine v_dup C dX9_guard_37 rfl ?_
        refine v_iload_n C dX9_guard_38 rfl ?_
        refine v_iload_n C dX9_guard_39 rfl ?_
        refine v_iconst (v := 0) C dX9_guard_40 (by decide) ?_
        refine v_iconst (v := 0) C dX9_guard_41 (by decide) ?_
        refine v_iconst (v := 0) C dX9_guard_42 (by decide) ?_
        refine v_callI (As := [_, _, _, _, _]) (n := 5) C (st_X5_init l _ _ _ _ _ _ _ _) rfl ⟨wd348, wd349, wd344, wd350⟩ rfl hy_X5_init rfl ⟨Nat.le_of_ble_eq_true rfl, Nat.le_of_ble_eq_true rfl⟩ (Nat.le_of_ble_eq_true rfl) ⟨Nat.le_of_ble_eq_true rfl, Nat.le_of_ble_eq_true rfl⟩ dX9_guard_43 ⟨rfl, iv, i_a34, (by decide)⟩ (fun r_43 S8_43 h_43 => ?_)
        obtain ⟨rfl, iv2, x_43⟩ := h_43
        have o_576 := mo_extx x_43 i_this d_o_576_a34 o_576
        have E0' := ext_tr E0 x_43 (xn nn_a34)
        have E0 := E0'
        have i_this := is_ext x_43 i_this
        have i_co := is_ext x_43 i_co
        have i_b12 := is_ext x_43 i_b12
        have i_a34 := is_ext x_43 i_a34
        have iv := iv2
        refine p9_25 (v := some _) C i_this dX9_guard_46 ?_
        refine V.gen (fun S8_46 e_46 => ?_)
        have iv' := inv_sO e_46 iv (Or.inr (F578 (nOK_is i_a34)))
        have x_46 := x_sO e_46
        have E0' := ext_tr E0 x_46 (xk_is E0 i_this iv (by decide) (by decide))
        have E0 := E0'
        have o_576 := mo_sOx e_46 (Or.inl (by decide)) o_576
        have i_this := is_ext x_46 i_this
        have i_co := is_ext x_46 i_co
        have i_b12 := is_ext x_46 i_b12
        have i_a34 := is_ext x_46 i_a34
        have iv := iv'
        have o_578 := mo_put e_46
        refine v_aload C dX9_guard_49 rfl ?_
        refine v_iload_n C dX9_guard_51 rfl ?_
        refine v_aload_n C dX9_guard_52 rfl ?_
        refine r9_25 C i_this o_578 dX9_guard_53 ?_
        refine v_callV (As := [_, _]) (n := 2) C (st_X8_setGuard l _ _ _ _) rfl i_b12 (by decide) rfl ⟨wd387, wd388, wd389, wd212, wd390⟩ ⟨rfl, hy_X8_setGuard⟩ rfl ⟨Nat.le_of_ble_eq_true rfl, Nat.le_of_ble_eq_true rfl⟩ (Nat.le_of_ble_eq_true rfl) ⟨Nat.le_of_ble_eq_true rfl, Nat.le_of_ble_eq_true rfl⟩ dX9_guard_56 ⟨rfl, iv, i_b12, i_a34⟩ (fun r_56 S8_56 h_56 => ?_)
        obtain ⟨rfl, iv2, x_56⟩ := h_56
        have o_576 := mo_extx x_56 i_this (fun z => absurd z.2 (by rw [i_this.2]; decide)) o_576
        have i_this := is_ext x_56 i_this
        have i_co := is_ext x_56 i_co
        have i_b12 := is_ext x_56 i_b12
        have i_a34 := is_ext x_56 i_a34
        have E0' := ext_tr E0 x_56 (xk_call E0 (by decide))
        have E0 := E0'
        have iv := iv2
        refine v_iconst (v := 1) C dX9_guard_59 (by decide) ?_
        refine v_iret C hr (Nat.le_of_ble_eq_true rfl) (Nat.le_of_ble_eq_true rfl) dX9_guard_60 ?_
        exact ⟨_, rfl, o_576, iv, E0⟩
      · skip
        refine v_bipush (v := -2) C dX9_guard_30 (by decide) ?_
        refine v_iret C hr (Nat.le_of_ble_eq_true rfl) (Nat.le_of_ble_eq_true rfl) dX9_guard_32 ?_
        exact ⟨_, rfl, o_576, iv, E0⟩
set_option maxRecDepth 100000 in
set_option maxHeartbeats 4000000 in
theorem su_X9_own (l : Launch) (M : Nat → Prop) (h : Nat) (p0 : Int32) (p1 : Int32) (p2 : Int32) (p3 : Int32) (co : Nat) : Ct l yX9_own cX9_own 6 (some .int) 2 4 33 43 (fun S av => av = [.ref h, .int p0, .int p1, .int p2, .int p3] ∧ INV M [] S ∧ is S h 9 ∧ mO S 576 h = some co ∧ is S co 1) (fun S _ r S' => ∃ v, r = some (.int v) ∧ mO S' 576 h = some co ∧ INV M [] S' ∧ ext S S' (fun a => ¬ M a ∧ mK S a ∈ [9, 16])) := by
  refine ct_of (by decide) (fun S av h => by obtain ⟨rfl, iv, i_this, hco⟩ := h; exact Nat.le_of_ble_eq_true rfl) ?_
  intro p e s m args below meth c D G bs S av C hr hin hpre
  obtain ⟨rfl, iv, i_this, hco⟩ := hpre
  have E0 : ext S S (fun a => ¬ M a ∧ mK S a ∈ [9, 16]) := ext_rfl
  obtain ⟨o_576, i_co⟩ := hco
  refine v_aload_n C dX9_own_0 rfl ?_
  refine r9_10 C i_this o_576 dX9_own_1 ?_
  refine v_iload_n C dX9_own_4 rfl ?_
  refine v_callV (As := [_]) (n := 1) C (st_X1_figureAt l _ _ _) rfl i_co (by decide) rfl ⟨wd300, wd301, wd302, wd15, wd303⟩ ⟨rfl, hy_X1_figureAt⟩ rfl ⟨Nat.le_of_ble_eq_true rfl, Nat.le_of_ble_eq_true rfl⟩ (Nat.le_of_ble_eq_true rfl) ⟨Nat.le_of_ble_eq_true rfl, Nat.le_of_ble_eq_true rfl⟩ dX9_own_5 ⟨rfl, iv, i_co⟩ (fun r_5 S2_5 h_5 => ?_)
  obtain ⟨v5, rfl, n_v5, q_v5⟩ := h_5
  obtain rfl := q_v5.symm
  refine v_qstore C dX9_own_8 (by decide) (by first | rfl | exact cat_ok _ | simp [okS, cat_rf]) ?_
  refine v_qload C dX9_own_10 rfl ?_
  refine v_ifnull (tgt := 39) C dX9_own_12 (by decide) (fun c_12 => ?_) (fun b12 c_12 => ?_)
  · skip
    subst c_12
    refine v_bipush (v := -2) C dX9_own_39 (by decide) ?_
    refine v_iret C hr (Nat.le_of_ble_eq_true rfl) (Nat.le_of_ble_eq_true rfl) dX9_own_41 ?_
    exact ⟨_, rfl, o_576, iv, E0⟩
  · skip
    subst c_12
    have i_b12 := nOK_some n_v5 rfl
    refine v_iload_n C dX9_own_15 rfl ?_
    refine v_callS (As := [_]) (n := 1) C (sb_isAct l _) rfl ⟨wd345, wd346, wd2, wd347⟩ hy_X9_isAct rfl ⟨Nat.le_of_ble_eq_true rfl, Nat.le_of_ble_eq_true rfl⟩ (Nat.le_of_ble_eq_true rfl) ⟨Nat.le_of_ble_eq_true rfl, Nat.le_of_ble_eq_true rfl⟩ dX9_own_16 rfl (fun r_16 S4_16 h_16 => ?_)
    obtain ⟨v16, rfl, p_v16, q_v16⟩ := h_16
    obtain rfl := q_v16.symm
    refine v_if_eq (tgt := 39) C dX9_own_19 (by decide) (fun c_19 => ?_) (fun c_19 => ?_)
    · skip
      refine v_bipush (v := -2) C dX9_own_39 (by decide) ?_
      refine v_iret C hr (Nat.le_of_ble_eq_true rfl) (Nat.le_of_ble_eq_true rfl) dX9_own_41 ?_
      exact ⟨_, rfl, o_576, iv, E0⟩
    · skip
      refine v_iload_n C dX9_own_22 rfl ?_
      refine v_iconst (v := 3) C dX9_own_23 (by decide) ?_
      refine v_callS (As := [_, _]) (n := 2) C (sb_isBelow l _ _) rfl ⟨wd264, wd141, wd2, wd142⟩ hy_X9_isBelow rfl ⟨Nat.le_of_ble_eq_true rfl, Nat.le_of_ble_eq_true rfl⟩ (Nat.le_of_ble_eq_true rfl) ⟨Nat.le_of_ble_eq_true rfl, Nat.le_of_ble_eq_true rfl⟩ dX9_own_24 rfl (fun r_24 S6_24 h_24 => ?_)
      obtain ⟨v24, rfl, p_v24, q_v24⟩ := h_24
      obtain rfl := q_v24.symm
      refine v_if_eq (tgt := 39) C dX9_own_27 (by decide) (fun c_27 => ?_) (fun c_27 => ?_)
      · skip
        refine v_bipush (v := -2) C dX9_own_39 (by decide) ?_
        refine v_iret C hr (Nat.le_of_ble_eq_true rfl) (Nat.le_of_ble_eq_true rfl) dX9_own_41 ?_
        exact ⟨_, rfl, o_576, iv, E0⟩
      · skip
        refine v_iload C dX9_own_30 rfl ?_
        refine v_iconst (v := 4) C dX9_own_32 (by decide) ?_
        refine v_callS (As := [_, _]) (n := 2) C (sb_isBelow l _ _) rfl ⟨wd264, wd141, wd2, wd142⟩ hy_X9_isBelow rfl ⟨Nat.le_of_ble_eq_true rfl, Nat.le_of_ble_eq_true rfl⟩ (Nat.le_of_ble_eq_true rfl) ⟨Nat.le_of_ble_eq_true rfl, Nat.le_of_ble_eq_true rfl⟩ dX9_own_33 rfl (fun r_33 S8_33 h_33 => ?_)
        obtain ⟨v33, rfl, p_v33, q_v33⟩ := h_33
        obtain rfl := q_v33.symm
        refine v_if_ne (tgt := 42) C dX9_own_36 (by decide) (fun c_36 => ?_) (fun c_36 => ?_)
        · skip
          refine v_aload_n C dX9_own_42 rfl ?_
          refine v_new C (ci := 5) (by decide) rfl inlX5 tyX5_ok wd342 wd343 wd344 nfX5 (Nat.le_of_ble_eq_true rfl) (Nat.le_of_ble_eq_true rfl) dX9_own_43 (fun a43 n_a43 => ?_)
          have nn_a43 := fun z => n_a43 (E0.1 a43 z).1
          have d_o_576_a43 := ne_of_is n_a43 i_this
          refine V.gen (fun S10_43 e_43 => ?_)
          have iv' := inv_sNew e_43 iv n_a43 (by decide)
          have x_43 := x_sNew e_43 n_a43
          have E0' := ext_tr E0 x_43 (fun _ _ z => z.elim)
          have E0 := E0'
          have o_576 := mo_sNewx e_43 d_o_576_a43 o_576
          have i_this := is_ext x_43 i_this
          have i_co := is_ext x_43 i_co
          have i_b12 := is_ext x_43 i_b12
          have iv := iv'
          have i_a43 := is_sNewE e_43 n_a43
          have z_a43 := mI_newE e_43
          refine v_dup C dX9_own_46 rfl ?_
          refine v_iconst (v := -1) C dX9_own_47 (by decide) ?_
          refine v_iconst (v := -1) C dX9_own_48 (by decide) ?_
          refine v_iload_n C dX9_own_49 rfl ?_
          refine v_iload C dX9_own_50 rfl ?_
          refine v_iconst (v := 0) C dX9_own_52 (by decide) ?_
          refine v_callI (As := [_, _, _, _, _]) (n := 5) C (st_X5_init l _ _ _ _ _ _ _ _) rfl ⟨wd348, wd349, wd344, wd350⟩ rfl hy_X5_init rfl ⟨Nat.le_of_ble_eq_true rfl, Nat.le_of_ble_eq_true rfl⟩ (Nat.le_of_ble_eq_true rfl) ⟨Nat.le_of_ble_eq_true rfl, Nat.le_of_ble_eq_true rfl⟩ dX9_own_53 ⟨rfl, iv, i_a43, (by decide)⟩ (fun r_53 S10_53 h_53 => ?_)
          obtain ⟨rfl, iv2, x_53⟩ := h_53
          have o_576 := mo_extx x_53 i_this d_o_576_a43 o_576
          have E0' := ext_tr E0 x_53 (xn nn_a43)
          have E0 := E0'
          have i_this := is_ext x_53 i_this
          have i_co := is_ext x_53 i_co
          have i_b12 := is_ext x_53 i_b12
          have i_a43 := is_ext x_53 i_a43
          have iv := iv2
          refine p9_25 (v := some _) C i_this dX9_own_56 ?_
          refine V.gen (fun S10_56 e_56 => ?_)
          have iv' := inv_sO e_56 iv (Or.inr (F578 (nOK_is i_a43)))
          have x_56 := x_sO e_56
          have E0' := ext_tr E0 x_56 (xk_is E0 i_this iv (by decide) (by decide))
          have E0 := E0'
          have o_576 := mo_sOx e_56 (Or.inl (by decide)) o_576
          have i_this := is_ext x_56 i_this
          have i_co := is_ext x_56 i_co
          have i_b12 := is_ext x_56 i_b12
          have i_a43 := is_ext x_56 i_a43
          have iv := iv'
          have o_578 := mo_put e_56
          refine v_aload C dX9_own_59 rfl ?_
          refine v_iload_n C dX9_own_61 rfl ?_
          refine v_aload_n C dX9_own_62 rfl ?_
          refine r9_25 C i_this o_578 dX9_own_63 ?_
          refine v_callV (As := [_, _]) (n := 2) C (st_X2_setOwnBody l _ _ _ _) rfl i_b12 (by decide) rfl ⟨wd399, wd400, wd401, wd271, wd402⟩ ⟨rfl, hy_X2_setOwnBody⟩ rfl ⟨Nat.le_of_ble_eq_true rfl, Nat.le_of_ble_eq_true rfl⟩ (Nat.le_of_ble_eq_true rfl) ⟨Nat.le_of_ble_eq_true rfl, Nat.le_of_ble_eq_true rfl⟩ dX9_own_66 ⟨rfl, iv, i_b12, i_a43⟩ (fun r_66 S10_66 h_66 => ?_)
          obtain ⟨rfl, iv2, x_66⟩ := h_66
          have o_576 := mo_extx x_66 i_this (fun z => absurd z.2 (by rw [i_this.2]; decide)) o_576
          have i_this := is_ext x_66 i_this
          have i_co := is_ext x_66 i_co
          have i_b12 := is_ext x_66 i_b12
          have i_a43 := is_ext x_66 i_a43
          have E0' := ext_tr E0 x_66 (xk_call E0 (by decide))
          have E0 := E0'
          have iv := iv2
          refine v_iconst (v := 1) C dX9_own_69 (by decide) ?_
          refine v_iret C hr (Nat.le_of_ble_eq_true rfl) (Nat.le_of_ble_eq_true rfl) dX9_own_70 ?_
          exact ⟨_, rfl, o_576, iv, E0⟩
        · skip
          refine v_bipush (v := -2) C dX9_own_39 (by decide) ?_
          refine v_iret C hr (Nat.le_of_ble_eq_true rfl) (Nat.le_of_ble_eq_true rfl) dX9_own_41 ?_
          exact ⟨_, rfl, o_576, iv, E0⟩
set_option maxRecDepth 100000 in
set_option maxHeartbeats 4000000 in
theorem su_X1_addTrait (l : Launch) (M : Nat → Prop) (h : Nat) : Ct l yX1_addTrait cX1_addTrait 3 (some .int) 3 6 70 64 (fun S av => av = [.ref h] ∧ INV M [] S ∧ is S h 1) (fun S _ r S' => ∃ v, r = some (.int v) ∧ mI S' 67 h = mI S 67 h ∧ INV M [] S' ∧ ext S S' (fun a => ¬ M a ∧ mK S a ∈ [1, 3, 11, 17])) := by
  refine ct_of (by decide) (fun S av h => by obtain ⟨rfl, iv, i_this⟩ := h; exact Nat.le_of_ble_eq_true rfl) ?_
  intro p e s m args below meth c D G bs S av C hr hin hpre
  obtain ⟨rfl, iv, i_this⟩ := hpre
  have E0 : ext S S (fun a => ¬ M a ∧ mK S a ∈ [1, 3, 11, 17]) := ext_rfl
  have k_67 : mI S 67 h = mI S 67 h := rfl
  refine v_aload_n C dX1_addTrait_0 rfl ?_
  refine g1_76 C i_this dX1_addTrait_1 ?_
  refine v_topi (fun v1 e_v1 => ?_)
  refine v_istore_n C dX1_addTrait_4 (by decide) (by first | rfl | exact cat_ok _ | simp [okS, cat_rf]) ?_
  refine v_iload_n C dX1_addTrait_5 rfl ?_
  refine v_bipush (v := 20) C dX1_addTrait_6 (by decide) ?_
  refine v_callSN (As := [_, _]) (n := 2) C (sb_isBelow l _ _) rfl ⟨(by decide +kernel), wd141, wd2, wd142⟩ hy_X9_isBelow rfl ⟨Nat.le_of_ble_eq_true rfl, Nat.le_of_ble_eq_true rfl⟩ (Nat.le_of_ble_eq_true rfl) ⟨Nat.le_of_ble_eq_true rfl, Nat.le_of_ble_eq_true rfl⟩ dX1_addTrait_8 rfl (fun r_8 S2_8 h_8 => ?_)
  obtain ⟨v8, rfl, p_v8, q_v8⟩ := h_8
  obtain rfl := q_v8.symm
  refine v_if_eq (tgt := 61) C dX1_addTrait_11 (by decide) (fun c_11 => ?_) (fun c_11 => ?_)
  · skip
    refine v_iload_n C dX1_addTrait_61 rfl ?_
    refine v_iret C hr (Nat.le_of_ble_eq_true rfl) (Nat.le_of_ble_eq_true rfl) dX1_addTrait_62 ?_
    exact ⟨_, rfl, k_67, iv, E0⟩
  · skip
    refine v_new C (ci := 8) (by decide) rfl inlX8 tyX8_ok wd25 wd211 wd212 nfX8 (Nat.le_of_ble_eq_true rfl) (Nat.le_of_ble_eq_true rfl) dX1_addTrait_14 (fun a14 n_a14 => ?_)
    have nn_a14 := fun z => n_a14 (E0.1 a14 z).1
    have d_k_67_a14 := ne_of_is n_a14 i_this
    refine V.gen (fun S4_14 e_14 => ?_)
    have iv' := inv_sNew e_14 iv n_a14 (by decide)
    have x_14 := x_sNew e_14 n_a14
    have E0' := ext_tr E0 x_14 (fun _ _ z => z.elim)
    have E0 := E0'
    have k_67 := mi_sNewx e_14 d_k_67_a14 k_67
    have i_this := is_ext x_14 i_this
    have iv := iv'
    have i_a14 := is_sNewE e_14 n_a14
    have z_a14 := mI_newE e_14
    refine v_dup C dX1_addTrait_17 rfl ?_
    refine v_callIN (As := []) (n := 0) C (st_X8_init l _ _ _) rfl ⟨(by decide +kernel), wd214, wd212, wd215⟩ rfl hy_X8_init rfl ⟨Nat.le_of_ble_eq_true rfl, Nat.le_of_ble_eq_true rfl⟩ (Nat.le_of_ble_eq_true rfl) ⟨Nat.le_of_ble_eq_true rfl, Nat.le_of_ble_eq_true rfl⟩ dX1_addTrait_18 ⟨rfl, iv, i_a14⟩ (fun r_18 S4_18 h_18 => ?_)
    obtain ⟨rfl, iv2, x_18⟩ := h_18
    have k_67 := mi_extx x_18 i_this d_k_67_a14 k_67
    have E0' := ext_tr E0 x_18 (xn nn_a14)
    have E0 := E0'
    have i_this := is_ext x_18 i_this
    have i_a14 := is_ext x_18 i_a14
    have iv := iv2
    refine v_astore_n C dX1_addTrait_21 (by decide) (by first | rfl | exact cat_ok _ | simp [okS, cat_rf]) ?_
    refine v_aload_n C dX1_addTrait_22 rfl ?_
    obtain ⟨a23, e_a23, i_a23⟩ := T512 iv i_a14 List.not_mem_nil
    refine r1_68 (b := a23) C i_a14 e_a23 dX1_addTrait_23 ?_
    refine v_iload_n C dX1_addTrait_26 rfl ?_
    refine v_callV (As := [_]) (n := 1) C (st_X3_add l _ _ _) rfl i_a23 (by decide) rfl ⟨wd223, wd167, wd168, wd45, wd169⟩ ⟨rfl, hy_X3_add⟩ rfl ⟨Nat.le_of_ble_eq_true rfl, Nat.le_of_ble_eq_true rfl⟩ (Nat.le_of_ble_eq_true rfl) ⟨Nat.le_of_ble_eq_true rfl, Nat.le_of_ble_eq_true rfl⟩ dX1_addTrait_27 ⟨rfl, iv, i_a23⟩ (fun r_27 S4_27 h_27 => ?_)
    obtain ⟨rfl, iv2, x_27⟩ := h_27
    have k_67 := mi_extx x_27 i_this (fun z => absurd z.2 (by rw [i_this.2]; decide)) k_67
    have i_this := is_ext x_27 i_this
    have i_a14 := is_ext x_27 i_a14
    have i_a23 := is_ext x_27 i_a23
    have E0' := ext_tr E0 x_27 (xk_call E0 (by decide))
    have E0 := E0'
    have iv := iv2
    refine v_aload_n C dX1_addTrait_30 rfl ?_
    obtain ⟨a31, e_a31, i_a31⟩ := T512 iv i_a14 List.not_mem_nil
    refine r1_68 (b := a31) C i_a14 e_a31 dX1_addTrait_31 ?_
    refine v_aload_n C dX1_addTrait_34 rfl ?_
    obtain ⟨a35, e_a35, i_a35⟩ := T68 iv i_this List.not_mem_nil
    refine r1_26 (b := a35) C i_this e_a35 dX1_addTrait_35 ?_
    obtain ⟨a38, e_a38, i_a38⟩ := T259 iv i_a35 List.not_mem_nil
    refine r1_85 (b := a38) C i_a35 e_a38 dX1_addTrait_38 ?_
    refine v_callV (As := [_]) (n := 1) C (st_X3_addAll l _ _ _) rfl i_a31 (by decide) rfl ⟨wd224, wd225, wd226, wd45, wd227⟩ ⟨rfl, hy_X3_addAll⟩ rfl ⟨Nat.le_of_ble_eq_true rfl, Nat.le_of_ble_eq_true rfl⟩ (Nat.le_of_ble_eq_true rfl) ⟨Nat.le_of_ble_eq_true rfl, Nat.le_of_ble_eq_true rfl⟩ dX1_addTrait_41 ⟨rfl, iv, i_a31, i_a38⟩ (fun r_41 S4_41 h_41 => ?_)
    obtain ⟨rfl, iv2, x_41⟩ := h_41
    have k_67 := mi_extx x_41 i_this (fun z => absurd z.2 (by rw [i_this.2]; decide)) k_67
    have i_this := is_ext x_41 i_this
    have i_a14 := is_ext x_41 i_a14
    have i_a23 := is_ext x_41 i_a23
    have i_a31 := is_ext x_41 i_a31
    have i_a35 := is_ext x_41 i_a35
    have i_a38 := is_ext x_41 i_a38
    have E0' := ext_tr E0 x_41 (xk_call E0 (by decide))
    have E0 := E0'
    have iv := iv2
    refine v_aload_n C dX1_addTrait_44 rfl ?_
    obtain ⟨r45, e_r45, i_r45, m_r45⟩ := T64 iv i_this List.not_mem_nil
    refine r1_11 (b := r45) C i_this e_r45 dX1_addTrait_45 ?_
    refine v_iload_n C dX1_addTrait_48 rfl ?_
    refine v_aload_n C dX1_addTrait_49 rfl ?_
    refine v_aast (t0 := 6) C i_r45 (by decide) i_a14 (by decide) rfl rfl (bI_ne p_v8 c_11 rfl) dX1_addTrait_50 ?_
    refine V.gen (fun S4_50 e_50 => ?_)
    have iv' := inv_sP e_50 iv i_r45.2.1 (by decide) (nOK_is i_a14)
    have x_50 := x_sP e_50
    have E0' := ext_tr E0 x_50 (xk_P E0 i_r45 iv (by decide) (by decide))
    have E0 := E0'
    have k_67 := mi_sPy e_50 k_67
    have i_this := is_ext x_50 i_this
    have i_a14 := is_ext x_50 i_a14
    have i_a23 := is_ext x_50 i_a23
    have i_a31 := is_ext x_50 i_a31
    have i_a35 := is_ext x_50 i_a35
    have i_a38 := is_ext x_50 i_a38
    have i_r45 := isA_ext x_50 i_r45
    have iv := iv'
    refine v_aload_n C dX1_addTrait_51 rfl ?_
    refine v_dup C dX1_addTrait_52 rfl ?_
    refine g1_76 C i_this dX1_addTrait_53 ?_
    refine v_topi (fun v53 e_v53 => ?_)
    refine v_iconst (v := 1) C dX1_addTrait_56 (by decide) ?_
    refine v_iadd C dX1_addTrait_57 ?_
    refine p1_76 C i_this dX1_addTrait_58 ?_
    refine V.gen (fun S4_58 e_58 => ?_)
    have iv' := inv_sI e_58 iv (by decide) (by decide)
    have x_58 := x_sI e_58
    have E0' := ext_tr E0 x_58 (xk_is E0 i_this iv (by decide) (by decide))
    have E0 := E0'
    have k_67 := mi_sIx e_58 (Or.inl (by decide)) k_67
    have i_this := is_ext x_58 i_this
    have i_a14 := is_ext x_58 i_a14
    have i_a23 := is_ext x_58 i_a23
    have i_a31 := is_ext x_58 i_a31
    have i_a35 := is_ext x_58 i_a35
    have i_a38 := is_ext x_58 i_a38
    have i_r45 := isA_ext x_58 i_r45
    have iv := iv'
    refine v_iload_n C dX1_addTrait_61 rfl ?_
    refine v_iret C hr (Nat.le_of_ble_eq_true rfl) (Nat.le_of_ble_eq_true rfl) dX1_addTrait_62 ?_
    exact ⟨_, rfl, k_67, iv, E0⟩
set_option maxRecDepth 100000 in
set_option maxHeartbeats 4000000 in
theorem su_X9_trait (l : Launch) (M : Nat → Prop) (h : Nat) (p0 : Int32) (p1 : Int32) (p2 : Int32) (co : Nat) : Ct l yX9_trait cX9_trait 4 (some .int) 6 6 70 132 (fun S av => av = [.ref h, .int p0, .int p1, .int p2] ∧ INV M [] S ∧ is S h 9 ∧ mO S 576 h = some co ∧ is S co 1) (fun S _ r S' => ∃ v, r = some (.int v) ∧ (mI S' 67 co = mI S 67 co ∧ mO S' 576 h = some co) ∧ INV M [] S' ∧ ext S S' (fun a => ¬ M a ∧ mK S a ∈ [1, 3, 4, 11, 15, 17])) := by
  refine ct_of (by decide) (fun S av h => by obtain ⟨rfl, iv, i_this, hco⟩ := h; exact Nat.le_of_ble_eq_true rfl) ?_
  intro p e s m args below meth c D G bs S av C hr hin hpre
  obtain ⟨rfl, iv, i_this, hco⟩ := hpre
  have E0 : ext S S (fun a => ¬ M a ∧ mK S a ∈ [1, 3, 4, 11, 15, 17]) := ext_rfl
  obtain ⟨o_576, i_co⟩ := hco
  have k_67 : mI S 67 co = mI S 67 co := rfl
  refine v_aload_n C dX9_trait_0 rfl ?_
  refine r9_10 C i_this o_576 dX9_trait_1 ?_
  refine v_iload_n C dX9_trait_4 rfl ?_
  refine v_iload_n C dX9_trait_5 rfl ?_
  refine v_iload_n C dX9_trait_6 rfl ?_
  refine v_callV (As := [_, _, _]) (n := 3) C (st_X1_canStandUnder l _ _ _ _ _) rfl i_co (by decide) rfl ⟨wd129, wd130, wd131, wd15, wd132⟩ ⟨rfl, hy_X1_canStandUnder⟩ rfl ⟨Nat.le_of_ble_eq_true rfl, Nat.le_of_ble_eq_true rfl⟩ (Nat.le_of_ble_eq_true rfl) ⟨Nat.le_of_ble_eq_true rfl, Nat.le_of_ble_eq_true rfl⟩ dX9_trait_7 ⟨rfl, iv, i_co⟩ (fun r_7 S2_7 h_7 => ?_)
  obtain ⟨v7, rfl, q_v7⟩ := h_7
  obtain rfl := q_v7.symm
  refine v_if_ne (tgt := 16) C dX9_trait_10 (by decide) (fun c_10 => ?_) (fun c_10 => ?_)
  · skip
    refine v_aload_n C dX9_trait_16 rfl ?_
    refine r9_10 C i_this o_576 dX9_trait_17 ?_
    refine v_iload_n C dX9_trait_20 rfl ?_
    refine v_iload_n C dX9_trait_21 rfl ?_
    refine v_iload_n C dX9_trait_22 rfl ?_
    refine v_callV (As := [_, _, _]) (n := 3) C (st_X1_alignsUnder l _ _ _ _ _) rfl i_co (by decide) rfl ⟨wd143, wd144, wd145, wd15, wd146⟩ ⟨rfl, hy_X1_alignsUnder⟩ rfl ⟨Nat.le_of_ble_eq_true rfl, Nat.le_of_ble_eq_true rfl⟩ (Nat.le_of_ble_eq_true rfl) ⟨Nat.le_of_ble_eq_true rfl, Nat.le_of_ble_eq_true rfl⟩ dX9_trait_23 ⟨rfl, iv, i_co⟩ (fun r_23 S4_23 h_23 => ?_)
    obtain ⟨v23, rfl, iv2, x_23⟩ := h_23
    have o_576 := mo_extx x_23 i_this (fun z => absurd z.2 (by rw [i_this.2]; decide)) o_576
    have k_67 := mi_extx x_23 i_co (fun z => absurd z.2 (by rw [i_co.2]; decide)) k_67
    have i_this := is_ext x_23 i_this
    have i_co := is_ext x_23 i_co
    have E0' := ext_tr E0 x_23 (xk_call E0 (by decide))
    have E0 := E0'
    have iv := iv2
    refine v_if_ne (tgt := 32) C dX9_trait_26 (by decide) (fun c_26 => ?_) (fun c_26 => ?_)
    · skip
      refine v_aload_n C dX9_trait_32 rfl ?_
      refine r9_10 C i_this o_576 dX9_trait_33 ?_
      refine g9_36 C i_co dX9_trait_36 ?_
      refine v_topi (fun v36 e_v36 => ?_)
      refine v_bipush (v := 20) C dX9_trait_39 (by decide) ?_
      refine v_icmp_lt (tgt := 49) C dX9_trait_41 (by decide) (fun c_41 => ?_) (fun c_41 => ?_)
      · skip
        refine v_aload_n C dX9_trait_49 rfl ?_
        refine r9_10 C i_this o_576 dX9_trait_50 ?_
        refine v_callV (As := []) (n := 0) C (su_X1_addTrait l _ _) rfl i_co (by decide) rfl ⟨wd206, wd207, wd208, wd15, wd209⟩ ⟨rfl, hy_X1_addTrait⟩ rfl ⟨Nat.le_of_ble_eq_true rfl, Nat.le_of_ble_eq_true rfl⟩ (Nat.le_of_ble_eq_true rfl) ⟨Nat.le_of_ble_eq_true rfl, Nat.le_of_ble_eq_true rfl⟩ dX9_trait_53 ⟨rfl, iv, i_co⟩ (fun r_53 S8_53 h_53 => ?_)
        obtain ⟨v53, rfl, p_v53, iv2, x_53⟩ := h_53
        have o_576 := mo_extx x_53 i_this (fun z => absurd z.2 (by rw [i_this.2]; decide)) o_576
        have k_67 := p_v53.trans k_67
        have i_this := is_ext x_53 i_this
        have i_co := is_ext x_53 i_co
        have E0' := ext_tr E0 x_53 (xk_call E0 (by decide))
        have E0 := E0'
        have iv := iv2
        refine v_iret C hr (Nat.le_of_ble_eq_true rfl) (Nat.le_of_ble_eq_true rfl) dX9_trait_56 ?_
        exact ⟨_, rfl, ⟨k_67, o_576⟩, iv, E0⟩
      · skip
        refine v_bipush (v := -4) C dX9_trait_44 (by decide) ?_
        refine v_goto (tgt := 56) C dX9_trait_46 (by decide) ?_
        refine v_iret C hr (Nat.le_of_ble_eq_true rfl) (Nat.le_of_ble_eq_true rfl) dX9_trait_56 ?_
        exact ⟨_, rfl, ⟨k_67, o_576⟩, iv, E0⟩
    · skip
      refine v_bipush (v := -3) C dX9_trait_29 (by decide) ?_
      refine v_iret C hr (Nat.le_of_ble_eq_true rfl) (Nat.le_of_ble_eq_true rfl) dX9_trait_31 ?_
      exact ⟨_, rfl, ⟨k_67, o_576⟩, iv, E0⟩
  · skip
    refine v_bipush (v := -2) C dX9_trait_13 (by decide) ?_
    refine v_iret C hr (Nat.le_of_ble_eq_true rfl) (Nat.le_of_ble_eq_true rfl) dX9_trait_15 ?_
    exact ⟨_, rfl, ⟨k_67, o_576⟩, iv, E0⟩
theorem isB_nI {k n : Nat} (hk : k < 2 ^ 31) (hn : n < 2 ^ 31) : isB (nI k) (nI n) = decide (k < n) := by
  unfold isB
  rw [decide_eq_true (nI_pos' hk), Bool.true_and]
  exact decide_eq_decide.mpr (nI_ltI hk hn)
set_option maxRecDepth 100000 in
set_option maxHeartbeats 4000000 in
theorem su_X1_addFigure (l : Launch) (M : Nat → Prop) (h : Nat) (p0 : Int32) (k : Nat) : Ct l yX1_addFigure cX1_addFigure 3 (some .int) 3 11 809 65 (fun S av => av = [.ref h, .int p0] ∧ INV M [] S ∧ is S h 1 ∧ mI S 67 h = nI k ∧ k < 12) (fun S _ r S' => ∃ v, r = some (.int v) ∧ (v = nI k ∧ mI S' 67 h = nI (k + 1)) ∧ INV M [] S' ∧ ext S S' (fun a => ¬ M a ∧ mK S a ∈ [1, 14])) := by
  refine ct_of (by decide) (fun S av h => by obtain ⟨rfl, iv, i_this, hk⟩ := h; exact Nat.le_of_ble_eq_true rfl) ?_
  intro p e s m args below meth c D G bs S av C hr hin hpre
  obtain ⟨rfl, iv, i_this, hk⟩ := hpre
  have E0 : ext S S (fun a => ¬ M a ∧ mK S a ∈ [1, 14]) := ext_rfl
  have k_67 := hk.1
  have k_67s := hk.1
  refine v_aload_n C dX1_addFigure_0 rfl ?_
  refine g1_92 C i_this dX1_addFigure_1 ?_
  refine v_topi (fun v1 e_v1 => ?_)
  refine v_istore_n C dX1_addFigure_4 (by decide) (by first | rfl | exact cat_ok _ | simp [okS, cat_rf]) ?_
  refine v_iload_n C dX1_addFigure_5 rfl ?_
  refine v_bipush (v := 12) C dX1_addFigure_6 (by decide) ?_
  refine v_callSN (As := [_, _]) (n := 2) C (sb_isBelow l _ _) rfl ⟨(by decide +kernel), wd141, wd2, wd142⟩ hy_X9_isBelow rfl ⟨Nat.le_of_ble_eq_true rfl, Nat.le_of_ble_eq_true rfl⟩ (Nat.le_of_ble_eq_true rfl) ⟨Nat.le_of_ble_eq_true rfl, Nat.le_of_ble_eq_true rfl⟩ dX1_addFigure_8 rfl (fun r_8 S2_8 h_8 => ?_)
  obtain ⟨v8, rfl, p_v8, q_v8⟩ := h_8
  obtain rfl := q_v8.symm
  refine v_if_eq (tgt := 39) C dX1_addFigure_11 (by decide) (fun c_11 => ?_) (fun c_11 => ?_)
  · skip
    have z := bI_f c_11
    rw [p_v8, e_v1, hk.1, show (12 : Int32) = nI 12 from rfl, isB_nI (by omega) (by decide), decide_eq_true hk.2] at z
    cases z
  · skip
    refine v_aload_n C dX1_addFigure_14 rfl ?_
    obtain ⟨r15, e_r15, i_r15, m_r15⟩ := T66 iv i_this List.not_mem_nil
    refine r1_19 (b := r15) C i_this e_r15 dX1_addFigure_15 ?_
    refine v_iload_n C dX1_addFigure_18 rfl ?_
    refine v_new C (ci := 2) (by decide) rfl inlX2 tyX2_ok wd27 wd270 wd271 nfX2 (Nat.le_of_ble_eq_true rfl) (Nat.le_of_ble_eq_true rfl) dX1_addFigure_19 (fun a19 n_a19 => ?_)
    have nn_a19 := fun z => n_a19 (E0.1 a19 z).1
    have d_k_67_a19 := ne_of_is n_a19 i_this
    refine V.gen (fun S4_19 e_19 => ?_)
    have iv' := inv_sNew e_19 iv n_a19 (by decide)
    have x_19 := x_sNew e_19 n_a19
    have E0' := ext_tr E0 x_19 (fun _ _ z => z.elim)
    have E0 := E0'
    have k_67 := mi_sNewx e_19 d_k_67_a19 k_67
    have i_this := is_ext x_19 i_this
    have i_r15 := isA_ext x_19 i_r15
    have iv := iv'
    have i_a19 := is_sNewE e_19 n_a19
    have z_a19 := mI_newE e_19
    refine v_dup C dX1_addFigure_22 rfl ?_
    refine v_iload_n C dX1_addFigure_23 rfl ?_
    refine v_iload_n C dX1_addFigure_24 rfl ?_
    refine v_callI (As := [_, _]) (n := 2) C (st_X2_init l _ _ _ _ _) rfl ⟨wd272, wd273, wd271, wd274⟩ rfl hy_X2_init rfl ⟨Nat.le_of_ble_eq_true rfl, Nat.le_of_ble_eq_true rfl⟩ (Nat.le_of_ble_eq_true rfl) ⟨Nat.le_of_ble_eq_true rfl, Nat.le_of_ble_eq_true rfl⟩ dX1_addFigure_25 ⟨rfl, iv, i_a19⟩ (fun r_25 S4_25 h_25 => ?_)
    obtain ⟨rfl, iv2, x_25⟩ := h_25
    have k_67 := mi_extx x_25 i_this d_k_67_a19 k_67
    have E0' := ext_tr E0 x_25 (xn nn_a19)
    have E0 := E0'
    have i_this := is_ext x_25 i_this
    have i_r15 := isA_ext x_25 i_r15
    have i_a19 := is_ext x_25 i_a19
    have iv := iv2
    refine v_aast (t0 := 3) C i_r15 (by decide) i_a19 (by decide) rfl rfl (bI_ne p_v8 c_11 rfl) dX1_addFigure_28 ?_
    refine V.gen (fun S4_28 e_28 => ?_)
    have iv' := inv_sP e_28 iv i_r15.2.1 (by decide) (nOK_is i_a19)
    have x_28 := x_sP e_28
    have E0' := ext_tr E0 x_28 (xk_P E0 i_r15 iv (by decide) (by decide))
    have E0 := E0'
    have k_67 := mi_sPy e_28 k_67
    have i_this := is_ext x_28 i_this
    have i_r15 := isA_ext x_28 i_r15
    have i_a19 := is_ext x_28 i_a19
    have iv := iv'
    refine v_aload_n C dX1_addFigure_29 rfl ?_
    refine v_dup C dX1_addFigure_30 rfl ?_
    refine g1_92 C i_this dX1_addFigure_31 ?_
    refine v_topi (fun v31 e_v31 => ?_)
    refine v_iconst (v := 1) C dX1_addFigure_34 (by decide) ?_
    refine v_iadd C dX1_addFigure_35 ?_
    have q_67 := k_67
    refine p1_92 C i_this dX1_addFigure_36 ?_
    refine V.gen (fun S4_36 e_36 => ?_)
    have iv' := inv_sI e_36 iv (by decide) (by decide)
    have x_36 := x_sI e_36
    have E0' := ext_tr E0 x_36 (xk_is E0 i_this iv (by decide) (by decide))
    have E0 := E0'
    have i_this := is_ext x_36 i_this
    have i_r15 := isA_ext x_36 i_r15
    have i_a19 := is_ext x_36 i_a19
    have iv := iv'
    have k_67n := (congrArg (fun Z => mI Z 67 h) e_36).trans ((mI_sI ..).trans ((if_pos ⟨rfl, rfl⟩).trans (show _ = nI (k + 1) by rw [e_v31, q_67]; exact nI_1 k)))
    refine v_iload_n C dX1_addFigure_39 rfl ?_
    refine v_iret C hr (Nat.le_of_ble_eq_true rfl) (Nat.le_of_ble_eq_true rfl) dX1_addFigure_40 ?_
    exact ⟨_, rfl, ⟨e_v1.trans k_67s, k_67n⟩, iv, E0⟩
set_option maxRecDepth 100000 in
set_option maxHeartbeats 4000000 in
theorem su_X9_character (l : Launch) (M : Nat → Prop) (h : Nat) (p0 : Int32) (co k : Nat) : Ct l yX9_character cX9_character 2 (some .int) 4 11 809 87 (fun S av => av = [.ref h, .int p0] ∧ INV M [] S ∧ is S h 9 ∧ mO S 576 h = some co ∧ is S co 1 ∧ mI S 67 co = nI k ∧ k ≤ 12) (fun S _ r S' => ∃ v, r = some (.int v) ∧ (charN k p0 v (mI S' 67 co) ∧ mO S' 576 h = some co) ∧ INV M [] S' ∧ ext S S' (fun a => ¬ M a ∧ mK S a ∈ [1, 14])) := by
  refine ct_of (by decide) (fun S av h => by obtain ⟨rfl, iv, i_this, hco⟩ := h; exact Nat.le_of_ble_eq_true rfl) ?_
  intro p e s m args below meth c D G bs S av C hr hin hpre
  obtain ⟨rfl, iv, i_this, hco⟩ := hpre
  have E0 : ext S S (fun a => ¬ M a ∧ mK S a ∈ [1, 14]) := ext_rfl
  obtain ⟨o_576, i_co, k_67, hk⟩ := hco
  refine v_iload_n C dX9_character_0 rfl ?_
  refine v_iconst (v := 4) C dX9_character_1 (by decide) ?_
  refine v_callS (As := [_, _]) (n := 2) C (sb_isBelow l _ _) rfl ⟨wd264, wd141, wd2, wd142⟩ hy_X9_isBelow rfl ⟨Nat.le_of_ble_eq_true rfl, Nat.le_of_ble_eq_true rfl⟩ (Nat.le_of_ble_eq_true rfl) ⟨Nat.le_of_ble_eq_true rfl, Nat.le_of_ble_eq_true rfl⟩ dX9_character_2 rfl (fun r_2 S2_2 h_2 => ?_)
  obtain ⟨v2, rfl, p_v2, q_v2⟩ := h_2
  obtain rfl := q_v2.symm
  refine v_if_ne (tgt := 11) C dX9_character_5 (by decide) (fun c_5 => ?_) (fun c_5 => ?_)
  · skip
    refine v_aload_n C dX9_character_11 rfl ?_
    refine r9_10 C i_this o_576 dX9_character_12 ?_
    refine g9_48 C i_co dX9_character_15 ?_
    refine v_topi (fun v15 e_v15 => ?_)
    refine v_bipush (v := 12) C dX9_character_18 (by decide) ?_
    refine v_icmp_lt (tgt := 28) C dX9_character_20 (by decide) (fun c_20 => ?_) (fun c_20 => ?_)
    · skip
      have hlt : k < 12 := by rw [e_v15, k_67, show (12 : Int32) = nI 12 from rfl, nI_ltI (by omega) (by decide)] at c_20; exact c_20
      refine v_aload_n C dX9_character_28 rfl ?_
      refine r9_10 C i_this o_576 dX9_character_29 ?_
      refine v_iload_n C dX9_character_32 rfl ?_
      refine v_callV (As := [_]) (n := 1) C (su_X1_addFigure l _ _ _ _) rfl i_co (by decide) rfl ⟨wd265, wd266, wd267, wd15, wd268⟩ ⟨rfl, hy_X1_addFigure⟩ rfl ⟨Nat.le_of_ble_eq_true rfl, Nat.le_of_ble_eq_true rfl⟩ (Nat.le_of_ble_eq_true rfl) ⟨Nat.le_of_ble_eq_true rfl, Nat.le_of_ble_eq_true rfl⟩ dX9_character_33 ⟨rfl, iv, i_co, ⟨k_67, hlt⟩⟩ (fun r_33 S6_33 h_33 => ?_)
      obtain ⟨v33, rfl, p_v33, iv2, x_33⟩ := h_33
      have o_576 := mo_extx x_33 i_this (fun z => absurd z.2 (by rw [i_this.2]; decide)) o_576
      have i_this := is_ext x_33 i_this
      have i_co := is_ext x_33 i_co
      have E0' := ext_tr E0 x_33 (xk_call E0 (by decide))
      have E0 := E0'
      have iv := iv2
      refine v_iret C hr (Nat.le_of_ble_eq_true rfl) (Nat.le_of_ble_eq_true rfl) dX9_character_36 ?_
      exact ⟨_, rfl, ⟨Or.inr (Or.inr ⟨p_v2.symm.trans (bI_t c_5), hlt, p_v33.1, p_v33.2⟩), o_576⟩, iv, E0⟩
    · skip
      have hfull : k = 12 := by rw [e_v15, k_67, show (12 : Int32) = nI 12 from rfl, nI_ltI (by omega) (by decide)] at c_20; omega
      refine v_bipush (v := -4) C dX9_character_23 (by decide) ?_
      refine v_goto (tgt := 36) C dX9_character_25 (by decide) ?_
      refine v_iret C hr (Nat.le_of_ble_eq_true rfl) (Nat.le_of_ble_eq_true rfl) dX9_character_36 ?_
      exact ⟨_, rfl, ⟨Or.inr (Or.inl ⟨p_v2.symm.trans (bI_t c_5), hfull, rfl, k_67⟩), o_576⟩, iv, E0⟩
  · skip
    refine v_bipush (v := -2) C dX9_character_8 (by decide) ?_
    refine v_iret C hr (Nat.le_of_ble_eq_true rfl) (Nat.le_of_ble_eq_true rfl) dX9_character_10 ?_
    exact ⟨_, rfl, ⟨Or.inl ⟨p_v2.symm.trans (bI_f c_5), rfl, k_67⟩, o_576⟩, iv, E0⟩
