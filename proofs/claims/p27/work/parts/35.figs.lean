theorem mp_extx {S S' : Mem} {X : Nat → Prop} {a k n : Nat} {f : Nat → Option Nat} (x : ext S S' X) (i : isA S a k n) (nx : ¬ X a) (h : mP S a = f) : mP S' a = f := by
  rw [← h]; exact funext (fun j => (x.2 a i.1 nx).2.2.2.2.1 j)
theorem v_topqe {p : Program} {l : Launch} {e : Env} {R : Room} {s : State} {m : MethodId} {args : Array Value} {below : List Frame} {meth : Method} {c : Code} {D : va_G} {G : Nat → ClassId} {bs nL : Nat} {Q : State → Prop} {cells slots : Nat} {S : Mem} {pc k : Nat} {lv : List (Option Value)} {st : List Value} {o : Option Nat} (h : nOK S k o) (kk : ∀ o', nOK S k o' → o' = o → V p l e R s m args below meth c D G bs nL Q cells slots S pc lv (va_rf o' :: st)) : V p l e R s m args below meth c D G bs nL Q cells slots S pc lv (va_rf o :: st) := kk o h rfl
/-- which characters are there: the first n of the row -/
def figR (f : Nat → Option Nat) (n : Nat) : Prop := ∀ i, i < 12 → ((f i).isSome = true ↔ i < n)
/-- the row's answer -/
def figO (f : Nat → Option Nat) (x : Int32) : Option Nat := bif isB x 12 then f x.toNatClampNeg else none
theorem isB_below {x b : Int32} {n : Nat} (h : b.toInt = (n : Int)) : isB x b = below x n := by
  unfold isB below
  rw [show decide ((0 : Int32) ≤ x) = decide (0 ≤ x.toInt) from decide_eq_decide.mpr i0_le, show decide (x < b) = decide (x.toInt < (n : Int)) from decide_eq_decide.mpr (by rw [Int32.lt_iff_toInt_lt, h])]
theorem figO_below {f : Nat → Option Nat} {n : Nat} (h : figR f n) (hn : n ≤ 12) (x : Int32) : (figO f x).isSome = below x n := by
  unfold figO
  rw [isB_below (n := 12) rfl]
  cases hb : below x 12 with
  | false =>
    cases hb2 : below x n with
    | false => rfl
    | true =>
      obtain ⟨k, hk, rfl⟩ := below_some hb2
      rw [below_nI (by omega) (by decide)] at hb
      cases hb
  | true =>
    obtain ⟨k, hk, rfl⟩ := below_some hb
    rw [nI_clamp (by omega)]
    show (f k).isSome = _
    by_cases hkn : k < n
    · rw [below_nI hkn (by omega)]; exact (h k hk).mpr hkn
    · have e1 : (f k).isSome = false := by
        cases e : (f k).isSome with
        | false => rfl
        | true => exact absurd ((h k hk).mp e) hkn
      rw [e1]
      cases hb2 : below (nI k) n with
      | false => rfl
      | true =>
        obtain ⟨j, hj, e⟩ := below_some hb2
        rw [nI_eq (by omega) (by omega)] at e
        omega
theorem figR_up {f : Nat → Option Nat} {n a : Nat} (h : figR f n) : figR (fun i => if i = n then some a else f i) (n + 1) := by
  intro i hi
  show ((if i = n then some a else f i).isSome = true ↔ i < n + 1)
  split
  · exact ⟨fun _ => by omega, fun _ => rfl⟩
  · exact (h i hi).trans (by omega)
set_option maxRecDepth 100000 in
set_option maxHeartbeats 4000000 in
theorem sf_X1_init (l : Launch) (M : Nat → Prop) (E : List Nat) (h : Nat) : Ct l yX1_init cX1_init 1 none 3 12 147 63 (fun S av => av = [.ref h] ∧ INV M (h :: E) S ∧ is S h 1 ∧ mI S 67 h = 0) (fun S _ r S' => r = none ∧ INV M E S' ∧ ext S S' (fun a => a = h) ∧ mI S' 67 h = 0 ∧ ∃ fs, mO S' 66 h = some fs ∧ isA S' fs 14 12 ∧ mP S' fs = fun _ => none) := by
  refine ct_of (by decide) (fun S av h => by obtain ⟨rfl, iv, i_this, k_67⟩ := h; exact Nat.le_of_ble_eq_true rfl) ?_
  intro p e s m args below meth c D G bs S av C hr hin hpre
  obtain ⟨rfl, iv, i_this, k_67⟩ := hpre
  have E0 : ext S S (fun a => a = h) := ext_rfl
  refine v_aload_n C dX1_init_0 rfl ?_
  refine v_objInit C wd24 wd11 wd12 dX1_init_1 (Nat.le_of_ble_eq_true rfl) (Nat.le_of_ble_eq_true rfl) ?_
  refine v_aload_n C dX1_init_4 rfl ?_
  refine v_bipush (v := 20) C dX1_init_5 (by decide) ?_
  refine v_newrefs C (kd := 17) (N := 20) (t0 := 6) (by decide) (by decide +kernel) wd25 rfl (by decide) (by decide) (Nat.le_of_ble_eq_true rfl) (Nat.le_of_ble_eq_true rfl) (Nat.le_of_ble_eq_true rfl) dX1_init_7 (fun a7 n_a7 => ?_)
  have nn_a7 := fun z => n_a7 (E0.1 a7 z).1
  have m_a7 := inv_new iv n_a7
  refine V.gen (fun S2_7 e_7 => ?_)
  have iv' := inv_sArr e_7 iv n_a7 (by decide)
  have x_7 := x_sArr e_7 n_a7
  have E0' := ext_tr E0 x_7 (fun _ _ z => z.elim)
  have E0 := E0'
  have k_67 := mi_sArry e_7 k_67
  have i_this := is_ext x_7 i_this
  have iv := iv'
  have i_a7 := isA_sArrE e_7 n_a7
  refine p1_11 (v := some _) C i_this (hin rfl) dX1_init_10 ?_
  refine V.gen (fun S2_10 e_10 => ?_)
  have iv' := inv_sO e_10 iv (Or.inl List.mem_cons_self)
  have x_10 := x_sO e_10
  have E0' := ext_tr E0 x_10 (fun _ _ z => z)
  have E0 := E0'
  have k_67 := mi_sOy e_10 k_67
  have i_this := is_ext x_10 i_this
  have i_a7 := isA_ext x_10 i_a7
  have iv := iv'
  have o_64 := mo_put e_10
  refine v_aload_n C dX1_init_13 rfl ?_
  refine v_bipush (v := 12) C dX1_init_14 (by decide) ?_
  refine v_newrefs C (kd := 14) (N := 12) (t0 := 3) (by decide) (by decide +kernel) wd27 rfl (by decide) (by decide) (Nat.le_of_ble_eq_true rfl) (Nat.le_of_ble_eq_true rfl) (Nat.le_of_ble_eq_true rfl) dX1_init_16 (fun a16 n_a16 => ?_)
  have nn_a16 := fun z => n_a16 (E0.1 a16 z).1
  have m_a16 := inv_new iv n_a16
  refine V.gen (fun S2_16 e_16 => ?_)
  have iv' := inv_sArr e_16 iv n_a16 (by decide)
  have x_16 := x_sArr e_16 n_a16
  have E0' := ext_tr E0 x_16 (fun _ _ z => z.elim)
  have E0 := E0'
  have k_67 := mi_sArry e_16 k_67
  have o_64 := mo_sArr e_16 o_64
  have i_this := is_ext x_16 i_this
  have i_a7 := isA_ext x_16 i_a7
  have iv := iv'
  have i_a16 := isA_sArrE e_16 n_a16
  have f_P : mP S2_16 a16 = fun _ => none := funext (fun i => by rw [e_16, mP_sArr, if_pos rfl])
  refine p1_19 (v := some _) C i_this (hin rfl) dX1_init_19 ?_
  refine V.gen (fun S2_19 e_19 => ?_)
  have iv' := inv_sO e_19 iv (Or.inl List.mem_cons_self)
  have x_19 := x_sO e_19
  have E0' := ext_tr E0 x_19 (fun _ _ z => z)
  have E0 := E0'
  have k_67 := mi_sOy e_19 k_67
  have f_P := mp_extx x_19 i_a16 (fun z => by have q := i_a16.2.1; rw [z, i_this.2] at q; exact absurd q (by decide)) f_P
  have o_64 := mo_sO e_19 (Or.inl (by decide)) o_64
  have i_this := is_ext x_19 i_this
  have i_a7 := isA_ext x_19 i_a7
  have i_a16 := isA_ext x_19 i_a16
  have iv := iv'
  have o_66 := mo_put e_19
  refine v_aload_n C dX1_init_22 rfl ?_
  refine v_new C (ci := 4) (by decide) rfl inlX4 tyX4_ok wd29 wd30 wd31 nfX4 (Nat.le_of_ble_eq_true rfl) (Nat.le_of_ble_eq_true rfl) dX1_init_23 (fun a23 n_a23 => ?_)
  have nn_a23 := fun z => n_a23 (E0.1 a23 z).1
  have d_k_67_a23 := ne_of_is n_a23 i_this
  have d_f_P_a23 := ne_of_isA n_a23 i_a16
  have i_this0 := i_this
  refine V.gen (fun S2_23 e_23 => ?_)
  have iv' := inv_sNew e_23 iv n_a23 (by decide)
  have x_23 := x_sNew e_23 n_a23
  have E0' := ext_tr E0 x_23 (fun _ _ z => z.elim)
  have E0 := E0'
  have k_67 := mi_sNewx e_23 d_k_67_a23 k_67
  have f_P := mp_extx x_23 i_a16 (fun z => z) f_P
  have o_64 := mo_sNew e_23 (fun z => n_a23 (z ▸ i_this.1)) o_64
  have o_66 := mo_sNew e_23 (fun z => n_a23 (z ▸ i_this.1)) o_66
  have i_this := is_ext x_23 i_this
  have i_a7 := isA_ext x_23 i_a7
  have i_a16 := isA_ext x_23 i_a16
  have iv := iv'
  have i_a23 := is_sNewE e_23 n_a23
  have z_a23 := mI_newE e_23
  refine v_dup C dX1_init_26 rfl ?_
  refine v_callIN (As := []) (n := 0) C (sc_X4_init l _ _ _) rfl ⟨(by decide +kernel), wd37, wd31, wd38⟩ rfl hy_X4_init rfl ⟨Nat.le_of_ble_eq_true rfl, Nat.le_of_ble_eq_true rfl⟩ (Nat.le_of_ble_eq_true rfl) ⟨Nat.le_of_ble_eq_true rfl, Nat.le_of_ble_eq_true rfl⟩ dX1_init_27 ⟨rfl, iv, i_a23⟩ (fun r_27 S2_27 h_27 => ?_)
  obtain ⟨rfl, iv2, x_27⟩ := h_27
  have k_67 := mi_extx x_27 i_this d_k_67_a23 k_67
  have f_P := mp_extx x_27 i_a16 d_f_P_a23 f_P
  have E0' := ext_tr E0 x_27 (xn nn_a23)
  have E0 := E0'
  have o_64 := mo_ext x_27 i_this (fun z => n_a23 (z ▸ i_this0.1)) o_64
  have o_66 := mo_ext x_27 i_this (fun z => n_a23 (z ▸ i_this0.1)) o_66
  have i_this := is_ext x_27 i_this
  have i_a7 := isA_ext x_27 i_a7
  have i_a16 := isA_ext x_27 i_a16
  have i_a23 := is_ext x_27 i_a23
  have iv := iv2
  refine p1_26 (v := some _) C i_this (hin rfl) dX1_init_30 ?_
  refine V.gen (fun S2_30 e_30 => ?_)
  have iv' := inv_sO e_30 iv (Or.inl List.mem_cons_self)
  have x_30 := x_sO e_30
  have E0' := ext_tr E0 x_30 (fun _ _ z => z)
  have E0 := E0'
  have k_67 := mi_sOy e_30 k_67
  have f_P := mp_extx x_30 i_a16 (fun z => by have q := i_a16.2.1; rw [z, i_this.2] at q; exact absurd q (by decide)) f_P
  have o_64 := mo_sO e_30 (Or.inl (by decide)) o_64
  have o_66 := mo_sO e_30 (Or.inl (by decide)) o_66
  have i_this := is_ext x_30 i_this
  have i_a7 := isA_ext x_30 i_a7
  have i_a16 := isA_ext x_30 i_a16
  have i_a23 := is_ext x_30 i_a23
  have iv := iv'
  have o_68 := mo_put e_30
  refine v_aload_n C dX1_init_33 rfl ?_
  refine v_new C (ci := 0) (by decide) rfl inlX0 tyX0_ok wd33 wd34 wd35 nfX0 (Nat.le_of_ble_eq_true rfl) (Nat.le_of_ble_eq_true rfl) dX1_init_34 (fun a34 n_a34 => ?_)
  have nn_a34 := fun z => n_a34 (E0.1 a34 z).1
  have d_k_67_a34 := ne_of_is n_a34 i_this
  have d_f_P_a34 := ne_of_isA n_a34 i_a16
  have i_this0 := i_this
  refine V.gen (fun S2_34 e_34 => ?_)
  have iv' := inv_sNew e_34 iv n_a34 (by decide)
  have x_34 := x_sNew e_34 n_a34
  have E0' := ext_tr E0 x_34 (fun _ _ z => z.elim)
  have E0 := E0'
  have k_67 := mi_sNewx e_34 d_k_67_a34 k_67
  have f_P := mp_extx x_34 i_a16 (fun z => z) f_P
  have o_64 := mo_sNew e_34 (fun z => n_a34 (z ▸ i_this.1)) o_64
  have o_66 := mo_sNew e_34 (fun z => n_a34 (z ▸ i_this.1)) o_66
  have o_68 := mo_sNew e_34 (fun z => n_a34 (z ▸ i_this.1)) o_68
  have i_this := is_ext x_34 i_this
  have i_a7 := isA_ext x_34 i_a7
  have i_a16 := isA_ext x_34 i_a16
  have i_a23 := is_ext x_34 i_a23
  have iv := iv'
  have i_a34 := is_sNewE e_34 n_a34
  have z_a34 := mI_newE e_34
  have zo_a34 := mO_newE e_34
  refine v_dup C dX1_init_37 rfl ?_
  refine v_callIN (As := []) (n := 0) C (sc_X0_init l _ _ _) rfl ⟨(by decide +kernel), wd58, wd35, wd59⟩ rfl hy_X0_init rfl ⟨Nat.le_of_ble_eq_true rfl, Nat.le_of_ble_eq_true rfl⟩ (Nat.le_of_ble_eq_true rfl) ⟨Nat.le_of_ble_eq_true rfl, Nat.le_of_ble_eq_true rfl⟩ dX1_init_38 ⟨rfl, iv, i_a34, zo_a34⟩ (fun r_38 S2_38 h_38 => ?_)
  obtain ⟨rfl, iv2, x_38⟩ := h_38
  have k_67 := mi_extx x_38 i_this d_k_67_a34 k_67
  have f_P := mp_extx x_38 i_a16 d_f_P_a34 f_P
  have E0' := ext_tr E0 x_38 (xn nn_a34)
  have E0 := E0'
  have o_64 := mo_ext x_38 i_this (fun z => n_a34 (z ▸ i_this0.1)) o_64
  have o_66 := mo_ext x_38 i_this (fun z => n_a34 (z ▸ i_this0.1)) o_66
  have o_68 := mo_ext x_38 i_this (fun z => n_a34 (z ▸ i_this0.1)) o_68
  have i_this := is_ext x_38 i_this
  have i_a7 := isA_ext x_38 i_a7
  have i_a16 := isA_ext x_38 i_a16
  have i_a23 := is_ext x_38 i_a23
  have i_a34 := is_ext x_38 i_a34
  have iv := iv2
  refine p1_33 (v := some _) C i_this (hin rfl) dX1_init_41 ?_
  refine V.gen (fun S2_41 e_41 => ?_)
  have iv' := inv_sO e_41 iv (Or.inl List.mem_cons_self)
  have x_41 := x_sO e_41
  have E0' := ext_tr E0 x_41 (fun _ _ z => z)
  have E0 := E0'
  have k_67 := mi_sOy e_41 k_67
  have f_P := mp_extx x_41 i_a16 (fun z => by have q := i_a16.2.1; rw [z, i_this.2] at q; exact absurd q (by decide)) f_P
  have o_64 := mo_sO e_41 (Or.inl (by decide)) o_64
  have o_66 := mo_sO e_41 (Or.inl (by decide)) o_66
  have o_68 := mo_sO e_41 (Or.inl (by decide)) o_68
  have i_this := is_ext x_41 i_this
  have i_a7 := isA_ext x_41 i_a7
  have i_a16 := isA_ext x_41 i_a16
  have i_a23 := is_ext x_41 i_a23
  have i_a34 := is_ext x_41 i_a34
  have iv := iv'
  have o_69 := mo_put e_41
  refine v_vret C hr (Nat.le_of_ble_eq_true rfl) (Nat.le_of_ble_eq_true rfl) dX1_init_44 ?_
  refine ⟨rfl, inv_done iv i_this.2 ?_ (fun z => by cases z) (fun z => by cases z), E0, k_67, _, o_66, i_a16, f_P⟩
  intro q hq hc
  rcases FT_c1 q hq hc with rfl | rfl | rfl | rfl
  · exact Or.inr ⟨_, o_64, Or.inr ⟨by decide, i_a7, m_a7⟩⟩
  · exact Or.inr ⟨_, o_66, Or.inr ⟨by decide, i_a16, m_a16⟩⟩
  · exact Or.inr ⟨_, o_68, Or.inl ⟨rfl, i_a23⟩⟩
  · exact Or.inr ⟨_, o_69, Or.inl ⟨rfl, i_a34⟩⟩
set_option maxRecDepth 100000 in
set_option maxHeartbeats 4000000 in
theorem sf_X9_init (l : Launch) (M : Nat → Prop) (E : List Nat) (h : Nat) : Ct l yX9_init cX9_init 1 none 4 16 1162 83 (fun S av => av = [.ref h] ∧ INV M (h :: E) S ∧ is S h 9) (fun S _ r S' => r = none ∧ INV M E S' ∧ ext S S' (fun a => a = h) ∧ ∃ co, mO S' 576 h = some co ∧ is S' co 1 ∧ mI S' 67 co = 0 ∧ ∃ fs, mO S' 66 co = some fs ∧ isA S' fs 14 12 ∧ mP S' fs = fun _ => none) := by
  refine ct_of (by decide) (fun S av h => by obtain ⟨rfl, iv, i_this⟩ := h; exact Nat.le_of_ble_eq_true rfl) ?_
  intro p e s m args below meth c D G bs S av C hr hin hpre
  obtain ⟨rfl, iv, i_this⟩ := hpre
  have E0 : ext S S (fun a => a = h) := ext_rfl
  refine v_aload_n C dX9_init_0 rfl ?_
  refine v_objInit C wd10 wd11 wd12 dX9_init_1 (Nat.le_of_ble_eq_true rfl) (Nat.le_of_ble_eq_true rfl) ?_
  refine v_aload_n C dX9_init_4 rfl ?_
  refine v_new C (ci := 1) (by decide) rfl inlX1 tyX1_ok wd13 wd14 wd15 nfX1 (Nat.le_of_ble_eq_true rfl) (Nat.le_of_ble_eq_true rfl) dX9_init_5 (fun a5 n_a5 => ?_)
  have nn_a5 := fun z => n_a5 (E0.1 a5 z).1
  refine V.gen (fun S2_5 e_5 => ?_)
  have iv' := inv_sNew e_5 iv n_a5 (by decide)
  have x_5 := x_sNew e_5 n_a5
  have E0' := ext_tr E0 x_5 (fun _ _ z => z.elim)
  have E0 := E0'
  have i_this := is_ext x_5 i_this
  have iv := iv'
  have i_a5 := is_sNewE e_5 n_a5
  have z_a5 := mI_newE e_5
  refine v_dup C dX9_init_8 rfl ?_
  refine v_callIN (As := []) (n := 0) C (sf_X1_init l _ _ _) rfl ⟨(by decide +kernel), wd22, wd15, wd23⟩ rfl hy_X1_init rfl ⟨Nat.le_of_ble_eq_true rfl, Nat.le_of_ble_eq_true rfl⟩ (Nat.le_of_ble_eq_true rfl) ⟨Nat.le_of_ble_eq_true rfl, Nat.le_of_ble_eq_true rfl⟩ dX9_init_9 ⟨rfl, iv, i_a5, z_a5 67⟩ (fun r_9 S2_9 h_9 => ?_)
  obtain ⟨rfl, iv2, x_9, p_9⟩ := h_9
  have E0' := ext_tr E0 x_9 (xn nn_a5)
  have E0 := E0'
  have i_this := is_ext x_9 i_this
  have i_a5 := is_ext x_9 i_a5
  have iv := iv2
  obtain ⟨k_67, fs, o_66c, i_fs, f_P⟩ := p_9
  refine p9_10 (v := some _) C i_this (hin rfl) dX9_init_12 ?_
  refine V.gen (fun S2_12 e_12 => ?_)
  have iv' := inv_sO e_12 iv (Or.inl List.mem_cons_self)
  have x_12 := x_sO e_12
  have E0' := ext_tr E0 x_12 (fun _ _ z => z)
  have E0 := E0'
  have k_67 := mi_sOy e_12 k_67
  have o_66c := mo_sOx e_12 (Or.inl (by decide)) o_66c
  have f_P := mp_extx x_12 i_fs (fun z => by have q := i_fs.2.1; rw [z, i_this.2] at q; exact absurd q (by decide)) f_P
  have i_this := is_ext x_12 i_this
  have i_a5 := is_ext x_12 i_a5
  have i_fs := isA_ext x_12 i_fs
  have iv := iv'
  have o_576 := mo_put e_12
  refine v_aload_n C dX9_init_15 rfl ?_
  refine v_new C (ci := 6) (by decide) rfl inlX6 tyX6_ok wd17 wd18 wd19 nfX6 (Nat.le_of_ble_eq_true rfl) (Nat.le_of_ble_eq_true rfl) dX9_init_16 (fun a16 n_a16 => ?_)
  have nn_a16 := fun z => n_a16 (E0.1 a16 z).1
  have d_k_67_a16 := ne_of_is n_a16 i_a5
  have d_o_66c_a16 := ne_of_is n_a16 i_a5
  have d_f_P_a16 := ne_of_isA n_a16 i_fs
  have i_this0 := i_this
  refine V.gen (fun S2_16 e_16 => ?_)
  have iv' := inv_sNew e_16 iv n_a16 (by decide)
  have x_16 := x_sNew e_16 n_a16
  have E0' := ext_tr E0 x_16 (fun _ _ z => z.elim)
  have E0 := E0'
  have k_67 := mi_sNewx e_16 d_k_67_a16 k_67
  have o_66c := mo_sNewx e_16 d_o_66c_a16 o_66c
  have f_P := mp_extx x_16 i_fs (fun z => z) f_P
  have o_576 := mo_sNew e_16 (fun z => n_a16 (z ▸ i_this.1)) o_576
  have i_this := is_ext x_16 i_this
  have i_a5 := is_ext x_16 i_a5
  have i_fs := isA_ext x_16 i_fs
  have iv := iv'
  have i_a16 := is_sNewE e_16 n_a16
  have z_a16 := mI_newE e_16
  refine v_dup C dX9_init_19 rfl ?_
  refine v_aload_n C dX9_init_20 rfl ?_
  refine r9_10 C i_this o_576 dX9_init_21 ?_
  refine v_callI (As := [_]) (n := 1) C (sc_X6_init l _ _ _ _) rfl ⟨wd61, wd62, wd19, wd63⟩ rfl hy_X6_init rfl ⟨Nat.le_of_ble_eq_true rfl, Nat.le_of_ble_eq_true rfl⟩ (Nat.le_of_ble_eq_true rfl) ⟨Nat.le_of_ble_eq_true rfl, Nat.le_of_ble_eq_true rfl⟩ dX9_init_24 ⟨rfl, iv, i_a16, i_a5⟩ (fun r_24 S2_24 h_24 => ?_)
  obtain ⟨rfl, iv2, x_24⟩ := h_24
  have k_67 := mi_extx x_24 i_a5 d_k_67_a16 k_67
  have o_66c := mo_extx x_24 i_a5 d_o_66c_a16 o_66c
  have f_P := mp_extx x_24 i_fs d_f_P_a16 f_P
  have E0' := ext_tr E0 x_24 (xn nn_a16)
  have E0 := E0'
  have o_576 := mo_ext x_24 i_this (fun z => n_a16 (z ▸ i_this0.1)) o_576
  have i_this := is_ext x_24 i_this
  have i_a5 := is_ext x_24 i_a5
  have i_fs := isA_ext x_24 i_fs
  have i_a16 := is_ext x_24 i_a16
  have iv := iv2
  refine p9_21 (v := some _) C i_this (hin rfl) dX9_init_27 ?_
  refine V.gen (fun S2_27 e_27 => ?_)
  have iv' := inv_sO e_27 iv (Or.inl List.mem_cons_self)
  have x_27 := x_sO e_27
  have E0' := ext_tr E0 x_27 (fun _ _ z => z)
  have E0 := E0'
  have k_67 := mi_sOy e_27 k_67
  have o_66c := mo_sOx e_27 (Or.inl (by decide)) o_66c
  have f_P := mp_extx x_27 i_fs (fun z => by have q := i_fs.2.1; rw [z, i_this.2] at q; exact absurd q (by decide)) f_P
  have o_576 := mo_sO e_27 (Or.inl (by decide)) o_576
  have i_this := is_ext x_27 i_this
  have i_a5 := is_ext x_27 i_a5
  have i_fs := isA_ext x_27 i_fs
  have i_a16 := is_ext x_27 i_a16
  have iv := iv'
  have o_577 := mo_put e_27
  refine v_aload_n C dX9_init_30 rfl ?_
  refine v_null C dX9_init_31 ?_
  refine p9_25 C i_this dX9_init_32 ?_
  refine V.gen (fun S2_32 e_32 => ?_)
  have iv' := inv_sO e_32 iv (Or.inl List.mem_cons_self)
  have x_32 := x_sO e_32
  have E0' := ext_tr E0 x_32 (fun _ _ z => z)
  have E0 := E0'
  have k_67 := mi_sOy e_32 k_67
  have o_66c := mo_sOx e_32 (Or.inl (by decide)) o_66c
  have f_P := mp_extx x_32 i_fs (fun z => by have q := i_fs.2.1; rw [z, i_this.2] at q; exact absurd q (by decide)) f_P
  have o_576 := mo_sO e_32 (Or.inl (by decide)) o_576
  have o_577 := mo_sO e_32 (Or.inl (by decide)) o_577
  have i_this := is_ext x_32 i_this
  have i_a5 := is_ext x_32 i_a5
  have i_fs := isA_ext x_32 i_fs
  have i_a16 := is_ext x_32 i_a16
  have iv := iv'
  have o_578 := mo_put e_32
  refine v_vret C hr (Nat.le_of_ble_eq_true rfl) (Nat.le_of_ble_eq_true rfl) dX9_init_35 ?_
  refine ⟨rfl, inv_done iv i_this.2 ?_ (fun z => by cases z) (fun z => by cases z), E0, _, o_576, i_a5, k_67, fs, o_66c, i_fs, f_P⟩
  intro q hq hc
  rcases FT_c9 q hq hc with rfl | rfl | rfl
  · exact Or.inr ⟨_, o_576, Or.inl ⟨rfl, i_a5⟩⟩
  · exact Or.inr ⟨_, o_577, Or.inl ⟨rfl, i_a16⟩⟩
  · exact Or.inl ⟨rfl, o_578⟩
set_option maxRecDepth 100000 in
set_option maxHeartbeats 4000000 in
theorem sf_X1_addTrait (l : Launch) (M : Nat → Prop) (h : Nat) (fs : Nat) : Ct l yX1_addTrait cX1_addTrait 3 (some .int) 3 6 70 64 (fun S av => av = [.ref h] ∧ INV M [] S ∧ is S h 1 ∧ mO S 66 h = some fs) (fun S _ r S' => ∃ v, r = some (.int v) ∧ (mI S' 67 h = mI S 67 h ∧ mO S' 66 h = some fs) ∧ INV M [] S' ∧ ext S S' (fun a => ¬ M a ∧ mK S a ∈ [1, 3, 11, 17])) := by
  refine ct_of (by decide) (fun S av h => by obtain ⟨rfl, iv, i_this, o_66c⟩ := h; exact Nat.le_of_ble_eq_true rfl) ?_
  intro p e s m args below meth c D G bs S av C hr hin hpre
  obtain ⟨rfl, iv, i_this, o_66c⟩ := hpre
  have E0 : ext S S (fun a => ¬ M a ∧ mK S a ∈ [1, 3, 11, 17]) := ext_rfl
  have k_67 : mI S 67 h = mI S 67 h := rfl
  refine v_aload_n C dX1_addTrait_0 rfl ?_
  refine g1_76 C i_this dX1_addTrait_1 ?_
  refine v_topi (fun v1 e_v1 => ?_)
  refine v_istore_n C dX1_addTrait_4 (by decide) (by first | rfl | exact cat_ok _ | simp [okS, cat_rf]) ?_
  refine v_iload_n C dX1_addTrait_5 rfl ?_
  refine v_bipush (v := 20) C dX1_addTrait_6 (by decide) ?_
  refine v_callSN (As := [_, _]) (n := 2) C (sb_isBelow l _ _) rfl ⟨(by decide +kernel), wd141, wd2, wd142⟩ hy_X9_isBelow rfl ⟨Nat.le_of_ble_eq_true rfl, Nat.le_of_ble_eq_true rfl⟩ (Nat.le_of_ble_eq_true rfl) ⟨Nat.le_of_ble_eq_true rfl, Nat.le_of_ble_eq_true rfl⟩ dX1_addTrait_8 rfl (fun r_8 S2_8 h_8 => ?_)
  obtain ⟨v8, rfl, p_v8, q_v8⟩ := h_8
  obtain rfl := q_v8.symm
  refine v_if_eq (tgt := 61) C dX1_addTrait_11 (by decide) (fun c_11 => ?_) (fun c_11 => ?_)
  · skip
    refine v_iload_n C dX1_addTrait_61 rfl ?_
    refine v_iret C hr (Nat.le_of_ble_eq_true rfl) (Nat.le_of_ble_eq_true rfl) dX1_addTrait_62 ?_
    exact ⟨_, rfl, ⟨k_67, o_66c⟩, iv, E0⟩
  · skip
    refine v_new C (ci := 8) (by decide) rfl inlX8 tyX8_ok wd25 wd211 wd212 nfX8 (Nat.le_of_ble_eq_true rfl) (Nat.le_of_ble_eq_true rfl) dX1_addTrait_14 (fun a14 n_a14 => ?_)
    have nn_a14 := fun z => n_a14 (E0.1 a14 z).1
    have d_k_67_a14 := ne_of_is n_a14 i_this
    have d_o_66c_a14 := ne_of_is n_a14 i_this
    refine V.gen (fun S4_14 e_14 => ?_)
    have iv' := inv_sNew e_14 iv n_a14 (by decide)
    have x_14 := x_sNew e_14 n_a14
    have E0' := ext_tr E0 x_14 (fun _ _ z => z.elim)
    have E0 := E0'
    have k_67 := mi_sNewx e_14 d_k_67_a14 k_67
    have o_66c := mo_sNewx e_14 d_o_66c_a14 o_66c
    have i_this := is_ext x_14 i_this
    have iv := iv'
    have i_a14 := is_sNewE e_14 n_a14
    have z_a14 := mI_newE e_14
    refine v_dup C dX1_addTrait_17 rfl ?_
    refine v_callIN (As := []) (n := 0) C (st_X8_init l _ _ _) rfl ⟨(by decide +kernel), wd214, wd212, wd215⟩ rfl hy_X8_init rfl ⟨Nat.le_of_ble_eq_true rfl, Nat.le_of_ble_eq_true rfl⟩ (Nat.le_of_ble_eq_true rfl) ⟨Nat.le_of_ble_eq_true rfl, Nat.le_of_ble_eq_true rfl⟩ dX1_addTrait_18 ⟨rfl, iv, i_a14⟩ (fun r_18 S4_18 h_18 => ?_)
    obtain ⟨rfl, iv2, x_18⟩ := h_18
    have k_67 := mi_extx x_18 i_this d_k_67_a14 k_67
    have o_66c := mo_extx x_18 i_this d_o_66c_a14 o_66c
    have E0' := ext_tr E0 x_18 (xn nn_a14)
    have E0 := E0'
    have i_this := is_ext x_18 i_this
    have i_a14 := is_ext x_18 i_a14
    have iv := iv2
    refine v_astore_n C dX1_addTrait_21 (by decide) (by first | rfl | exact cat_ok _ | simp [okS, cat_rf]) ?_
    refine v_aload_n C dX1_addTrait_22 rfl ?_
    obtain ⟨a23, e_a23, i_a23⟩ := T512 iv i_a14 List.not_mem_nil
    refine r1_68 (b := a23) C i_a14 e_a23 dX1_addTrait_23 ?_
    refine v_iload_n C dX1_addTrait_26 rfl ?_
    refine v_callV (As := [_]) (n := 1) C (st_X3_add l _ _ _) rfl i_a23 (by decide) rfl ⟨wd223, wd167, wd168, wd45, wd169⟩ ⟨rfl, hy_X3_add⟩ rfl ⟨Nat.le_of_ble_eq_true rfl, Nat.le_of_ble_eq_true rfl⟩ (Nat.le_of_ble_eq_true rfl) ⟨Nat.le_of_ble_eq_true rfl, Nat.le_of_ble_eq_true rfl⟩ dX1_addTrait_27 ⟨rfl, iv, i_a23⟩ (fun r_27 S4_27 h_27 => ?_)
    obtain ⟨rfl, iv2, x_27⟩ := h_27
    have k_67 := mi_extx x_27 i_this (fun z => absurd z.2 (by rw [i_this.2]; decide)) k_67
    have o_66c := mo_extx x_27 i_this (fun z => absurd z.2 (by rw [i_this.2]; decide)) o_66c
    have i_this := is_ext x_27 i_this
    have i_a14 := is_ext x_27 i_a14
    have i_a23 := is_ext x_27 i_a23
    have E0' := ext_tr E0 x_27 (xk_call E0 (by decide))
    have E0 := E0'
    have iv := iv2
    refine v_aload_n C dX1_addTrait_30 rfl ?_
    obtain ⟨a31, e_a31, i_a31⟩ := T512 iv i_a14 List.not_mem_nil
    refine r1_68 (b := a31) C i_a14 e_a31 dX1_addTrait_31 ?_
    refine v_aload_n C dX1_addTrait_34 rfl ?_
    obtain ⟨a35, e_a35, i_a35⟩ := T68 iv i_this List.not_mem_nil
    refine r1_26 (b := a35) C i_this e_a35 dX1_addTrait_35 ?_
    obtain ⟨a38, e_a38, i_a38⟩ := T259 iv i_a35 List.not_mem_nil
    refine r1_85 (b := a38) C i_a35 e_a38 dX1_addTrait_38 ?_
    refine v_callV (As := [_]) (n := 1) C (st_X3_addAll l _ _ _) rfl i_a31 (by decide) rfl ⟨wd224, wd225, wd226, wd45, wd227⟩ ⟨rfl, hy_X3_addAll⟩ rfl ⟨Nat.le_of_ble_eq_true rfl, Nat.le_of_ble_eq_true rfl⟩ (Nat.le_of_ble_eq_true rfl) ⟨Nat.le_of_ble_eq_true rfl, Nat.le_of_ble_eq_true rfl⟩ dX1_addTrait_41 ⟨rfl, iv, i_a31, i_a38⟩ (fun r_41 S4_41 h_41 => ?_)
    obtain ⟨rfl, iv2, x_41⟩ := h_41
    have k_67 := mi_extx x_41 i_this (fun z => absurd z.2 (by rw [i_this.2]; decide)) k_67
    have o_66c := mo_extx x_41 i_this (fun z => absurd z.2 (by rw [i_this.2]; decide)) o_66c
    have i_this := is_ext x_41 i_this
    have i_a14 := is_ext x_41 i_a14
    have i_a23 := is_ext x_41 i_a23
    have i_a31 := is_ext x_41 i_a31
    have i_a35 := is_ext x_41 i_a35
    have i_a38 := is_ext x_41 i_a38
    have E0' := ext_tr E0 x_41 (xk_call E0 (by decide))
    have E0 := E0'
    have iv := iv2
    refine v_aload_n C dX1_addTrait_44 rfl ?_
    obtain ⟨r45, e_r45, i_r45, m_r45⟩ := T64 iv i_this List.not_mem_nil
    refine r1_11 (b := r45) C i_this e_r45 dX1_addTrait_45 ?_
    refine v_iload_n C dX1_addTrait_48 rfl ?_
    refine v_aload_n C dX1_addTrait_49 rfl ?_
    refine v_aast (t0 := 6) C i_r45 (by decide) i_a14 (by decide) rfl rfl (bI_ne p_v8 c_11 rfl) dX1_addTrait_50 ?_
    refine V.gen (fun S4_50 e_50 => ?_)
    have iv' := inv_sP e_50 iv i_r45.2.1 (by decide) (nOK_is i_a14)
    have x_50 := x_sP e_50
    have E0' := ext_tr E0 x_50 (xk_P E0 i_r45 iv (by decide) (by decide))
    have E0 := E0'
    have k_67 := mi_sPy e_50 k_67
    have o_66c := mo_sPy e_50 o_66c
    have i_this := is_ext x_50 i_this
    have i_a14 := is_ext x_50 i_a14
    have i_a23 := is_ext x_50 i_a23
    have i_a31 := is_ext x_50 i_a31
    have i_a35 := is_ext x_50 i_a35
    have i_a38 := is_ext x_50 i_a38
    have i_r45 := isA_ext x_50 i_r45
    have iv := iv'
    refine v_aload_n C dX1_addTrait_51 rfl ?_
    refine v_dup C dX1_addTrait_52 rfl ?_
    refine g1_76 C i_this dX1_addTrait_53 ?_
    refine v_topi (fun v53 e_v53 => ?_)
    refine v_iconst (v := 1) C dX1_addTrait_56 (by decide) ?_
    refine v_iadd C dX1_addTrait_57 ?_
    refine p1_76 C i_this dX1_addTrait_58 ?_
    refine V.gen (fun S4_58 e_58 => ?_)
    have iv' := inv_sI e_58 iv (by decide) (by decide)
    have x_58 := x_sI e_58
    have E0' := ext_tr E0 x_58 (xk_is E0 i_this iv (by decide) (by decide))
    have E0 := E0'
    have k_67 := mi_sIx e_58 (Or.inl (by decide)) k_67
    have o_66c := mo_sIy e_58 o_66c
    have i_this := is_ext x_58 i_this
    have i_a14 := is_ext x_58 i_a14
    have i_a23 := is_ext x_58 i_a23
    have i_a31 := is_ext x_58 i_a31
    have i_a35 := is_ext x_58 i_a35
    have i_a38 := is_ext x_58 i_a38
    have i_r45 := isA_ext x_58 i_r45
    have iv := iv'
    refine v_iload_n C dX1_addTrait_61 rfl ?_
    refine v_iret C hr (Nat.le_of_ble_eq_true rfl) (Nat.le_of_ble_eq_true rfl) dX1_addTrait_62 ?_
    exact ⟨_, rfl, ⟨k_67, o_66c⟩, iv, E0⟩
set_option maxRecDepth 100000 in
set_option maxHeartbeats 4000000 in
theorem sf_X9_trait (l : Launch) (M : Nat → Prop) (h : Nat) (p0 : Int32) (p1 : Int32) (p2 : Int32) (co fs : Nat) : Ct l yX9_trait cX9_trait 4 (some .int) 6 6 70 132 (fun S av => av = [.ref h, .int p0, .int p1, .int p2] ∧ INV M [] S ∧ is S h 9 ∧ mO S 576 h = some co ∧ is S co 1 ∧ mO S 66 co = some fs) (fun S _ r S' => ∃ v, r = some (.int v) ∧ (mI S' 67 co = mI S 67 co ∧ mO S' 576 h = some co ∧ mO S' 66 co = some fs) ∧ INV M [] S' ∧ ext S S' (fun a => ¬ M a ∧ mK S a ∈ [1, 3, 4, 11, 15, 17])) := by
  refine ct_of (by decide) (fun S av h => by obtain ⟨rfl, iv, i_this, hco⟩ := h; exact Nat.le_of_ble_eq_true rfl) ?_
  intro p e s m args below meth c D G bs S av C hr hin hpre
  obtain ⟨rfl, iv, i_this, hco⟩ := hpre
  have E0 : ext S S (fun a => ¬ M a ∧ mK S a ∈ [1, 3, 4, 11, 15, 17]) := ext_rfl
  obtain ⟨o_576, i_co, o_66c⟩ := hco
  have k_67 : mI S 67 co = mI S 67 co := rfl
  refine v_aload_n C dX9_trait_0 rfl ?_
  refine r9_10 C i_this o_576 dX9_trait_1 ?_
  refine v_iload_n C dX9_trait_4 rfl ?_
  refine v_iload_n C dX9_trait_5 rfl ?_
  refine v_iload_n C dX9_trait_6 rfl ?_
  refine v_callV (As := [_, _, _]) (n := 3) C (st_X1_canStandUnder l _ _ _ _ _) rfl i_co (by decide) rfl ⟨wd129, wd130, wd131, wd15, wd132⟩ ⟨rfl, hy_X1_canStandUnder⟩ rfl ⟨Nat.le_of_ble_eq_true rfl, Nat.le_of_ble_eq_true rfl⟩ (Nat.le_of_ble_eq_true rfl) ⟨Nat.le_of_ble_eq_true rfl, Nat.le_of_ble_eq_true rfl⟩ dX9_trait_7 ⟨rfl, iv, i_co⟩ (fun r_7 S2_7 h_7 => ?_)
  obtain ⟨v7, rfl, q_v7⟩ := h_7
  obtain rfl := q_v7.symm
  refine v_if_ne (tgt := 16) C dX9_trait_10 (by decide) (fun c_10 => ?_) (fun c_10 => ?_)
  · skip
    refine v_aload_n C dX9_trait_16 rfl ?_
    refine r9_10 C i_this o_576 dX9_trait_17 ?_
    refine v_iload_n C dX9_trait_20 rfl ?_
    refine v_iload_n C dX9_trait_21 rfl ?_
    refine v_iload_n C dX9_trait_22 rfl ?_
    refine v_callV (As := [_, _, _]) (n := 3) C (st_X1_alignsUnder l _ _ _ _ _) rfl i_co (by decide) rfl ⟨wd143, wd144, wd145, wd15, wd146⟩ ⟨rfl, hy_X1_alignsUnder⟩ rfl ⟨Nat.le_of_ble_eq_true rfl, Nat.le_of_ble_eq_true rfl⟩ (Nat.le_of_ble_eq_true rfl) ⟨Nat.le_of_ble_eq_true rfl, Nat.le_of_ble_eq_true rfl⟩ dX9_trait_23 ⟨rfl, iv, i_co⟩ (fun r_23 S4_23 h_23 => ?_)
    obtain ⟨v23, rfl, iv2, x_23⟩ := h_23
    have o_576 := mo_extx x_23 i_this (fun z => absurd z.2 (by rw [i_this.2]; decide)) o_576
    have k_67 := mi_extx x_23 i_co (fun z => absurd z.2 (by rw [i_co.2]; decide)) k_67
    have o_66c := mo_extx x_23 i_co (fun z => absurd z.2 (by rw [i_co.2]; decide)) o_66c
    have i_this := is_ext x_23 i_this
    have i_co := is_ext x_23 i_co
    have E0' := ext_tr E0 x_23 (xk_call E0 (by decide))
    have E0 := E0'
    have iv := iv2
    refine v_if_ne (tgt := 32) C dX9_trait_26 (by decide) (fun c_26 => ?_) (fun c_26 => ?_)
    · skip
      refine v_aload_n C dX9_trait_32 rfl ?_
      refine r9_10 C i_this o_576 dX9_trait_33 ?_
      refine g9_36 C i_co dX9_trait_36 ?_
      refine v_topi (fun v36 e_v36 => ?_)
      refine v_bipush (v := 20) C dX9_trait_39 (by decide) ?_
      refine v_icmp_lt (tgt := 49) C dX9_trait_41 (by decide) (fun c_41 => ?_) (fun c_41 => ?_)
      · skip
        refine v_aload_n C dX9_trait_49 rfl ?_
        refine r9_10 C i_this o_576 dX9_trait_50 ?_
        refine v_callV (As := []) (n := 0) C (sf_X1_addTrait l _ _ _) rfl i_co (by decide) rfl ⟨wd206, wd207, wd208, wd15, wd209⟩ ⟨rfl, hy_X1_addTrait⟩ rfl ⟨Nat.le_of_ble_eq_true rfl, Nat.le_of_ble_eq_true rfl⟩ (Nat.le_of_ble_eq_true rfl) ⟨Nat.le_of_ble_eq_true rfl, Nat.le_of_ble_eq_true rfl⟩ dX9_trait_53 ⟨rfl, iv, i_co, o_66c⟩ (fun r_53 S8_53 h_53 => ?_)
        obtain ⟨v53, rfl, p_v53, iv2, x_53⟩ := h_53
        have o_576 := mo_extx x_53 i_this (fun z => absurd z.2 (by rw [i_this.2]; decide)) o_576
        have k_67 := p_v53.1.trans k_67
        have o_66c := p_v53.2
        have i_this := is_ext x_53 i_this
        have i_co := is_ext x_53 i_co
        have E0' := ext_tr E0 x_53 (xk_call E0 (by decide))
        have E0 := E0'
        have iv := iv2
        refine v_iret C hr (Nat.le_of_ble_eq_true rfl) (Nat.le_of_ble_eq_true rfl) dX9_trait_56 ?_
        exact ⟨_, rfl, ⟨k_67, o_576, o_66c⟩, iv, E0⟩
      · skip
        refine v_bipush (v := -4) C dX9_trait_44 (by decide) ?_
        refine v_goto (tgt := 56) C dX9_trait_46 (by decide) ?_
        refine v_iret C hr (Nat.le_of_ble_eq_true rfl) (Nat.le_of_ble_eq_true rfl) dX9_trait_56 ?_
        exact ⟨_, rfl, ⟨k_67, o_576, o_66c⟩, iv, E0⟩
    · skip
      refine v_bipush (v := -3) C dX9_trait_29 (by decide) ?_
      refine v_iret C hr (Nat.le_of_ble_eq_true rfl) (Nat.le_of_ble_eq_true rfl) dX9_trait_31 ?_
      exact ⟨_, rfl, ⟨k_67, o_576, o_66c⟩, iv, E0⟩
  · skip
    refine v_bipush (v := -2) C dX9_trait_13 (by decide) ?_
    refine v_iret C hr (Nat.le_of_ble_eq_true rfl) (Nat.le_of_ble_eq_true rfl) dX9_trait_15 ?_
    exact ⟨_, rfl, ⟨k_67, o_576, o_66c⟩, iv, E0⟩
set_option maxRecDepth 100000 in
set_option maxHeartbeats 4000000 in
theorem sf_X1_figureAt (l : Launch) (M : Nat → Prop) (h : Nat) (p0 : Int32) (fs : Nat) : Ct l yX1_figureAt cX1_figureAt 2 (some (.object "PuppetCast$Figure")) 1 0 0 21 (fun S av => av = [.ref h, .int p0] ∧ INV M [] S ∧ is S h 1 ∧ mO S 66 h = some fs ∧ isA S fs 14 12) (fun S _ r S' => ∃ v, r = some (va_rf v) ∧ nOK S' 2 v ∧ v = figO (mP S fs) p0 ∧ S' = S) := by
  refine ct_of (by decide) (fun S av h => by obtain ⟨rfl, iv, i_this, hfs⟩ := h; exact Nat.le_of_ble_eq_true rfl) ?_
  intro p e s m args below meth c D G bs S av C hr hin hpre
  obtain ⟨rfl, iv, i_this, hfs⟩ := hpre
  obtain ⟨o_66, i_fs⟩ := hfs
  refine v_iload_n C dX1_figureAt_0 rfl ?_
  refine v_bipush (v := 12) C dX1_figureAt_1 (by decide) ?_
  refine v_callSN (As := [_, _]) (n := 2) C (sb_isBelow l _ _) rfl ⟨(by decide +kernel), wd141, wd2, wd142⟩ hy_X9_isBelow rfl ⟨Nat.le_of_ble_eq_true rfl, Nat.le_of_ble_eq_true rfl⟩ (Nat.le_of_ble_eq_true rfl) ⟨Nat.le_of_ble_eq_true rfl, Nat.le_of_ble_eq_true rfl⟩ dX1_figureAt_3 rfl (fun r_3 S2_3 h_3 => ?_)
  obtain ⟨v3, rfl, p_v3, q_v3⟩ := h_3
  obtain rfl := q_v3.symm
  refine v_if_eq (tgt := 18) C dX1_figureAt_6 (by decide) (fun c_6 => ?_) (fun c_6 => ?_)
  · skip
    refine v_null C dX1_figureAt_18 ?_
    refine v_aret C hr (Nat.le_of_ble_eq_true rfl) (Nat.le_of_ble_eq_true rfl) dX1_figureAt_19 ?_
    exact ⟨_, rfl, nOK_none, (by unfold figO; rw [← p_v3, bI_f c_6]; rfl), rfl⟩
  · skip
    refine v_aload_n C dX1_figureAt_9 rfl ?_
    refine r1_19 C i_this o_66 dX1_figureAt_10 ?_
    refine v_iload_n C dX1_figureAt_13 rfl ?_
    have n_o14 := inv_el (k := 2) iv i_fs (by decide)
    refine v_aald (t0 := 3) C i_fs (by decide) rfl (bI_ne p_v3 c_6 rfl) dX1_figureAt_14 ?_
    refine v_topqe (n_o14 _) (fun o14 n_o14 e_o14 => ?_)
    refine v_goto (tgt := 19) C dX1_figureAt_15 (by decide) ?_
    refine v_aret C hr (Nat.le_of_ble_eq_true rfl) (Nat.le_of_ble_eq_true rfl) dX1_figureAt_19 ?_
    exact ⟨_, rfl, n_o14, (by unfold figO; rw [← p_v3, bI_t c_6]; exact e_o14), rfl⟩
set_option maxRecDepth 100000 in
set_option maxHeartbeats 4000000 in
theorem sf_X1_addFigure (l : Launch) (M : Nat → Prop) (h : Nat) (p0 : Int32) (k fs : Nat) : Ct l yX1_addFigure cX1_addFigure 3 (some .int) 3 11 809 65 (fun S av => av = [.ref h, .int p0] ∧ INV M [] S ∧ is S h 1 ∧ mI S 67 h = nI k ∧ k < 12 ∧ mO S 66 h = some fs ∧ isA S fs 14 12 ∧ figR (mP S fs) k) (fun S _ r S' => ∃ v, r = some (.int v) ∧ (v = nI k ∧ mI S' 67 h = nI (k + 1) ∧ mO S' 66 h = some fs ∧ figR (mP S' fs) (k + 1)) ∧ INV M [] S' ∧ ext S S' (fun a => ¬ M a ∧ mK S a ∈ [1, 14])) := by
  refine ct_of (by decide) (fun S av h => by obtain ⟨rfl, iv, i_this, hk⟩ := h; exact Nat.le_of_ble_eq_true rfl) ?_
  intro p e s m args below meth c D G bs S av C hr hin hpre
  obtain ⟨rfl, iv, i_this, hk⟩ := hpre
  have E0 : ext S S (fun a => ¬ M a ∧ mK S a ∈ [1, 14]) := ext_rfl
  have k_67 := hk.1
  have k_67s := hk.1
  have o_66 := hk.2.2.1
  have i_fs := hk.2.2.2.1
  have f_P : mP S fs = mP S fs := rfl
  refine v_aload_n C dX1_addFigure_0 rfl ?_
  refine g1_92 C i_this dX1_addFigure_1 ?_
  refine v_topi (fun v1 e_v1 => ?_)
  refine v_istore_n C dX1_addFigure_4 (by decide) (by first | rfl | exact cat_ok _ | simp [okS, cat_rf]) ?_
  refine v_iload_n C dX1_addFigure_5 rfl ?_
  refine v_bipush (v := 12) C dX1_addFigure_6 (by decide) ?_
  refine v_callSN (As := [_, _]) (n := 2) C (sb_isBelow l _ _) rfl ⟨(by decide +kernel), wd141, wd2, wd142⟩ hy_X9_isBelow rfl ⟨Nat.le_of_ble_eq_true rfl, Nat.le_of_ble_eq_true rfl⟩ (Nat.le_of_ble_eq_true rfl) ⟨Nat.le_of_ble_eq_true rfl, Nat.le_of_ble_eq_true rfl⟩ dX1_addFigure_8 rfl (fun r_8 S2_8 h_8 => ?_)
  obtain ⟨v8, rfl, p_v8, q_v8⟩ := h_8
  obtain rfl := q_v8.symm
  refine v_if_eq (tgt := 39) C dX1_addFigure_11 (by decide) (fun c_11 => ?_) (fun c_11 => ?_)
  · skip
    have z := bI_f c_11
    rw [p_v8, e_v1, hk.1, show (12 : Int32) = nI 12 from rfl, isB_nI (by omega) (by decide), decide_eq_true hk.2.1] at z
    cases z
  · skip
    refine v_aload_n C dX1_addFigure_14 rfl ?_
    refine r1_19 C i_this o_66 dX1_addFigure_15 ?_
    refine v_iload_n C dX1_addFigure_18 rfl ?_
    refine v_new C (ci := 2) (by decide) rfl inlX2 tyX2_ok wd27 wd270 wd271 nfX2 (Nat.le_of_ble_eq_true rfl) (Nat.le_of_ble_eq_true rfl) dX1_addFigure_19 (fun a19 n_a19 => ?_)
    have nn_a19 := fun z => n_a19 (E0.1 a19 z).1
    have d_k_67_a19 := ne_of_is n_a19 i_this
    have d_o_66_a19 := ne_of_is n_a19 i_this
    have d_f_P_a19 := ne_of_isA n_a19 i_fs
    refine V.gen (fun S4_19 e_19 => ?_)
    have iv' := inv_sNew e_19 iv n_a19 (by decide)
    have x_19 := x_sNew e_19 n_a19
    have E0' := ext_tr E0 x_19 (fun _ _ z => z.elim)
    have E0 := E0'
    have k_67 := mi_sNewx e_19 d_k_67_a19 k_67
    have o_66 := mo_sNewx e_19 d_o_66_a19 o_66
    have f_P := mp_extx x_19 i_fs (fun z => z) f_P
    have i_this := is_ext x_19 i_this
    have i_fs := isA_ext x_19 i_fs
    have iv := iv'
    have i_a19 := is_sNewE e_19 n_a19
    have z_a19 := mI_newE e_19
    refine v_dup C dX1_addFigure_22 rfl ?_
    refine v_iload_n C dX1_addFigure_23 rfl ?_
    refine v_iload_n C dX1_addFigure_24 rfl ?_
    refine v_callI (As := [_, _]) (n := 2) C (st_X2_init l _ _ _ _ _) rfl ⟨wd272, wd273, wd271, wd274⟩ rfl hy_X2_init rfl ⟨Nat.le_of_ble_eq_true rfl, Nat.le_of_ble_eq_true rfl⟩ (Nat.le_of_ble_eq_true rfl) ⟨Nat.le_of_ble_eq_true rfl, Nat.le_of_ble_eq_true rfl⟩ dX1_addFigure_25 ⟨rfl, iv, i_a19⟩ (fun r_25 S4_25 h_25 => ?_)
    obtain ⟨rfl, iv2, x_25⟩ := h_25
    have k_67 := mi_extx x_25 i_this d_k_67_a19 k_67
    have o_66 := mo_extx x_25 i_this d_o_66_a19 o_66
    have f_P := mp_extx x_25 i_fs d_f_P_a19 f_P
    have E0' := ext_tr E0 x_25 (xn nn_a19)
    have E0 := E0'
    have i_this := is_ext x_25 i_this
    have i_fs := isA_ext x_25 i_fs
    have i_a19 := is_ext x_25 i_a19
    have iv := iv2
    have q_P := f_P
    refine v_aast (t0 := 3) C i_fs (by decide) i_a19 (by decide) rfl rfl (bI_ne p_v8 c_11 rfl) dX1_addFigure_28 ?_
    refine V.gen (fun S4_28 e_28 => ?_)
    have iv' := inv_sP e_28 iv i_fs.2.1 (by decide) (nOK_is i_a19)
    have x_28 := x_sP e_28
    have E0' := ext_tr E0 x_28 (xk_P E0 i_fs iv (by decide) (by decide))
    have E0 := E0'
    have k_67 := mi_sPy e_28 k_67
    have o_66 := mo_sPy e_28 o_66
    have i_this := is_ext x_28 i_this
    have i_fs := isA_ext x_28 i_fs
    have i_a19 := is_ext x_28 i_a19
    have iv := iv'
    have f_R : figR (mP S4_28 fs) (k + 1) := by
      have hq := figR_up (a := a19) hk.2.2.2.2
      have hv : v1 = nI k := e_v1.trans hk.1
      have hz : mP S4_28 fs = fun i => if i = k then some a19 else mP S fs i := funext (fun i => by rw [e_28, mP_sP, hv, nI_clamp (by omega), q_P]; simp)
      rw [hz]; exact hq
    obtain ⟨pf, f_P⟩ : ∃ pf, mP S4_28 fs = pf := ⟨_, rfl⟩
    rw [f_P] at f_R
    refine v_aload_n C dX1_addFigure_29 rfl ?_
    refine v_dup C dX1_addFigure_30 rfl ?_
    refine g1_92 C i_this dX1_addFigure_31 ?_
    refine v_topi (fun v31 e_v31 => ?_)
    refine v_iconst (v := 1) C dX1_addFigure_34 (by decide) ?_
    refine v_iadd C dX1_addFigure_35 ?_
    have q_67 := k_67
    refine p1_92 C i_this dX1_addFigure_36 ?_
    refine V.gen (fun S4_36 e_36 => ?_)
    have iv' := inv_sI e_36 iv (by decide) (by decide)
    have x_36 := x_sI e_36
    have E0' := ext_tr E0 x_36 (xk_is E0 i_this iv (by decide) (by decide))
    have E0 := E0'
    have o_66 := mo_sIy e_36 o_66
    have f_P := mp_extx x_36 i_fs (fun z => by have q := i_fs.2.1; rw [z, i_this.2] at q; exact absurd q (by decide)) f_P
    have i_this := is_ext x_36 i_this
    have i_fs := isA_ext x_36 i_fs
    have i_a19 := is_ext x_36 i_a19
    have iv := iv'
    have k_67n := (congrArg (fun Z => mI Z 67 h) e_36).trans ((mI_sI ..).trans ((if_pos ⟨rfl, rfl⟩).trans (show _ = nI (k + 1) by rw [e_v31, q_67]; exact nI_1 k)))
    refine v_iload_n C dX1_addFigure_39 rfl ?_
    refine v_iret C hr (Nat.le_of_ble_eq_true rfl) (Nat.le_of_ble_eq_true rfl) dX1_addFigure_40 ?_
    exact ⟨_, rfl, ⟨e_v1.trans k_67s, k_67n, o_66, by rw [f_P]; exact f_R⟩, iv, E0⟩
set_option maxRecDepth 100000 in
set_option maxHeartbeats 4000000 in
theorem sf_X9_character (l : Launch) (M : Nat → Prop) (h : Nat) (p0 : Int32) (co k fs : Nat) : Ct l yX9_character cX9_character 2 (some .int) 4 11 809 87 (fun S av => av = [.ref h, .int p0] ∧ INV M [] S ∧ is S h 9 ∧ mO S 576 h = some co ∧ is S co 1 ∧ mI S 67 co = nI k ∧ k ≤ 12 ∧ mO S 66 co = some fs ∧ isA S fs 14 12 ∧ figR (mP S fs) k) (fun S _ r S' => ∃ v, r = some (.int v) ∧ ((∃ k2, charN k p0 v (nI k2) ∧ mI S' 67 co = nI k2 ∧ k2 ≤ 12 ∧ figR (mP S' fs) k2) ∧ mO S' 576 h = some co ∧ mO S' 66 co = some fs) ∧ INV M [] S' ∧ ext S S' (fun a => ¬ M a ∧ mK S a ∈ [1, 14])) := by
  refine ct_of (by decide) (fun S av h => by obtain ⟨rfl, iv, i_this, hco⟩ := h; exact Nat.le_of_ble_eq_true rfl) ?_
  intro p e s m args below meth c D G bs S av C hr hin hpre
  obtain ⟨rfl, iv, i_this, hco⟩ := hpre
  have E0 : ext S S (fun a => ¬ M a ∧ mK S a ∈ [1, 14]) := ext_rfl
  obtain ⟨o_576, i_co, k_67, hk, o_66c, i_fs, hR⟩ := hco
  refine v_iload_n C dX9_character_0 rfl ?_
  refine v_iconst (v := 4) C dX9_character_1 (by decide) ?_
  refine v_callS (As := [_, _]) (n := 2) C (sb_isBelow l _ _) rfl ⟨wd264, wd141, wd2, wd142⟩ hy_X9_isBelow rfl ⟨Nat.le_of_ble_eq_true rfl, Nat.le_of_ble_eq_true rfl⟩ (Nat.le_of_ble_eq_true rfl) ⟨Nat.le_of_ble_eq_true rfl, Nat.le_of_ble_eq_true rfl⟩ dX9_character_2 rfl (fun r_2 S2_2 h_2 => ?_)
  obtain ⟨v2, rfl, p_v2, q_v2⟩ := h_2
  obtain rfl := q_v2.symm
  refine v_if_ne (tgt := 11) C dX9_character_5 (by decide) (fun c_5 => ?_) (fun c_5 => ?_)
  · skip
    refine v_aload_n C dX9_character_11 rfl ?_
    refine r9_10 C i_this o_576 dX9_character_12 ?_
    refine g9_48 C i_co dX9_character_15 ?_
    refine v_topi (fun v15 e_v15 => ?_)
    refine v_bipush (v := 12) C dX9_character_18 (by decide) ?_
    refine v_icmp_lt (tgt := 28) C dX9_character_20 (by decide) (fun c_20 => ?_) (fun c_20 => ?_)
    · skip
      have hlt : k < 12 := by rw [e_v15, k_67, show (12 : Int32) = nI 12 from rfl, nI_ltI (by omega) (by decide)] at c_20; exact c_20
      refine v_aload_n C dX9_character_28 rfl ?_
      refine r9_10 C i_this o_576 dX9_character_29 ?_
      refine v_iload_n C dX9_character_32 rfl ?_
      refine v_callV (As := [_]) (n := 1) C (sf_X1_addFigure l _ _ _ _ _) rfl i_co (by decide) rfl ⟨wd265, wd266, wd267, wd15, wd268⟩ ⟨rfl, hy_X1_addFigure⟩ rfl ⟨Nat.le_of_ble_eq_true rfl, Nat.le_of_ble_eq_true rfl⟩ (Nat.le_of_ble_eq_true rfl) ⟨Nat.le_of_ble_eq_true rfl, Nat.le_of_ble_eq_true rfl⟩ dX9_character_33 ⟨rfl, iv, i_co, ⟨k_67, hlt, o_66c, i_fs, hR⟩⟩ (fun r_33 S6_33 h_33 => ?_)
      obtain ⟨v33, rfl, p_v33, iv2, x_33⟩ := h_33
      have o_576 := mo_extx x_33 i_this (fun z => absurd z.2 (by rw [i_this.2]; decide)) o_576
      have o_66c := p_v33.2.2.1
      have i_this := is_ext x_33 i_this
      have i_co := is_ext x_33 i_co
      have i_fs := isA_ext x_33 i_fs
      have E0' := ext_tr E0 x_33 (xk_call E0 (by decide))
      have E0 := E0'
      have iv := iv2
      refine v_iret C hr (Nat.le_of_ble_eq_true rfl) (Nat.le_of_ble_eq_true rfl) dX9_character_36 ?_
      exact ⟨_, rfl, ⟨⟨k + 1, Or.inr (Or.inr ⟨p_v2.symm.trans (bI_t c_5), hlt, p_v33.1, rfl⟩), p_v33.2.1, hlt, p_v33.2.2.2⟩, o_576, o_66c⟩, iv, E0⟩
    · skip
      have hfull : k = 12 := by rw [e_v15, k_67, show (12 : Int32) = nI 12 from rfl, nI_ltI (by omega) (by decide)] at c_20; omega
      refine v_bipush (v := -4) C dX9_character_23 (by decide) ?_
      refine v_goto (tgt := 36) C dX9_character_25 (by decide) ?_
      refine v_iret C hr (Nat.le_of_ble_eq_true rfl) (Nat.le_of_ble_eq_true rfl) dX9_character_36 ?_
      exact ⟨_, rfl, ⟨⟨k, Or.inr (Or.inl ⟨p_v2.symm.trans (bI_t c_5), hfull, rfl, rfl⟩), k_67, hk, hR⟩, o_576, o_66c⟩, iv, E0⟩
  · skip
    refine v_bipush (v := -2) C dX9_character_8 (by decide) ?_
    refine v_iret C hr (Nat.le_of_ble_eq_true rfl) (Nat.le_of_ble_eq_true rfl) dX9_character_10 ?_
    exact ⟨_, rfl, ⟨⟨k, Or.inl ⟨p_v2.symm.trans (bI_f c_5), rfl, rfl⟩, k_67, hk, hR⟩, o_576, o_66c⟩, iv, E0⟩
set_option maxRecDepth 100000 in
set_option maxHeartbeats 4000000 in
theorem sf_X9_setMood (l : Launch) (M : Nat → Prop) (h : Nat) (p0 : Int32) (p1 : Int32) (p2 : Int64) (co fs : Nat) : Ct l yX9_setMood cX9_setMood 6 (some .int) 2 0 0 44 (fun S av => av = [.ref h, .int p0, .int p1, .long p2] ∧ INV M [] S ∧ is S h 9 ∧ mO S 576 h = some co ∧ is S co 1 ∧ mO S 66 co = some fs ∧ isA S fs 14 12) (fun S _ r S' => ∃ v, r = some (.int v) ∧ v = (bif (figO (mP S fs) p0).isSome && isB p1 4 then 1 else -2) ∧ INV M [] S' ∧ ext S S' (fun a => ¬ M a ∧ mK S a ∈ [12])) := by
  refine ct_of (by decide) (fun S av h => by obtain ⟨rfl, iv, i_this, hco⟩ := h; exact Nat.le_of_ble_eq_true rfl) ?_
  intro p e s m args below meth c D G bs S av C hr hin hpre
  obtain ⟨rfl, iv, i_this, hco⟩ := hpre
  have E0 : ext S S (fun a => ¬ M a ∧ mK S a ∈ [12]) := ext_rfl
  obtain ⟨o_576, i_co, o_66c, i_fs⟩ := hco
  refine v_aload_n C dX9_setMood_0 rfl ?_
  refine r9_10 C i_this o_576 dX9_setMood_1 ?_
  refine v_iload_n C dX9_setMood_4 rfl ?_
  refine v_callV (As := [_]) (n := 1) C (sf_X1_figureAt l _ _ _ _) rfl i_co (by decide) rfl ⟨wd300, wd301, wd302, wd15, wd303⟩ ⟨rfl, hy_X1_figureAt⟩ rfl ⟨Nat.le_of_ble_eq_true rfl, Nat.le_of_ble_eq_true rfl⟩ (Nat.le_of_ble_eq_true rfl) ⟨Nat.le_of_ble_eq_true rfl, Nat.le_of_ble_eq_true rfl⟩ dX9_setMood_5 ⟨rfl, iv, i_co, ⟨o_66c, i_fs⟩⟩ (fun r_5 S2_5 h_5 => ?_)
  obtain ⟨v5, rfl, n_v5, p_v5, q_v5⟩ := h_5
  obtain rfl := q_v5.symm
  refine v_qstore C dX9_setMood_8 (by decide) (by first | rfl | exact cat_ok _ | simp [okS, cat_rf]) ?_
  refine v_qload C dX9_setMood_10 rfl ?_
  refine v_ifnull (tgt := 23) C dX9_setMood_12 (by decide) (fun c_12 => ?_) (fun b12 c_12 => ?_)
  · skip
    subst c_12
    refine v_bipush (v := -2) C dX9_setMood_23 (by decide) ?_
    refine v_iret C hr (Nat.le_of_ble_eq_true rfl) (Nat.le_of_ble_eq_true rfl) dX9_setMood_25 ?_
    exact ⟨_, rfl, (by rw [← p_v5]; rfl), iv, E0⟩
  · skip
    subst c_12
    have i_b12 := nOK_some n_v5 rfl
    refine v_iload_n C dX9_setMood_15 rfl ?_
    refine v_iconst (v := 4) C dX9_setMood_16 (by decide) ?_
    refine v_callS (As := [_, _]) (n := 2) C (sb_isBelow l _ _) rfl ⟨wd264, wd141, wd2, wd142⟩ hy_X9_isBelow rfl ⟨Nat.le_of_ble_eq_true rfl, Nat.le_of_ble_eq_true rfl⟩ (Nat.le_of_ble_eq_true rfl) ⟨Nat.le_of_ble_eq_true rfl, Nat.le_of_ble_eq_true rfl⟩ dX9_setMood_17 rfl (fun r_17 S4_17 h_17 => ?_)
    obtain ⟨v17, rfl, p_v17, q_v17⟩ := h_17
    obtain rfl := q_v17.symm
    refine v_if_ne (tgt := 26) C dX9_setMood_20 (by decide) (fun c_20 => ?_) (fun c_20 => ?_)
    · skip
      refine v_aload C dX9_setMood_26 rfl ?_
      refine v_iload_n C dX9_setMood_28 rfl ?_
      refine v_lload_n C dX9_setMood_29 rfl ?_
      refine v_callV (As := [_, _]) (n := 2) C (st_X2_putMood l _ _ _ _) rfl i_b12 (by decide) rfl ⟨wd926, wd805, wd806, wd271, wd807⟩ ⟨rfl, hy_X2_putMood⟩ rfl ⟨Nat.le_of_ble_eq_true rfl, Nat.le_of_ble_eq_true rfl⟩ (Nat.le_of_ble_eq_true rfl) ⟨Nat.le_of_ble_eq_true rfl, Nat.le_of_ble_eq_true rfl⟩ dX9_setMood_30 ⟨rfl, iv, i_b12⟩ (fun r_30 S6_30 h_30 => ?_)
      obtain ⟨rfl, iv2, x_30⟩ := h_30
      have o_576 := mo_extx x_30 i_this (fun z => absurd z.2 (by rw [i_this.2]; decide)) o_576
      have i_this := is_ext x_30 i_this
      have i_co := is_ext x_30 i_co
      have i_fs := isA_ext x_30 i_fs
      have i_b12 := is_ext x_30 i_b12
      have E0' := ext_tr E0 x_30 (xk_call E0 (by decide))
      have E0 := E0'
      have iv := iv2
      refine v_iconst (v := 1) C dX9_setMood_33 (by decide) ?_
      refine v_iret C hr (Nat.le_of_ble_eq_true rfl) (Nat.le_of_ble_eq_true rfl) dX9_setMood_34 ?_
      exact ⟨_, rfl, (by rw [← p_v5, ← p_v17, bI_t c_20]; rfl), iv, E0⟩
    · skip
      refine v_bipush (v := -2) C dX9_setMood_23 (by decide) ?_
      refine v_iret C hr (Nat.le_of_ble_eq_true rfl) (Nat.le_of_ble_eq_true rfl) dX9_setMood_25 ?_
      exact ⟨_, rfl, (by rw [← p_v5, ← p_v17, bI_f c_20]; rfl), iv, E0⟩
set_option maxRecDepth 100000 in
set_option maxHeartbeats 4000000 in
theorem sf_X9_own (l : Launch) (M : Nat → Prop) (h : Nat) (p0 : Int32) (p1 : Int32) (p2 : Int32) (p3 : Int32) (co fs : Nat) : Ct l yX9_own cX9_own 6 (some .int) 2 4 33 43 (fun S av => av = [.ref h, .int p0, .int p1, .int p2, .int p3] ∧ INV M [] S ∧ is S h 9 ∧ mO S 576 h = some co ∧ is S co 1 ∧ mO S 66 co = some fs ∧ isA S fs 14 12) (fun S _ r S' => ∃ v, r = some (.int v) ∧ (v = (bif (figO (mP S fs) p0).isSome && isB p1 12 && isB p2 3 && isB p3 4 then 1 else -2) ∧ mO S' 576 h = some co) ∧ INV M [] S' ∧ ext S S' (fun a => ¬ M a ∧ mK S a ∈ [9, 16])) := by
  refine ct_of (by decide) (fun S av h => by obtain ⟨rfl, iv, i_this, hco⟩ := h; exact Nat.le_of_ble_eq_true rfl) ?_
  intro p e s m args below meth c D G bs S av C hr hin hpre
  obtain ⟨rfl, iv, i_this, hco⟩ := hpre
  have E0 : ext S S (fun a => ¬ M a ∧ mK S a ∈ [9, 16]) := ext_rfl
  obtain ⟨o_576, i_co, o_66c, i_fs⟩ := hco
  refine v_aload_n C dX9_own_0 rfl ?_
  refine r9_10 C i_this o_576 dX9_own_1 ?_
  refine v_iload_n C dX9_own_4 rfl ?_
  refine v_callV (As := [_]) (n := 1) C (sf_X1_figureAt l _ _ _ _) rfl i_co (by decide) rfl ⟨wd300, wd301, wd302, wd15, wd303⟩ ⟨rfl, hy_X1_figureAt⟩ rfl ⟨Nat.le_of_ble_eq_true rfl, Nat.le_of_ble_eq_true rfl⟩ (Nat.le_of_ble_eq_true rfl) ⟨Nat.le_of_ble_eq_true rfl, Nat.le_of_ble_eq_true rfl⟩ dX9_own_5 ⟨rfl, iv, i_co, ⟨o_66c, i_fs⟩⟩ (fun r_5 S2_5 h_5 => ?_)
  obtain ⟨v5, rfl, n_v5, p_v5, q_v5⟩ := h_5
  obtain rfl := q_v5.symm
  refine v_qstore C dX9_own_8 (by decide) (by first | rfl | exact cat_ok _ | simp [okS, cat_rf]) ?_
  refine v_qload C dX9_own_10 rfl ?_
  refine v_ifnull (tgt := 39) C dX9_own_12 (by decide) (fun c_12 => ?_) (fun b12 c_12 => ?_)
  · skip
    subst c_12
    refine v_bipush (v := -2) C dX9_own_39 (by decide) ?_
    refine v_iret C hr (Nat.le_of_ble_eq_true rfl) (Nat.le_of_ble_eq_true rfl) dX9_own_41 ?_
    exact ⟨_, rfl, ⟨(by rw [← p_v5]; rfl), o_576⟩, iv, E0⟩
  · skip
    subst c_12
    have i_b12 := nOK_some n_v5 rfl
    refine v_iload_n C dX9_own_15 rfl ?_
    refine v_callS (As := [_]) (n := 1) C (sb_isAct l _) rfl ⟨wd345, wd346, wd2, wd347⟩ hy_X9_isAct rfl ⟨Nat.le_of_ble_eq_true rfl, Nat.le_of_ble_eq_true rfl⟩ (Nat.le_of_ble_eq_true rfl) ⟨Nat.le_of_ble_eq_true rfl, Nat.le_of_ble_eq_true rfl⟩ dX9_own_16 rfl (fun r_16 S4_16 h_16 => ?_)
    obtain ⟨v16, rfl, p_v16, q_v16⟩ := h_16
    obtain rfl := q_v16.symm
    refine v_if_eq (tgt := 39) C dX9_own_19 (by decide) (fun c_19 => ?_) (fun c_19 => ?_)
    · skip
      refine v_bipush (v := -2) C dX9_own_39 (by decide) ?_
      refine v_iret C hr (Nat.le_of_ble_eq_true rfl) (Nat.le_of_ble_eq_true rfl) dX9_own_41 ?_
      exact ⟨_, rfl, ⟨(by rw [← p_v5, ← p_v16, bI_f c_19]; rfl), o_576⟩, iv, E0⟩
    · skip
      refine v_iload_n C dX9_own_22 rfl ?_
      refine v_iconst (v := 3) C dX9_own_23 (by decide) ?_
      refine v_callS (As := [_, _]) (n := 2) C (sb_isBelow l _ _) rfl ⟨wd264, wd141, wd2, wd142⟩ hy_X9_isBelow rfl ⟨Nat.le_of_ble_eq_true rfl, Nat.le_of_ble_eq_true rfl⟩ (Nat.le_of_ble_eq_true rfl) ⟨Nat.le_of_ble_eq_true rfl, Nat.le_of_ble_eq_true rfl⟩ dX9_own_24 rfl (fun r_24 S6_24 h_24 => ?_)
      obtain ⟨v24, rfl, p_v24, q_v24⟩ := h_24
      obtain rfl := q_v24.symm
      refine v_if_eq (tgt := 39) C dX9_own_27 (by decide) (fun c_27 => ?_) (fun c_27 => ?_)
      · skip
        refine v_bipush (v := -2) C dX9_own_39 (by decide) ?_
        refine v_iret C hr (Nat.le_of_ble_eq_true rfl) (Nat.le_of_ble_eq_true rfl) dX9_own_41 ?_
        exact ⟨_, rfl, ⟨(by rw [← p_v5, ← p_v16, bI_t c_19, ← p_v24, bI_f c_27]; rfl), o_576⟩, iv, E0⟩
      · skip
        refine v_iload C dX9_own_30 rfl ?_
        refine v_iconst (v := 4) C dX9_own_32 (by decide) ?_
        refine v_callS (As := [_, _]) (n := 2) C (sb_isBelow l _ _) rfl ⟨wd264, wd141, wd2, wd142⟩ hy_X9_isBelow rfl ⟨Nat.le_of_ble_eq_true rfl, Nat.le_of_ble_eq_true rfl⟩ (Nat.le_of_ble_eq_true rfl) ⟨Nat.le_of_ble_eq_true rfl, Nat.le_of_ble_eq_true rfl⟩ dX9_own_33 rfl (fun r_33 S8_33 h_33 => ?_)
        obtain ⟨v33, rfl, p_v33, q_v33⟩ := h_33
        obtain rfl := q_v33.symm
        refine v_if_ne (tgt := 42) C dX9_own_36 (by decide) (fun c_36 => ?_) (fun c_36 => ?_)
        · skip
          refine v_aload_n C dX9_own_42 rfl ?_
          refine v_new C (ci := 5) (by decide) rfl inlX5 tyX5_ok wd342 wd343 wd344 nfX5 (Nat.le_of_ble_eq_true rfl) (Nat.le_of_ble_eq_true rfl) dX9_own_43 (fun a43 n_a43 => ?_)
          have nn_a43 := fun z => n_a43 (E0.1 a43 z).1
          have d_o_576_a43 := ne_of_is n_a43 i_this
          refine V.gen (fun S10_43 e_43 => ?_)
          have iv' := inv_sNew e_43 iv n_a43 (by decide)
          have x_43 := x_sNew e_43 n_a43
          have E0' := ext_tr E0 x_43 (fun _ _ z => z.elim)
          have E0 := E0'
          have o_576 := mo_sNewx e_43 d_o_576_a43 o_576
          have i_this := is_ext x_43 i_this
          have i_co := is_ext x_43 i_co
          have i_fs := isA_ext x_43 i_fs
          have i_b12 := is_ext x_43 i_b12
          have iv := iv'
          have i_a43 := is_sNewE e_43 n_a43
          have z_a43 := mI_newE e_43
          refine v_dup C dX9_own_46 rfl ?_
          refine v_iconst (v := -1) C dX9_own_47 (by decide) ?_
          refine v_iconst (v := -1) C dX9_own_48 (by decide) ?_
          refine v_iload_n C dX9_own_49 rfl ?_
          refine v_iload C dX9_own_50 rfl ?_
          refine v_iconst (v := 0) C dX9_own_52 (by decide) ?_
          refine v_callI (As := [_, _, _, _, _]) (n := 5) C (st_X5_init l _ _ _ _ _ _ _ _) rfl ⟨wd348, wd349, wd344, wd350⟩ rfl hy_X5_init rfl ⟨Nat.le_of_ble_eq_true rfl, Nat.le_of_ble_eq_true rfl⟩ (Nat.le_of_ble_eq_true rfl) ⟨Nat.le_of_ble_eq_true rfl, Nat.le_of_ble_eq_true rfl⟩ dX9_own_53 ⟨rfl, iv, i_a43, (by decide)⟩ (fun r_53 S10_53 h_53 => ?_)
          obtain ⟨rfl, iv2, x_53⟩ := h_53
          have o_576 := mo_extx x_53 i_this d_o_576_a43 o_576
          have E0' := ext_tr E0 x_53 (xn nn_a43)
          have E0 := E0'
          have i_this := is_ext x_53 i_this
          have i_co := is_ext x_53 i_co
          have i_fs := isA_ext x_53 i_fs
          have i_b12 := is_ext x_53 i_b12
          have i_a43 := is_ext x_53 i_a43
          have iv := iv2
          refine p9_25 (v := some _) C i_this dX9_own_56 ?_
          refine V.gen (fun S10_56 e_56 => ?_)
          have iv' := inv_sO e_56 iv (Or.inr (F578 (nOK_is i_a43)))
          have x_56 := x_sO e_56
          have E0' := ext_tr E0 x_56 (xk_is E0 i_this iv (by decide) (by decide))
          have E0 := E0'
          have o_576 := mo_sOx e_56 (Or.inl (by decide)) o_576
          have i_this := is_ext x_56 i_this
          have i_co := is_ext x_56 i_co
          have i_fs := isA_ext x_56 i_fs
          have i_b12 := is_ext x_56 i_b12
          have i_a43 := is_ext x_56 i_a43
          have iv := iv'
          have o_578 := mo_put e_56
          refine v_aload C dX9_own_59 rfl ?_
          refine v_iload_n C dX9_own_61 rfl ?_
          refine v_aload_n C dX9_own_62 rfl ?_
          refine r9_25 C i_this o_578 dX9_own_63 ?_
          refine v_callV (As := [_, _]) (n := 2) C (st_X2_setOwnBody l _ _ _ _) rfl i_b12 (by decide) rfl ⟨wd399, wd400, wd401, wd271, wd402⟩ ⟨rfl, hy_X2_setOwnBody⟩ rfl ⟨Nat.le_of_ble_eq_true rfl, Nat.le_of_ble_eq_true rfl⟩ (Nat.le_of_ble_eq_true rfl) ⟨Nat.le_of_ble_eq_true rfl, Nat.le_of_ble_eq_true rfl⟩ dX9_own_66 ⟨rfl, iv, i_b12, i_a43⟩ (fun r_66 S10_66 h_66 => ?_)
          obtain ⟨rfl, iv2, x_66⟩ := h_66
          have o_576 := mo_extx x_66 i_this (fun z => absurd z.2 (by rw [i_this.2]; decide)) o_576
          have i_this := is_ext x_66 i_this
          have i_co := is_ext x_66 i_co
          have i_fs := isA_ext x_66 i_fs
          have i_b12 := is_ext x_66 i_b12
          have i_a43 := is_ext x_66 i_a43
          have E0' := ext_tr E0 x_66 (xk_call E0 (by decide))
          have E0 := E0'
          have iv := iv2
          refine v_iconst (v := 1) C dX9_own_69 (by decide) ?_
          refine v_iret C hr (Nat.le_of_ble_eq_true rfl) (Nat.le_of_ble_eq_true rfl) dX9_own_70 ?_
          exact ⟨_, rfl, ⟨(by rw [← p_v5, ← p_v16, bI_t c_19, ← p_v24, bI_t c_27, ← p_v33, bI_t c_36]; rfl), o_576⟩, iv, E0⟩
        · skip
          refine v_bipush (v := -2) C dX9_own_39 (by decide) ?_
          refine v_iret C hr (Nat.le_of_ble_eq_true rfl) (Nat.le_of_ble_eq_true rfl) dX9_own_41 ?_
          exact ⟨_, rfl, ⟨(by rw [← p_v5, ← p_v16, bI_t c_19, ← p_v24, bI_t c_27, ← p_v33, bI_f c_36]; rfl), o_576⟩, iv, E0⟩
