theorem ne_of_lineAt {S : Mem} {a b r q : Nat} (hb : b ∉ mL S) (h : lineAt S a r q) : a ≠ b := ne_of_is hb h.1
theorem lineAt_new {S : Mem} {a b ci r q : Nat} (hb : b ∉ mL S) (h : lineAt S a r q) : lineAt (sNew S b ci) a r q := lineAt_ext (X := fun _ => False) (ext_sNew ext_rfl hb) (fun z => z) h
theorem lineAt_arr {S : Mem} {a b kd n r q : Nat} (hb : b ∉ mL S) (h : lineAt S a r q) : lineAt (sArr S b kd n) a r q := lineAt_ext (X := fun _ => False) (ext_sArr ext_rfl hb) (fun z => z) h
theorem lineAt_sO {S : Mem} {g b a r q : Nat} {v : Option Nat} (hg : g ≠ 192 ∧ g ≠ 193) (h : lineAt S a r q) : lineAt (sO S g b v) a r q :=
  ⟨h.1, by rw [mO_sO, if_neg (fun z => hg.1 z.1.symm)]; exact h.2.1, h.2.2.1, by rw [mO_sO, if_neg (fun z => hg.2 z.1.symm)]; exact h.2.2.2.1, h.2.2.2.2⟩
def mergerAt (S : Mem) (h rw ft gl gr gq ml mr mq : Nat) : Prop := is S h 4 ∧ mO S 256 h = some rw ∧ isA S rw 15 7 ∧ mO S 257 h = some ft ∧ isA S ft 11 7 ∧ mO S 258 h = some gl ∧ lineAt S gl gr gq ∧ mO S 259 h = some ml ∧ lineAt S ml mr mq
theorem mergerAt_ext {S S' : Mem} {X : Nat → Prop} {h rw ft gl gr gq ml mr mq : Nat} (e : ext S S' X) (hx : ¬ X h) (hg : ¬ X gl) (hm : ¬ X ml) (k : mergerAt S h rw ft gl gr gq ml mr mq) : mergerAt S' h rw ft gl gr gq ml mr mq := by
  obtain ⟨k1, k2, k3, k4, k5, k6, k7, k8, k9⟩ := k
  have a := (e.2 h k1.1 hx).2.1
  exact ⟨is_ext e k1, by rw [a]; exact k2, isA_ext e k3, by rw [a]; exact k4, isA_ext e k5, by rw [a]; exact k6, lineAt_ext e hg k7, by rw [a]; exact k8, lineAt_ext e hm k9⟩
theorem dX0_init_0 : decode cX0_init 0 = .ok (.aload_n 0, 1) := by decide +kernel
theorem dX0_init_1 : decode cX0_init 1 = .ok (.invokespecial 3, 3) := by decide +kernel
theorem dX0_init_4 : decode cX0_init 4 = .ok (.return_, 1) := by decide +kernel
set_option maxRecDepth 100000 in
set_option maxHeartbeats 4000000 in
theorem ct_X0_init (l : Launch) (h : Nat) : Ct l yX0_init cX0_init 1 none 1 0 0 12 (fun S av => av = [.ref h] ∧ is S h 0) (fun S _ r0 S' => r0 = none ∧ S' = S) := by
  refine ct_of (by decide) (fun S av h => by obtain ⟨rfl, hh⟩ := h; exact Nat.le_of_ble_eq_true rfl) ?_
  intro p e s m args below meth c D G bs S av C hr hin hpre
  obtain ⟨rfl, hh⟩ := hpre
  refine v_aload_n C dX0_init_0 rfl ?_
  refine v_objInit C wd60 wd11 wd12 dX0_init_1 (Nat.le_of_ble_eq_true rfl) (Nat.le_of_ble_eq_true rfl) ?_
  refine v_vret C hr (Nat.le_of_ble_eq_true rfl) (Nat.le_of_ble_eq_true rfl) dX0_init_4 ?_
  exact ⟨rfl, rfl⟩

theorem x_nLine {S S' : Mem} {h r q : Nat} (e : S' = nLine S h r q) (n1 : r ∉ mL S) (n2 : q ∉ mL S) (n3 : q ≠ r) : ext S S' (fun a => a = h) := by subst e; exact ext_nLine ext_rfl n1 n2 n3 (Or.inl rfl)
theorem lineAt_nLineE {S S' : Mem} {h r q : Nat} (e : S' = nLine S h r q) (hh : is S h 3) (n1 : r ∉ mL S) (n2 : q ∉ mL S) (n3 : q ≠ r) : lineAt S' h r q := by subst e; exact nLine_lineAt hh n1 n2 n3
theorem mO_nLine {S : Mem} {h r q : Nat} (g a : Nat) (hg : g ≠ 192 ∧ g ≠ 193) : mO (nLine S h r q) g a = mO S g a := by
  simp only [nLine, mO_sFill, mO_sO, mO_sArr]
  rw [if_neg (fun z => hg.2 z.1), if_neg (fun z => hg.1 z.1)]
theorem mP_nLine {S : Mem} {h r q : Nat} (a i : Nat) (h1 : a ≠ r) (h2 : a ≠ q) : mP (nLine S h r q) a i = mP S a i := by
  simp only [nLine, mP_sFill, mP_sO, mP_sArr]
  rw [if_neg h2, if_neg h1]
theorem mI_nLine {S : Mem} {h r q : Nat} (g a : Nat) : mI (nLine S h r q) g a = mI S g a := Eq.mpr rfl rfl
theorem dX4_init_0 : decode cX4_init 0 = .ok (.aload_n 0, 1) := by decide +kernel
theorem dX4_init_1 : decode cX4_init 1 = .ok (.invokespecial 3, 3) := by decide +kernel
theorem dX4_init_4 : decode cX4_init 4 = .ok (.aload_n 0, 1) := by decide +kernel
theorem dX4_init_5 : decode cX4_init 5 = .ok (.bipush 7, 2) := by decide +kernel
theorem dX4_init_7 : decode cX4_init 7 = .ok (.anewarray 11, 3) := by decide +kernel
theorem dX4_init_10 : decode cX4_init 10 = .ok (.putfield 13, 3) := by decide +kernel
theorem dX4_init_13 : decode cX4_init 13 = .ok (.aload_n 0, 1) := by decide +kernel
theorem dX4_init_14 : decode cX4_init 14 = .ok (.bipush 7, 2) := by decide +kernel
theorem dX4_init_16 : decode cX4_init 16 = .ok (.newarray .int, 2) := by decide +kernel
theorem dX4_init_18 : decode cX4_init 18 = .ok (.putfield 17, 3) := by decide +kernel
theorem dX4_init_21 : decode cX4_init 21 = .ok (.aload_n 0, 1) := by decide +kernel
theorem dX4_init_22 : decode cX4_init 22 = .ok (.new 11, 3) := by decide +kernel
theorem dX4_init_25 : decode cX4_init 25 = .ok (.dup, 1) := by decide +kernel
theorem dX4_init_26 : decode cX4_init 26 = .ok (.invokespecial 21, 3) := by decide +kernel
theorem dX4_init_29 : decode cX4_init 29 = .ok (.putfield 22, 3) := by decide +kernel
theorem dX4_init_32 : decode cX4_init 32 = .ok (.aload_n 0, 1) := by decide +kernel
theorem dX4_init_33 : decode cX4_init 33 = .ok (.new 11, 3) := by decide +kernel
theorem dX4_init_36 : decode cX4_init 36 = .ok (.dup, 1) := by decide +kernel
theorem dX4_init_37 : decode cX4_init 37 = .ok (.invokespecial 21, 3) := by decide +kernel
theorem dX4_init_40 : decode cX4_init 40 = .ok (.putfield 26, 3) := by decide +kernel
theorem dX4_init_43 : decode cX4_init 43 = .ok (.return_, 1) := by decide +kernel
set_option maxRecDepth 100000 in
set_option maxHeartbeats 4000000 in
theorem ct_X4_init (l : Launch) (h : Nat) : Ct l yX4_init cX4_init 1 none 2 8 100 43 (fun S av => av = [.ref h] ∧ is S h 4) (fun S _ r0 S' => r0 = none ∧ ext S S' (fun a => a = h) ∧ ∃ rw ft gl gr gq ml mr mq, mergerAt S' h rw ft gl gr gq ml mr mq) := by
  refine ct_of (by decide) (fun S av h => by obtain ⟨rfl, hh⟩ := h; exact Nat.le_of_ble_eq_true rfl) ?_
  intro p e s m args below meth c D G bs S av C hr hin hpre
  obtain ⟨rfl, hh⟩ := hpre
  have E0 : ext S S (fun a => a = h) := ext_rfl
  refine v_aload_n C dX4_init_0 rfl ?_
  refine v_objInit C wd39 wd11 wd12 dX4_init_1 (Nat.le_of_ble_eq_true rfl) (Nat.le_of_ble_eq_true rfl) ?_
  refine v_aload_n C dX4_init_4 rfl ?_
  refine v_bipush (v := 7) C dX4_init_5 (by decide) ?_
  refine v_newrefs C (kd := 15) (N := 7) (t0 := 4) (by decide) (by decide +kernel) wd40 rfl (by decide) (by decide) (Nat.le_of_ble_eq_true rfl) (Nat.le_of_ble_eq_true rfl) (Nat.le_of_ble_eq_true rfl) dX4_init_7 (fun rw n_rw => ?_)
  have z_hh_rw := ne_of_is n_rw hh
  refine V.gen (fun S_7 e_7 => ?_)
  have w_rw := nm_ext E0 n_rw
  have x_7 := x_sArr e_7 n_rw
  have hh := is_ext x_7 hh
  have i_rw := isA_sArrE (kd := 15) (n := 7) e_7 n_rw
  have E_7 := ext_tr E0 x_7 (fun _ _ z => z.elim)
  refine p4_13 (v := some _) C hh (hin rfl) dX4_init_10 ?_
  refine V.gen (fun S_10 e_10 => ?_)
  have x_10 := x_sO e_10
  have hh := is_ext x_10 hh
  have i_rw := isA_ext x_10 i_rw
  have E_10 := ext_tr E_7 x_10 (fun _ _ z => z)
  refine v_aload_n C dX4_init_13 rfl ?_
  refine v_bipush (v := 7) C dX4_init_14 (by decide) ?_
  refine v_newarr C (kd := 11) (N := 7) wd42 rfl (t0 := 0) rfl (by decide) (fun _ => cell_newI (Or.inl rfl)) (fun _ => vp_cell_i _ _ _) (by decide) (by decide) (Nat.le_of_ble_eq_true rfl) (Nat.le_of_ble_eq_true rfl) (Nat.le_of_ble_eq_true rfl) dX4_init_16 (fun ft n_ft => ?_)
  have z_hh_ft := ne_of_is n_ft hh
  have z_i_rw_ft := ne_of_isA n_ft i_rw
  refine V.gen (fun S_16 e_16 => ?_)
  have w_ft := nm_ext E_10 n_ft
  have x_16 := x_sArr e_16 n_ft
  have hh := is_ext x_16 hh
  have i_rw := isA_ext x_16 i_rw
  have i_ft := isA_sArrE (kd := 11) (n := 7) e_16 n_ft
  have E_16 := ext_tr E_10 x_16 (fun _ _ z => z.elim)
  refine p4_17 (v := some _) C hh (hin rfl) dX4_init_18 ?_
  refine V.gen (fun S_18 e_18 => ?_)
  have x_18 := x_sO e_18
  have hh := is_ext x_18 hh
  have i_rw := isA_ext x_18 i_rw
  have i_ft := isA_ext x_18 i_ft
  have E_18 := ext_tr E_16 x_18 (fun _ _ z => z)
  refine v_aload_n C dX4_init_21 rfl ?_
  refine v_new C (ci := 3) (by decide) rfl inlX3 tyX3_ok wd40 wd44 wd45 nfX3 (Nat.le_of_ble_eq_true rfl) (Nat.le_of_ble_eq_true rfl) dX4_init_22 (fun gl n_gl => ?_)
  have z_hh_gl := ne_of_is n_gl hh
  have z_i_rw_gl := ne_of_isA n_gl i_rw
  have z_i_ft_gl := ne_of_isA n_gl i_ft
  refine V.gen (fun S_22 e_22 => ?_)
  have w_gl := nm_ext E_18 n_gl
  have x_22 := x_sNew e_22 n_gl
  have hh := is_ext x_22 hh
  have i_rw := isA_ext x_22 i_rw
  have i_ft := isA_ext x_22 i_ft
  have i_gl := is_sNewE (ci := 3) e_22 n_gl
  have E_22 := ext_tr E_18 x_22 (fun _ _ z => z.elim)
  refine v_dup C dX4_init_25 rfl ?_
  refine v_callI (As := []) (n := 0) C (ct_X3_init l gl) rfl ⟨wd48, wd49, wd45, wd50⟩ rfl hy_X3_init rfl ⟨Nat.le_of_ble_eq_true rfl, Nat.le_of_ble_eq_true rfl⟩ (Nat.le_of_ble_eq_true rfl) ⟨Nat.le_of_ble_eq_true rfl, Nat.le_of_ble_eq_true rfl⟩ dX4_init_26 ⟨rfl, i_gl⟩ (fun r_26 S_26 h_26 => ?_)
  obtain ⟨rfl, gr, gq, n_gr, n_gq, y_gl, e_26⟩ := h_26
  have x_26 := x_nLine e_26 n_gr n_gq y_gl
  have l_gl := lineAt_nLineE e_26 i_gl n_gr n_gq y_gl
  have hh := is_ext x_26 hh
  have i_rw := isA_ext x_26 i_rw
  have i_ft := isA_ext x_26 i_ft
  have i_gl := is_ext x_26 i_gl
  have E_26 := ext_tr E_22 x_26 (fun a ha z => absurd (z ▸ ha) w_gl)
  skip
  refine p4_22 (v := some _) C hh (hin rfl) dX4_init_29 ?_
  refine V.gen (fun S_29 e_29 => ?_)
  have x_29 := x_sO e_29
  have hh := is_ext x_29 hh
  have i_rw := isA_ext x_29 i_rw
  have i_ft := isA_ext x_29 i_ft
  have i_gl := is_ext x_29 i_gl
  have l_gl := lineAt_ext x_29 z_hh_gl.symm l_gl
  have E_29 := ext_tr E_26 x_29 (fun _ _ z => z)
  refine v_aload_n C dX4_init_32 rfl ?_
  refine v_new C (ci := 3) (by decide) rfl inlX3 tyX3_ok wd40 wd44 wd45 nfX3 (Nat.le_of_ble_eq_true rfl) (Nat.le_of_ble_eq_true rfl) dX4_init_33 (fun ml n_ml => ?_)
  have z_hh_ml := ne_of_is n_ml hh
  have z_i_rw_ml := ne_of_isA n_ml i_rw
  have z_i_ft_ml := ne_of_isA n_ml i_ft
  have z_i_gl_ml := ne_of_is n_ml i_gl
  refine V.gen (fun S_33 e_33 => ?_)
  have w_ml := nm_ext E_29 n_ml
  have x_33 := x_sNew e_33 n_ml
  have hh := is_ext x_33 hh
  have i_rw := isA_ext x_33 i_rw
  have i_ft := isA_ext x_33 i_ft
  have i_gl := is_ext x_33 i_gl
  have i_ml := is_sNewE (ci := 3) e_33 n_ml
  have l_gl := lineAt_ext x_33 (fun z => z) l_gl
  have E_33 := ext_tr E_29 x_33 (fun _ _ z => z.elim)
  refine v_dup C dX4_init_36 rfl ?_
  refine v_callI (As := []) (n := 0) C (ct_X3_init l ml) rfl ⟨wd48, wd49, wd45, wd50⟩ rfl hy_X3_init rfl ⟨Nat.le_of_ble_eq_true rfl, Nat.le_of_ble_eq_true rfl⟩ (Nat.le_of_ble_eq_true rfl) ⟨Nat.le_of_ble_eq_true rfl, Nat.le_of_ble_eq_true rfl⟩ dX4_init_37 ⟨rfl, i_ml⟩ (fun r_37 S_37 h_37 => ?_)
  obtain ⟨rfl, mr, mq, n_mr, n_mq, y_ml, e_37⟩ := h_37
  have x_37 := x_nLine e_37 n_mr n_mq y_ml
  have l_ml := lineAt_nLineE e_37 i_ml n_mr n_mq y_ml
  have hh := is_ext x_37 hh
  have i_rw := isA_ext x_37 i_rw
  have i_ft := isA_ext x_37 i_ft
  have i_gl := is_ext x_37 i_gl
  have i_ml := is_ext x_37 i_ml
  have E_37 := ext_tr E_33 x_37 (fun a ha z => absurd (z ▸ ha) w_ml)
  have l_gl := lineAt_ext x_37 z_i_gl_ml l_gl
  refine p4_26 (v := some _) C hh (hin rfl) dX4_init_40 ?_
  refine V.gen (fun S_40 e_40 => ?_)
  have x_40 := x_sO e_40
  have hh := is_ext x_40 hh
  have i_rw := isA_ext x_40 i_rw
  have i_ft := isA_ext x_40 i_ft
  have i_gl := is_ext x_40 i_gl
  have i_ml := is_ext x_40 i_ml
  have l_gl := lineAt_ext x_40 z_hh_gl.symm l_gl
  have l_ml := lineAt_ext x_40 z_hh_ml.symm l_ml
  have E_40 := ext_tr E_37 x_40 (fun _ _ z => z)
  refine v_vret C hr (Nat.le_of_ble_eq_true rfl) (Nat.le_of_ble_eq_true rfl) dX4_init_43 ?_
  refine ⟨rfl, E_40, rw, ft, gl, gr, gq, ml, mr, mq, hh, ?_, i_rw, ?_, i_ft, ?_, l_gl, ?_, l_ml⟩ <;> simp [mO_sO, mO_sArr, mO_sNew, mO_nLine, z_hh_gl, z_hh_ml, e_40, e_37, e_33, e_29, e_26, e_22, e_18, e_16, e_10, e_7]

