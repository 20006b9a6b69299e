theorem ne_of_lineAt {S : Mem} {a b r q : Nat} (hb : b ∉ mL S) (h : lineAt S a r q) : a ≠ b := ne_of_is hb h.1
theorem lineAt_new {S : Mem} {a b ci r q : Nat} (hb : b ∉ mL S) (h : lineAt S a r q) : lineAt (sNew S b ci) a r q := lineAt_ext (X := fun _ => False) (ext_sNew ext_rfl hb) (fun z => z) h
theorem lineAt_arr {S : Mem} {a b kd n r q : Nat} (hb : b ∉ mL S) (h : lineAt S a r q) : lineAt (sArr S b kd n) a r q := lineAt_ext (X := fun _ => False) (ext_sArr ext_rfl hb) (fun z => z) h
theorem lineAt_sO {S : Mem} {g b a r q : Nat} {v : Option Nat} (hg : g ≠ 192 ∧ g ≠ 193) (h : lineAt S a r q) : lineAt (sO S g b v) a r q :=
  ⟨h.1, by rw [mO_sO, if_neg (fun z => hg.1 z.1.symm)]; exact h.2.1, h.2.2.1, by rw [mO_sO, if_neg (fun z => hg.2 z.1.symm)]; exact h.2.2.2.1, h.2.2.2.2⟩
def mergerAt (S : Mem) (h rw ft gl gr gq ml mr mq : Nat) : Prop := is S h 4 ∧ mO S 256 h = some rw ∧ isA S rw 15 7 ∧ mO S 257 h = some ft ∧ isA S ft 11 7 ∧ mO S 258 h = some gl ∧ lineAt S gl gr gq ∧ mO S 259 h = some ml ∧ lineAt S ml mr mq
theorem mergerAt_ext {S S' : Mem} {X : Nat → Prop} {h rw ft gl gr gq ml mr mq : Nat} (e : ext S S' X) (hx : ¬ X h) (hg : ¬ X gl) (hm : ¬ X ml) (k : mergerAt S h rw ft gl gr gq ml mr mq) : mergerAt S' h rw ft gl gr gq ml mr mq := by
  obtain ⟨k1, k2, k3, k4, k5, k6, k7, k8, k9⟩ := k
  have a := (e.2 h k1.1 hx).2.1
  exact ⟨is_ext e k1, by rw [a]; exact k2, isA_ext e k3, by rw [a]; exact k4, isA_ext e k5, by rw [a]; exact k6, lineAt_ext e hg k7, by rw [a]; exact k8, lineAt_ext e hm k9⟩
theorem dX0_init_0 : decode cX0_init 0 = .ok (.aload_n 0, 1) := by decide +kernel
theorem dX0_init_1 : decode cX0_init 1 = .ok (.invokespecial 3, 3) := by decide +kernel
theorem dX0_init_4 : decode cX0_init 4 = .ok (.return_, 1) := by decide +kernel
set_option maxRecDepth 100000 in
set_option maxHeartbeats 4000000 in
theorem ct_X0_init (l : Launch) (h : Nat) : Ct l yX0_init cX0_init 1 none 1 0 0 12 (fun S av => av = [.ref h] ∧ is S h 0) (fun S _ r0 S' => r0 = none ∧ S' = S) := by
  refine ct_of (by decide) (fun S av h => by obtain ⟨rfl, hh⟩ := h; exact Nat.le_of_ble_eq_true rfl) ?_
  intro p e s m args below meth c D G bs S av C hr hin hpre
  obtain ⟨rfl, hh⟩ := hpre
  refine v_aload_n C dX0_init_0 rfl ?_
  refine v_objInit C wd60 wd11 wd12 dX0_init_1 (Nat.le_of_ble_eq_true rfl) (Nat.le_of_ble_eq_true rfl) ?_
  refine v_vret C hr (Nat.le_of_ble_eq_true rfl) (Nat.le_of_ble_eq_true rfl) dX0_init_4 ?_
  exact ⟨rfl, rfl⟩

theorem x_nLine {S S' : Mem} {h r q : Nat} (e : S' = nLine S h r q) (n1 : r ∉ mL S) (n2 : q ∉ mL S) (n3 : q ≠ r) : ext S S' (fun a => a = h) := by subst e; exact ext_nLine ext_rfl n1 n2 n3 (Or.inl rfl)
theorem lineAt_nLineE {S S' : Mem} {h r q : Nat} (e : S' = nLine S h r q) (hh : is S h 3) (n1 : r ∉ mL S) (n2 : q ∉ mL S) (n3 : q ≠ r) : lineAt S' h r q := by subst e; exact nLine_lineAt hh n1 n2 n3
theorem mO_nLine {S : Mem} {h r q : Nat} (g a : Nat) (hg : g ≠ 192 ∧ g ≠ 193) : mO (nLine S h r q) g a = mO S g a := by
  simp only [nLine, mO_sFill, mO_sO, mO_sArr]
  rw [if_neg (fun z => hg.2 z.1), if_neg (fun z => hg.1 z.1)]
theorem mP_nLine {S : Mem} {h r q : Nat} (a i : Nat) (h1 : a ≠ r) (h2 : a ≠ q) : mP (nLine S h r q) a i = mP S a i := by
  simp only [nLine, mP_sFill, mP_sO, mP_sArr]
  rw [if_neg h2, if_neg h1]
theorem mI_nLine {S : Mem} {h r q : Nat} (g a : Nat) : mI (nLine S h r q) g a = mI S g a := Eq.mpr rfl rfl
theorem dX4_init_0 : decode cX4_init 0 = .ok (.aload_n 0, 1) := by decide +kernel
theorem dX4_init_1 : decode cX4_init 1 = .ok (.invokespecial 3, 3) := by decide +kernel
theorem dX4_init_4 : decode cX4_init 4 = .ok (.aload_n 0, 1) := by decide +kernel
theorem dX4_init_5 : decode cX4_init 5 = .ok (.bipush 7, 2) := by decide +kernel
theorem dX4_init_7 : decode cX4_init 7 = .ok (.anewarray 11, 3) := by decide +kernel
theorem dX4_init_10 : decode cX4_init 10 = .ok (.putfield 13, 3) := by decide +kernel
theorem dX4_init_13 : decode cX4_init 13 = .ok (.aload_n 0, 1) := by decide +kernel
theorem dX4_init_14 : decode cX4_init 14 = .ok (.bipush 7, 2) := by decide +kernel
theorem dX4_init_16 : decode cX4_init 16 = .ok (.newarray .int, 2) := by decide +kernel
theorem dX4_init_18 : decode cX4_init 18 = .ok (.putfield 17, 3) := by decide +kernel
theorem dX4_init_21 : decode cX4_init 21 = .ok (.aload_n 0, 1) := by decide +kernel
theorem dX4_init_22 : decode cX4_init 22 = .ok (.new 11, 3) := by decide +kernel
theorem dX4_init_25 : decode cX4_init 25 = .ok (.dup, 1) := by decide +kernel
theorem dX4_init_26 : decode cX4_init 26 = .ok (.invokespecial 21, 3) := by decide +kernel
theorem dX4_init_29 : decode cX4_init 29 = .ok (.putfield 22, 3) := by decide +kernel
theorem dX4_init_32 : decode cX4_init 32 = .ok (.aload_n 0, 1) := by decide +kernel
theorem dX4_init_33 : decode cX4_init 33 = .ok (.new 11, 3) := by decide +kernel
theorem dX4_init_36 : decode cX4_init 36 = .ok (.dup, 1) := by decide +kernel
theorem dX4_init_37 : decode cX4_init 37 = .ok (.invokespecial 21, 3) := by decide +kernel
theorem dX4_init_40 : decode cX4_init 40 = .ok (.putfield 26, 3) := by decide +kernel
theorem dX4_init_43 : decode cX4_init 43 = .ok (.return_, 1) := by decide +kernel
set_option maxRecDepth 100000 in
set_option maxHeartbeats 4000000 in
theorem ct_X4_init (l : Launch) (h : Nat) : Ct l yX4_init cX4_init 1 none 2 8 100 43 (fun S av => av = [.ref h] ∧ is S h 4) (fun S _ r0 S' => r0 = none ∧ ext S S' (fun a => a = h) ∧ ∃ rw ft gl gr gq ml mr mq, mergerAt S' h rw ft gl gr gq ml mr mq) := by
  refine ct_of (by decide) (fun S av h => by obtain ⟨rfl, hh⟩ := h; exact Nat.le_of_ble_eq_true rfl) ?_
  intro p e s m args below meth c D G bs S av C hr hin hpre
  obtain ⟨rfl, hh⟩ := hpre
  have E0 : ext S S (fun a => a = h) := ext_rfl
  refine v_aload_n C dX4_init_0 rfl ?_
  refine v_objInit C wd39 wd11 wd12 dX4_init_1 (Nat.le_of_ble_eq_true rfl) (Nat.le_of_ble_eq_true rfl) ?_
  refine v_aload_n C dX4_init_4 rfl ?_
  refine v_bipush (v := 7) C dX4_init_5 (by decide) ?_
  refine v_newrefs C (kd := 15) (N := 7) (t0 := 4) (by decide) (by decide +kernel) wd40 rfl (by decide) (by decide) (Nat.le_of_ble_eq_true rfl) (Nat.le_of_ble_eq_true rfl) (Nat.le_of_ble_eq_true rfl) dX4_init_7 (fun rw n_rw => ?_)
  have z_hh_rw := ne_of_is n_rw hh
  refine V.gen (fun S_7 e_7 => ?_)
  have w_rw := nm_ext E0 n_rw
  have x_7 := x_sArr e_7 n_rw
  have hh := is_ext x_7 hh
  have i_rw := isA_sArrE (kd := 15) (n := 7) e_7 n_rw
  have E_7 := ext_tr E0 x_7 (fun _ _ z => z.elim)
  refine p4_13 (v := some _) C hh (hin rfl) dX4_init_10 ?_
  refine V.gen (fun S_10 e_10 => ?_)
  have x_10 := x_sO e_10
  have hh := is_ext x_10 hh
  have i_rw := isA_ext x_10 i_rw
  have E_10 := ext_tr E_7 x_10 (fun _ _ z => z)
  refine v_aload_n C dX4_init_13 rfl ?_
  refine v_bipush (v := 7) C dX4_init_14 (by decide) ?_
  refine v_newarr C (kd := 11) (N := 7) wd42 rfl (t0 := 0) rfl (by decide) (fun _ => cell_newI (Or.inl rfl)) (fun _ => vp_cell_i _ _ _) (by decide) (by decide) (Nat.le_of_ble_eq_true rfl) (Nat.le_of_ble_eq_true rfl) (Nat.le_of_ble_eq_true rfl) dX4_init_16 (fun ft n_ft => ?_)
  have z_hh_ft := ne_of_is n_ft hh
  have z_i_rw_ft := ne_of_isA n_ft i_rw
  refine V.gen (fun S_16 e_16 => ?_)
  have w_ft := nm_ext E_10 n_ft
  have x_16 := x_sArr e_16 n_ft
  have hh := is_ext x_16 hh
  have i_rw := isA_ext x_16 i_rw
  have i_ft := isA_sArrE (kd := 11) (n := 7) e_16 n_ft
  have E_16 := ext_tr E_10 x_16 (fun _ _ z => z.elim)
  refine p4_17 (v := some _) C hh (hin rfl) dX4_init_18 ?_
  refine V.gen (fun S_18 e_18 => ?_)
  have x_18 := x_sO e_18
  have hh := is_ext x_18 hh
  have i_rw := isA_ext x_18 i_rw
  have i_ft := isA_ext x_18 i_ft
  have E_18 := ext_tr E_16 x_18 (fun _ _ z => z)
  refine v_aload_n C dX4_init_21 rfl ?_
  refine v_new C (ci := 3) (by decide) rfl inlX3 tyX3_ok wd40 wd44 wd45 nfX3 (Nat.le_of_ble_eq_true rfl) (Nat.le_of_ble_eq_true rfl) dX4_init_22 (fun gl n_gl => ?_)
  have z_hh_gl := ne_of_is n_gl hh
  have z_i_rw_gl := ne_of_isA n_gl i_rw
  have z_i_ft_gl := ne_of_isA n_gl i_ft
  refine V.gen (fun S_22 e_22 => ?_)
  have w_gl := nm_ext E_18 n_gl
  have x_22 := x_sNew e_22 n_gl
  have hh := is_ext x_22 hh
  have i_rw := isA_ext x_22 i_rw
  have i_ft := isA_ext x_22 i_ft
  have i_gl := is_sNewE (ci := 3) e_22 n_gl
  have E_22 := ext_tr E_18 x_22 (fun _ _ z => z.elim)
  refine v_dup C dX4_init_25 rfl ?_
  refine v_callI (As := []) (n := 0) C (ct_X3_init l gl) rfl ⟨wd48, wd49, wd45, wd50⟩ rfl hy_X3_init rfl ⟨Nat.le_of_ble_eq_true rfl, Nat.le_of_ble_eq_true rfl⟩ (Nat.le_of_ble_eq_true rfl) ⟨Nat.le_of_ble_eq_true rfl, Nat.le_of_ble_eq_true rfl⟩ dX4_init_26 ⟨rfl, i_gl⟩ (fun r_26 S_26 h_26 => ?_)
  obtain ⟨rfl, gr, gq, n_gr, n_gq, y_gl, e_26⟩ := h_26
  have x_26 := x_nLine e_26 n_gr n_gq y_gl
  have l_gl := lineAt_nLineE e_26 i_gl n_gr n_gq y_gl
  have hh := is_ext x_26 hh
  have i_rw := isA_ext x_26 i_rw
  have i_ft := isA_ext x_26 i_ft
  have i_gl := is_ext x_26 i_gl
  have E_26 := ext_tr E_22 x_26 (fun a ha z => absurd (z ▸ ha) w_gl)
  skip
  refine p4_22 (v := some _) C hh (hin rfl) dX4_init_29 ?_
  refine V.gen (fun S_29 e_29 => ?_)
  have x_29 := x_sO e_29
  have hh := is_ext x_29 hh
  have i_rw := isA_ext x_29 i_rw
  have i_ft := isA_ext x_29 i_ft
  have i_gl := is_ext x_29 i_gl
  have l_gl := lineAt_ext x_29 z_hh_gl.symm l_gl
  have E_29 := ext_tr E_26 x_29 (fun _ _ z => z)
  refine v_aload_n C dX4_init_32 rfl ?_
  refine v_new C (ci := 3) (by decide) rfl inlX3 tyX3_ok wd40 wd44 wd45 nfX3 (Nat.le_of_ble_eq_true rfl) (Nat.le_of_ble_eq_true rfl) dX4_init_33 (fun ml n_ml => ?_)
  have z_hh_ml := ne_of_is n_ml hh
  have z_i_rw_ml := ne_of_isA n_ml i_rw
  have z_i_ft_ml := ne_of_isA n_ml i_ft
  have z_i_gl_ml := ne_of_is n_ml i_gl
  refine V.gen (fun S_33 e_33 => ?_)
  have w_ml := nm_ext E_29 n_ml
  have x_33 := x_sNew e_33 n_ml
  have hh := is_ext x_33 hh
  have i_rw := isA_ext x_33 i_rw
  have i_ft := isA_ext x_33 i_ft
  have i_gl := is_ext x_33 i_gl
  have i_ml := is_sNewE (ci := 3) e_33 n_ml
  have l_gl := lineAt_ext x_33 (fun z => z) l_gl
  have E_33 := ext_tr E_29 x_33 (fun _ _ z => z.elim)
  refine v_dup C dX4_init_36 rfl ?_
  refine v_callI (As := []) (n := 0) C (ct_X3_init l ml) rfl ⟨wd48, wd49, wd45, wd50⟩ rfl hy_X3_init rfl ⟨Nat.le_of_ble_eq_true rfl, Nat.le_of_ble_eq_true rfl⟩ (Nat.le_of_ble_eq_true rfl) ⟨Nat.le_of_ble_eq_true rfl, Nat.le_of_ble_eq_true rfl⟩ dX4_init_37 ⟨rfl, i_ml⟩ (fun r_37 S_37 h_37 => ?_)
  obtain ⟨rfl, mr, mq, n_mr, n_mq, y_ml, e_37⟩ := h_37
  have x_37 := x_nLine e_37 n_mr n_mq y_ml
  have l_ml := lineAt_nLineE e_37 i_ml n_mr n_mq y_ml
  have hh := is_ext x_37 hh
  have i_rw := isA_ext x_37 i_rw
  have i_ft := isA_ext x_37 i_ft
  have i_gl := is_ext x_37 i_gl
  have i_ml := is_ext x_37 i_ml
  have E_37 := ext_tr E_33 x_37 (fun a ha z => absurd (z ▸ ha) w_ml)
  have l_gl := lineAt_ext x_37 z_i_gl_ml l_gl
  refine p4_26 (v := some _) C hh (hin rfl) dX4_init_40 ?_
  refine V.gen (fun S_40 e_40 => ?_)
  have x_40 := x_sO e_40
  have hh := is_ext x_40 hh
  have i_rw := isA_ext x_40 i_rw
  have i_ft := isA_ext x_40 i_ft
  have i_gl := is_ext x_40 i_gl
  have i_ml := is_ext x_40 i_ml
  have l_gl := lineAt_ext x_40 z_hh_gl.symm l_gl
  have l_ml := lineAt_ext x_40 z_hh_ml.symm l_ml
  have E_40 := ext_tr E_37 x_40 (fun _ _ z => z)
  refine v_vret C hr (Nat.le_of_ble_eq_true rfl) (Nat.le_of_ble_eq_true rfl) dX4_init_43 ?_
  refine ⟨rfl, E_40, rw, ft, gl, gr, gq, ml, mr, mq, hh, ?_, i_rw, ?_, i_ft, ?_, l_gl, ?_, l_ml⟩ <;> simp [mO_sO, mO_sArr, mO_sNew, mO_nLine, z_hh_gl, z_hh_ml, e_40, e_37, e_33, e_29, e_26, e_22, e_18, e_16, e_10, e_7]

theorem ne_kind {S : Mem} {a b k k' : Nat} (h1 : is S a k) (h2 : is S b k') (hk : k ≠ k') : a ≠ b := by rintro rfl; exact hk (h1.2.symm.trans h2.2)
theorem ne_kindA {S : Mem} {a b k k' n : Nat} (h1 : isA S a k n) (h2 : is S b k') (hk : k ≠ k') : a ≠ b := by rintro rfl; exact hk (h1.2.1.symm.trans h2.2)
def companyAt (S : Mem) (h ts fs mg ch rw ft gl gr gq ml mr mq : Nat) : Prop := is S h 1 ∧ mO S 64 h = some ts ∧ isA S ts 17 20 ∧ mO S 66 h = some fs ∧ isA S fs 14 12 ∧ mO S 68 h = some mg ∧ mergerAt S mg rw ft gl gr gq ml mr mq ∧ mO S 69 h = some ch ∧ is S ch 0
theorem companyAt_ext {S S' : Mem} {X : Nat → Prop} {h ts fs mg ch rw ft gl gr gq ml mr mq : Nat} (e : ext S S' X) (hx : ¬ X h) (h1 : ¬ X mg) (h2 : ¬ X gl) (h3 : ¬ X ml) (k : companyAt S h ts fs mg ch rw ft gl gr gq ml mr mq) : companyAt S' h ts fs mg ch rw ft gl gr gq ml mr mq := by
  obtain ⟨k1, k2, k3, k4, k5, k6, k7, k8, k9⟩ := k
  have a := (e.2 h k1.1 hx).2.1
  exact ⟨is_ext e k1, by rw [a]; exact k2, isA_ext e k3, by rw [a]; exact k4, isA_ext e k5, by rw [a]; exact k6, mergerAt_ext e h1 h2 h3 k7, by rw [a]; exact k8, is_ext e k9⟩
def stageAt (S : Mem) (h co tp cs : Nat) : Prop := is S h 6 ∧ mO S 384 h = some co ∧ mO S 385 h = some tp ∧ is S tp 7 ∧ mO S 448 tp = some cs ∧ isA S cs 12 1000
theorem stageAt_ext {S S' : Mem} {X : Nat → Prop} {h co tp cs : Nat} (e : ext S S' X) (hx : ¬ X h) (h1 : ¬ X tp) (k : stageAt S h co tp cs) : stageAt S' h co tp cs := by
  obtain ⟨k1, k2, k3, k4, k5, k6⟩ := k
  have a := (e.2 h k1.1 hx).2.1
  have b := (e.2 tp k4.1 h1).2.1
  exact ⟨is_ext e k1, by rw [a]; exact k2, by rw [a]; exact k3, is_ext e k4, by rw [b]; exact k5, isA_ext e k6⟩
theorem dX1_init_0 : decode cX1_init 0 = .ok (.aload_n 0, 1) := by decide +kernel
theorem dX1_init_1 : decode cX1_init 1 = .ok (.invokespecial 3, 3) := by decide +kernel
theorem dX1_init_4 : decode cX1_init 4 = .ok (.aload_n 0, 1) := by decide +kernel
theorem dX1_init_5 : decode cX1_init 5 = .ok (.bipush 20, 2) := by decide +kernel
theorem dX1_init_7 : decode cX1_init 7 = .ok (.anewarray 9, 3) := by decide +kernel
theorem dX1_init_10 : decode cX1_init 10 = .ok (.putfield 11, 3) := by decide +kernel
theorem dX1_init_13 : decode cX1_init 13 = .ok (.aload_n 0, 1) := by decide +kernel
theorem dX1_init_14 : decode cX1_init 14 = .ok (.bipush 12, 2) := by decide +kernel
theorem dX1_init_16 : decode cX1_init 16 = .ok (.anewarray 17, 3) := by decide +kernel
theorem dX1_init_19 : decode cX1_init 19 = .ok (.putfield 19, 3) := by decide +kernel
theorem dX1_init_22 : decode cX1_init 22 = .ok (.aload_n 0, 1) := by decide +kernel
theorem dX1_init_23 : decode cX1_init 23 = .ok (.new 23, 3) := by decide +kernel
theorem dX1_init_26 : decode cX1_init 26 = .ok (.dup, 1) := by decide +kernel
theorem dX1_init_27 : decode cX1_init 27 = .ok (.invokespecial 25, 3) := by decide +kernel
theorem dX1_init_30 : decode cX1_init 30 = .ok (.putfield 26, 3) := by decide +kernel
theorem dX1_init_33 : decode cX1_init 33 = .ok (.aload_n 0, 1) := by decide +kernel
theorem dX1_init_34 : decode cX1_init 34 = .ok (.new 30, 3) := by decide +kernel
theorem dX1_init_37 : decode cX1_init 37 = .ok (.dup, 1) := by decide +kernel
theorem dX1_init_38 : decode cX1_init 38 = .ok (.invokespecial 32, 3) := by decide +kernel
theorem dX1_init_41 : decode cX1_init 41 = .ok (.putfield 33, 3) := by decide +kernel
theorem dX1_init_44 : decode cX1_init 44 = .ok (.return_, 1) := by decide +kernel
set_option maxRecDepth 100000 in
set_option maxHeartbeats 4000000 in
theorem ct_X1_init (l : Launch) (h : Nat) : Ct l yX1_init cX1_init 1 none 3 12 147 63 (fun S av => av = [.ref h] ∧ is S h 1) (fun S _ r0 S' => r0 = none ∧ ext S S' (fun a => a = h) ∧ (∀ g, mI S' g h = mI S g h) ∧ ∃ ts fs mg ch rw ft gl gr gq ml mr mq, companyAt S' h ts fs mg ch rw ft gl gr gq ml mr mq ∧ (∀ i, mP S' ts i = none) ∧ ∀ i, mP S' fs i = none) := by
  refine ct_of (by decide) (fun S av h => by obtain ⟨rfl, hh⟩ := h; exact Nat.le_of_ble_eq_true rfl) ?_
  intro p e s m args below meth c D G bs S av C hr hin hpre
  obtain ⟨rfl, hh⟩ := hpre
  have E0 : ext S S (fun a => a = h) := ext_rfl
  refine v_aload_n C dX1_init_0 rfl ?_
  refine v_objInit C wd24 wd11 wd12 dX1_init_1 (Nat.le_of_ble_eq_true rfl) (Nat.le_of_ble_eq_true rfl) ?_
  refine v_aload_n C dX1_init_4 rfl ?_
  refine v_bipush (v := 20) C dX1_init_5 (by decide) ?_
  refine v_newrefs C (kd := 17) (N := 20) (t0 := 6) (by decide) (by decide +kernel) wd25 rfl (by decide) (by decide) (Nat.le_of_ble_eq_true rfl) (Nat.le_of_ble_eq_true rfl) (Nat.le_of_ble_eq_true rfl) dX1_init_7 (fun ts n_ts => ?_)
  have z_hh_ts := ne_of_is n_ts hh
  refine V.gen (fun S_7 e_7 => ?_)
  have w_ts := nm_ext E0 n_ts
  have x_7 := x_sArr e_7 n_ts
  have hh := is_ext x_7 hh
  have i_ts := isA_sArrE (kd := 17) (n := 20) e_7 n_ts
  have E_7 := ext_tr E0 x_7 (fun _ _ z => z.elim)
  refine p1_11 (v := some _) C hh (hin rfl) dX1_init_10 ?_
  refine V.gen (fun S_10 e_10 => ?_)
  have x_10 := x_sO e_10
  have hh := is_ext x_10 hh
  have i_ts := isA_ext x_10 i_ts
  have E_10 := ext_tr E_7 x_10 (fun _ _ z => z)
  refine v_aload_n C dX1_init_13 rfl ?_
  refine v_bipush (v := 12) C dX1_init_14 (by decide) ?_
  refine v_newrefs C (kd := 14) (N := 12) (t0 := 3) (by decide) (by decide +kernel) wd27 rfl (by decide) (by decide) (Nat.le_of_ble_eq_true rfl) (Nat.le_of_ble_eq_true rfl) (Nat.le_of_ble_eq_true rfl) dX1_init_16 (fun fs n_fs => ?_)
  have z_hh_fs := ne_of_is n_fs hh
  have z_i_ts_fs := ne_of_isA n_fs i_ts
  refine V.gen (fun S_16 e_16 => ?_)
  have w_fs := nm_ext E_10 n_fs
  have x_16 := x_sArr e_16 n_fs
  have hh := is_ext x_16 hh
  have i_ts := isA_ext x_16 i_ts
  have i_fs := isA_sArrE (kd := 14) (n := 12) e_16 n_fs
  have E_16 := ext_tr E_10 x_16 (fun _ _ z => z.elim)
  refine p1_19 (v := some _) C hh (hin rfl) dX1_init_19 ?_
  refine V.gen (fun S_19 e_19 => ?_)
  have x_19 := x_sO e_19
  have hh := is_ext x_19 hh
  have i_ts := isA_ext x_19 i_ts
  have i_fs := isA_ext x_19 i_fs
  have E_19 := ext_tr E_16 x_19 (fun _ _ z => z)
  refine v_aload_n C dX1_init_22 rfl ?_
  refine v_new C (ci := 4) (by decide) rfl inlX4 tyX4_ok wd29 wd30 wd31 nfX4 (Nat.le_of_ble_eq_true rfl) (Nat.le_of_ble_eq_true rfl) dX1_init_23 (fun mg n_mg => ?_)
  have z_hh_mg := ne_of_is n_mg hh
  have z_i_ts_mg := ne_of_isA n_mg i_ts
  have z_i_fs_mg := ne_of_isA n_mg i_fs
  refine V.gen (fun S_23 e_23 => ?_)
  have w_mg := nm_ext E_19 n_mg
  have x_23 := x_sNew e_23 n_mg
  have hh := is_ext x_23 hh
  have i_ts := isA_ext x_23 i_ts
  have i_fs := isA_ext x_23 i_fs
  have i_mg := is_sNewE (ci := 4) e_23 n_mg
  have E_23 := ext_tr E_19 x_23 (fun _ _ z => z.elim)
  refine v_dup C dX1_init_26 rfl ?_
  refine v_callIN (As := []) (n := 0) C (ct_X4_init l mg) rfl ⟨(by decide +kernel), wd37, wd31, wd38⟩ rfl hy_X4_init rfl ⟨Nat.le_of_ble_eq_true rfl, Nat.le_of_ble_eq_true rfl⟩ (Nat.le_of_ble_eq_true rfl) ⟨Nat.le_of_ble_eq_true rfl, Nat.le_of_ble_eq_true rfl⟩ dX1_init_27 ⟨rfl, i_mg⟩ (fun r_27 S_27 h_27 => ?_)
  obtain ⟨rfl, x_27, rw, ft, gl, gr, gq, ml, mr, mq, k_mg⟩ := h_27
  have a_27 := x_27.2 h hh.1 z_hh_mg
  have at_27 := x_27.2 ts i_ts.1 z_i_ts_mg
  have af_27 := x_27.2 fs i_fs.1 z_i_fs_mg
  have hh := is_ext x_27 hh
  have i_ts := isA_ext x_27 i_ts
  have i_fs := isA_ext x_27 i_fs
  have i_mg := is_ext x_27 i_mg
  have E_27 := ext_tr E_23 x_27 (fun a ha z => absurd (z ▸ ha) w_mg)
  have nh1 := ne_kind k_mg.1 hh (by decide)
  have nh2 := ne_kind k_mg.2.2.2.2.2.2.1.1 hh (by decide)
  have nh3 := ne_kind k_mg.2.2.2.2.2.2.2.2.1 hh (by decide)
  refine p1_26 (v := some _) C hh (hin rfl) dX1_init_30 ?_
  refine V.gen (fun S_30 e_30 => ?_)
  have x_30 := x_sO e_30
  have hh := is_ext x_30 hh
  have i_ts := isA_ext x_30 i_ts
  have i_fs := isA_ext x_30 i_fs
  have i_mg := is_ext x_30 i_mg
  have k_mg := mergerAt_ext x_30 nh1 nh2 nh3 k_mg
  have E_30 := ext_tr E_27 x_30 (fun _ _ z => z)
  refine v_aload_n C dX1_init_33 rfl ?_
  refine v_new C (ci := 0) (by decide) rfl inlX0 tyX0_ok wd33 wd34 wd35 nfX0 (Nat.le_of_ble_eq_true rfl) (Nat.le_of_ble_eq_true rfl) dX1_init_34 (fun ch n_ch => ?_)
  have z_hh_ch := ne_of_is n_ch hh
  have z_i_ts_ch := ne_of_isA n_ch i_ts
  have z_i_fs_ch := ne_of_isA n_ch i_fs
  have z_i_mg_ch := ne_of_is n_ch i_mg
  refine V.gen (fun S_34 e_34 => ?_)
  have w_ch := nm_ext E_30 n_ch
  have x_34 := x_sNew e_34 n_ch
  have hh := is_ext x_34 hh
  have i_ts := isA_ext x_34 i_ts
  have i_fs := isA_ext x_34 i_fs
  have i_mg := is_ext x_34 i_mg
  have i_ch := is_sNewE (ci := 0) e_34 n_ch
  have k_mg := mergerAt_ext x_34 (fun z => z) (fun z => z) (fun z => z) k_mg
  have E_34 := ext_tr E_30 x_34 (fun _ _ z => z.elim)
  refine v_dup C dX1_init_37 rfl ?_
  refine v_callIN (As := []) (n := 0) C (ct_X0_init l ch) rfl ⟨(by decide +kernel), wd58, wd35, wd59⟩ rfl hy_X0_init rfl ⟨Nat.le_of_ble_eq_true rfl, Nat.le_of_ble_eq_true rfl⟩ (Nat.le_of_ble_eq_true rfl) ⟨Nat.le_of_ble_eq_true rfl, Nat.le_of_ble_eq_true rfl⟩ dX1_init_38 ⟨rfl, i_ch⟩ (fun r_38 S_38 h_38 => ?_)
  obtain ⟨rfl, q_38⟩ := h_38
  obtain rfl := q_38.symm
  refine p1_33 (v := some _) C hh (hin rfl) dX1_init_41 ?_
  refine V.gen (fun S_41 e_41 => ?_)
  have x_41 := x_sO e_41
  have hh := is_ext x_41 hh
  have i_ts := isA_ext x_41 i_ts
  have i_fs := isA_ext x_41 i_fs
  have i_mg := is_ext x_41 i_mg
  have i_ch := is_ext x_41 i_ch
  have k_mg := mergerAt_ext x_41 nh1 nh2 nh3 k_mg
  have E_41 := ext_tr E_34 x_41 (fun _ _ z => z)
  refine v_vret C hr (Nat.le_of_ble_eq_true rfl) (Nat.le_of_ble_eq_true rfl) dX1_init_44 ?_
  refine ⟨rfl, E_41, fun g => ?_, ts, fs, mg, ch, rw, ft, gl, gr, gq, ml, mr, mq, ⟨hh, ?_, i_ts, ?_, i_fs, ?_, k_mg, ?_, i_ch⟩, fun i => ?_, fun i => ?_⟩ <;> simp [mO_sO, mO_sArr, mO_sNew, mI_sO, mI_sArr, mI_sNew, mP_sO, mP_sArr, mP_sNew, mJ_sO, mJ_sArr, mJ_sNew, a_27.1, a_27.2.1, at_27.2.2.2.2.1, af_27.2.2.2.2.1, z_hh_mg, z_hh_ch, z_i_ts_fs, z_i_ts_mg, z_i_fs_mg, e_41, e_34, e_30, e_23, e_19, e_16, e_10, e_7]

theorem dX7_init_0 : decode cX7_init 0 = .ok (.aload_n 0, 1) := by decide +kernel
theorem dX7_init_1 : decode cX7_init 1 = .ok (.invokespecial 3, 3) := by decide +kernel
theorem dX7_init_4 : decode cX7_init 4 = .ok (.aload_n 0, 1) := by decide +kernel
theorem dX7_init_5 : decode cX7_init 5 = .ok (.sipush 1000, 3) := by decide +kernel
theorem dX7_init_8 : decode cX7_init 8 = .ok (.newarray .long, 2) := by decide +kernel
theorem dX7_init_10 : decode cX7_init 10 = .ok (.putfield 11, 3) := by decide +kernel
theorem dX7_init_13 : decode cX7_init 13 = .ok (.return_, 1) := by decide +kernel
set_option maxRecDepth 100000 in
set_option maxHeartbeats 4000000 in
theorem ct_X7_init (l : Launch) (h : Nat) : Ct l yX7_init cX7_init 1 none 1 1 1000 12 (fun S av => av = [.ref h] ∧ is S h 7) (fun S _ r0 S' => r0 = none ∧ ext S S' (fun a => a = h) ∧ (∀ g, mI S' g h = mI S g h) ∧ ∃ cs, is S' h 7 ∧ mO S' 448 h = some cs ∧ isA S' cs 12 1000) := by
  refine ct_of (by decide) (fun S av h => by obtain ⟨rfl, hh⟩ := h; exact Nat.le_of_ble_eq_true rfl) ?_
  intro p e s m args below meth c D G bs S av C hr hin hpre
  obtain ⟨rfl, hh⟩ := hpre
  have E0 : ext S S (fun a => a = h) := ext_rfl
  refine v_aload_n C dX7_init_0 rfl ?_
  refine v_objInit C wd72 wd11 wd12 dX7_init_1 (Nat.le_of_ble_eq_true rfl) (Nat.le_of_ble_eq_true rfl) ?_
  refine v_aload_n C dX7_init_4 rfl ?_
  refine v_sipush (v := 1000) C dX7_init_5 (by decide) ?_
  refine v_newarr C (kd := 12) (N := 1000) wd73 rfl (t0 := 1) rfl (by decide) (fun _ => cell_newJ) (fun _ => vp_cell_l _ _ _) (by decide) (by decide) (Nat.le_of_ble_eq_true rfl) (Nat.le_of_ble_eq_true rfl) (Nat.le_of_ble_eq_true rfl) dX7_init_8 (fun cs n_cs => ?_)
  have z_hh_cs := ne_of_is n_cs hh
  refine V.gen (fun S_8 e_8 => ?_)
  have w_cs := nm_ext E0 n_cs
  have x_8 := x_sArr e_8 n_cs
  have hh := is_ext x_8 hh
  have i_cs := isA_sArrE (kd := 12) (n := 1000) e_8 n_cs
  have E_8 := ext_tr E0 x_8 (fun _ _ z => z.elim)
  refine p7_11 (v := some _) C hh (hin rfl) dX7_init_10 ?_
  refine V.gen (fun S_10 e_10 => ?_)
  have x_10 := x_sO e_10
  have hh := is_ext x_10 hh
  have i_cs := isA_ext x_10 i_cs
  have E_10 := ext_tr E_8 x_10 (fun _ _ z => z)
  refine v_vret C hr (Nat.le_of_ble_eq_true rfl) (Nat.le_of_ble_eq_true rfl) dX7_init_13 ?_
  refine ⟨rfl, E_10, fun g => ?_, cs, hh, ?_, i_cs⟩ <;> simp [mO_sO, mO_sArr, mO_sNew, mI_sO, mI_sArr, mI_sNew, mP_sO, mP_sArr, mP_sNew, mJ_sO, mJ_sArr, mJ_sNew, e_10, e_8]

theorem dX6_init_0 : decode cX6_init 0 = .ok (.aload_n 0, 1) := by decide +kernel
theorem dX6_init_1 : decode cX6_init 1 = .ok (.invokespecial 3, 3) := by decide +kernel
theorem dX6_init_4 : decode cX6_init 4 = .ok (.aload_n 0, 1) := by decide +kernel
theorem dX6_init_5 : decode cX6_init 5 = .ok (.new 9, 3) := by decide +kernel
theorem dX6_init_8 : decode cX6_init 8 = .ok (.dup, 1) := by decide +kernel
theorem dX6_init_9 : decode cX6_init 9 = .ok (.invokespecial 11, 3) := by decide +kernel
theorem dX6_init_12 : decode cX6_init 12 = .ok (.putfield 12, 3) := by decide +kernel
theorem dX6_init_15 : decode cX6_init 15 = .ok (.aload_n 0, 1) := by decide +kernel
theorem dX6_init_16 : decode cX6_init 16 = .ok (.aload_n 1, 1) := by decide +kernel
theorem dX6_init_17 : decode cX6_init 17 = .ok (.putfield 18, 3) := by decide +kernel
theorem dX6_init_20 : decode cX6_init 20 = .ok (.return_, 1) := by decide +kernel
set_option maxRecDepth 100000 in
set_option maxHeartbeats 4000000 in
theorem ct_X6_init (l : Launch) (h co : Nat) : Ct l yX6_init cX6_init 2 none 2 2 1002 32 (fun S av => av = [.ref h, .ref co] ∧ is S h 6) (fun S _ r0 S' => r0 = none ∧ ext S S' (fun a => a = h) ∧ (∀ g, mI S' g h = mI S g h) ∧ (∀ g, mJ S' g h = mJ S g h) ∧ ∃ tp cs, stageAt S' h co tp cs ∧ mI S' 449 tp = 0) := by
  refine ct_of (by decide) (fun S av h => by obtain ⟨rfl, hh⟩ := h; exact Nat.le_of_ble_eq_true rfl) ?_
  intro p e s m args below meth c D G bs S av C hr hin hpre
  obtain ⟨rfl, hh⟩ := hpre
  have E0 : ext S S (fun a => a = h) := ext_rfl
  refine v_aload_n C dX6_init_0 rfl ?_
  refine v_objInit C wd64 wd11 wd12 dX6_init_1 (Nat.le_of_ble_eq_true rfl) (Nat.le_of_ble_eq_true rfl) ?_
  refine v_aload_n C dX6_init_4 rfl ?_
  refine v_new C (ci := 7) (by decide) rfl inlX7 tyX7_ok wd65 wd66 wd67 nfX7 (Nat.le_of_ble_eq_true rfl) (Nat.le_of_ble_eq_true rfl) dX6_init_5 (fun tp n_tp => ?_)
  have z_hh_tp := ne_of_is n_tp hh
  refine V.gen (fun S_5 e_5 => ?_)
  have w_tp := nm_ext E0 n_tp
  have x_5 := x_sNew e_5 n_tp
  have hh := is_ext x_5 hh
  have i_tp := is_sNewE (ci := 7) e_5 n_tp
  have E_5 := ext_tr E0 x_5 (fun _ _ z => z.elim)
  refine v_dup C dX6_init_8 rfl ?_
  refine v_callIN (As := []) (n := 0) C (ct_X7_init l tp) rfl ⟨(by decide +kernel), wd70, wd67, wd71⟩ rfl hy_X7_init rfl ⟨Nat.le_of_ble_eq_true rfl, Nat.le_of_ble_eq_true rfl⟩ (Nat.le_of_ble_eq_true rfl) ⟨Nat.le_of_ble_eq_true rfl, Nat.le_of_ble_eq_true rfl⟩ dX6_init_9 ⟨rfl, i_tp⟩ (fun r_9 S_9 h_9 => ?_)
  obtain ⟨rfl, x_9, t_9, cs, -, k1, i_cs⟩ := h_9
  have a_9 := x_9.2 h hh.1 z_hh_tp
  have hh := is_ext x_9 hh
  have i_tp := is_ext x_9 i_tp
  have E_9 := ext_tr E_5 x_9 (fun a ha z => absurd (z ▸ ha) w_tp)
  skip
  refine p6_12 (v := some _) C hh (hin rfl) dX6_init_12 ?_
  refine V.gen (fun S_12 e_12 => ?_)
  have x_12 := x_sO e_12
  have hh := is_ext x_12 hh
  have i_tp := is_ext x_12 i_tp
  have i_cs := isA_ext x_12 i_cs
  have E_12 := ext_tr E_9 x_12 (fun _ _ z => z)
  refine v_aload_n C dX6_init_15 rfl ?_
  refine v_aload_n C dX6_init_16 rfl ?_
  refine p6_18 (v := some _) C hh (hin rfl) dX6_init_17 ?_
  refine V.gen (fun S_17 e_17 => ?_)
  have x_17 := x_sO e_17
  have hh := is_ext x_17 hh
  have i_tp := is_ext x_17 i_tp
  have i_cs := isA_ext x_17 i_cs
  have E_17 := ext_tr E_12 x_17 (fun _ _ z => z)
  refine v_vret C hr (Nat.le_of_ble_eq_true rfl) (Nat.le_of_ble_eq_true rfl) dX6_init_20 ?_
  refine ⟨rfl, E_17, fun g => ?_, fun g => ?_, tp, cs, ⟨hh, ?_, ?_, i_tp, ?_, i_cs⟩, ?_⟩ <;> simp [mO_sO, mO_sArr, mO_sNew, mI_sO, mI_sArr, mI_sNew, mP_sO, mP_sArr, mP_sNew, mJ_sO, mJ_sArr, mJ_sNew, a_9.1, a_9.2.1, a_9.2.2.1, t_9, k1, z_hh_tp, z_hh_tp.symm, e_17, e_12, e_5]

/-- the class's object, its cells by name -/
def pcAt (S : Mem) (h co ts fs mg ch rw ft gl gr gq ml mr mq sg tp cs : Nat) : Prop := is S h 9 ∧ mO S 576 h = some co ∧ companyAt S co ts fs mg ch rw ft gl gr gq ml mr mq ∧ mO S 577 h = some sg ∧ stageAt S sg co tp cs
/-- nothing has been done with it -/
def pcNew (S : Mem) (h co ts fs sg tp : Nat) : Prop := mO S 578 h = none ∧ mI S 65 co = 0 ∧ mI S 67 co = 0 ∧ (∀ i, mP S ts i = none) ∧ (∀ i, mP S fs i = none) ∧ (∀ g, 385 < g → g < 390 → mI S g sg = 0) ∧ mJ S 390 sg = 0 ∧ mI S 449 tp = 0
theorem dX9_init_0 : decode cX9_init 0 = .ok (.aload_n 0, 1) := by decide +kernel
theorem dX9_init_1 : decode cX9_init 1 = .ok (.invokespecial 1, 3) := by decide +kernel
theorem dX9_init_4 : decode cX9_init 4 = .ok (.aload_n 0, 1) := by decide +kernel
theorem dX9_init_5 : decode cX9_init 5 = .ok (.new 7, 3) := by decide +kernel
theorem dX9_init_8 : decode cX9_init 8 = .ok (.dup, 1) := by decide +kernel
theorem dX9_init_9 : decode cX9_init 9 = .ok (.invokespecial 9, 3) := by decide +kernel
theorem dX9_init_12 : decode cX9_init 12 = .ok (.putfield 10, 3) := by decide +kernel
theorem dX9_init_15 : decode cX9_init 15 = .ok (.aload_n 0, 1) := by decide +kernel
theorem dX9_init_16 : decode cX9_init 16 = .ok (.new 16, 3) := by decide +kernel
theorem dX9_init_19 : decode cX9_init 19 = .ok (.dup, 1) := by decide +kernel
theorem dX9_init_20 : decode cX9_init 20 = .ok (.aload_n 0, 1) := by decide +kernel
theorem dX9_init_21 : decode cX9_init 21 = .ok (.getfield 10, 3) := by decide +kernel
theorem dX9_init_24 : decode cX9_init 24 = .ok (.invokespecial 18, 3) := by decide +kernel
theorem dX9_init_27 : decode cX9_init 27 = .ok (.putfield 21, 3) := by decide +kernel
theorem dX9_init_30 : decode cX9_init 30 = .ok (.aload_n 0, 1) := by decide +kernel
theorem dX9_init_31 : decode cX9_init 31 = .ok (.aconst_null, 1) := by decide +kernel
theorem dX9_init_32 : decode cX9_init 32 = .ok (.putfield 25, 3) := by decide +kernel
theorem dX9_init_35 : decode cX9_init 35 = .ok (.return_, 1) := by decide +kernel
set_option maxRecDepth 100000 in
set_option maxHeartbeats 4000000 in
theorem ct_X9_init (l : Launch) (h : Nat) : Ct l yX9_init cX9_init 1 none 4 16 1162 83 (fun S av => av = [.ref h] ∧ is S h 9) (fun S _ r0 S' => r0 = none ∧ ext S S' (fun a => a = h) ∧ ∃ co ts fs mg ch rw ft gl gr gq ml mr mq sg tp cs, pcAt S' h co ts fs mg ch rw ft gl gr gq ml mr mq sg tp cs ∧ pcNew S' h co ts fs sg tp) := by
  refine ct_of (by decide) (fun S av h => by obtain ⟨rfl, hh⟩ := h; exact Nat.le_of_ble_eq_true rfl) ?_
  intro p e s m args below meth c D G bs S av C hr hin hpre
  obtain ⟨rfl, hh⟩ := hpre
  have E0 : ext S S (fun a => a = h) := ext_rfl
  refine v_aload_n C dX9_init_0 rfl ?_
  refine v_objInit C wd10 wd11 wd12 dX9_init_1 (Nat.le_of_ble_eq_true rfl) (Nat.le_of_ble_eq_true rfl) ?_
  refine v_aload_n C dX9_init_4 rfl ?_
  refine v_new C (ci := 1) (by decide) rfl inlX1 tyX1_ok wd13 wd14 wd15 nfX1 (Nat.le_of_ble_eq_true rfl) (Nat.le_of_ble_eq_true rfl) dX9_init_5 (fun co n_co => ?_)
  have z_hh_co := ne_of_is n_co hh
  refine V.gen (fun S_5 e_5 => ?_)
  have w_co := nm_ext E0 n_co
  have x_5 := x_sNew e_5 n_co
  have hh := is_ext x_5 hh
  have i_co := is_sNewE (ci := 1) e_5 n_co
  have E_5 := ext_tr E0 x_5 (fun _ _ z => z.elim)
  refine v_dup C dX9_init_8 rfl ?_
  refine v_callIN (As := []) (n := 0) C (ct_X1_init l co) rfl ⟨(by decide +kernel), wd22, wd15, wd23⟩ rfl hy_X1_init rfl ⟨Nat.le_of_ble_eq_true rfl, Nat.le_of_ble_eq_true rfl⟩ (Nat.le_of_ble_eq_true rfl) ⟨Nat.le_of_ble_eq_true rfl, Nat.le_of_ble_eq_true rfl⟩ dX9_init_9 ⟨rfl, i_co⟩ (fun r_9 S_9 h_9 => ?_)
  obtain ⟨rfl, x_9, t_9, ts, fs, mg, ch, rw, ft, gl, gr, gq, ml, mr, mq, k_co, k_ts, k_fs⟩ := h_9
  have a_9 := x_9.2 h hh.1 z_hh_co
  have hh := is_ext x_9 hh
  have i_co := is_ext x_9 i_co
  have E_9 := ext_tr E_5 x_9 (fun a ha z => absurd (z ▸ ha) w_co)
  have nh0 := ne_kind k_co.1 hh (by decide)
  have nh1 := ne_kind k_co.2.2.2.2.2.2.1.1 hh (by decide)
  have nh2 := ne_kind k_co.2.2.2.2.2.2.1.2.2.2.2.2.2.1.1 hh (by decide)
  have nh3 := ne_kind k_co.2.2.2.2.2.2.1.2.2.2.2.2.2.2.2.1 hh (by decide)
  refine p9_10 (v := some _) C hh (hin rfl) dX9_init_12 ?_
  refine V.gen (fun S_12 e_12 => ?_)
  have x_12 := x_sO e_12
  have hh := is_ext x_12 hh
  have i_co := is_ext x_12 i_co
  have k_co := companyAt_ext x_12 nh0 nh1 nh2 nh3 k_co
  have k_co_o := k_co
  have E_12 := ext_tr E_9 x_12 (fun _ _ z => z)
  refine v_aload_n C dX9_init_15 rfl ?_
  refine v_new C (ci := 6) (by decide) rfl inlX6 tyX6_ok wd17 wd18 wd19 nfX6 (Nat.le_of_ble_eq_true rfl) (Nat.le_of_ble_eq_true rfl) dX9_init_16 (fun sg n_sg => ?_)
  have z_hh_sg := ne_of_is n_sg hh
  have z_i_co_sg := ne_of_is n_sg i_co
  refine V.gen (fun S_16 e_16 => ?_)
  have w_sg := nm_ext E_12 n_sg
  have x_16 := x_sNew e_16 n_sg
  have hh := is_ext x_16 hh
  have i_co := is_ext x_16 i_co
  have i_sg := is_sNewE (ci := 6) e_16 n_sg
  have z_ts_sg := ne_of_isA n_sg k_co_o.2.2.1
  have z_fs_sg := ne_of_isA n_sg k_co_o.2.2.2.2.1
  have k_co := companyAt_ext x_16 (fun z => z) (fun z => z) (fun z => z) (fun z => z) k_co
  have E_16 := ext_tr E_12 x_16 (fun _ _ z => z.elim)
  refine v_dup C dX9_init_19 rfl ?_
  refine v_aload_n C dX9_init_20 rfl ?_
  refine r9_10 (b := co) C hh (by rw [e_16, mO_sNew, if_neg z_hh_sg, e_12]; simp [mO_sO]) dX9_init_21 ?_
  refine v_callI (As := [_]) (n := 1) C (ct_X6_init l sg co) rfl ⟨wd61, wd62, wd19, wd63⟩ rfl hy_X6_init rfl ⟨Nat.le_of_ble_eq_true rfl, Nat.le_of_ble_eq_true rfl⟩ (Nat.le_of_ble_eq_true rfl) ⟨Nat.le_of_ble_eq_true rfl, Nat.le_of_ble_eq_true rfl⟩ dX9_init_24 ⟨rfl, i_sg⟩ (fun r_24 S_24 h_24 => ?_)
  obtain ⟨rfl, x_24, t_24, j_24, tp, cs, k_sg, k_tp⟩ := h_24
  have a_24 := x_24.2 h hh.1 z_hh_sg
  have ac_24 := x_24.2 co i_co.1 z_i_co_sg
  have at_24 := x_24.2 ts k_co.2.2.1.1 (ne_kindA k_co.2.2.1 i_sg (by decide))
  have af_24 := x_24.2 fs k_co.2.2.2.2.1.1 (ne_kindA k_co.2.2.2.2.1 i_sg (by decide))
  have k_co := companyAt_ext x_24 (ne_kind k_co.1 i_sg (by decide)) (ne_kind k_co.2.2.2.2.2.2.1.1 i_sg (by decide)) (ne_kind k_co.2.2.2.2.2.2.1.2.2.2.2.2.2.1.1 i_sg (by decide)) (ne_kind k_co.2.2.2.2.2.2.1.2.2.2.2.2.2.2.2.1 i_sg (by decide)) k_co
  have hh := is_ext x_24 hh
  have i_co := is_ext x_24 i_co
  have i_sg := is_ext x_24 i_sg
  have E_24 := ext_tr E_16 x_24 (fun a ha z => absurd (z ▸ ha) w_sg)
  have mh0 := ne_kind k_sg.1 hh (by decide)
  have mh1 := ne_kind k_sg.2.2.2.1 hh (by decide)
  refine p9_21 (v := some _) C hh (hin rfl) dX9_init_27 ?_
  refine V.gen (fun S_27 e_27 => ?_)
  have x_27 := x_sO e_27
  have hh := is_ext x_27 hh
  have i_co := is_ext x_27 i_co
  have i_sg := is_ext x_27 i_sg
  have k_co := companyAt_ext x_27 nh0 nh1 nh2 nh3 k_co
  have k_sg := stageAt_ext x_27 mh0 mh1 k_sg
  have E_27 := ext_tr E_24 x_27 (fun _ _ z => z)
  refine v_aload_n C dX9_init_30 rfl ?_
  refine v_null C dX9_init_31 ?_
  refine p9_25 C hh dX9_init_32 ?_
  refine V.gen (fun S_32 e_32 => ?_)
  have x_32 := x_sO e_32
  have hh := is_ext x_32 hh
  have i_co := is_ext x_32 i_co
  have i_sg := is_ext x_32 i_sg
  have k_co := companyAt_ext x_32 nh0 nh1 nh2 nh3 k_co
  have k_sg := stageAt_ext x_32 mh0 mh1 k_sg
  have E_32 := ext_tr E_27 x_32 (fun _ _ z => z)
  refine v_vret C hr (Nat.le_of_ble_eq_true rfl) (Nat.le_of_ble_eq_true rfl) dX9_init_35 ?_
  refine ⟨rfl, E_32, co, ts, fs, mg, ch, rw, ft, gl, gr, gq, ml, mr, mq, sg, tp, cs, ⟨hh, ?_, k_co, ?_, k_sg⟩, ?_, ?_, ?_, fun i => ?_, fun i => ?_, fun g _ _ => ?_, ?_, ?_⟩ <;> simp [mO_sO, mO_sArr, mO_sNew, mI_sO, mI_sArr, mI_sNew, mP_sO, mP_sArr, mP_sNew, mJ_sO, mJ_sArr, mJ_sNew, a_9.1, a_9.2.1, a_24.1, a_24.2.1, ac_24.1, ac_24.2.1, at_24.2.2.2.2.1, af_24.2.2.2.2.1, t_9, t_24, j_24, k_ts, k_fs, k_tp, z_hh_co, z_hh_sg, z_hh_co.symm, z_hh_sg.symm, z_i_co_sg, z_ts_sg, z_fs_sg, e_32, e_27, e_16, e_12, e_5]

