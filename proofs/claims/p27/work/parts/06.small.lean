theorem dX9_isBelow_0 : decode cX9_isBelow 0 = .ok (.iload_n 0, 1) := by decide +kernel
theorem dX9_isBelow_1 : decode cX9_isBelow 1 = .ok (.ifCond .lt 12, 3) := by decide +kernel
theorem dX9_isBelow_4 : decode cX9_isBelow 4 = .ok (.iload_n 0, 1) := by decide +kernel
theorem dX9_isBelow_5 : decode cX9_isBelow 5 = .ok (.iload_n 1, 1) := by decide +kernel
theorem dX9_isBelow_6 : decode cX9_isBelow 6 = .ok (.if_icmp .ge 7, 3) := by decide +kernel
theorem dX9_isBelow_9 : decode cX9_isBelow 9 = .ok (.iconst 1, 1) := by decide +kernel
theorem dX9_isBelow_10 : decode cX9_isBelow 10 = .ok (.goto 4, 3) := by decide +kernel
theorem dX9_isBelow_13 : decode cX9_isBelow 13 = .ok (.iconst 0, 1) := by decide +kernel
theorem dX9_isBelow_14 : decode cX9_isBelow 14 = .ok (.ireturn, 1) := by decide +kernel
set_option maxRecDepth 100000 in
set_option maxHeartbeats 4000000 in
theorem ct_X9_isBelow (l : Launch) (a b : Int32) : Ct l yX9_isBelow cX9_isBelow 2 (some .boolean) 0 0 0 0 (fun _ av => av = [.int a, .int b]) (fun S _ r S' => r = some (.int (bI (isB a b))) ∧ S' = S) := by
  refine ct_of (by decide) (fun S av h => by obtain rfl := h; exact Nat.le_of_ble_eq_true rfl) ?_
  intro p e s m args below meth c D G bs S av C hr hin hpre
  obtain rfl := hpre
  refine v_iload_n C dX9_isBelow_0 rfl ?_
  refine v_if_lt (tgt := 13) C dX9_isBelow_1 (by decide) (fun c_1 => ?_) (fun c_1 => ?_)
  · skip
    skip
    refine v_iconst (v := 0) C dX9_isBelow_13 (by decide) ?_
    refine v_zret C hr rfl (Nat.le_of_ble_eq_true rfl) (Nat.le_of_ble_eq_true rfl) dX9_isBelow_14 ?_
    refine ⟨?_, rfl⟩
    first
      | (rw [show isB a b = true from by simp only [isB, Bool.and_eq_true, decide_eq_true_eq]; exact ⟨Int32.not_lt.mp c_1, Int32.not_le.mp c_6⟩]; rfl)
      | (rw [show isB a b = false from by simp only [isB, Bool.and_eq_false_imp, decide_eq_true_eq, decide_eq_false_iff_not]; exact fun _ => Int32.not_lt.mpr c_6]; rfl)
      | (rw [show isB a b = false from by simp only [isB, Bool.and_eq_false_imp, decide_eq_true_eq, decide_eq_false_iff_not]; exact fun z => absurd c_1 (Int32.not_lt.mpr z)]; rfl)
  · skip
    refine v_iload_n C dX9_isBelow_4 rfl ?_
    refine v_iload_n C dX9_isBelow_5 rfl ?_
    refine v_icmp_ge (tgt := 13) C dX9_isBelow_6 (by decide) (fun c_6 => ?_) (fun c_6 => ?_)
    · skip
      refine v_iconst (v := 0) C dX9_isBelow_13 (by decide) ?_
      refine v_zret C hr rfl (Nat.le_of_ble_eq_true rfl) (Nat.le_of_ble_eq_true rfl) dX9_isBelow_14 ?_
      refine ⟨?_, rfl⟩
      first
        | (rw [show isB a b = true from by simp only [isB, Bool.and_eq_true, decide_eq_true_eq]; exact ⟨Int32.not_lt.mp c_1, Int32.not_le.mp c_6⟩]; rfl)
        | (rw [show isB a b = false from by simp only [isB, Bool.and_eq_false_imp, decide_eq_true_eq, decide_eq_false_iff_not]; exact fun _ => Int32.not_lt.mpr c_6]; rfl)
        | (rw [show isB a b = false from by simp only [isB, Bool.and_eq_false_imp, decide_eq_true_eq, decide_eq_false_iff_not]; exact fun z => absurd c_1 (Int32.not_lt.mpr z)]; rfl)
    · skip
      refine v_iconst (v := 1) C dX9_isBelow_9 (by decide) ?_
      refine v_goto (tgt := 14) C dX9_isBelow_10 (by decide) ?_
      refine v_zret C hr rfl (Nat.le_of_ble_eq_true rfl) (Nat.le_of_ble_eq_true rfl) dX9_isBelow_14 ?_
      refine ⟨?_, rfl⟩
      first
        | (rw [show isB a b = true from by simp only [isB, Bool.and_eq_true, decide_eq_true_eq]; exact ⟨Int32.not_lt.mp c_1, Int32.not_le.mp c_6⟩]; rfl)
        | (rw [show isB a b = false from by simp only [isB, Bool.and_eq_false_imp, decide_eq_true_eq, decide_eq_false_iff_not]; exact fun _ => Int32.not_lt.mpr c_6]; rfl)
        | (rw [show isB a b = false from by simp only [isB, Bool.and_eq_false_imp, decide_eq_true_eq, decide_eq_false_iff_not]; exact fun z => absurd c_1 (Int32.not_lt.mpr z)]; rfl)

theorem v_alenI {p : Program} {l : Launch} {e : Env} {R : Room} {s : State} {m : MethodId} {args : Array Value} {below : List Frame} {meth : Method} {c : Code} {D : va_G} {G : Nat → ClassId} {bs nL cells slots pc : Nat} {cc : ByteArray} {Q : State → Prop} {S : Mem} {lv : List (Option Value)} {st : List Value} {own : String} (C : Cx p s m args meth c D G bs cc nL own) {a n : Nat} (ha : isA S a 11 n) (hd : decode cc pc = .ok (.arraylength, 1)) (kk : V p l e R s m args below meth c D G bs nL Q cells slots S (pc + 1) lv (.int (nI n) :: st)) : V p l e R s m args below meth c D G bs nL Q cells slots S (pc) lv (.ref a :: st) := by
  intro H locs ls h1 h2 h3 h4
  obtain ⟨q, hq⟩ := va_pl_get (X := []) (f := cellF G S) ha.1
  rw [cell_I ha.2.1, ha.2.2] at hq
  exact va_alen C.1 C.2.1 C.2.2.2.2.2.1.1 h1 q 0 hq rfl rfl hd (kk H locs ls h1 h2 h3 h4)
theorem dJ7_fill_53178_0 : decode cJ7_fill_53178 0 = .ok (.iconst 0, 1) := by decide +kernel
theorem dJ7_fill_53178_1 : decode cJ7_fill_53178 1 = .ok (.istore_n 2, 1) := by decide +kernel
theorem dJ7_fill_53178_2 : decode cJ7_fill_53178 2 = .ok (.aload_n 0, 1) := by decide +kernel
theorem dJ7_fill_53178_3 : decode cJ7_fill_53178 3 = .ok (.arraylength, 1) := by decide +kernel
theorem dJ7_fill_53178_4 : decode cJ7_fill_53178 4 = .ok (.istore_n 3, 1) := by decide +kernel
theorem dJ7_fill_53178_5 : decode cJ7_fill_53178 5 = .ok (.iload_n 2, 1) := by decide +kernel
theorem dJ7_fill_53178_6 : decode cJ7_fill_53178 6 = .ok (.iload_n 3, 1) := by decide +kernel
theorem dJ7_fill_53178_7 : decode cJ7_fill_53178 7 = .ok (.if_icmp .ge 13, 3) := by decide +kernel
theorem dJ7_fill_53178_10 : decode cJ7_fill_53178 10 = .ok (.aload_n 0, 1) := by decide +kernel
theorem dJ7_fill_53178_11 : decode cJ7_fill_53178 11 = .ok (.iload_n 2, 1) := by decide +kernel
theorem dJ7_fill_53178_12 : decode cJ7_fill_53178 12 = .ok (.iload_n 1, 1) := by decide +kernel
theorem dJ7_fill_53178_13 : decode cJ7_fill_53178 13 = .ok (.iastore, 1) := by decide +kernel
theorem dJ7_fill_53178_14 : decode cJ7_fill_53178 14 = .ok (.iinc 2 1, 3) := by decide +kernel
theorem dJ7_fill_53178_17 : decode cJ7_fill_53178 17 = .ok (.goto (-12), 3) := by decide +kernel
theorem dJ7_fill_53178_20 : decode cJ7_fill_53178 20 = .ok (.return_, 1) := by decide +kernel
set_option maxRecDepth 100000 in
set_option maxHeartbeats 4000000 in
theorem ct_J7_fill_53178 (l : Launch) (a n : Nat) (v : Int32) : Ct l yJ7_fill_53178 cJ7_fill_53178 4 none 0 0 0 0 (fun S av => av = [.ref a, .int v] ∧ isA S a 11 n ∧ n < 2 ^ 31) (fun S _ r S' => r = none ∧ S' = sFill S a n v) := by
  refine ct_of (by decide) (fun S av h => by obtain ⟨rfl, ha, hn⟩ := h; exact Nat.le_of_ble_eq_true rfl) ?_
  intro p e s m args below meth c D G bs S av C hr hin hpre
  obtain ⟨rfl, ha, hn⟩ := hpre
  skip
  have hl : ∀ (k i : Nat), i + k = n → V p l e ({ frames := 0, cells := 0, slots := 0, locals := 0 } : Room) s m args below meth c D G bs 4 (MQ below (QcT D G bs S [.ref a, .int v] (fun S _ r S' => r = none ∧ S' = sFill S a n v)) args s 0 0 (fun q => bs ≤ q)) 0 0 (sFill S a i v) 5 [some (.ref a), some (.int v), some (.int (nI i)), some (.int (nI n))] [] := by
    intro k
    induction k with
    | zero =>
      intro i hi
      simp only [Nat.add_zero] at hi
      subst hi
      refine v_iload_n C dJ7_fill_53178_5 rfl ?_
      refine v_iload_n C dJ7_fill_53178_6 rfl ?_
      refine v_icmp_ge (tgt := 20) C dJ7_fill_53178_7 (by decide) (fun c_7 => ?_) (fun c_7 => ?_)
      · skip
        refine v_vret C hr (Nat.le_of_ble_eq_true rfl) (Nat.le_of_ble_eq_true rfl) dJ7_fill_53178_20 ?_
        exact ⟨rfl, rfl⟩
      · skip
        exact absurd (Int32.le_refl _) c_7
    | succ k ih =>
      intro i hi
      have hlt : i < n := by omega
      refine v_iload_n C dJ7_fill_53178_5 rfl ?_
      refine v_iload_n C dJ7_fill_53178_6 rfl ?_
      refine v_icmp_ge (tgt := 20) C dJ7_fill_53178_7 (by decide) (fun c_7 => ?_) (fun c_7 => ?_)
      · skip
        exact absurd c_7 (nI_ge hlt hn)
      · skip
        refine v_aload_n C dJ7_fill_53178_10 rfl ?_
        refine v_iload_n C dJ7_fill_53178_11 rfl ?_
        refine v_iload_n C dJ7_fill_53178_12 rfl ?_
        refine v_iast C ha (vp_in_nI hlt hn) dJ7_fill_53178_13 ?_
        refine V.gen (fun S_13 e_13 => ?_)
        have x_13 := x_sA e_13
        refine v_iinc C dJ7_fill_53178_14 rfl rfl (by decide) rfl ?_
        refine v_goto (tgt := 5) C dJ7_fill_53178_17 (by decide) ?_
        subst e_13
        rw [nI_clamp (by omega : i < 2 ^ 31)]
        rw [show nI i + Int32.ofInt 1 = nI (i + 1) from nI_1 i]
        rw [show sA (sFill S a i v) a i v = sFill S a (i + 1) v from by
          simp only [sA, sFill, mL, mK, mN, mI, mO, mJ, mA, mP, mQ, Prod.mk.injEq, true_and, and_true]
          funext x y
          simp only [up2]
          by_cases h1 : x = a <;> by_cases h2 : y = i <;> simp [h1, h2] <;> (try omega)
          all_goals (first | (by_cases h3 : y < i <;> simp [h3] <;> (try omega)) | skip)
          all_goals (try (intros; omega))]
        exact ih (i + 1) (by omega)
  refine v_iconst (v := 0) C dJ7_fill_53178_0 (by decide) ?_
  refine v_istore_n C dJ7_fill_53178_1 (by decide) rfl ?_
  refine v_aload_n C dJ7_fill_53178_2 rfl ?_
  refine v_alenI C ha dJ7_fill_53178_3 ?_
  refine v_istore_n C dJ7_fill_53178_4 (by decide) rfl ?_
  have := hl n 0 (by omega)
  rw [show sFill S a 0 v = S from by simp [sFill, mL, mK, mN, mI, mO, mJ, mA, mP, mQ]] at this
  exact this

/-- a new line at h: row r, places q -/
def nLine (S : Mem) (h r q : Nat) : Mem := sFill (sO (sArr (sO (sArr S r 11 20) 192 h (some r)) q 11 20) 193 h (some q)) q 20 (-1)
theorem dX3_init_0 : decode cX3_init 0 = .ok (.aload_n 0, 1) := by decide +kernel
theorem dX3_init_1 : decode cX3_init 1 = .ok (.invokespecial 3, 3) := by decide +kernel
theorem dX3_init_4 : decode cX3_init 4 = .ok (.aload_n 0, 1) := by decide +kernel
theorem dX3_init_5 : decode cX3_init 5 = .ok (.bipush 20, 2) := by decide +kernel
theorem dX3_init_7 : decode cX3_init 7 = .ok (.newarray .int, 2) := by decide +kernel
theorem dX3_init_9 : decode cX3_init 9 = .ok (.putfield 9, 3) := by decide +kernel
theorem dX3_init_12 : decode cX3_init 12 = .ok (.aload_n 0, 1) := by decide +kernel
theorem dX3_init_13 : decode cX3_init 13 = .ok (.bipush 20, 2) := by decide +kernel
theorem dX3_init_15 : decode cX3_init 15 = .ok (.newarray .int, 2) := by decide +kernel
theorem dX3_init_17 : decode cX3_init 17 = .ok (.putfield 15, 3) := by decide +kernel
theorem dX3_init_20 : decode cX3_init 20 = .ok (.aload_n 0, 1) := by decide +kernel
theorem dX3_init_21 : decode cX3_init 21 = .ok (.getfield 15, 3) := by decide +kernel
theorem dX3_init_24 : decode cX3_init 24 = .ok (.iconst (-1), 1) := by decide +kernel
theorem dX3_init_25 : decode cX3_init 25 = .ok (.invokestatic 18, 3) := by decide +kernel
theorem dX3_init_28 : decode cX3_init 28 = .ok (.return_, 1) := by decide +kernel
set_option maxRecDepth 100000 in
set_option maxHeartbeats 4000000 in
theorem ct_X3_init (l : Launch) (h : Nat) : Ct l yX3_init cX3_init 1 none 1 2 40 23 (fun S av => av = [.ref h] ∧ is S h 3) (fun S _ r0 S' => r0 = none ∧ ∃ r q, r ∉ mL S ∧ q ∉ mL S ∧ q ≠ r ∧ S' = nLine S h r q) := by
  refine ct_of (by decide) (fun S av h => by obtain ⟨rfl, hh⟩ := h; exact Nat.le_of_ble_eq_true rfl) ?_
  intro p e s m args below meth c D G bs S av C hr hin hpre
  obtain ⟨rfl, hh⟩ := hpre
  refine v_aload_n C dX3_init_0 rfl ?_
  refine v_objInit C wd51 wd11 wd12 dX3_init_1 (Nat.le_of_ble_eq_true rfl) (Nat.le_of_ble_eq_true rfl) ?_
  refine v_aload_n C dX3_init_4 rfl ?_
  refine v_bipush (v := 20) C dX3_init_5 (by decide) ?_
  refine v_newarr C (kd := 11) (N := 20) wd42 rfl (t0 := 0) rfl (by decide) (fun _ => cell_newI (Or.inl rfl)) (fun _ => vp_cell_i _ _ _) (by decide) (by decide) (Nat.le_of_ble_eq_true rfl) (Nat.le_of_ble_eq_true rfl) (Nat.le_of_ble_eq_true rfl) dX3_init_7 (fun r n_r => ?_)
  have z_hh_r := ne_of_is n_r hh
  refine V.gen (fun S_7 e_7 => ?_)
  have x_7 := x_sArr e_7 n_r
  have hh := is_ext x_7 hh
  have i_r := isA_sArrE (kd := 11) (n := 20) e_7 n_r
  refine p3_9 (v := some _) C hh (hin rfl) dX3_init_9 ?_
  refine V.gen (fun S_9 e_9 => ?_)
  have x_9 := x_sO e_9
  have hh := is_ext x_9 hh
  have i_r := isA_ext x_9 i_r
  refine v_aload_n C dX3_init_12 rfl ?_
  refine v_bipush (v := 20) C dX3_init_13 (by decide) ?_
  refine v_newarr C (kd := 11) (N := 20) wd42 rfl (t0 := 0) rfl (by decide) (fun _ => cell_newI (Or.inl rfl)) (fun _ => vp_cell_i _ _ _) (by decide) (by decide) (Nat.le_of_ble_eq_true rfl) (Nat.le_of_ble_eq_true rfl) (Nat.le_of_ble_eq_true rfl) dX3_init_15 (fun q n_q => ?_)
  have z_hh_q := ne_of_is n_q hh
  have z_i_r_q := ne_of_isA n_q i_r
  refine V.gen (fun S_15 e_15 => ?_)
  have x_15 := x_sArr e_15 n_q
  have hh := is_ext x_15 hh
  have i_r := isA_ext x_15 i_r
  have i_q := isA_sArrE (kd := 11) (n := 20) e_15 n_q
  refine p3_15 (v := some _) C hh (hin rfl) dX3_init_17 ?_
  refine V.gen (fun S_17 e_17 => ?_)
  have x_17 := x_sO e_17
  have hh := is_ext x_17 hh
  have i_r := isA_ext x_17 i_r
  have i_q := isA_ext x_17 i_q
  refine v_aload_n C dX3_init_20 rfl ?_
  refine r3_15 (b := q) C hh (by rw [e_17]; simp [mO_sO]) dX3_init_21 ?_
  refine v_iconst (v := -1) C dX3_init_24 (by decide) ?_
  refine v_callS (As := [_, _]) (n := 2) C (ct_J7_fill_53178 l q 20 (-1)) rfl ⟨wd54, wd55, wd56, wd57⟩ hy_J7_fill_53178 rfl ⟨Nat.le_of_ble_eq_true rfl, Nat.le_of_ble_eq_true rfl⟩ (Nat.le_of_ble_eq_true rfl) ⟨Nat.le_of_ble_eq_true rfl, Nat.le_of_ble_eq_true rfl⟩ dX3_init_25 ⟨rfl, i_q, by decide⟩ (fun r_25 S_25 h_25 => ?_)
  obtain ⟨rfl, e_25⟩ := h_25
  refine v_vret C hr (Nat.le_of_ble_eq_true rfl) (Nat.le_of_ble_eq_true rfl) dX3_init_28 ?_
  exact ⟨rfl, r, q, n_r, fun z => n_q (by rw [e_9, e_7]; exact List.mem_append_left _ z), z_i_r_q.symm, by rw [e_25, e_17, e_15, e_9, e_7]; rfl⟩

theorem ext_nLine {S0 S : Mem} {X : Nat → Prop} {h r q : Nat} (e : ext S0 S X) (n1 : r ∉ mL S) (n2 : q ∉ mL S) (n3 : q ≠ r) (hx : X h ∨ h ∉ mL S0) : ext S0 (nLine S h r q) X := by
  have e1 := ext_sArr (kd := 11) (n := 20) e n1
  have e2 := ext_sO (g := 192) (v := some r) e1 hx
  have nq : q ∉ mL (sO (sArr S r 11 20) 192 h (some r)) := fun z => by
    rcases List.mem_append.mp z with z | z
    · exact n2 z
    · exact n3 (List.mem_singleton.mp z)
  have e3 := ext_sArr (kd := 11) (n := 20) e2 nq
  have e4 := ext_sO (g := 193) (v := some q) e3 hx
  exact ext_sFill e4 (Or.inr (nm_ext e n2))
theorem nLine_at {S : Mem} {h r q : Nat} (hh : is S h 3) (n1 : r ∉ mL S) (n2 : q ∉ mL S) (n3 : q ≠ r) : is (nLine S h r q) h 3 ∧ isA (nLine S h r q) r 11 20 ∧ isA (nLine S h r q) q 11 20 := by
  have nq : q ∉ mL (sO (sArr S r 11 20) 192 h (some r)) := fun z => by
    rcases List.mem_append.mp z with z | z
    · exact n2 z
    · exact n3 (List.mem_singleton.mp z)
  exact ⟨is_arr (kd := 11) (n := 20) nq (is_arr (kd := 11) (n := 20) n1 hh), isA_arr (kd := 11) (n := 20) nq (isA_arrS (kd := 11) (n := 20) n1), isA_arrS (kd := 11) (n := 20) nq⟩
/-- a line's cells -/
def lineAt (S : Mem) (h r q : Nat) : Prop := is S h 3 ∧ mO S 192 h = some r ∧ isA S r 11 20 ∧ mO S 193 h = some q ∧ isA S q 11 20
theorem nLine_lineAt {S : Mem} {h r q : Nat} (hh : is S h 3) (n1 : r ∉ mL S) (n2 : q ∉ mL S) (n3 : q ≠ r) : lineAt (nLine S h r q) h r q :=
  ⟨(nLine_at hh n1 n2 n3).1, by simp [nLine, mO_sFill, mO_sO, mO_sArr], (nLine_at hh n1 n2 n3).2.1, by simp [nLine, mO_sFill, mO_sO], (nLine_at hh n1 n2 n3).2.2⟩
theorem lineAt_ext {S S' : Mem} {X : Nat → Prop} {h r q : Nat} (e : ext S S' X) (hx : ¬ X h) (l : lineAt S h r q) : lineAt S' h r q :=
  ⟨is_ext e l.1, by rw [(e.2 h l.1.1 hx).2.1]; exact l.2.1, isA_ext e l.2.2.1, by rw [(e.2 h l.1.1 hx).2.1]; exact l.2.2.2.1, isA_ext e l.2.2.2.2⟩
