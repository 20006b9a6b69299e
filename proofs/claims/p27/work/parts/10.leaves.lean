theorem cat_ok (o : Option Nat) : ((va_rf o).category == 1) = true := by rw [cat_rf]; rfl
theorem v_topq {p : Program} {l : Launch} {e : Env} {R : Room} {s : State} {m : MethodId} {args : Array Value} {below : List Frame} {meth : Method} {c : Code} {D : va_G} {G : Nat → ClassId} {bs nL : Nat} {Q : State → Prop} {cells slots : Nat} {S : Mem} {pc k : Nat} {lv : List (Option Value)} {st : List Value} {o : Option Nat} (h : nOK S k o) (kk : ∀ o', nOK S k o' → V p l e R s m args below meth c D G bs nL Q cells slots S pc lv (va_rf o' :: st)) : V p l e R s m args below meth c D G bs nL Q cells slots S pc lv (va_rf o :: st) := kk o h
theorem V.drop {p : Program} {l : Launch} {e : Env} {R : Room} {s : State} {m : MethodId} {args : Array Value} {below : List Frame} {meth : Method} {c : Code} {D : va_G} {G : Nat → ClassId} {bs nL : Nat} {Q : State → Prop} {cells slots : Nat} {S : Mem} {pc : Nat} {lv : List (Option Value)} {st : List Value} (j : Nat) (kk : V p l e R s m args below meth c D G bs nL Q cells slots S pc (lv.set j none) st) : V p l e R s m args below meth c D G bs nL Q cells slots S pc lv st := by
  intro H locs ls h1 h2 h3 h4
  refine kk H locs ls h1 h2 h3 ⟨h4.1, h4.2.1, fun q hq => h4.2.2 q ?_⟩
  obtain ⟨i, e1, hi⟩ := lvl_of _ _ _ hq
  obtain ⟨q1, q2⟩ := q
  simp only [Nat.zero_add] at e1
  subst e1
  by_cases hji : q1 = j
  · subst hji
    have hlt : q1 < lv.length := by
      have := (List.getElem?_eq_some_iff.mp hi).1
      simpa using this
    rw [List.getElem?_set_self hlt] at hi
    cases hi
  · rw [List.getElem?_set_ne (Ne.symm hji)] at hi
    exact lvl_mem0 hi
theorem bI_nar (x : Bool) : narrow .boolean (.int (bI x)) = .int (bI x) := by cases x <;> rfl
theorem xk_is {M : Nat → Prop} {E : List Nat} {S S1 : Mem} {X : Nat → Prop} {Ks : List Nat} {b k : Nat} (e : ext S S1 X) (i : is S1 b k) (iv : INV M E S1) (hk : k < 10 ∨ 13 < k) (hm : k ∈ Ks) : ∀ a, a ∈ mL S → a = b → ¬ M a ∧ mK S a ∈ Ks := fun a ha z => by
  subst z
  exact ⟨inv_nM iv i hk, by rw [← (e.1 a ha).2.1, i.2]; exact hm⟩
theorem xk_P {M : Nat → Prop} {E : List Nat} {S S1 : Mem} {X : Nat → Prop} {Ks : List Nat} {b k n : Nat} (e : ext S S1 X) (i : isA S1 b k n) (iv : INV M E S1) (hk : k < 10 ∨ 13 < k) (hm : k ∈ Ks) : ∀ a, a ∈ mL S → a = b → ¬ M a ∧ mK S a ∈ Ks := xk_is e ⟨i.1, i.2.1⟩ iv hk hm
theorem xk_A {M : Nat → Prop} {S S1 : Mem} {X : Nat → Prop} {Ks : List Nat} {b k n : Nat} (e : ext S S1 X) (i : isA S1 b k n) (nm : ¬ M b) (hm : k ∈ Ks) : ∀ a, a ∈ mL S → a = b → ¬ M a ∧ mK S a ∈ Ks := fun a ha z => by
  subst z
  exact ⟨nm, by rw [← (e.1 a ha).2.1, i.2.1]; exact hm⟩
theorem xk_call {M : Nat → Prop} {S S1 : Mem} {X : Nat → Prop} {Ks Ks' : List Nat} (e : ext S S1 X) (hs : ∀ k ∈ Ks', k ∈ Ks) : ∀ a, a ∈ mL S → (¬ M a ∧ mK S1 a ∈ Ks') → ¬ M a ∧ mK S a ∈ Ks := fun a ha z => ⟨z.1, hs _ (by rw [← (e.1 a ha).2.1]; exact z.2)⟩
theorem ct_mono {l : Launch} {y : MethodName} {cc : ByteArray} {maxL : Nat} {ret : Option FieldType} {f mc ms lo : Nat} {Pre : Mem → List Value → Prop} {Post Post' : Mem → List Value → Option Value → Mem → Prop} (h : Ct l y cc maxL ret f mc ms lo Pre Post) (hp : ∀ S av r S', Post S av r S' → Post' S av r S') : Ct l y cc maxL ret f mc ms lo Pre Post' := fun D G bs S av hpre p e ha hc hk s m args below hf h1 h2 h3 => by
  obtain ⟨t, o, g1, g2, g3, ⟨⟨r, S', e1, e2, e3⟩, e4⟩, g5⟩ := h D G bs S av hpre p e ha hc hk s m args below hf h1 h2 h3
  exact ⟨t, o, g1, g2, g3, ⟨⟨r, S', e1, hp _ _ _ _ e2, e3⟩, e4⟩, g5⟩
theorem sb_isBelow (l : Launch) (a b : Int32) : Ct l yX9_isBelow cX9_isBelow 2 (some .boolean) 0 0 0 0 (fun _ av => av = [.int a, .int b]) (fun S _ r S' => ∃ v, r = some (.int (bI v)) ∧ v = isB a b ∧ S' = S) := ct_mono (ct_X9_isBelow l a b) (fun _ _ _ _ h => ⟨_, h.1, rfl, h.2⟩)
theorem sb_isAct (l : Launch) (a : Int32) : Ct l yX9_isAct cX9_isAct 1 (some .boolean) 1 0 0 21 (fun _ av => av = [.int a]) (fun S _ r S' => ∃ v, r = some (.int (bI v)) ∧ v = isB a 12 ∧ S' = S) := ct_mono (ct_X9_isAct l a) (fun _ _ _ _ h => ⟨_, h.1, rfl, h.2⟩)
theorem bI_ne {x : Bool} {i b : Int32} {n : Nat} (p : x = isB i b) (h : ¬ bI x = 0) (hb : b.toInt = n) : vp_in i n := isB_in (by rw [← p]; exact h) hb
theorem dX5_kindAt_0 : decode cX5_kindAt 0 = .ok (.iload_n 1, 1) := by decide +kernel
theorem dX5_kindAt_1 : decode cX5_kindAt 1 = .ok (.bipush 8, 2) := by decide +kernel
theorem dX5_kindAt_3 : decode cX5_kindAt 3 = .ok (.invokestatic 41, 3) := by decide +kernel
theorem dX5_kindAt_6 : decode cX5_kindAt 6 = .ok (.ifCond .eq 12, 3) := by decide +kernel
theorem dX5_kindAt_9 : decode cX5_kindAt 9 = .ok (.aload_n 0, 1) := by decide +kernel
theorem dX5_kindAt_10 : decode cX5_kindAt 10 = .ok (.getfield 9, 3) := by decide +kernel
theorem dX5_kindAt_13 : decode cX5_kindAt 13 = .ok (.iload_n 1, 1) := by decide +kernel
theorem dX5_kindAt_14 : decode cX5_kindAt 14 = .ok (.iaload, 1) := by decide +kernel
theorem dX5_kindAt_15 : decode cX5_kindAt 15 = .ok (.goto 4, 3) := by decide +kernel
theorem dX5_kindAt_18 : decode cX5_kindAt 18 = .ok (.iconst (-1), 1) := by decide +kernel
theorem dX5_kindAt_19 : decode cX5_kindAt 19 = .ok (.ireturn, 1) := by decide +kernel
set_option maxRecDepth 100000 in
set_option maxHeartbeats 4000000 in
theorem st_X5_kindAt (l : Launch) (M : Nat → Prop) (h : Nat) (p0 : Int32) : Ct l yX5_kindAt cX5_kindAt 2 (some .int) 1 0 0 21 (fun S av => av = [.ref h, .int p0] ∧ INV M [] S ∧ is S h 5) (fun S _ r S' => ∃ v, r = some (.int v) ∧ S' = S) := by
  refine ct_of (by decide) (fun S av h => by obtain ⟨rfl, iv, i_this⟩ := h; exact Nat.le_of_ble_eq_true rfl) ?_
  intro p e s m args below meth c D G bs S av C hr hin hpre
  obtain ⟨rfl, iv, i_this⟩ := hpre
  refine v_iload_n C dX5_kindAt_0 rfl ?_
  refine v_bipush (v := 8) C dX5_kindAt_1 (by decide) ?_
  refine v_callSN (As := [_, _]) (n := 2) C (sb_isBelow l _ _) rfl ⟨(by decide +kernel), wd141, wd2, wd142⟩ hy_X9_isBelow rfl ⟨Nat.le_of_ble_eq_true rfl, Nat.le_of_ble_eq_true rfl⟩ (Nat.le_of_ble_eq_true rfl) ⟨Nat.le_of_ble_eq_true rfl, Nat.le_of_ble_eq_true rfl⟩ dX5_kindAt_3 rfl (fun r_3 S2_3 h_3 => ?_)
  obtain ⟨v3, rfl, p_v3, q_v3⟩ := h_3
  obtain rfl := q_v3.symm
  refine v_if_eq (tgt := 18) C dX5_kindAt_6 (by decide) (fun c_6 => ?_) (fun c_6 => ?_)
  · skip
    refine v_iconst (v := -1) C dX5_kindAt_18 (by decide) ?_
    refine v_iret C hr (Nat.le_of_ble_eq_true rfl) (Nat.le_of_ble_eq_true rfl) dX5_kindAt_19 ?_
    exact ⟨_, rfl, rfl⟩
  · skip
    refine v_aload_n C dX5_kindAt_9 rfl ?_
    obtain ⟨r10, e_r10, i_r10, m_r10⟩ := T325 iv i_this List.not_mem_nil
    refine r5_9 (b := r10) C i_this e_r10 dX5_kindAt_10 ?_
    refine v_iload_n C dX5_kindAt_13 rfl ?_
    refine v_iald C i_r10 (bI_ne p_v3 c_6 rfl) dX5_kindAt_14 ?_
    refine v_topi (fun v14 e_v14 => ?_)
    refine v_goto (tgt := 19) C dX5_kindAt_15 (by decide) ?_
    refine v_iret C hr (Nat.le_of_ble_eq_true rfl) (Nat.le_of_ble_eq_true rfl) dX5_kindAt_19 ?_
    exact ⟨_, rfl, rfl⟩
theorem dX5_firstAt_0 : decode cX5_firstAt 0 = .ok (.iload_n 1, 1) := by decide +kernel
theorem dX5_firstAt_1 : decode cX5_firstAt 1 = .ok (.bipush 8, 2) := by decide +kernel
theorem dX5_firstAt_3 : decode cX5_firstAt 3 = .ok (.invokestatic 41, 3) := by decide +kernel
theorem dX5_firstAt_6 : decode cX5_firstAt 6 = .ok (.ifCond .eq 12, 3) := by decide +kernel
theorem dX5_firstAt_9 : decode cX5_firstAt 9 = .ok (.aload_n 0, 1) := by decide +kernel
theorem dX5_firstAt_10 : decode cX5_firstAt 10 = .ok (.getfield 15, 3) := by decide +kernel
theorem dX5_firstAt_13 : decode cX5_firstAt 13 = .ok (.iload_n 1, 1) := by decide +kernel
theorem dX5_firstAt_14 : decode cX5_firstAt 14 = .ok (.iaload, 1) := by decide +kernel
theorem dX5_firstAt_15 : decode cX5_firstAt 15 = .ok (.goto 4, 3) := by decide +kernel
theorem dX5_firstAt_18 : decode cX5_firstAt 18 = .ok (.iconst (-1), 1) := by decide +kernel
theorem dX5_firstAt_19 : decode cX5_firstAt 19 = .ok (.ireturn, 1) := by decide +kernel
set_option maxRecDepth 100000 in
set_option maxHeartbeats 4000000 in
theorem st_X5_firstAt (l : Launch) (M : Nat → Prop) (h : Nat) (p0 : Int32) : Ct l yX5_firstAt cX5_firstAt 2 (some .int) 1 0 0 21 (fun S av => av = [.ref h, .int p0] ∧ INV M [] S ∧ is S h 5) (fun S _ r S' => ∃ v, r = some (.int v) ∧ S' = S) := by
  refine ct_of (by decide) (fun S av h => by obtain ⟨rfl, iv, i_this⟩ := h; exact Nat.le_of_ble_eq_true rfl) ?_
  intro p e s m args below meth c D G bs S av C hr hin hpre
  obtain ⟨rfl, iv, i_this⟩ := hpre
  refine v_iload_n C dX5_firstAt_0 rfl ?_
  refine v_bipush (v := 8) C dX5_firstAt_1 (by decide) ?_
  refine v_callSN (As := [_, _]) (n := 2) C (sb_isBelow l _ _) rfl ⟨(by decide +kernel), wd141, wd2, wd142⟩ hy_X9_isBelow rfl ⟨Nat.le_of_ble_eq_true rfl, Nat.le_of_ble_eq_true rfl⟩ (Nat.le_of_ble_eq_true rfl) ⟨Nat.le_of_ble_eq_true rfl, Nat.le_of_ble_eq_true rfl⟩ dX5_firstAt_3 rfl (fun r_3 S2_3 h_3 => ?_)
  obtain ⟨v3, rfl, p_v3, q_v3⟩ := h_3
  obtain rfl := q_v3.symm
  refine v_if_eq (tgt := 18) C dX5_firstAt_6 (by decide) (fun c_6 => ?_) (fun c_6 => ?_)
  · skip
    refine v_iconst (v := -1) C dX5_firstAt_18 (by decide) ?_
    refine v_iret C hr (Nat.le_of_ble_eq_true rfl) (Nat.le_of_ble_eq_true rfl) dX5_firstAt_19 ?_
    exact ⟨_, rfl, rfl⟩
  · skip
    refine v_aload_n C dX5_firstAt_9 rfl ?_
    obtain ⟨r10, e_r10, i_r10, m_r10⟩ := T326 iv i_this List.not_mem_nil
    refine r5_15 (b := r10) C i_this e_r10 dX5_firstAt_10 ?_
    refine v_iload_n C dX5_firstAt_13 rfl ?_
    refine v_iald C i_r10 (bI_ne p_v3 c_6 rfl) dX5_firstAt_14 ?_
    refine v_topi (fun v14 e_v14 => ?_)
    refine v_goto (tgt := 19) C dX5_firstAt_15 (by decide) ?_
    refine v_iret C hr (Nat.le_of_ble_eq_true rfl) (Nat.le_of_ble_eq_true rfl) dX5_firstAt_19 ?_
    exact ⟨_, rfl, rfl⟩
theorem dX5_secondAt_0 : decode cX5_secondAt 0 = .ok (.iload_n 1, 1) := by decide +kernel
theorem dX5_secondAt_1 : decode cX5_secondAt 1 = .ok (.bipush 8, 2) := by decide +kernel
theorem dX5_secondAt_3 : decode cX5_secondAt 3 = .ok (.invokestatic 41, 3) := by decide +kernel
theorem dX5_secondAt_6 : decode cX5_secondAt 6 = .ok (.ifCond .eq 12, 3) := by decide +kernel
theorem dX5_secondAt_9 : decode cX5_secondAt 9 = .ok (.aload_n 0, 1) := by decide +kernel
theorem dX5_secondAt_10 : decode cX5_secondAt 10 = .ok (.getfield 18, 3) := by decide +kernel
theorem dX5_secondAt_13 : decode cX5_secondAt 13 = .ok (.iload_n 1, 1) := by decide +kernel
theorem dX5_secondAt_14 : decode cX5_secondAt 14 = .ok (.iaload, 1) := by decide +kernel
theorem dX5_secondAt_15 : decode cX5_secondAt 15 = .ok (.goto 4, 3) := by decide +kernel
theorem dX5_secondAt_18 : decode cX5_secondAt 18 = .ok (.iconst (-1), 1) := by decide +kernel
theorem dX5_secondAt_19 : decode cX5_secondAt 19 = .ok (.ireturn, 1) := by decide +kernel
set_option maxRecDepth 100000 in
set_option maxHeartbeats 4000000 in
theorem st_X5_secondAt (l : Launch) (M : Nat → Prop) (h : Nat) (p0 : Int32) : Ct l yX5_secondAt cX5_secondAt 2 (some .int) 1 0 0 21 (fun S av => av = [.ref h, .int p0] ∧ INV M [] S ∧ is S h 5) (fun S _ r S' => ∃ v, r = some (.int v) ∧ S' = S) := by
  refine ct_of (by decide) (fun S av h => by obtain ⟨rfl, iv, i_this⟩ := h; exact Nat.le_of_ble_eq_true rfl) ?_
  intro p e s m args below meth c D G bs S av C hr hin hpre
  obtain ⟨rfl, iv, i_this⟩ := hpre
  refine v_iload_n C dX5_secondAt_0 rfl ?_
  refine v_bipush (v := 8) C dX5_secondAt_1 (by decide) ?_
  refine v_callSN (As := [_, _]) (n := 2) C (sb_isBelow l _ _) rfl ⟨(by decide +kernel), wd141, wd2, wd142⟩ hy_X9_isBelow rfl ⟨Nat.le_of_ble_eq_true rfl, Nat.le_of_ble_eq_true rfl⟩ (Nat.le_of_ble_eq_true rfl) ⟨Nat.le_of_ble_eq_true rfl, Nat.le_of_ble_eq_true rfl⟩ dX5_secondAt_3 rfl (fun r_3 S2_3 h_3 => ?_)
  obtain ⟨v3, rfl, p_v3, q_v3⟩ := h_3
  obtain rfl := q_v3.symm
  refine v_if_eq (tgt := 18) C dX5_secondAt_6 (by decide) (fun c_6 => ?_) (fun c_6 => ?_)
  · skip
    refine v_iconst (v := -1) C dX5_secondAt_18 (by decide) ?_
    refine v_iret C hr (Nat.le_of_ble_eq_true rfl) (Nat.le_of_ble_eq_true rfl) dX5_secondAt_19 ?_
    exact ⟨_, rfl, rfl⟩
  · skip
    refine v_aload_n C dX5_secondAt_9 rfl ?_
    obtain ⟨r10, e_r10, i_r10, m_r10⟩ := T327 iv i_this List.not_mem_nil
    refine r5_18 (b := r10) C i_this e_r10 dX5_secondAt_10 ?_
    refine v_iload_n C dX5_secondAt_13 rfl ?_
    refine v_iald C i_r10 (bI_ne p_v3 c_6 rfl) dX5_secondAt_14 ?_
    refine v_topi (fun v14 e_v14 => ?_)
    refine v_goto (tgt := 19) C dX5_secondAt_15 (by decide) ?_
    refine v_iret C hr (Nat.le_of_ble_eq_true rfl) (Nat.le_of_ble_eq_true rfl) dX5_secondAt_19 ?_
    exact ⟨_, rfl, rfl⟩
theorem dX3_placeOf_0 : decode cX3_placeOf 0 = .ok (.iload_n 1, 1) := by decide +kernel
theorem dX3_placeOf_1 : decode cX3_placeOf 1 = .ok (.bipush 20, 2) := by decide +kernel
theorem dX3_placeOf_3 : decode cX3_placeOf 3 = .ok (.invokestatic 28, 3) := by decide +kernel
theorem dX3_placeOf_6 : decode cX3_placeOf 6 = .ok (.ifCond .eq 12, 3) := by decide +kernel
theorem dX3_placeOf_9 : decode cX3_placeOf 9 = .ok (.aload_n 0, 1) := by decide +kernel
theorem dX3_placeOf_10 : decode cX3_placeOf 10 = .ok (.getfield 15, 3) := by decide +kernel
theorem dX3_placeOf_13 : decode cX3_placeOf 13 = .ok (.iload_n 1, 1) := by decide +kernel
theorem dX3_placeOf_14 : decode cX3_placeOf 14 = .ok (.iaload, 1) := by decide +kernel
theorem dX3_placeOf_15 : decode cX3_placeOf 15 = .ok (.goto 4, 3) := by decide +kernel
theorem dX3_placeOf_18 : decode cX3_placeOf 18 = .ok (.iconst (-1), 1) := by decide +kernel
theorem dX3_placeOf_19 : decode cX3_placeOf 19 = .ok (.ireturn, 1) := by decide +kernel
set_option maxRecDepth 100000 in
set_option maxHeartbeats 4000000 in
theorem st_X3_placeOf (l : Launch) (M : Nat → Prop) (h : Nat) (p0 : Int32) : Ct l yX3_placeOf cX3_placeOf 2 (some .int) 1 0 0 21 (fun S av => av = [.ref h, .int p0] ∧ INV M [] S ∧ is S h 3) (fun S _ r S' => ∃ v, r = some (.int v) ∧ S' = S) := by
  refine ct_of (by decide) (fun S av h => by obtain ⟨rfl, iv, i_this⟩ := h; exact Nat.le_of_ble_eq_true rfl) ?_
  intro p e s m args below meth c D G bs S av C hr hin hpre
  obtain ⟨rfl, iv, i_this⟩ := hpre
  refine v_iload_n C dX3_placeOf_0 rfl ?_
  refine v_bipush (v := 20) C dX3_placeOf_1 (by decide) ?_
  refine v_callSN (As := [_, _]) (n := 2) C (sb_isBelow l _ _) rfl ⟨(by decide +kernel), wd141, wd2, wd142⟩ hy_X9_isBelow rfl ⟨Nat.le_of_ble_eq_true rfl, Nat.le_of_ble_eq_true rfl⟩ (Nat.le_of_ble_eq_true rfl) ⟨Nat.le_of_ble_eq_true rfl, Nat.le_of_ble_eq_true rfl⟩ dX3_placeOf_3 rfl (fun r_3 S2_3 h_3 => ?_)
  obtain ⟨v3, rfl, p_v3, q_v3⟩ := h_3
  obtain rfl := q_v3.symm
  refine v_if_eq (tgt := 18) C dX3_placeOf_6 (by decide) (fun c_6 => ?_) (fun c_6 => ?_)
  · skip
    refine v_iconst (v := -1) C dX3_placeOf_18 (by decide) ?_
    refine v_iret C hr (Nat.le_of_ble_eq_true rfl) (Nat.le_of_ble_eq_true rfl) dX3_placeOf_19 ?_
    exact ⟨_, rfl, rfl⟩
  · skip
    refine v_aload_n C dX3_placeOf_9 rfl ?_
    obtain ⟨r10, e_r10, i_r10, m_r10⟩ := T193 iv i_this List.not_mem_nil
    refine r3_15 (b := r10) C i_this e_r10 dX3_placeOf_10 ?_
    refine v_iload_n C dX3_placeOf_13 rfl ?_
    refine v_iald C i_r10 (bI_ne p_v3 c_6 rfl) dX3_placeOf_14 ?_
    refine v_topi (fun v14 e_v14 => ?_)
    refine v_goto (tgt := 19) C dX3_placeOf_15 (by decide) ?_
    refine v_iret C hr (Nat.le_of_ble_eq_true rfl) (Nat.le_of_ble_eq_true rfl) dX3_placeOf_19 ?_
    exact ⟨_, rfl, rfl⟩
theorem dX8_bodyFor_0 : decode cX8_bodyFor 0 = .ok (.iload_n 1, 1) := by decide +kernel
theorem dX8_bodyFor_1 : decode cX8_bodyFor 1 = .ok (.bipush 12, 2) := by decide +kernel
theorem dX8_bodyFor_3 : decode cX8_bodyFor 3 = .ok (.invokestatic 27, 3) := by decide +kernel
theorem dX8_bodyFor_6 : decode cX8_bodyFor 6 = .ok (.ifCond .eq 12, 3) := by decide +kernel
theorem dX8_bodyFor_9 : decode cX8_bodyFor 9 = .ok (.aload_n 0, 1) := by decide +kernel
theorem dX8_bodyFor_10 : decode cX8_bodyFor 10 = .ok (.getfield 20, 3) := by decide +kernel
theorem dX8_bodyFor_13 : decode cX8_bodyFor 13 = .ok (.iload_n 1, 1) := by decide +kernel
theorem dX8_bodyFor_14 : decode cX8_bodyFor 14 = .ok (.aaload, 1) := by decide +kernel
theorem dX8_bodyFor_15 : decode cX8_bodyFor 15 = .ok (.goto 4, 3) := by decide +kernel
theorem dX8_bodyFor_18 : decode cX8_bodyFor 18 = .ok (.aconst_null, 1) := by decide +kernel
theorem dX8_bodyFor_19 : decode cX8_bodyFor 19 = .ok (.areturn, 1) := by decide +kernel
set_option maxRecDepth 100000 in
set_option maxHeartbeats 4000000 in
theorem st_X8_bodyFor (l : Launch) (M : Nat → Prop) (h : Nat) (p0 : Int32) : Ct l yX8_bodyFor cX8_bodyFor 2 (some (.object "PuppetCast$Part")) 1 0 0 21 (fun S av => av = [.ref h, .int p0] ∧ INV M [] S ∧ is S h 8) (fun S _ r S' => ∃ v, r = some (va_rf v) ∧ nOK S' 5 v ∧ S' = S) := by
  refine ct_of (by decide) (fun S av h => by obtain ⟨rfl, iv, i_this⟩ := h; exact Nat.le_of_ble_eq_true rfl) ?_
  intro p e s m args below meth c D G bs S av C hr hin hpre
  obtain ⟨rfl, iv, i_this⟩ := hpre
  refine v_iload_n C dX8_bodyFor_0 rfl ?_
  refine v_bipush (v := 12) C dX8_bodyFor_1 (by decide) ?_
  refine v_callSN (As := [_, _]) (n := 2) C (sb_isBelow l _ _) rfl ⟨(by decide +kernel), wd141, wd2, wd142⟩ hy_X9_isBelow rfl ⟨Nat.le_of_ble_eq_true rfl, Nat.le_of_ble_eq_true rfl⟩ (Nat.le_of_ble_eq_true rfl) ⟨Nat.le_of_ble_eq_true rfl, Nat.le_of_ble_eq_true rfl⟩ dX8_bodyFor_3 rfl (fun r_3 S2_3 h_3 => ?_)
  obtain ⟨v3, rfl, p_v3, q_v3⟩ := h_3
  obtain rfl := q_v3.symm
  refine v_if_eq (tgt := 18) C dX8_bodyFor_6 (by decide) (fun c_6 => ?_) (fun c_6 => ?_)
  · skip
    refine v_null C dX8_bodyFor_18 ?_
    refine v_aret C hr (Nat.le_of_ble_eq_true rfl) (Nat.le_of_ble_eq_true rfl) dX8_bodyFor_19 ?_
    exact ⟨_, rfl, nOK_none, rfl⟩
  · skip
    refine v_aload_n C dX8_bodyFor_9 rfl ?_
    obtain ⟨r10, e_r10, i_r10, m_r10⟩ := T513 iv i_this List.not_mem_nil
    refine r8_20 (b := r10) C i_this e_r10 dX8_bodyFor_10 ?_
    refine v_iload_n C dX8_bodyFor_13 rfl ?_
    have n_o14 := inv_el (k := 5) iv i_r10 (by decide)
    refine v_aald (t0 := 5) C i_r10 (by decide) rfl (bI_ne p_v3 c_6 rfl) dX8_bodyFor_14 ?_
    refine v_topq (n_o14 _) (fun o14 n_o14 => ?_)
    refine v_goto (tgt := 19) C dX8_bodyFor_15 (by decide) ?_
    refine v_aret C hr (Nat.le_of_ble_eq_true rfl) (Nat.le_of_ble_eq_true rfl) dX8_bodyFor_19 ?_
    exact ⟨_, rfl, n_o14, rfl⟩
theorem dX8_guardFor_0 : decode cX8_guardFor 0 = .ok (.iload_n 1, 1) := by decide +kernel
theorem dX8_guardFor_1 : decode cX8_guardFor 1 = .ok (.bipush 12, 2) := by decide +kernel
theorem dX8_guardFor_3 : decode cX8_guardFor 3 = .ok (.invokestatic 27, 3) := by decide +kernel
theorem dX8_guardFor_6 : decode cX8_guardFor 6 = .ok (.ifCond .eq 12, 3) := by decide +kernel
theorem dX8_guardFor_9 : decode cX8_guardFor 9 = .ok (.aload_n 0, 1) := by decide +kernel
theorem dX8_guardFor_10 : decode cX8_guardFor 10 = .ok (.getfield 24, 3) := by decide +kernel
theorem dX8_guardFor_13 : decode cX8_guardFor 13 = .ok (.iload_n 1, 1) := by decide +kernel
theorem dX8_guardFor_14 : decode cX8_guardFor 14 = .ok (.aaload, 1) := by decide +kernel
theorem dX8_guardFor_15 : decode cX8_guardFor 15 = .ok (.goto 4, 3) := by decide +kernel
theorem dX8_guardFor_18 : decode cX8_guardFor 18 = .ok (.aconst_null, 1) := by decide +kernel
theorem dX8_guardFor_19 : decode cX8_guardFor 19 = .ok (.areturn, 1) := by decide +kernel
set_option maxRecDepth 100000 in
set_option maxHeartbeats 4000000 in
theorem st_X8_guardFor (l : Launch) (M : Nat → Prop) (h : Nat) (p0 : Int32) : Ct l yX8_guardFor cX8_guardFor 2 (some (.object "PuppetCast$Part")) 1 0 0 21 (fun S av => av = [.ref h, .int p0] ∧ INV M [] S ∧ is S h 8) (fun S _ r S' => ∃ v, r = some (va_rf v) ∧ nOK S' 5 v ∧ S' = S) := by
  refine ct_of (by decide) (fun S av h => by obtain ⟨rfl, iv, i_this⟩ := h; exact Nat.le_of_ble_eq_true rfl) ?_
  intro p e s m args below meth c D G bs S av C hr hin hpre
  obtain ⟨rfl, iv, i_this⟩ := hpre
  refine v_iload_n C dX8_guardFor_0 rfl ?_
  refine v_bipush (v := 12) C dX8_guardFor_1 (by decide) ?_
  refine v_callSN (As := [_, _]) (n := 2) C (sb_isBelow l _ _) rfl ⟨(by decide +kernel), wd141, wd2, wd142⟩ hy_X9_isBelow rfl ⟨Nat.le_of_ble_eq_true rfl, Nat.le_of_ble_eq_true rfl⟩ (Nat.le_of_ble_eq_true rfl) ⟨Nat.le_of_ble_eq_true rfl, Nat.le_of_ble_eq_true rfl⟩ dX8_guardFor_3 rfl (fun r_3 S2_3 h_3 => ?_)
  obtain ⟨v3, rfl, p_v3, q_v3⟩ := h_3
  obtain rfl := q_v3.symm
  refine v_if_eq (tgt := 18) C dX8_guardFor_6 (by decide) (fun c_6 => ?_) (fun c_6 => ?_)
  · skip
    refine v_null C dX8_guardFor_18 ?_
    refine v_aret C hr (Nat.le_of_ble_eq_true rfl) (Nat.le_of_ble_eq_true rfl) dX8_guardFor_19 ?_
    exact ⟨_, rfl, nOK_none, rfl⟩
  · skip
    refine v_aload_n C dX8_guardFor_9 rfl ?_
    obtain ⟨r10, e_r10, i_r10, m_r10⟩ := T514 iv i_this List.not_mem_nil
    refine r8_24 (b := r10) C i_this e_r10 dX8_guardFor_10 ?_
    refine v_iload_n C dX8_guardFor_13 rfl ?_
    have n_o14 := inv_el (k := 5) iv i_r10 (by decide)
    refine v_aald (t0 := 5) C i_r10 (by decide) rfl (bI_ne p_v3 c_6 rfl) dX8_guardFor_14 ?_
    refine v_topq (n_o14 _) (fun o14 n_o14 => ?_)
    refine v_goto (tgt := 19) C dX8_guardFor_15 (by decide) ?_
    refine v_aret C hr (Nat.le_of_ble_eq_true rfl) (Nat.le_of_ble_eq_true rfl) dX8_guardFor_19 ?_
    exact ⟨_, rfl, n_o14, rfl⟩
theorem dX2_ownBody_0 : decode cX2_ownBody 0 = .ok (.iload_n 1, 1) := by decide +kernel
theorem dX2_ownBody_1 : decode cX2_ownBody 1 = .ok (.bipush 12, 2) := by decide +kernel
theorem dX2_ownBody_3 : decode cX2_ownBody 3 = .ok (.invokestatic 61, 3) := by decide +kernel
theorem dX2_ownBody_6 : decode cX2_ownBody 6 = .ok (.ifCond .eq 12, 3) := by decide +kernel
theorem dX2_ownBody_9 : decode cX2_ownBody 9 = .ok (.aload_n 0, 1) := by decide +kernel
theorem dX2_ownBody_10 : decode cX2_ownBody 10 = .ok (.getfield 24, 3) := by decide +kernel
theorem dX2_ownBody_13 : decode cX2_ownBody 13 = .ok (.iload_n 1, 1) := by decide +kernel
theorem dX2_ownBody_14 : decode cX2_ownBody 14 = .ok (.aaload, 1) := by decide +kernel
theorem dX2_ownBody_15 : decode cX2_ownBody 15 = .ok (.goto 4, 3) := by decide +kernel
theorem dX2_ownBody_18 : decode cX2_ownBody 18 = .ok (.aconst_null, 1) := by decide +kernel
theorem dX2_ownBody_19 : decode cX2_ownBody 19 = .ok (.areturn, 1) := by decide +kernel
set_option maxRecDepth 100000 in
set_option maxHeartbeats 4000000 in
theorem st_X2_ownBody (l : Launch) (M : Nat → Prop) (h : Nat) (p0 : Int32) : Ct l yX2_ownBody cX2_ownBody 2 (some (.object "PuppetCast$Part")) 1 0 0 21 (fun S av => av = [.ref h, .int p0] ∧ INV M [] S ∧ is S h 2) (fun S _ r S' => ∃ v, r = some (va_rf v) ∧ nOK S' 5 v ∧ S' = S) := by
  refine ct_of (by decide) (fun S av h => by obtain ⟨rfl, iv, i_this⟩ := h; exact Nat.le_of_ble_eq_true rfl) ?_
  intro p e s m args below meth c D G bs S av C hr hin hpre
  obtain ⟨rfl, iv, i_this⟩ := hpre
  refine v_iload_n C dX2_ownBody_0 rfl ?_
  refine v_bipush (v := 12) C dX2_ownBody_1 (by decide) ?_
  refine v_callSN (As := [_, _]) (n := 2) C (sb_isBelow l _ _) rfl ⟨(by decide +kernel), wd141, wd2, wd142⟩ hy_X9_isBelow rfl ⟨Nat.le_of_ble_eq_true rfl, Nat.le_of_ble_eq_true rfl⟩ (Nat.le_of_ble_eq_true rfl) ⟨Nat.le_of_ble_eq_true rfl, Nat.le_of_ble_eq_true rfl⟩ dX2_ownBody_3 rfl (fun r_3 S2_3 h_3 => ?_)
  obtain ⟨v3, rfl, p_v3, q_v3⟩ := h_3
  obtain rfl := q_v3.symm
  refine v_if_eq (tgt := 18) C dX2_ownBody_6 (by decide) (fun c_6 => ?_) (fun c_6 => ?_)
  · skip
    refine v_null C dX2_ownBody_18 ?_
    refine v_aret C hr (Nat.le_of_ble_eq_true rfl) (Nat.le_of_ble_eq_true rfl) dX2_ownBody_19 ?_
    exact ⟨_, rfl, nOK_none, rfl⟩
  · skip
    refine v_aload_n C dX2_ownBody_9 rfl ?_
    obtain ⟨r10, e_r10, i_r10, m_r10⟩ := T133 iv i_this List.not_mem_nil
    refine r2_24 (b := r10) C i_this e_r10 dX2_ownBody_10 ?_
    refine v_iload_n C dX2_ownBody_13 rfl ?_
    have n_o14 := inv_el (k := 5) iv i_r10 (by decide)
    refine v_aald (t0 := 5) C i_r10 (by decide) rfl (bI_ne p_v3 c_6 rfl) dX2_ownBody_14 ?_
    refine v_topq (n_o14 _) (fun o14 n_o14 => ?_)
    refine v_goto (tgt := 19) C dX2_ownBody_15 (by decide) ?_
    refine v_aret C hr (Nat.le_of_ble_eq_true rfl) (Nat.le_of_ble_eq_true rfl) dX2_ownBody_19 ?_
    exact ⟨_, rfl, n_o14, rfl⟩
theorem dX2_preferredFor_0 : decode cX2_preferredFor 0 = .ok (.iload_n 1, 1) := by decide +kernel
theorem dX2_preferredFor_1 : decode cX2_preferredFor 1 = .ok (.bipush 12, 2) := by decide +kernel
theorem dX2_preferredFor_3 : decode cX2_preferredFor 3 = .ok (.invokestatic 61, 3) := by decide +kernel
theorem dX2_preferredFor_6 : decode cX2_preferredFor 6 = .ok (.ifCond .eq 12, 3) := by decide +kernel
theorem dX2_preferredFor_9 : decode cX2_preferredFor 9 = .ok (.aload_n 0, 1) := by decide +kernel
theorem dX2_preferredFor_10 : decode cX2_preferredFor 10 = .ok (.getfield 38, 3) := by decide +kernel
theorem dX2_preferredFor_13 : decode cX2_preferredFor 13 = .ok (.iload_n 1, 1) := by decide +kernel
theorem dX2_preferredFor_14 : decode cX2_preferredFor 14 = .ok (.iaload, 1) := by decide +kernel
theorem dX2_preferredFor_15 : decode cX2_preferredFor 15 = .ok (.goto 4, 3) := by decide +kernel
theorem dX2_preferredFor_18 : decode cX2_preferredFor 18 = .ok (.iconst (-1), 1) := by decide +kernel
theorem dX2_preferredFor_19 : decode cX2_preferredFor 19 = .ok (.ireturn, 1) := by decide +kernel
set_option maxRecDepth 100000 in
set_option maxHeartbeats 4000000 in
theorem st_X2_preferredFor (l : Launch) (M : Nat → Prop) (h : Nat) (p0 : Int32) : Ct l yX2_preferredFor cX2_preferredFor 2 (some .int) 1 0 0 21 (fun S av => av = [.ref h, .int p0] ∧ INV M [] S ∧ is S h 2) (fun S _ r S' => ∃ v, r = some (.int v) ∧ S' = S) := by
  refine ct_of (by decide) (fun S av h => by obtain ⟨rfl, iv, i_this⟩ := h; exact Nat.le_of_ble_eq_true rfl) ?_
  intro p e s m args below meth c D G bs S av C hr hin hpre
  obtain ⟨rfl, iv, i_this⟩ := hpre
  refine v_iload_n C dX2_preferredFor_0 rfl ?_
  refine v_bipush (v := 12) C dX2_preferredFor_1 (by decide) ?_
  refine v_callSN (As := [_, _]) (n := 2) C (sb_isBelow l _ _) rfl ⟨(by decide +kernel), wd141, wd2, wd142⟩ hy_X9_isBelow rfl ⟨Nat.le_of_ble_eq_true rfl, Nat.le_of_ble_eq_true rfl⟩ (Nat.le_of_ble_eq_true rfl) ⟨Nat.le_of_ble_eq_true rfl, Nat.le_of_ble_eq_true rfl⟩ dX2_preferredFor_3 rfl (fun r_3 S2_3 h_3 => ?_)
  obtain ⟨v3, rfl, p_v3, q_v3⟩ := h_3
  obtain rfl := q_v3.symm
  refine v_if_eq (tgt := 18) C dX2_preferredFor_6 (by decide) (fun c_6 => ?_) (fun c_6 => ?_)
  · skip
    refine v_iconst (v := -1) C dX2_preferredFor_18 (by decide) ?_
    refine v_iret C hr (Nat.le_of_ble_eq_true rfl) (Nat.le_of_ble_eq_true rfl) dX2_preferredFor_19 ?_
    exact ⟨_, rfl, rfl⟩
  · skip
    refine v_aload_n C dX2_preferredFor_9 rfl ?_
    obtain ⟨r10, e_r10, i_r10, m_r10⟩ := T139 iv i_this List.not_mem_nil
    refine r2_38 (b := r10) C i_this e_r10 dX2_preferredFor_10 ?_
    refine v_iload_n C dX2_preferredFor_13 rfl ?_
    refine v_iald C i_r10 (bI_ne p_v3 c_6 rfl) dX2_preferredFor_14 ?_
    refine v_topi (fun v14 e_v14 => ?_)
    refine v_goto (tgt := 19) C dX2_preferredFor_15 (by decide) ?_
    refine v_iret C hr (Nat.le_of_ble_eq_true rfl) (Nat.le_of_ble_eq_true rfl) dX2_preferredFor_19 ?_
    exact ⟨_, rfl, rfl⟩
theorem dX2_moodAt_0 : decode cX2_moodAt 0 = .ok (.iload_n 1, 1) := by decide +kernel
theorem dX2_moodAt_1 : decode cX2_moodAt 1 = .ok (.iconst 4, 1) := by decide +kernel
theorem dX2_moodAt_2 : decode cX2_moodAt 2 = .ok (.invokestatic 61, 3) := by decide +kernel
theorem dX2_moodAt_5 : decode cX2_moodAt 5 = .ok (.ifCond .eq 12, 3) := by decide +kernel
theorem dX2_moodAt_8 : decode cX2_moodAt 8 = .ok (.aload_n 0, 1) := by decide +kernel
theorem dX2_moodAt_9 : decode cX2_moodAt 9 = .ok (.getfield 41, 3) := by decide +kernel
theorem dX2_moodAt_12 : decode cX2_moodAt 12 = .ok (.iload_n 1, 1) := by decide +kernel
theorem dX2_moodAt_13 : decode cX2_moodAt 13 = .ok (.laload, 1) := by decide +kernel
theorem dX2_moodAt_14 : decode cX2_moodAt 14 = .ok (.goto 4, 3) := by decide +kernel
theorem dX2_moodAt_17 : decode cX2_moodAt 17 = .ok (.lconst 0, 1) := by decide +kernel
theorem dX2_moodAt_18 : decode cX2_moodAt 18 = .ok (.lreturn, 1) := by decide +kernel
set_option maxRecDepth 100000 in
set_option maxHeartbeats 4000000 in
theorem st_X2_moodAt (l : Launch) (M : Nat → Prop) (h : Nat) (p0 : Int32) : Ct l yX2_moodAt cX2_moodAt 2 (some .long) 1 0 0 21 (fun S av => av = [.ref h, .int p0] ∧ INV M [] S ∧ is S h 2) (fun S _ r S' => ∃ v, r = some (.long v) ∧ S' = S) := by
  refine ct_of (by decide) (fun S av h => by obtain ⟨rfl, iv, i_this⟩ := h; exact Nat.le_of_ble_eq_true rfl) ?_
  intro p e s m args below meth c D G bs S av C hr hin hpre
  obtain ⟨rfl, iv, i_this⟩ := hpre
  refine v_iload_n C dX2_moodAt_0 rfl ?_
  refine v_iconst (v := 4) C dX2_moodAt_1 (by decide) ?_
  refine v_callSN (As := [_, _]) (n := 2) C (sb_isBelow l _ _) rfl ⟨(by decide +kernel), wd141, wd2, wd142⟩ hy_X9_isBelow rfl ⟨Nat.le_of_ble_eq_true rfl, Nat.le_of_ble_eq_true rfl⟩ (Nat.le_of_ble_eq_true rfl) ⟨Nat.le_of_ble_eq_true rfl, Nat.le_of_ble_eq_true rfl⟩ dX2_moodAt_2 rfl (fun r_2 S2_2 h_2 => ?_)
  obtain ⟨v2, rfl, p_v2, q_v2⟩ := h_2
  obtain rfl := q_v2.symm
  refine v_if_eq (tgt := 17) C dX2_moodAt_5 (by decide) (fun c_5 => ?_) (fun c_5 => ?_)
  · skip
    refine v_lconst (v := 0) C dX2_moodAt_17 (by decide) ?_
    refine v_lret C hr (Nat.le_of_ble_eq_true rfl) (Nat.le_of_ble_eq_true rfl) dX2_moodAt_18 ?_
    exact ⟨_, rfl, rfl⟩
  · skip
    refine v_aload_n C dX2_moodAt_8 rfl ?_
    obtain ⟨r9, e_r9, i_r9, m_r9⟩ := T140 iv i_this List.not_mem_nil
    refine r2_41 (b := r9) C i_this e_r9 dX2_moodAt_9 ?_
    refine v_iload_n C dX2_moodAt_12 rfl ?_
    refine v_lald C i_r9 (bI_ne p_v2 c_5 rfl) dX2_moodAt_13 ?_
    refine v_goto (tgt := 18) C dX2_moodAt_14 (by decide) ?_
    refine v_lret C hr (Nat.le_of_ble_eq_true rfl) (Nat.le_of_ble_eq_true rfl) dX2_moodAt_18 ?_
    exact ⟨_, rfl, rfl⟩
set_option maxRecDepth 100000 in
set_option maxHeartbeats 4000000 in
theorem st_X1_traitAt (l : Launch) (M : Nat → Prop) (h : Nat) (p0 : Int32) : Ct l yX1_traitAt cX1_traitAt 2 (some (.object "PuppetCast$Trait")) 1 0 0 21 (fun S av => av = [.ref h, .int p0] ∧ INV M [] S ∧ is S h 1) (fun S _ r S' => ∃ v, r = some (va_rf v) ∧ nOK S' 8 v ∧ S' = S) := by
  refine ct_of (by decide) (fun S av h => by obtain ⟨rfl, iv, i_this⟩ := h; exact Nat.le_of_ble_eq_true rfl) ?_
  intro p e s m args below meth c D G bs S av C hr hin hpre
  obtain ⟨rfl, iv, i_this⟩ := hpre
  refine v_iload_n C dX1_traitAt_0 rfl ?_
  refine v_bipush (v := 20) C dX1_traitAt_1 (by decide) ?_
  refine v_callSN (As := [_, _]) (n := 2) C (sb_isBelow l _ _) rfl ⟨(by decide +kernel), wd141, wd2, wd142⟩ hy_X9_isBelow rfl ⟨Nat.le_of_ble_eq_true rfl, Nat.le_of_ble_eq_true rfl⟩ (Nat.le_of_ble_eq_true rfl) ⟨Nat.le_of_ble_eq_true rfl, Nat.le_of_ble_eq_true rfl⟩ dX1_traitAt_3 rfl (fun r_3 S2_3 h_3 => ?_)
  obtain ⟨v3, rfl, p_v3, q_v3⟩ := h_3
  obtain rfl := q_v3.symm
  refine v_if_eq (tgt := 18) C dX1_traitAt_6 (by decide) (fun c_6 => ?_) (fun c_6 => ?_)
  · skip
    refine v_null C dX1_traitAt_18 ?_
    refine v_aret C hr (Nat.le_of_ble_eq_true rfl) (Nat.le_of_ble_eq_true rfl) dX1_traitAt_19 ?_
    exact ⟨_, rfl, nOK_none, rfl⟩
  · skip
    refine v_aload_n C dX1_traitAt_9 rfl ?_
    obtain ⟨r10, e_r10, i_r10, m_r10⟩ := T64 iv i_this List.not_mem_nil
    refine r1_11 (b := r10) C i_this e_r10 dX1_traitAt_10 ?_
    refine v_iload_n C dX1_traitAt_13 rfl ?_
    have n_o14 := inv_el (k := 8) iv i_r10 (by decide)
    refine v_aald (t0 := 6) C i_r10 (by decide) rfl (bI_ne p_v3 c_6 rfl) dX1_traitAt_14 ?_
    refine v_topq (n_o14 _) (fun o14 n_o14 => ?_)
    refine v_goto (tgt := 19) C dX1_traitAt_15 (by decide) ?_
    refine v_aret C hr (Nat.le_of_ble_eq_true rfl) (Nat.le_of_ble_eq_true rfl) dX1_traitAt_19 ?_
    exact ⟨_, rfl, n_o14, rfl⟩
set_option maxRecDepth 100000 in
set_option maxHeartbeats 4000000 in
theorem st_X1_figureAt (l : Launch) (M : Nat → Prop) (h : Nat) (p0 : Int32) : Ct l yX1_figureAt cX1_figureAt 2 (some (.object "PuppetCast$Figure")) 1 0 0 21 (fun S av => av = [.ref h, .int p0] ∧ INV M [] S ∧ is S h 1) (fun S _ r S' => ∃ v, r = some (va_rf v) ∧ nOK S' 2 v ∧ S' = S) := by
  refine ct_of (by decide) (fun S av h => by obtain ⟨rfl, iv, i_this⟩ := h; exact Nat.le_of_ble_eq_true rfl) ?_
  intro p e s m args below meth c D G bs S av C hr hin hpre
  obtain ⟨rfl, iv, i_this⟩ := hpre
  refine v_iload_n C dX1_figureAt_0 rfl ?_
  refine v_bipush (v := 12) C dX1_figureAt_1 (by decide) ?_
  refine v_callSN (As := [_, _]) (n := 2) C (sb_isBelow l _ _) rfl ⟨(by decide +kernel), wd141, wd2, wd142⟩ hy_X9_isBelow rfl ⟨Nat.le_of_ble_eq_true rfl, Nat.le_of_ble_eq_true rfl⟩ (Nat.le_of_ble_eq_true rfl) ⟨Nat.le_of_ble_eq_true rfl, Nat.le_of_ble_eq_true rfl⟩ dX1_figureAt_3 rfl (fun r_3 S2_3 h_3 => ?_)
  obtain ⟨v3, rfl, p_v3, q_v3⟩ := h_3
  obtain rfl := q_v3.symm
  refine v_if_eq (tgt := 18) C dX1_figureAt_6 (by decide) (fun c_6 => ?_) (fun c_6 => ?_)
  · skip
    refine v_null C dX1_figureAt_18 ?_
    refine v_aret C hr (Nat.le_of_ble_eq_true rfl) (Nat.le_of_ble_eq_true rfl) dX1_figureAt_19 ?_
    exact ⟨_, rfl, nOK_none, rfl⟩
  · skip
    refine v_aload_n C dX1_figureAt_9 rfl ?_
    obtain ⟨r10, e_r10, i_r10, m_r10⟩ := T66 iv i_this List.not_mem_nil
    refine r1_19 (b := r10) C i_this e_r10 dX1_figureAt_10 ?_
    refine v_iload_n C dX1_figureAt_13 rfl ?_
    have n_o14 := inv_el (k := 2) iv i_r10 (by decide)
    refine v_aald (t0 := 3) C i_r10 (by decide) rfl (bI_ne p_v3 c_6 rfl) dX1_figureAt_14 ?_
    refine v_topq (n_o14 _) (fun o14 n_o14 => ?_)
    refine v_goto (tgt := 19) C dX1_figureAt_15 (by decide) ?_
    refine v_aret C hr (Nat.le_of_ble_eq_true rfl) (Nat.le_of_ble_eq_true rfl) dX1_figureAt_19 ?_
    exact ⟨_, rfl, n_o14, rfl⟩
theorem dX8_setBody_0 : decode cX8_setBody 0 = .ok (.iload_n 1, 1) := by decide +kernel
theorem dX8_setBody_1 : decode cX8_setBody 1 = .ok (.bipush 12, 2) := by decide +kernel
theorem dX8_setBody_3 : decode cX8_setBody 3 = .ok (.invokestatic 27, 3) := by decide +kernel
theorem dX8_setBody_6 : decode cX8_setBody 6 = .ok (.ifCond .eq 10, 3) := by decide +kernel
theorem dX8_setBody_9 : decode cX8_setBody 9 = .ok (.aload_n 0, 1) := by decide +kernel
theorem dX8_setBody_10 : decode cX8_setBody 10 = .ok (.getfield 20, 3) := by decide +kernel
theorem dX8_setBody_13 : decode cX8_setBody 13 = .ok (.iload_n 1, 1) := by decide +kernel
theorem dX8_setBody_14 : decode cX8_setBody 14 = .ok (.aload_n 2, 1) := by decide +kernel
theorem dX8_setBody_15 : decode cX8_setBody 15 = .ok (.aastore, 1) := by decide +kernel
theorem dX8_setBody_16 : decode cX8_setBody 16 = .ok (.return_, 1) := by decide +kernel
set_option maxRecDepth 100000 in
set_option maxHeartbeats 4000000 in
theorem st_X8_setBody (l : Launch) (M : Nat → Prop) (h : Nat) (p0 : Int32) (p1 : Nat) : Ct l yX8_setBody cX8_setBody 3 none 1 0 0 21 (fun S av => av = [.ref h, .int p0, .ref p1] ∧ INV M [] S ∧ is S h 8 ∧ is S p1 5) (fun S _ r S' => r = none ∧ INV M [] S' ∧ ext S S' (fun a => ¬ M a ∧ mK S a ∈ [16])) := by
  refine ct_of (by decide) (fun S av h => by obtain ⟨rfl, iv, i_this, i_p1⟩ := h; exact Nat.le_of_ble_eq_true rfl) ?_
  intro p e s m args below meth c D G bs S av C hr hin hpre
  obtain ⟨rfl, iv, i_this, i_p1⟩ := hpre
  have E0 : ext S S (fun a => ¬ M a ∧ mK S a ∈ [16]) := ext_rfl
  refine v_iload_n C dX8_setBody_0 rfl ?_
  refine v_bipush (v := 12) C dX8_setBody_1 (by decide) ?_
  refine v_callSN (As := [_, _]) (n := 2) C (sb_isBelow l _ _) rfl ⟨(by decide +kernel), wd141, wd2, wd142⟩ hy_X9_isBelow rfl ⟨Nat.le_of_ble_eq_true rfl, Nat.le_of_ble_eq_true rfl⟩ (Nat.le_of_ble_eq_true rfl) ⟨Nat.le_of_ble_eq_true rfl, Nat.le_of_ble_eq_true rfl⟩ dX8_setBody_3 rfl (fun r_3 S2_3 h_3 => ?_)
  obtain ⟨v3, rfl, p_v3, q_v3⟩ := h_3
  obtain rfl := q_v3.symm
  refine v_if_eq (tgt := 16) C dX8_setBody_6 (by decide) (fun c_6 => ?_) (fun c_6 => ?_)
  · skip
    refine v_vret C hr (Nat.le_of_ble_eq_true rfl) (Nat.le_of_ble_eq_true rfl) dX8_setBody_16 ?_
    exact ⟨rfl, iv, E0⟩
  · skip
    refine v_aload_n C dX8_setBody_9 rfl ?_
    obtain ⟨r10, e_r10, i_r10, m_r10⟩ := T513 iv i_this List.not_mem_nil
    refine r8_20 (b := r10) C i_this e_r10 dX8_setBody_10 ?_
    refine v_iload_n C dX8_setBody_13 rfl ?_
    refine v_aload_n C dX8_setBody_14 rfl ?_
    refine v_aast (t0 := 5) C i_r10 (by decide) i_p1 (by decide) rfl rfl (bI_ne p_v3 c_6 rfl) dX8_setBody_15 ?_
    refine V.gen (fun S4_15 e_15 => ?_)
    have iv' := inv_sP e_15 iv i_r10.2.1 (by decide) (nOK_is i_p1)
    have x_15 := x_sP e_15
    have E0' := ext_tr E0 x_15 (xk_P E0 i_r10 iv (by decide) (by decide))
    have E0 := E0'
    have i_this := is_ext x_15 i_this
    have i_p1 := is_ext x_15 i_p1
    have i_r10 := isA_ext x_15 i_r10
    have iv := iv'
    refine v_vret C hr (Nat.le_of_ble_eq_true rfl) (Nat.le_of_ble_eq_true rfl) dX8_setBody_16 ?_
    exact ⟨rfl, iv, E0⟩
theorem dX8_setGuard_0 : decode cX8_setGuard 0 = .ok (.iload_n 1, 1) := by decide +kernel
theorem dX8_setGuard_1 : decode cX8_setGuard 1 = .ok (.bipush 12, 2) := by decide +kernel
theorem dX8_setGuard_3 : decode cX8_setGuard 3 = .ok (.invokestatic 27, 3) := by decide +kernel
theorem dX8_setGuard_6 : decode cX8_setGuard 6 = .ok (.ifCond .eq 10, 3) := by decide +kernel
theorem dX8_setGuard_9 : decode cX8_setGuard 9 = .ok (.aload_n 0, 1) := by decide +kernel
theorem dX8_setGuard_10 : decode cX8_setGuard 10 = .ok (.getfield 24, 3) := by decide +kernel
theorem dX8_setGuard_13 : decode cX8_setGuard 13 = .ok (.iload_n 1, 1) := by decide +kernel
theorem dX8_setGuard_14 : decode cX8_setGuard 14 = .ok (.aload_n 2, 1) := by decide +kernel
theorem dX8_setGuard_15 : decode cX8_setGuard 15 = .ok (.aastore, 1) := by decide +kernel
theorem dX8_setGuard_16 : decode cX8_setGuard 16 = .ok (.return_, 1) := by decide +kernel
set_option maxRecDepth 100000 in
set_option maxHeartbeats 4000000 in
theorem st_X8_setGuard (l : Launch) (M : Nat → Prop) (h : Nat) (p0 : Int32) (p1 : Nat) : Ct l yX8_setGuard cX8_setGuard 3 none 1 0 0 21 (fun S av => av = [.ref h, .int p0, .ref p1] ∧ INV M [] S ∧ is S h 8 ∧ is S p1 5) (fun S _ r S' => r = none ∧ INV M [] S' ∧ ext S S' (fun a => ¬ M a ∧ mK S a ∈ [16])) := by
  refine ct_of (by decide) (fun S av h => by obtain ⟨rfl, iv, i_this, i_p1⟩ := h; exact Nat.le_of_ble_eq_true rfl) ?_
  intro p e s m args below meth c D G bs S av C hr hin hpre
  obtain ⟨rfl, iv, i_this, i_p1⟩ := hpre
  have E0 : ext S S (fun a => ¬ M a ∧ mK S a ∈ [16]) := ext_rfl
  refine v_iload_n C dX8_setGuard_0 rfl ?_
  refine v_bipush (v := 12) C dX8_setGuard_1 (by decide) ?_
  refine v_callSN (As := [_, _]) (n := 2) C (sb_isBelow l _ _) rfl ⟨(by decide +kernel), wd141, wd2, wd142⟩ hy_X9_isBelow rfl ⟨Nat.le_of_ble_eq_true rfl, Nat.le_of_ble_eq_true rfl⟩ (Nat.le_of_ble_eq_true rfl) ⟨Nat.le_of_ble_eq_true rfl, Nat.le_of_ble_eq_true rfl⟩ dX8_setGuard_3 rfl (fun r_3 S2_3 h_3 => ?_)
  obtain ⟨v3, rfl, p_v3, q_v3⟩ := h_3
  obtain rfl := q_v3.symm
  refine v_if_eq (tgt := 16) C dX8_setGuard_6 (by decide) (fun c_6 => ?_) (fun c_6 => ?_)
  · skip
    refine v_vret C hr (Nat.le_of_ble_eq_true rfl) (Nat.le_of_ble_eq_true rfl) dX8_setGuard_16 ?_
    exact ⟨rfl, iv, E0⟩
  · skip
    refine v_aload_n C dX8_setGuard_9 rfl ?_
    obtain ⟨r10, e_r10, i_r10, m_r10⟩ := T514 iv i_this List.not_mem_nil
    refine r8_24 (b := r10) C i_this e_r10 dX8_setGuard_10 ?_
    refine v_iload_n C dX8_setGuard_13 rfl ?_
    refine v_aload_n C dX8_setGuard_14 rfl ?_
    refine v_aast (t0 := 5) C i_r10 (by decide) i_p1 (by decide) rfl rfl (bI_ne p_v3 c_6 rfl) dX8_setGuard_15 ?_
    refine V.gen (fun S4_15 e_15 => ?_)
    have iv' := inv_sP e_15 iv i_r10.2.1 (by decide) (nOK_is i_p1)
    have x_15 := x_sP e_15
    have E0' := ext_tr E0 x_15 (xk_P E0 i_r10 iv (by decide) (by decide))
    have E0 := E0'
    have i_this := is_ext x_15 i_this
    have i_p1 := is_ext x_15 i_p1
    have i_r10 := isA_ext x_15 i_r10
    have iv := iv'
    refine v_vret C hr (Nat.le_of_ble_eq_true rfl) (Nat.le_of_ble_eq_true rfl) dX8_setGuard_16 ?_
    exact ⟨rfl, iv, E0⟩
theorem dX2_setOwnBody_0 : decode cX2_setOwnBody 0 = .ok (.iload_n 1, 1) := by decide +kernel
theorem dX2_setOwnBody_1 : decode cX2_setOwnBody 1 = .ok (.bipush 12, 2) := by decide +kernel
theorem dX2_setOwnBody_3 : decode cX2_setOwnBody 3 = .ok (.invokestatic 61, 3) := by decide +kernel
theorem dX2_setOwnBody_6 : decode cX2_setOwnBody 6 = .ok (.ifCond .eq 10, 3) := by decide +kernel
theorem dX2_setOwnBody_9 : decode cX2_setOwnBody 9 = .ok (.aload_n 0, 1) := by decide +kernel
theorem dX2_setOwnBody_10 : decode cX2_setOwnBody 10 = .ok (.getfield 24, 3) := by decide +kernel
theorem dX2_setOwnBody_13 : decode cX2_setOwnBody 13 = .ok (.iload_n 1, 1) := by decide +kernel
theorem dX2_setOwnBody_14 : decode cX2_setOwnBody 14 = .ok (.aload_n 2, 1) := by decide +kernel
theorem dX2_setOwnBody_15 : decode cX2_setOwnBody 15 = .ok (.aastore, 1) := by decide +kernel
theorem dX2_setOwnBody_16 : decode cX2_setOwnBody 16 = .ok (.return_, 1) := by decide +kernel
set_option maxRecDepth 100000 in
set_option maxHeartbeats 4000000 in
theorem st_X2_setOwnBody (l : Launch) (M : Nat → Prop) (h : Nat) (p0 : Int32) (p1 : Nat) : Ct l yX2_setOwnBody cX2_setOwnBody 3 none 1 0 0 21 (fun S av => av = [.ref h, .int p0, .ref p1] ∧ INV M [] S ∧ is S h 2 ∧ is S p1 5) (fun S _ r S' => r = none ∧ INV M [] S' ∧ ext S S' (fun a => ¬ M a ∧ mK S a ∈ [16])) := by
  refine ct_of (by decide) (fun S av h => by obtain ⟨rfl, iv, i_this, i_p1⟩ := h; exact Nat.le_of_ble_eq_true rfl) ?_
  intro p e s m args below meth c D G bs S av C hr hin hpre
  obtain ⟨rfl, iv, i_this, i_p1⟩ := hpre
  have E0 : ext S S (fun a => ¬ M a ∧ mK S a ∈ [16]) := ext_rfl
  refine v_iload_n C dX2_setOwnBody_0 rfl ?_
  refine v_bipush (v := 12) C dX2_setOwnBody_1 (by decide) ?_
  refine v_callSN (As := [_, _]) (n := 2) C (sb_isBelow l _ _) rfl ⟨(by decide +kernel), wd141, wd2, wd142⟩ hy_X9_isBelow rfl ⟨Nat.le_of_ble_eq_true rfl, Nat.le_of_ble_eq_true rfl⟩ (Nat.le_of_ble_eq_true rfl) ⟨Nat.le_of_ble_eq_true rfl, Nat.le_of_ble_eq_true rfl⟩ dX2_setOwnBody_3 rfl (fun r_3 S2_3 h_3 => ?_)
  obtain ⟨v3, rfl, p_v3, q_v3⟩ := h_3
  obtain rfl := q_v3.symm
  refine v_if_eq (tgt := 16) C dX2_setOwnBody_6 (by decide) (fun c_6 => ?_) (fun c_6 => ?_)
  · skip
    refine v_vret C hr (Nat.le_of_ble_eq_true rfl) (Nat.le_of_ble_eq_true rfl) dX2_setOwnBody_16 ?_
    exact ⟨rfl, iv, E0⟩
  · skip
    refine v_aload_n C dX2_setOwnBody_9 rfl ?_
    obtain ⟨r10, e_r10, i_r10, m_r10⟩ := T133 iv i_this List.not_mem_nil
    refine r2_24 (b := r10) C i_this e_r10 dX2_setOwnBody_10 ?_
    refine v_iload_n C dX2_setOwnBody_13 rfl ?_
    refine v_aload_n C dX2_setOwnBody_14 rfl ?_
    refine v_aast (t0 := 5) C i_r10 (by decide) i_p1 (by decide) rfl rfl (bI_ne p_v3 c_6 rfl) dX2_setOwnBody_15 ?_
    refine V.gen (fun S4_15 e_15 => ?_)
    have iv' := inv_sP e_15 iv i_r10.2.1 (by decide) (nOK_is i_p1)
    have x_15 := x_sP e_15
    have E0' := ext_tr E0 x_15 (xk_P E0 i_r10 iv (by decide) (by decide))
    have E0 := E0'
    have i_this := is_ext x_15 i_this
    have i_p1 := is_ext x_15 i_p1
    have i_r10 := isA_ext x_15 i_r10
    have iv := iv'
    refine v_vret C hr (Nat.le_of_ble_eq_true rfl) (Nat.le_of_ble_eq_true rfl) dX2_setOwnBody_16 ?_
    exact ⟨rfl, iv, E0⟩
theorem dX2_putMood_0 : decode cX2_putMood 0 = .ok (.iload_n 1, 1) := by decide +kernel
theorem dX2_putMood_1 : decode cX2_putMood 1 = .ok (.iconst 4, 1) := by decide +kernel
theorem dX2_putMood_2 : decode cX2_putMood 2 = .ok (.invokestatic 61, 3) := by decide +kernel
theorem dX2_putMood_5 : decode cX2_putMood 5 = .ok (.ifCond .eq 10, 3) := by decide +kernel
theorem dX2_putMood_8 : decode cX2_putMood 8 = .ok (.aload_n 0, 1) := by decide +kernel
theorem dX2_putMood_9 : decode cX2_putMood 9 = .ok (.getfield 41, 3) := by decide +kernel
theorem dX2_putMood_12 : decode cX2_putMood 12 = .ok (.iload_n 1, 1) := by decide +kernel
theorem dX2_putMood_13 : decode cX2_putMood 13 = .ok (.lload_n 2, 1) := by decide +kernel
theorem dX2_putMood_14 : decode cX2_putMood 14 = .ok (.lastore, 1) := by decide +kernel
theorem dX2_putMood_15 : decode cX2_putMood 15 = .ok (.return_, 1) := by decide +kernel
set_option maxRecDepth 100000 in
set_option maxHeartbeats 4000000 in
theorem st_X2_putMood (l : Launch) (M : Nat → Prop) (h : Nat) (p0 : Int32) (p1 : Int64) : Ct l yX2_putMood cX2_putMood 4 none 1 0 0 21 (fun S av => av = [.ref h, .int p0, .long p1] ∧ INV M [] S ∧ is S h 2) (fun S _ r S' => r = none ∧ INV M [] S' ∧ ext S S' (fun a => ¬ M a ∧ mK S a ∈ [12])) := by
  refine ct_of (by decide) (fun S av h => by obtain ⟨rfl, iv, i_this⟩ := h; exact Nat.le_of_ble_eq_true rfl) ?_
  intro p e s m args below meth c D G bs S av C hr hin hpre
  obtain ⟨rfl, iv, i_this⟩ := hpre
  have E0 : ext S S (fun a => ¬ M a ∧ mK S a ∈ [12]) := ext_rfl
  refine v_iload_n C dX2_putMood_0 rfl ?_
  refine v_iconst (v := 4) C dX2_putMood_1 (by decide) ?_
  refine v_callSN (As := [_, _]) (n := 2) C (sb_isBelow l _ _) rfl ⟨(by decide +kernel), wd141, wd2, wd142⟩ hy_X9_isBelow rfl ⟨Nat.le_of_ble_eq_true rfl, Nat.le_of_ble_eq_true rfl⟩ (Nat.le_of_ble_eq_true rfl) ⟨Nat.le_of_ble_eq_true rfl, Nat.le_of_ble_eq_true rfl⟩ dX2_putMood_2 rfl (fun r_2 S2_2 h_2 => ?_)
  obtain ⟨v2, rfl, p_v2, q_v2⟩ := h_2
  obtain rfl := q_v2.symm
  refine v_if_eq (tgt := 15) C dX2_putMood_5 (by decide) (fun c_5 => ?_) (fun c_5 => ?_)
  · skip
    refine v_vret C hr (Nat.le_of_ble_eq_true rfl) (Nat.le_of_ble_eq_true rfl) dX2_putMood_15 ?_
    exact ⟨rfl, iv, E0⟩
  · skip
    refine v_aload_n C dX2_putMood_8 rfl ?_
    obtain ⟨r9, e_r9, i_r9, m_r9⟩ := T140 iv i_this List.not_mem_nil
    refine r2_41 (b := r9) C i_this e_r9 dX2_putMood_9 ?_
    refine v_iload_n C dX2_putMood_12 rfl ?_
    refine v_lload_n C dX2_putMood_13 rfl ?_
    refine v_last C i_r9 (bI_ne p_v2 c_5 rfl) dX2_putMood_14 ?_
    refine V.gen (fun S4_14 e_14 => ?_)
    have iv' := inv_sQ e_14 iv
    have x_14 := x_sQ e_14
    have E0' := ext_tr E0 x_14 (xk_A E0 i_r9 m_r9 (by decide))
    have E0 := E0'
    have i_this := is_ext x_14 i_this
    have i_r9 := isA_ext x_14 i_r9
    have iv := iv'
    refine v_vret C hr (Nat.le_of_ble_eq_true rfl) (Nat.le_of_ble_eq_true rfl) dX2_putMood_15 ?_
    exact ⟨rfl, iv, E0⟩
theorem dX5_isGuard_0 : decode cX5_isGuard 0 = .ok (.aload_n 0, 1) := by decide +kernel
theorem dX5_isGuard_1 : decode cX5_isGuard 1 = .ok (.getfield 25, 3) := by decide +kernel
theorem dX5_isGuard_4 : decode cX5_isGuard 4 = .ok (.iconst (-1), 1) := by decide +kernel
theorem dX5_isGuard_5 : decode cX5_isGuard 5 = .ok (.if_icmp .eq 7, 3) := by decide +kernel
theorem dX5_isGuard_8 : decode cX5_isGuard 8 = .ok (.iconst 1, 1) := by decide +kernel
theorem dX5_isGuard_9 : decode cX5_isGuard 9 = .ok (.goto 4, 3) := by decide +kernel
theorem dX5_isGuard_12 : decode cX5_isGuard 12 = .ok (.iconst 0, 1) := by decide +kernel
theorem dX5_isGuard_13 : decode cX5_isGuard 13 = .ok (.ireturn, 1) := by decide +kernel
set_option maxRecDepth 100000 in
set_option maxHeartbeats 4000000 in
theorem st_X5_isGuard (l : Launch) (M : Nat → Prop) (h : Nat) : Ct l yX5_isGuard cX5_isGuard 1 (some .boolean) 0 0 0 0 (fun S av => av = [.ref h] ∧ INV M [] S ∧ is S h 5) (fun S _ r S' => ∃ v, r = some (.int (bI v)) ∧ S' = S) := by
  refine ct_of (by decide) (fun S av h => by obtain ⟨rfl, iv, i_this⟩ := h; exact Nat.le_of_ble_eq_true rfl) ?_
  intro p e s m args below meth c D G bs S av C hr hin hpre
  obtain ⟨rfl, iv, i_this⟩ := hpre
  refine v_aload_n C dX5_isGuard_0 rfl ?_
  refine g5_25 C i_this dX5_isGuard_1 ?_
  refine v_topi (fun v1 e_v1 => ?_)
  refine v_iconst (v := -1) C dX5_isGuard_4 (by decide) ?_
  refine v_icmp_eq (tgt := 12) C dX5_isGuard_5 (by decide) (fun c_5 => ?_) (fun c_5 => ?_)
  · skip
    refine v_iconst (v := 0) C dX5_isGuard_12 (by decide) ?_
    refine v_zret C hr (by first | rfl | exact bI_nar _) (Nat.le_of_ble_eq_true rfl) (Nat.le_of_ble_eq_true rfl) dX5_isGuard_13 ?_
    first
      | exact ⟨true, rfl, rfl⟩
      | exact ⟨false, rfl, rfl⟩
      | exact ⟨_, rfl, rfl⟩
  · skip
    refine v_iconst (v := 1) C dX5_isGuard_8 (by decide) ?_
    refine v_goto (tgt := 13) C dX5_isGuard_9 (by decide) ?_
    refine v_zret C hr (by first | rfl | exact bI_nar _) (Nat.le_of_ble_eq_true rfl) (Nat.le_of_ble_eq_true rfl) dX5_isGuard_13 ?_
    first
      | exact ⟨true, rfl, rfl⟩
      | exact ⟨false, rfl, rfl⟩
      | exact ⟨_, rfl, rfl⟩
theorem dX5_opens_0 : decode cX5_opens 0 = .ok (.iload_n 1, 1) := by decide +kernel
theorem dX5_opens_1 : decode cX5_opens 1 = .ok (.tableswitch 63 5 12 #[47, 47, 47, 47, 63, 47, 63, 49], 47) := by decide +kernel
theorem dX5_opens_48 : decode cX5_opens 48 = .ok (.iconst 1, 1) := by decide +kernel
theorem dX5_opens_49 : decode cX5_opens 49 = .ok (.ireturn, 1) := by decide +kernel
theorem dX5_opens_50 : decode cX5_opens 50 = .ok (.aload_n 0, 1) := by decide +kernel
theorem dX5_opens_51 : decode cX5_opens 51 = .ok (.getfield 25, 3) := by decide +kernel
theorem dX5_opens_54 : decode cX5_opens 54 = .ok (.iconst 1, 1) := by decide +kernel
theorem dX5_opens_55 : decode cX5_opens 55 = .ok (.if_icmp .ne 7, 3) := by decide +kernel
theorem dX5_opens_58 : decode cX5_opens 58 = .ok (.iconst 1, 1) := by decide +kernel
theorem dX5_opens_59 : decode cX5_opens 59 = .ok (.goto 4, 3) := by decide +kernel
theorem dX5_opens_62 : decode cX5_opens 62 = .ok (.iconst 0, 1) := by decide +kernel
theorem dX5_opens_63 : decode cX5_opens 63 = .ok (.ireturn, 1) := by decide +kernel
theorem dX5_opens_64 : decode cX5_opens 64 = .ok (.iconst 0, 1) := by decide +kernel
theorem dX5_opens_65 : decode cX5_opens 65 = .ok (.ireturn, 1) := by decide +kernel
set_option maxRecDepth 100000 in
set_option maxHeartbeats 4000000 in
theorem st_X5_opens (l : Launch) (M : Nat → Prop) (h : Nat) (p0 : Int32) : Ct l yX5_opens cX5_opens 2 (some .boolean) 0 0 0 0 (fun S av => av = [.ref h, .int p0] ∧ INV M [] S ∧ is S h 5) (fun S _ r S' => ∃ v, r = some (.int (bI v)) ∧ S' = S) := by
  refine ct_of (by decide) (fun S av h => by obtain ⟨rfl, iv, i_this⟩ := h; exact Nat.le_of_ble_eq_true rfl) ?_
  intro p e s m args below meth c D G bs S av C hr hin hpre
  obtain ⟨rfl, iv, i_this⟩ := hpre
  refine v_iload_n C dX5_opens_0 rfl ?_
  refine v_topi (fun k1 ek1 => ?_)
  by_cases k_5 : k1 = 5
  · skip
    refine v_tableIn (off := 47) (tgt := 48) C dX5_opens_1 (by rw [k_5]; decide) (by rw [k_5]; decide) (by rw [k_5]; rfl) (by decide) ?_
    refine v_iconst (v := 1) C dX5_opens_48 (by decide) ?_
    refine v_zret C hr (by first | rfl | exact bI_nar _) (Nat.le_of_ble_eq_true rfl) (Nat.le_of_ble_eq_true rfl) dX5_opens_49 ?_
    first
      | exact ⟨true, rfl, rfl⟩
      | exact ⟨false, rfl, rfl⟩
      | exact ⟨_, rfl, rfl⟩
  by_cases k_6 : k1 = 6
  · skip
    refine v_tableIn (off := 47) (tgt := 48) C dX5_opens_1 (by rw [k_6]; decide) (by rw [k_6]; decide) (by rw [k_6]; rfl) (by decide) ?_
    refine v_iconst (v := 1) C dX5_opens_48 (by decide) ?_
    refine v_zret C hr (by first | rfl | exact bI_nar _) (Nat.le_of_ble_eq_true rfl) (Nat.le_of_ble_eq_true rfl) dX5_opens_49 ?_
    first
      | exact ⟨true, rfl, rfl⟩
      | exact ⟨false, rfl, rfl⟩
      | exact ⟨_, rfl, rfl⟩
  by_cases k_7 : k1 = 7
  · skip
    refine v_tableIn (off := 47) (tgt := 48) C dX5_opens_1 (by rw [k_7]; decide) (by rw [k_7]; decide) (by rw [k_7]; rfl) (by decide) ?_
    refine v_iconst (v := 1) C dX5_opens_48 (by decide) ?_
    refine v_zret C hr (by first | rfl | exact bI_nar _) (Nat.le_of_ble_eq_true rfl) (Nat.le_of_ble_eq_true rfl) dX5_opens_49 ?_
    first
      | exact ⟨true, rfl, rfl⟩
      | exact ⟨false, rfl, rfl⟩
      | exact ⟨_, rfl, rfl⟩
  by_cases k_8 : k1 = 8
  · skip
    refine v_tableIn (off := 47) (tgt := 48) C dX5_opens_1 (by rw [k_8]; decide) (by rw [k_8]; decide) (by rw [k_8]; rfl) (by decide) ?_
    refine v_iconst (v := 1) C dX5_opens_48 (by decide) ?_
    refine v_zret C hr (by first | rfl | exact bI_nar _) (Nat.le_of_ble_eq_true rfl) (Nat.le_of_ble_eq_true rfl) dX5_opens_49 ?_
    first
      | exact ⟨true, rfl, rfl⟩
      | exact ⟨false, rfl, rfl⟩
      | exact ⟨_, rfl, rfl⟩
  by_cases k_9 : k1 = 9
  · skip
    refine v_tableIn (off := 63) (tgt := 64) C dX5_opens_1 (by rw [k_9]; decide) (by rw [k_9]; decide) (by rw [k_9]; rfl) (by decide) ?_
    refine v_iconst (v := 0) C dX5_opens_64 (by decide) ?_
    refine v_zret C hr (by first | rfl | exact bI_nar _) (Nat.le_of_ble_eq_true rfl) (Nat.le_of_ble_eq_true rfl) dX5_opens_65 ?_
    first
      | exact ⟨true, rfl, rfl⟩
      | exact ⟨false, rfl, rfl⟩
      | exact ⟨_, rfl, rfl⟩
  by_cases k_10 : k1 = 10
  · skip
    refine v_tableIn (off := 47) (tgt := 48) C dX5_opens_1 (by rw [k_10]; decide) (by rw [k_10]; decide) (by rw [k_10]; rfl) (by decide) ?_
    refine v_iconst (v := 1) C dX5_opens_48 (by decide) ?_
    refine v_zret C hr (by first | rfl | exact bI_nar _) (Nat.le_of_ble_eq_true rfl) (Nat.le_of_ble_eq_true rfl) dX5_opens_49 ?_
    first
      | exact ⟨true, rfl, rfl⟩
      | exact ⟨false, rfl, rfl⟩
      | exact ⟨_, rfl, rfl⟩
  by_cases k_11 : k1 = 11
  · skip
    refine v_tableIn (off := 63) (tgt := 64) C dX5_opens_1 (by rw [k_11]; decide) (by rw [k_11]; decide) (by rw [k_11]; rfl) (by decide) ?_
    refine v_iconst (v := 0) C dX5_opens_64 (by decide) ?_
    refine v_zret C hr (by first | rfl | exact bI_nar _) (Nat.le_of_ble_eq_true rfl) (Nat.le_of_ble_eq_true rfl) dX5_opens_65 ?_
    first
      | exact ⟨true, rfl, rfl⟩
      | exact ⟨false, rfl, rfl⟩
      | exact ⟨_, rfl, rfl⟩
  by_cases k_12 : k1 = 12
  · skip
    refine v_tableIn (off := 49) (tgt := 50) C dX5_opens_1 (by rw [k_12]; decide) (by rw [k_12]; decide) (by rw [k_12]; rfl) (by decide) ?_
    refine v_aload_n C dX5_opens_50 rfl ?_
    refine g5_25 C i_this dX5_opens_51 ?_
    refine v_topi (fun v51 e_v51 => ?_)
    refine v_iconst (v := 1) C dX5_opens_54 (by decide) ?_
    refine v_icmp_ne (tgt := 62) C dX5_opens_55 (by decide) (fun c_55 => ?_) (fun c_55 => ?_)
    · skip
      refine v_iconst (v := 0) C dX5_opens_62 (by decide) ?_
      refine v_zret C hr (by first | rfl | exact bI_nar _) (Nat.le_of_ble_eq_true rfl) (Nat.le_of_ble_eq_true rfl) dX5_opens_63 ?_
      first
        | exact ⟨true, rfl, rfl⟩
        | exact ⟨false, rfl, rfl⟩
        | exact ⟨_, rfl, rfl⟩
    · skip
      refine v_iconst (v := 1) C dX5_opens_58 (by decide) ?_
      refine v_goto (tgt := 63) C dX5_opens_59 (by decide) ?_
      refine v_zret C hr (by first | rfl | exact bI_nar _) (Nat.le_of_ble_eq_true rfl) (Nat.le_of_ble_eq_true rfl) dX5_opens_63 ?_
      first
        | exact ⟨true, rfl, rfl⟩
        | exact ⟨false, rfl, rfl⟩
        | exact ⟨_, rfl, rfl⟩
  refine v_tableOut (tgt := 64) C dX5_opens_1 (by have q5 := lv_neT k_5 (a := 5) rfl ; have q6 := lv_neT k_6 (a := 6) rfl ; have q7 := lv_neT k_7 (a := 7) rfl ; have q8 := lv_neT k_8 (a := 8) rfl ; have q9 := lv_neT k_9 (a := 9) rfl ; have q10 := lv_neT k_10 (a := 10) rfl ; have q11 := lv_neT k_11 (a := 11) rfl ; have q12 := lv_neT k_12 (a := 12) rfl ; omega) (by decide) ?_
  refine v_iconst (v := 0) C dX5_opens_64 (by decide) ?_
  refine v_zret C hr (by first | rfl | exact bI_nar _) (Nat.le_of_ble_eq_true rfl) (Nat.le_of_ble_eq_true rfl) dX5_opens_65 ?_
  first
    | exact ⟨true, rfl, rfl⟩
    | exact ⟨false, rfl, rfl⟩
    | exact ⟨_, rfl, rfl⟩
