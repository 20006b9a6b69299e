theorem V.lits {p : Program} {l : Launch} {e : Env} {R : Room} {s : State} {m : MethodId} {args : Array Value} {below : List Frame} {meth : Method} {c : Code} {D : va_G} {G : Nat → ClassId} {bs nL : Nat} {Q : State → Prop} {cells slots : Nat} {S : Mem} {pc : Nat} {lv lv' : List (Option Value)} {st : List Value} (h : lv = lv') (kk : V p l e R s m args below meth c D G bs nL Q cells slots S pc lv' st) : V p l e R s m args below meth c D G bs nL Q cells slots S pc lv st := h ▸ kk
theorem v_loop {p : Program} {l : Launch} {e : Env} {R : Room} {s : State} {m : MethodId} {args : Array Value} {below : List Frame} {meth : Method} {c : Code} {D : va_G} {G : Nat → ClassId} {bs nL : Nat} {Q : State → Prop} {cells slots : Nat} {S : Mem} {pc : Nat} {lv : List (Option Value)} {st : List Value} {T : Type} (g : T → List (Option Value) → List (Option Value)) (I : Mem → T → Prop) (mu : Mem → T → Nat) {t : T} (hg : g t lv = lv) (hI : I S t) (step : ∀ S t, I S t → (∀ S' t', mu S' t' < mu S t → I S' t' → V p l e R s m args below meth c D G bs nL Q cells slots S' pc (g t' lv) st) → V p l e R s m args below meth c D G bs nL Q cells slots S pc (g t lv) st) : V p l e R s m args below meth c D G bs nL Q cells slots S pc lv st := by
  have h : ∀ n S t, mu S t < n → I S t → V p l e R s m args below meth c D G bs nL Q cells slots S pc (g t lv) st := by
    intro n
    induction n with
    | zero => intro S t h; omega
    | succ n ih => intro S t h hI; exact step S t hI (fun S' t' h2 hI' => ih S' t' (by omega) hI')
  have := h (mu S t + 1) S t (by omega) hI
  rw [hg] at this
  exact this
theorem i32_lo (x : Int32) : -2147483648 ≤ x.toInt := Int32.minValue_le_toInt x
theorem i32_hi (x : Int32) : x.toInt ≤ 2147483647 := by have := Int32.toInt_lt x; omega
theorem i32_inc {i y : Int32} (h : ¬ y ≤ i) : (i + Int32.ofInt 1).toInt = i.toInt + 1 := by
  have h1 : i.toInt < y.toInt := by rw [Int32.le_iff_toInt_le] at h; omega
  have h2 := i32_hi y
  have h3 := i32_lo i
  rw [Int32.toInt_add, show (Int32.ofInt 1).toInt = 1 from rfl, Int.bmod_def]
  split <;> omega
def upm (i : Int32) : Nat := (2147483648 - i.toInt).toNat
theorem upm_lt {i y : Int32} (h : ¬ y ≤ i) : upm (i + Int32.ofInt 1) < upm i := by
  have := i32_inc h
  have h2 := i32_hi i
  unfold upm
  omega
theorem slot_in {t a : Int32} (h1 : ¬ t < 0) (h2 : ¬ 20 ≤ t) (h3 : ¬ a < 0) (h4 : ¬ 12 ≤ a) : vp_in (t * 12 + a) 240 := by
  rw [Int32.lt_iff_toInt_lt] at h1 h3
  rw [Int32.le_iff_toInt_le] at h2 h4
  rw [show (0 : Int32).toInt = 0 from rfl] at h1 h3
  rw [show (20 : Int32).toInt = 20 from rfl] at h2
  rw [show (12 : Int32).toInt = 12 from rfl] at h4
  have e : (t * 12 + a).toInt = t.toInt * 12 + a.toInt := by
    rw [Int32.toInt_add, Int32.toInt_mul, show (12 : Int32).toInt = 12 from rfl, Int.bmod_def (t.toInt * 12), Int.bmod_def]
    split <;> split <;> omega
  exact vp_in_iff.mpr ⟨by omega, by omega⟩
theorem slot_or {v : Int32} (h : v = -1 ∨ vp_in v 240) (c : ¬ v = -1) : vp_in v 240 := h.resolve_left c
theorem slot_ro {v : Int32} (h : v = -1 ∨ vp_in v 240) (c : ¬ ¬ v = -1) : v = -1 := Classical.byContradiction c
theorem at_in {i y : Int32} {x : Bool} (p : x = isB i y) (h : ¬ bI x = 0) (h2 : ¬ 20 ≤ i) : vp_in i 20 := vp_in_b (b := 20) ⟨(isB_t (p ▸ bI_t h)).1, by rw [Int32.lt_iff_toInt_lt]; rw [Int32.le_iff_toInt_le] at h2; omega⟩ rfl
theorem at_in5 {i y : Int32} {x : Bool} (p : x = isB i y) (h : ¬ bI x = 0) (h2 : ¬ 5 ≤ i) : vp_in i 5 := vp_in_b (b := 5) ⟨(isB_t (p ▸ bI_t h)).1, by rw [Int32.lt_iff_toInt_lt]; rw [Int32.le_iff_toInt_le] at h2; omega⟩ rfl
theorem eq_in {a b : Int32} {n : Nat} (e : a = b) (h : vp_in b n) : vp_in a n := e ▸ h
theorem i_m1 : ¬ (1 : Int32) = 0 := by decide
theorem dX2_slot_0 : decode cX2_slot 0 = .ok (.iload_n 0, 1) := by decide +kernel
theorem dX2_slot_1 : decode cX2_slot 1 = .ok (.ifCond .lt 23, 3) := by decide +kernel
theorem dX2_slot_4 : decode cX2_slot 4 = .ok (.iload_n 0, 1) := by decide +kernel
theorem dX2_slot_5 : decode cX2_slot 5 = .ok (.bipush 20, 2) := by decide +kernel
theorem dX2_slot_7 : decode cX2_slot 7 = .ok (.if_icmp .ge 17, 3) := by decide +kernel
theorem dX2_slot_10 : decode cX2_slot 10 = .ok (.iload_n 1, 1) := by decide +kernel
theorem dX2_slot_11 : decode cX2_slot 11 = .ok (.ifCond .lt 13, 3) := by decide +kernel
theorem dX2_slot_14 : decode cX2_slot 14 = .ok (.iload_n 1, 1) := by decide +kernel
theorem dX2_slot_15 : decode cX2_slot 15 = .ok (.bipush 12, 2) := by decide +kernel
theorem dX2_slot_17 : decode cX2_slot 17 = .ok (.if_icmp .ge 7, 3) := by decide +kernel
theorem dX2_slot_20 : decode cX2_slot 20 = .ok (.iconst 1, 1) := by decide +kernel
theorem dX2_slot_21 : decode cX2_slot 21 = .ok (.goto 4, 3) := by decide +kernel
theorem dX2_slot_24 : decode cX2_slot 24 = .ok (.iconst 0, 1) := by decide +kernel
theorem dX2_slot_25 : decode cX2_slot 25 = .ok (.istore_n 2, 1) := by decide +kernel
theorem dX2_slot_26 : decode cX2_slot 26 = .ok (.iload_n 2, 1) := by decide +kernel
theorem dX2_slot_27 : decode cX2_slot 27 = .ok (.ifCond .eq 12, 3) := by decide +kernel
theorem dX2_slot_30 : decode cX2_slot 30 = .ok (.iload_n 0, 1) := by decide +kernel
theorem dX2_slot_31 : decode cX2_slot 31 = .ok (.bipush 12, 2) := by decide +kernel
theorem dX2_slot_33 : decode cX2_slot 33 = .ok (.imul, 1) := by decide +kernel
theorem dX2_slot_34 : decode cX2_slot 34 = .ok (.iload_n 1, 1) := by decide +kernel
theorem dX2_slot_35 : decode cX2_slot 35 = .ok (.iadd, 1) := by decide +kernel
theorem dX2_slot_36 : decode cX2_slot 36 = .ok (.goto 4, 3) := by decide +kernel
theorem dX2_slot_39 : decode cX2_slot 39 = .ok (.iconst (-1), 1) := by decide +kernel
theorem dX2_slot_40 : decode cX2_slot 40 = .ok (.ireturn, 1) := by decide +kernel
set_option maxRecDepth 100000 in
set_option maxHeartbeats 4000000 in
theorem st_X2_slot (l : Launch) (p0 : Int32) (p1 : Int32) : Ct l yX2_slot cX2_slot 3 (some .int) 0 0 0 0 (fun S av => av = [.int p0, .int p1]) (fun S _ r S' => ∃ v, r = some (.int v) ∧ (v = -1 ∨ vp_in v 240) ∧ S' = S) := by
  refine ct_of (by decide) (fun S av h => by obtain rfl := h; exact Nat.le_of_ble_eq_true rfl) ?_
  intro p e s m args below meth c D G bs S av C hr hin hpre
  obtain rfl := hpre
  refine v_iload_n C dX2_slot_0 rfl ?_
  refine v_if_lt (tgt := 24) C dX2_slot_1 (by decide) (fun c_1 => ?_) (fun c_1 => ?_)
  · skip
    refine v_iconst (v := 0) C dX2_slot_24 (by decide) ?_
    refine v_istore_n C dX2_slot_25 (by decide) (by first | rfl | exact cat_ok _ | simp [okS, cat_rf]) ?_
    refine v_iload_n C dX2_slot_26 rfl ?_
    refine v_if_eq (tgt := 39) C dX2_slot_27 (by decide) (fun c_27 => ?_) (fun c_27 => ?_)
    · skip
      refine v_iconst (v := -1) C dX2_slot_39 (by decide) ?_
      refine v_iret C hr (Nat.le_of_ble_eq_true rfl) (Nat.le_of_ble_eq_true rfl) dX2_slot_40 ?_
      exact ⟨_, rfl, Or.inl rfl, rfl⟩
    · skip
      exact absurd rfl c_27
  · skip
    refine v_iload_n C dX2_slot_4 rfl ?_
    refine v_bipush (v := 20) C dX2_slot_5 (by decide) ?_
    refine v_icmp_ge (tgt := 24) C dX2_slot_7 (by decide) (fun c_7 => ?_) (fun c_7 => ?_)
    · skip
      refine v_iconst (v := 0) C dX2_slot_24 (by decide) ?_
      refine v_istore_n C dX2_slot_25 (by decide) (by first | rfl | exact cat_ok _ | simp [okS, cat_rf]) ?_
      refine v_iload_n C dX2_slot_26 rfl ?_
      refine v_if_eq (tgt := 39) C dX2_slot_27 (by decide) (fun c_27 => ?_) (fun c_27 => ?_)
      · skip
        refine v_iconst (v := -1) C dX2_slot_39 (by decide) ?_
        refine v_iret C hr (Nat.le_of_ble_eq_true rfl) (Nat.le_of_ble_eq_true rfl) dX2_slot_40 ?_
        exact ⟨_, rfl, Or.inl rfl, rfl⟩
      · skip
        exact absurd rfl c_27
    · skip
      refine v_iload_n C dX2_slot_10 rfl ?_
      refine v_if_lt (tgt := 24) C dX2_slot_11 (by decide) (fun c_11 => ?_) (fun c_11 => ?_)
      · skip
        refine v_iconst (v := 0) C dX2_slot_24 (by decide) ?_
        refine v_istore_n C dX2_slot_25 (by decide) (by first | rfl | exact cat_ok _ | simp [okS, cat_rf]) ?_
        refine v_iload_n C dX2_slot_26 rfl ?_
        refine v_if_eq (tgt := 39) C dX2_slot_27 (by decide) (fun c_27 => ?_) (fun c_27 => ?_)
        · skip
          refine v_iconst (v := -1) C dX2_slot_39 (by decide) ?_
          refine v_iret C hr (Nat.le_of_ble_eq_true rfl) (Nat.le_of_ble_eq_true rfl) dX2_slot_40 ?_
          exact ⟨_, rfl, Or.inl rfl, rfl⟩
        · skip
          exact absurd rfl c_27
      · skip
        refine v_iload_n C dX2_slot_14 rfl ?_
        refine v_bipush (v := 12) C dX2_slot_15 (by decide) ?_
        refine v_icmp_ge (tgt := 24) C dX2_slot_17 (by decide) (fun c_17 => ?_) (fun c_17 => ?_)
        · skip
          refine v_iconst (v := 0) C dX2_slot_24 (by decide) ?_
          refine v_istore_n C dX2_slot_25 (by decide) (by first | rfl | exact cat_ok _ | simp [okS, cat_rf]) ?_
          refine v_iload_n C dX2_slot_26 rfl ?_
          refine v_if_eq (tgt := 39) C dX2_slot_27 (by decide) (fun c_27 => ?_) (fun c_27 => ?_)
          · skip
            refine v_iconst (v := -1) C dX2_slot_39 (by decide) ?_
            refine v_iret C hr (Nat.le_of_ble_eq_true rfl) (Nat.le_of_ble_eq_true rfl) dX2_slot_40 ?_
            exact ⟨_, rfl, Or.inl rfl, rfl⟩
          · skip
            exact absurd rfl c_27
        · skip
          refine v_iconst (v := 1) C dX2_slot_20 (by decide) ?_
          refine v_goto (tgt := 25) C dX2_slot_21 (by decide) ?_
          refine v_istore_n C dX2_slot_25 (by decide) (by first | rfl | exact cat_ok _ | simp [okS, cat_rf]) ?_
          refine v_iload_n C dX2_slot_26 rfl ?_
          refine v_if_eq (tgt := 39) C dX2_slot_27 (by decide) (fun c_27 => ?_) (fun c_27 => ?_)
          · skip
            exact absurd c_27 i_m1
          · skip
            refine v_iload_n C dX2_slot_30 rfl ?_
            refine v_bipush (v := 12) C dX2_slot_31 (by decide) ?_
            refine v_imul C dX2_slot_33 ?_
            refine v_iload_n C dX2_slot_34 rfl ?_
            refine v_iadd C dX2_slot_35 ?_
            refine v_goto (tgt := 40) C dX2_slot_36 (by decide) ?_
            refine v_iret C hr (Nat.le_of_ble_eq_true rfl) (Nat.le_of_ble_eq_true rfl) dX2_slot_40 ?_
            exact ⟨_, rfl, Or.inr (slot_in c_1 c_7 c_11 c_17), rfl⟩
theorem dX2_takenAt_0 : decode cX2_takenAt 0 = .ok (.iload_n 1, 1) := by decide +kernel
theorem dX2_takenAt_1 : decode cX2_takenAt 1 = .ok (.aload_n 0, 1) := by decide +kernel
theorem dX2_takenAt_2 : decode cX2_takenAt 2 = .ok (.getfield 58, 3) := by decide +kernel
theorem dX2_takenAt_5 : decode cX2_takenAt 5 = .ok (.invokestatic 61, 3) := by decide +kernel
theorem dX2_takenAt_8 : decode cX2_takenAt 8 = .ok (.ifCond .eq 17, 3) := by decide +kernel
theorem dX2_takenAt_11 : decode cX2_takenAt 11 = .ok (.iload_n 1, 1) := by decide +kernel
theorem dX2_takenAt_12 : decode cX2_takenAt 12 = .ok (.iconst 5, 1) := by decide +kernel
theorem dX2_takenAt_13 : decode cX2_takenAt 13 = .ok (.if_icmp .ge 12, 3) := by decide +kernel
theorem dX2_takenAt_16 : decode cX2_takenAt 16 = .ok (.aload_n 0, 1) := by decide +kernel
theorem dX2_takenAt_17 : decode cX2_takenAt 17 = .ok (.getfield 18, 3) := by decide +kernel
theorem dX2_takenAt_20 : decode cX2_takenAt 20 = .ok (.iload_n 1, 1) := by decide +kernel
theorem dX2_takenAt_21 : decode cX2_takenAt 21 = .ok (.iaload, 1) := by decide +kernel
theorem dX2_takenAt_22 : decode cX2_takenAt 22 = .ok (.goto 4, 3) := by decide +kernel
theorem dX2_takenAt_25 : decode cX2_takenAt 25 = .ok (.iconst (-1), 1) := by decide +kernel
theorem dX2_takenAt_26 : decode cX2_takenAt 26 = .ok (.ireturn, 1) := by decide +kernel
set_option maxRecDepth 100000 in
set_option maxHeartbeats 4000000 in
theorem st_X2_takenAt (l : Launch) (M : Nat → Prop) (h : Nat) (p0 : Int32) : Ct l yX2_takenAt cX2_takenAt 2 (some .int) 1 0 0 21 (fun S av => av = [.ref h, .int p0] ∧ INV M [] S ∧ is S h 2) (fun S _ r S' => ∃ v, r = some (.int v) ∧ S' = S) := by
  refine ct_of (by decide) (fun S av h => by obtain ⟨rfl, iv, i_this⟩ := h; exact Nat.le_of_ble_eq_true rfl) ?_
  intro p e s m args below meth c D G bs S av C hr hin hpre
  obtain ⟨rfl, iv, i_this⟩ := hpre
  refine v_iload_n C dX2_takenAt_0 rfl ?_
  refine v_aload_n C dX2_takenAt_1 rfl ?_
  refine g2_58 C i_this dX2_takenAt_2 ?_
  refine v_topi (fun v2 e_v2 => ?_)
  refine v_callSN (As := [_, _]) (n := 2) C (sb_isBelow l _ _) rfl ⟨(by decide +kernel), wd141, wd2, wd142⟩ hy_X9_isBelow rfl ⟨Nat.le_of_ble_eq_true rfl, Nat.le_of_ble_eq_true rfl⟩ (Nat.le_of_ble_eq_true rfl) ⟨Nat.le_of_ble_eq_true rfl, Nat.le_of_ble_eq_true rfl⟩ dX2_takenAt_5 rfl (fun r_5 S2_5 h_5 => ?_)
  obtain ⟨v5, rfl, p_v5, q_v5⟩ := h_5
  obtain rfl := q_v5.symm
  refine v_if_eq (tgt := 25) C dX2_takenAt_8 (by decide) (fun c_8 => ?_) (fun c_8 => ?_)
  · skip
    refine v_iconst (v := -1) C dX2_takenAt_25 (by decide) ?_
    refine v_iret C hr (Nat.le_of_ble_eq_true rfl) (Nat.le_of_ble_eq_true rfl) dX2_takenAt_26 ?_
    exact ⟨_, rfl, rfl⟩
  · skip
    refine v_iload_n C dX2_takenAt_11 rfl ?_
    refine v_iconst (v := 5) C dX2_takenAt_12 (by decide) ?_
    refine v_icmp_ge (tgt := 25) C dX2_takenAt_13 (by decide) (fun c_13 => ?_) (fun c_13 => ?_)
    · skip
      refine v_iconst (v := -1) C dX2_takenAt_25 (by decide) ?_
      refine v_iret C hr (Nat.le_of_ble_eq_true rfl) (Nat.le_of_ble_eq_true rfl) dX2_takenAt_26 ?_
      exact ⟨_, rfl, rfl⟩
    · skip
      refine v_aload_n C dX2_takenAt_16 rfl ?_
      obtain ⟨r17, e_r17, i_r17, m_r17⟩ := T131 iv i_this List.not_mem_nil
      refine r2_18 (b := r17) C i_this e_r17 dX2_takenAt_17 ?_
      refine v_iload_n C dX2_takenAt_20 rfl ?_
      refine v_iald C i_r17 (at_in5 p_v5 c_8 c_13) dX2_takenAt_21 ?_
      refine v_topi (fun v21 e_v21 => ?_)
      refine v_goto (tgt := 26) C dX2_takenAt_22 (by decide) ?_
      refine v_iret C hr (Nat.le_of_ble_eq_true rfl) (Nat.le_of_ble_eq_true rfl) dX2_takenAt_26 ?_
      exact ⟨_, rfl, rfl⟩
theorem dX3_at_0 : decode cX3_at 0 = .ok (.iload_n 1, 1) := by decide +kernel
theorem dX3_at_1 : decode cX3_at 1 = .ok (.aload_n 0, 1) := by decide +kernel
theorem dX3_at_2 : decode cX3_at 2 = .ok (.getfield 24, 3) := by decide +kernel
theorem dX3_at_5 : decode cX3_at 5 = .ok (.invokestatic 28, 3) := by decide +kernel
theorem dX3_at_8 : decode cX3_at 8 = .ok (.ifCond .eq 18, 3) := by decide +kernel
theorem dX3_at_11 : decode cX3_at 11 = .ok (.iload_n 1, 1) := by decide +kernel
theorem dX3_at_12 : decode cX3_at 12 = .ok (.bipush 20, 2) := by decide +kernel
theorem dX3_at_14 : decode cX3_at 14 = .ok (.if_icmp .ge 12, 3) := by decide +kernel
theorem dX3_at_17 : decode cX3_at 17 = .ok (.aload_n 0, 1) := by decide +kernel
theorem dX3_at_18 : decode cX3_at 18 = .ok (.getfield 9, 3) := by decide +kernel
theorem dX3_at_21 : decode cX3_at 21 = .ok (.iload_n 1, 1) := by decide +kernel
theorem dX3_at_22 : decode cX3_at 22 = .ok (.iaload, 1) := by decide +kernel
theorem dX3_at_23 : decode cX3_at 23 = .ok (.goto 4, 3) := by decide +kernel
theorem dX3_at_26 : decode cX3_at 26 = .ok (.iconst (-1), 1) := by decide +kernel
theorem dX3_at_27 : decode cX3_at 27 = .ok (.ireturn, 1) := by decide +kernel
set_option maxRecDepth 100000 in
set_option maxHeartbeats 4000000 in
theorem st_X3_at (l : Launch) (M : Nat → Prop) (h : Nat) (p0 : Int32) : Ct l yX3_at cX3_at 2 (some .int) 1 0 0 21 (fun S av => av = [.ref h, .int p0] ∧ INV M [] S ∧ is S h 3) (fun S _ r S' => ∃ v, r = some (.int v) ∧ S' = S) := by
  refine ct_of (by decide) (fun S av h => by obtain ⟨rfl, iv, i_this⟩ := h; exact Nat.le_of_ble_eq_true rfl) ?_
  intro p e s m args below meth c D G bs S av C hr hin hpre
  obtain ⟨rfl, iv, i_this⟩ := hpre
  refine v_iload_n C dX3_at_0 rfl ?_
  refine v_aload_n C dX3_at_1 rfl ?_
  refine g3_24 C i_this dX3_at_2 ?_
  refine v_topi (fun v2 e_v2 => ?_)
  refine v_callSN (As := [_, _]) (n := 2) C (sb_isBelow l _ _) rfl ⟨(by decide +kernel), wd141, wd2, wd142⟩ hy_X9_isBelow rfl ⟨Nat.le_of_ble_eq_true rfl, Nat.le_of_ble_eq_true rfl⟩ (Nat.le_of_ble_eq_true rfl) ⟨Nat.le_of_ble_eq_true rfl, Nat.le_of_ble_eq_true rfl⟩ dX3_at_5 rfl (fun r_5 S2_5 h_5 => ?_)
  obtain ⟨v5, rfl, p_v5, q_v5⟩ := h_5
  obtain rfl := q_v5.symm
  refine v_if_eq (tgt := 26) C dX3_at_8 (by decide) (fun c_8 => ?_) (fun c_8 => ?_)
  · skip
    refine v_iconst (v := -1) C dX3_at_26 (by decide) ?_
    refine v_iret C hr (Nat.le_of_ble_eq_true rfl) (Nat.le_of_ble_eq_true rfl) dX3_at_27 ?_
    exact ⟨_, rfl, rfl⟩
  · skip
    refine v_iload_n C dX3_at_11 rfl ?_
    refine v_bipush (v := 20) C dX3_at_12 (by decide) ?_
    refine v_icmp_ge (tgt := 26) C dX3_at_14 (by decide) (fun c_14 => ?_) (fun c_14 => ?_)
    · skip
      refine v_iconst (v := -1) C dX3_at_26 (by decide) ?_
      refine v_iret C hr (Nat.le_of_ble_eq_true rfl) (Nat.le_of_ble_eq_true rfl) dX3_at_27 ?_
      exact ⟨_, rfl, rfl⟩
    · skip
      refine v_aload_n C dX3_at_17 rfl ?_
      obtain ⟨r18, e_r18, i_r18, m_r18⟩ := T192 iv i_this List.not_mem_nil
      refine r3_9 (b := r18) C i_this e_r18 dX3_at_18 ?_
      refine v_iload_n C dX3_at_21 rfl ?_
      refine v_iald C i_r18 (at_in p_v5 c_8 c_14) dX3_at_22 ?_
      refine v_topi (fun v22 e_v22 => ?_)
      refine v_goto (tgt := 27) C dX3_at_23 (by decide) ?_
      refine v_iret C hr (Nat.le_of_ble_eq_true rfl) (Nat.le_of_ble_eq_true rfl) dX3_at_27 ?_
      exact ⟨_, rfl, rfl⟩
theorem dX3_has_0 : decode cX3_has 0 = .ok (.iload_n 1, 1) := by decide +kernel
theorem dX3_has_1 : decode cX3_has 1 = .ok (.bipush 20, 2) := by decide +kernel
theorem dX3_has_3 : decode cX3_has 3 = .ok (.invokestatic 28, 3) := by decide +kernel
theorem dX3_has_6 : decode cX3_has 6 = .ok (.ifCond .eq 17, 3) := by decide +kernel
theorem dX3_has_9 : decode cX3_has 9 = .ok (.aload_n 0, 1) := by decide +kernel
theorem dX3_has_10 : decode cX3_has 10 = .ok (.getfield 15, 3) := by decide +kernel
theorem dX3_has_13 : decode cX3_has 13 = .ok (.iload_n 1, 1) := by decide +kernel
theorem dX3_has_14 : decode cX3_has 14 = .ok (.iaload, 1) := by decide +kernel
theorem dX3_has_15 : decode cX3_has 15 = .ok (.iconst (-1), 1) := by decide +kernel
theorem dX3_has_16 : decode cX3_has 16 = .ok (.if_icmp .eq 7, 3) := by decide +kernel
theorem dX3_has_19 : decode cX3_has 19 = .ok (.iconst 1, 1) := by decide +kernel
theorem dX3_has_20 : decode cX3_has 20 = .ok (.goto 4, 3) := by decide +kernel
theorem dX3_has_23 : decode cX3_has 23 = .ok (.iconst 0, 1) := by decide +kernel
theorem dX3_has_24 : decode cX3_has 24 = .ok (.ireturn, 1) := by decide +kernel
set_option maxRecDepth 100000 in
set_option maxHeartbeats 4000000 in
theorem st_X3_has (l : Launch) (M : Nat → Prop) (h : Nat) (p0 : Int32) : Ct l yX3_has cX3_has 2 (some .boolean) 1 0 0 21 (fun S av => av = [.ref h, .int p0] ∧ INV M [] S ∧ is S h 3) (fun S _ r S' => ∃ v, r = some (.int (bI v)) ∧ S' = S) := by
  refine ct_of (by decide) (fun S av h => by obtain ⟨rfl, iv, i_this⟩ := h; exact Nat.le_of_ble_eq_true rfl) ?_
  intro p e s m args below meth c D G bs S av C hr hin hpre
  obtain ⟨rfl, iv, i_this⟩ := hpre
  refine v_iload_n C dX3_has_0 rfl ?_
  refine v_bipush (v := 20) C dX3_has_1 (by decide) ?_
  refine v_callSN (As := [_, _]) (n := 2) C (sb_isBelow l _ _) rfl ⟨(by decide +kernel), wd141, wd2, wd142⟩ hy_X9_isBelow rfl ⟨Nat.le_of_ble_eq_true rfl, Nat.le_of_ble_eq_true rfl⟩ (Nat.le_of_ble_eq_true rfl) ⟨Nat.le_of_ble_eq_true rfl, Nat.le_of_ble_eq_true rfl⟩ dX3_has_3 rfl (fun r_3 S2_3 h_3 => ?_)
  obtain ⟨v3, rfl, p_v3, q_v3⟩ := h_3
  obtain rfl := q_v3.symm
  refine v_if_eq (tgt := 23) C dX3_has_6 (by decide) (fun c_6 => ?_) (fun c_6 => ?_)
  · skip
    refine v_iconst (v := 0) C dX3_has_23 (by decide) ?_
    refine v_zret C hr (by first | rfl | exact bI_nar _) (Nat.le_of_ble_eq_true rfl) (Nat.le_of_ble_eq_true rfl) dX3_has_24 ?_
    first
      | exact ⟨true, rfl, rfl⟩
      | exact ⟨false, rfl, rfl⟩
      | exact ⟨_, rfl, rfl⟩
  · skip
    refine v_aload_n C dX3_has_9 rfl ?_
    obtain ⟨r10, e_r10, i_r10, m_r10⟩ := T193 iv i_this List.not_mem_nil
    refine r3_15 (b := r10) C i_this e_r10 dX3_has_10 ?_
    refine v_iload_n C dX3_has_13 rfl ?_
    refine v_iald C i_r10 (bI_ne p_v3 c_6 rfl) dX3_has_14 ?_
    refine v_topi (fun v14 e_v14 => ?_)
    refine v_iconst (v := -1) C dX3_has_15 (by decide) ?_
    refine v_icmp_eq (tgt := 23) C dX3_has_16 (by decide) (fun c_16 => ?_) (fun c_16 => ?_)
    · skip
      refine v_iconst (v := 0) C dX3_has_23 (by decide) ?_
      refine v_zret C hr (by first | rfl | exact bI_nar _) (Nat.le_of_ble_eq_true rfl) (Nat.le_of_ble_eq_true rfl) dX3_has_24 ?_
      first
        | exact ⟨true, rfl, rfl⟩
        | exact ⟨false, rfl, rfl⟩
        | exact ⟨_, rfl, rfl⟩
    · skip
      refine v_iconst (v := 1) C dX3_has_19 (by decide) ?_
      refine v_goto (tgt := 24) C dX3_has_20 (by decide) ?_
      refine v_zret C hr (by first | rfl | exact bI_nar _) (Nat.le_of_ble_eq_true rfl) (Nat.le_of_ble_eq_true rfl) dX3_has_24 ?_
      first
        | exact ⟨true, rfl, rfl⟩
        | exact ⟨false, rfl, rfl⟩
        | exact ⟨_, rfl, rfl⟩
theorem dX2_hasTaken_0 : decode cX2_hasTaken 0 = .ok (.iconst 0, 1) := by decide +kernel
theorem dX2_hasTaken_1 : decode cX2_hasTaken 1 = .ok (.istore_n 2, 1) := by decide +kernel
theorem dX2_hasTaken_2 : decode cX2_hasTaken 2 = .ok (.iload_n 2, 1) := by decide +kernel
theorem dX2_hasTaken_3 : decode cX2_hasTaken 3 = .ok (.aload_n 0, 1) := by decide +kernel
theorem dX2_hasTaken_4 : decode cX2_hasTaken 4 = .ok (.getfield 58, 3) := by decide +kernel
theorem dX2_hasTaken_7 : decode cX2_hasTaken 7 = .ok (.if_icmp .ge 20, 3) := by decide +kernel
theorem dX2_hasTaken_10 : decode cX2_hasTaken 10 = .ok (.aload_n 0, 1) := by decide +kernel
theorem dX2_hasTaken_11 : decode cX2_hasTaken 11 = .ok (.iload_n 2, 1) := by decide +kernel
theorem dX2_hasTaken_12 : decode cX2_hasTaken 12 = .ok (.invokevirtual 65, 3) := by decide +kernel
theorem dX2_hasTaken_15 : decode cX2_hasTaken 15 = .ok (.iload_n 1, 1) := by decide +kernel
theorem dX2_hasTaken_16 : decode cX2_hasTaken 16 = .ok (.if_icmp .ne 5, 3) := by decide +kernel
theorem dX2_hasTaken_19 : decode cX2_hasTaken 19 = .ok (.iconst 1, 1) := by decide +kernel
theorem dX2_hasTaken_20 : decode cX2_hasTaken 20 = .ok (.ireturn, 1) := by decide +kernel
theorem dX2_hasTaken_21 : decode cX2_hasTaken 21 = .ok (.iinc 2 1, 3) := by decide +kernel
theorem dX2_hasTaken_24 : decode cX2_hasTaken 24 = .ok (.goto (-22), 3) := by decide +kernel
theorem dX2_hasTaken_27 : decode cX2_hasTaken 27 = .ok (.iconst 0, 1) := by decide +kernel
theorem dX2_hasTaken_28 : decode cX2_hasTaken 28 = .ok (.ireturn, 1) := by decide +kernel
set_option maxRecDepth 100000 in
set_option maxHeartbeats 4000000 in
theorem st_X2_hasTaken (l : Launch) (M : Nat → Prop) (h : Nat) (p0 : Int32) : Ct l yX2_hasTaken cX2_hasTaken 3 (some .boolean) 2 0 0 42 (fun S av => av = [.ref h, .int p0] ∧ INV M [] S ∧ is S h 2) (fun S _ r S' => ∃ v, r = some (.int (bI v)) ∧ S' = S) := by
  refine ct_of (by decide) (fun S av h => by obtain ⟨rfl, iv, i_this⟩ := h; exact Nat.le_of_ble_eq_true rfl) ?_
  intro p e s m args below meth c D G bs S av C hr hin hpre
  obtain ⟨rfl, iv, i_this⟩ := hpre
  refine v_iconst (v := 0) C dX2_hasTaken_0 (by decide) ?_
  refine v_istore_n C dX2_hasTaken_1 (by decide) (by first | rfl | exact cat_ok _ | simp [okS, cat_rf]) ?_
  refine V.lits (lv' := [_, _, _]) rfl ?_
  refine v_loop (fun (t : Int32) lv0 => (lv0.set 2 (some (.int t)))) (fun (S1 : Mem) (t : Int32) => INV M [] S1 ∧ is S1 h 2 ∧ S1 = S) (fun (S1 : Mem) (t : Int32) => upm t) (t := _) rfl ⟨iv, i_this, rfl⟩ ?_
  intro L2 t h_2 ih_2
  revert h_2 ih_2
  revert t
  intro t0_2 h_2 ih_2
  obtain ⟨iv, i_this, e_S⟩ := h_2
  subst e_S
  try dsimp only
  refine v_iload_n C dX2_hasTaken_2 rfl ?_
  refine v_aload_n C dX2_hasTaken_3 rfl ?_
  refine g2_58 C i_this dX2_hasTaken_4 ?_
  refine v_topi (fun v4 e_v4 => ?_)
  refine v_icmp_ge (tgt := 27) C dX2_hasTaken_7 (by decide) (fun c_7 => ?_) (fun c_7 => ?_)
  · skip
    refine v_iconst (v := 0) C dX2_hasTaken_27 (by decide) ?_
    refine v_zret C hr (by first | rfl | exact bI_nar _) (Nat.le_of_ble_eq_true rfl) (Nat.le_of_ble_eq_true rfl) dX2_hasTaken_28 ?_
    first
      | exact ⟨true, rfl, rfl⟩
      | exact ⟨false, rfl, rfl⟩
      | exact ⟨_, rfl, rfl⟩
  · skip
    refine v_aload_n C dX2_hasTaken_10 rfl ?_
    refine v_iload_n C dX2_hasTaken_11 rfl ?_
    refine v_callV (As := [_]) (n := 1) C (st_X2_takenAt l _ _ _) rfl i_this (by decide) rfl ⟨wd310, wd311, wd312, wd271, wd313⟩ ⟨rfl, hy_X2_takenAt⟩ rfl ⟨Nat.le_of_ble_eq_true rfl, Nat.le_of_ble_eq_true rfl⟩ (Nat.le_of_ble_eq_true rfl) ⟨Nat.le_of_ble_eq_true rfl, Nat.le_of_ble_eq_true rfl⟩ dX2_hasTaken_12 ⟨rfl, iv, i_this⟩ (fun r_12 S2_12 h_12 => ?_)
    obtain ⟨v12, rfl, q_v12⟩ := h_12
    obtain rfl := q_v12.symm
    refine v_iload_n C dX2_hasTaken_15 rfl ?_
    refine v_icmp_ne (tgt := 21) C dX2_hasTaken_16 (by decide) (fun c_16 => ?_) (fun c_16 => ?_)
    · skip
      refine v_iinc C dX2_hasTaken_21 rfl rfl (by decide) (by first | rfl | exact cat_ok _ | simp [okS, cat_rf]) ?_
      refine v_goto (tgt := 2) C dX2_hasTaken_24 (by decide) ?_
      refine V.lits (lv' := [_, _, _]) rfl ?_
      exact ih_2 _ _ (upm_lt c_7) ⟨iv, i_this, rfl⟩
    · skip
      refine v_iconst (v := 1) C dX2_hasTaken_19 (by decide) ?_
      refine v_zret C hr (by first | rfl | exact bI_nar _) (Nat.le_of_ble_eq_true rfl) (Nat.le_of_ble_eq_true rfl) dX2_hasTaken_20 ?_
      first
        | exact ⟨true, rfl, rfl⟩
        | exact ⟨false, rfl, rfl⟩
        | exact ⟨_, rfl, rfl⟩
theorem dX2_leaves_0 : decode cX2_leaves 0 = .ok (.iload_n 1, 1) := by decide +kernel
theorem dX2_leaves_1 : decode cX2_leaves 1 = .ok (.iload_n 2, 1) := by decide +kernel
theorem dX2_leaves_2 : decode cX2_leaves 2 = .ok (.invokestatic 69, 3) := by decide +kernel
theorem dX2_leaves_5 : decode cX2_leaves 5 = .ok (.istore_n 3, 1) := by decide +kernel
theorem dX2_leaves_6 : decode cX2_leaves 6 = .ok (.iload_n 3, 1) := by decide +kernel
theorem dX2_leaves_7 : decode cX2_leaves 7 = .ok (.iconst (-1), 1) := by decide +kernel
theorem dX2_leaves_8 : decode cX2_leaves 8 = .ok (.if_icmp .eq 16, 3) := by decide +kernel
theorem dX2_leaves_11 : decode cX2_leaves 11 = .ok (.aload_n 0, 1) := by decide +kernel
theorem dX2_leaves_12 : decode cX2_leaves 12 = .ok (.getfield 28, 3) := by decide +kernel
theorem dX2_leaves_15 : decode cX2_leaves 15 = .ok (.iload_n 3, 1) := by decide +kernel
theorem dX2_leaves_16 : decode cX2_leaves 16 = .ok (.baload, 1) := by decide +kernel
theorem dX2_leaves_17 : decode cX2_leaves 17 = .ok (.ifCond .eq 7, 3) := by decide +kernel
theorem dX2_leaves_20 : decode cX2_leaves 20 = .ok (.iconst 1, 1) := by decide +kernel
theorem dX2_leaves_21 : decode cX2_leaves 21 = .ok (.goto 4, 3) := by decide +kernel
theorem dX2_leaves_24 : decode cX2_leaves 24 = .ok (.iconst 0, 1) := by decide +kernel
theorem dX2_leaves_25 : decode cX2_leaves 25 = .ok (.ireturn, 1) := by decide +kernel
set_option maxRecDepth 100000 in
set_option maxHeartbeats 4000000 in
theorem st_X2_leaves (l : Launch) (M : Nat → Prop) (h : Nat) (p0 : Int32) (p1 : Int32) : Ct l yX2_leaves cX2_leaves 4 (some .boolean) 1 0 0 22 (fun S av => av = [.ref h, .int p0, .int p1] ∧ INV M [] S ∧ is S h 2) (fun S _ r S' => ∃ v, r = some (.int (bI v)) ∧ S' = S) := by
  refine ct_of (by decide) (fun S av h => by obtain ⟨rfl, iv, i_this⟩ := h; exact Nat.le_of_ble_eq_true rfl) ?_
  intro p e s m args below meth c D G bs S av C hr hin hpre
  obtain ⟨rfl, iv, i_this⟩ := hpre
  refine v_iload_n C dX2_leaves_0 rfl ?_
  refine v_iload_n C dX2_leaves_1 rfl ?_
  refine v_callS (As := [_, _]) (n := 2) C (st_X2_slot l _ _) rfl ⟨wd436, wd437, wd271, wd438⟩ hy_X2_slot rfl ⟨Nat.le_of_ble_eq_true rfl, Nat.le_of_ble_eq_true rfl⟩ (Nat.le_of_ble_eq_true rfl) ⟨Nat.le_of_ble_eq_true rfl, Nat.le_of_ble_eq_true rfl⟩ dX2_leaves_2 rfl (fun r_2 S2_2 h_2 => ?_)
  obtain ⟨v2, rfl, p_v2, q_v2⟩ := h_2
  obtain rfl := q_v2.symm
  refine v_istore_n C dX2_leaves_5 (by decide) (by first | rfl | exact cat_ok _ | simp [okS, cat_rf]) ?_
  refine v_iload_n C dX2_leaves_6 rfl ?_
  refine v_iconst (v := -1) C dX2_leaves_7 (by decide) ?_
  refine v_icmp_eq (tgt := 24) C dX2_leaves_8 (by decide) (fun c_8 => ?_) (fun c_8 => ?_)
  · skip
    refine v_iconst (v := 0) C dX2_leaves_24 (by decide) ?_
    refine v_zret C hr (by first | rfl | exact bI_nar _) (Nat.le_of_ble_eq_true rfl) (Nat.le_of_ble_eq_true rfl) dX2_leaves_25 ?_
    first
      | exact ⟨true, rfl, rfl⟩
      | exact ⟨false, rfl, rfl⟩
      | exact ⟨_, rfl, rfl⟩
  · skip
    refine v_aload_n C dX2_leaves_11 rfl ?_
    obtain ⟨r12, e_r12, i_r12, m_r12⟩ := T134 iv i_this List.not_mem_nil
    refine r2_28 (b := r12) C i_this e_r12 dX2_leaves_12 ?_
    refine v_iload_n C dX2_leaves_15 rfl ?_
    refine v_zald C i_r12 (slot_or p_v2 c_8) dX2_leaves_16 ?_
    refine v_topi (fun v16 e_v16 => ?_)
    refine v_if_eq (tgt := 24) C dX2_leaves_17 (by decide) (fun c_17 => ?_) (fun c_17 => ?_)
    · skip
      refine v_iconst (v := 0) C dX2_leaves_24 (by decide) ?_
      refine v_zret C hr (by first | rfl | exact bI_nar _) (Nat.le_of_ble_eq_true rfl) (Nat.le_of_ble_eq_true rfl) dX2_leaves_25 ?_
      first
        | exact ⟨true, rfl, rfl⟩
        | exact ⟨false, rfl, rfl⟩
        | exact ⟨_, rfl, rfl⟩
    · skip
      refine v_iconst (v := 1) C dX2_leaves_20 (by decide) ?_
      refine v_goto (tgt := 25) C dX2_leaves_21 (by decide) ?_
      refine v_zret C hr (by first | rfl | exact bI_nar _) (Nat.le_of_ble_eq_true rfl) (Nat.le_of_ble_eq_true rfl) dX2_leaves_25 ?_
      first
        | exact ⟨true, rfl, rfl⟩
        | exact ⟨false, rfl, rfl⟩
        | exact ⟨_, rfl, rfl⟩
theorem dX2_nameOf_0 : decode cX2_nameOf 0 = .ok (.iload_n 1, 1) := by decide +kernel
theorem dX2_nameOf_1 : decode cX2_nameOf 1 = .ok (.iload_n 2, 1) := by decide +kernel
theorem dX2_nameOf_2 : decode cX2_nameOf 2 = .ok (.invokestatic 69, 3) := by decide +kernel
theorem dX2_nameOf_5 : decode cX2_nameOf 5 = .ok (.istore_n 3, 1) := by decide +kernel
theorem dX2_nameOf_6 : decode cX2_nameOf 6 = .ok (.iload_n 3, 1) := by decide +kernel
theorem dX2_nameOf_7 : decode cX2_nameOf 7 = .ok (.iconst (-1), 1) := by decide +kernel
theorem dX2_nameOf_8 : decode cX2_nameOf 8 = .ok (.if_icmp .ne 7, 3) := by decide +kernel
theorem dX2_nameOf_11 : decode cX2_nameOf 11 = .ok (.iconst (-1), 1) := by decide +kernel
theorem dX2_nameOf_12 : decode cX2_nameOf 12 = .ok (.goto 9, 3) := by decide +kernel
theorem dX2_nameOf_15 : decode cX2_nameOf 15 = .ok (.aload_n 0, 1) := by decide +kernel
theorem dX2_nameOf_16 : decode cX2_nameOf 16 = .ok (.getfield 32, 3) := by decide +kernel
theorem dX2_nameOf_19 : decode cX2_nameOf 19 = .ok (.iload_n 3, 1) := by decide +kernel
theorem dX2_nameOf_20 : decode cX2_nameOf 20 = .ok (.iaload, 1) := by decide +kernel
theorem dX2_nameOf_21 : decode cX2_nameOf 21 = .ok (.ireturn, 1) := by decide +kernel
set_option maxRecDepth 100000 in
set_option maxHeartbeats 4000000 in
theorem st_X2_nameOf (l : Launch) (M : Nat → Prop) (h : Nat) (p0 : Int32) (p1 : Int32) : Ct l yX2_nameOf cX2_nameOf 4 (some .int) 1 0 0 22 (fun S av => av = [.ref h, .int p0, .int p1] ∧ INV M [] S ∧ is S h 2) (fun S _ r S' => ∃ v, r = some (.int v) ∧ S' = S) := by
  refine ct_of (by decide) (fun S av h => by obtain ⟨rfl, iv, i_this⟩ := h; exact Nat.le_of_ble_eq_true rfl) ?_
  intro p e s m args below meth c D G bs S av C hr hin hpre
  obtain ⟨rfl, iv, i_this⟩ := hpre
  refine v_iload_n C dX2_nameOf_0 rfl ?_
  refine v_iload_n C dX2_nameOf_1 rfl ?_
  refine v_callS (As := [_, _]) (n := 2) C (st_X2_slot l _ _) rfl ⟨wd436, wd437, wd271, wd438⟩ hy_X2_slot rfl ⟨Nat.le_of_ble_eq_true rfl, Nat.le_of_ble_eq_true rfl⟩ (Nat.le_of_ble_eq_true rfl) ⟨Nat.le_of_ble_eq_true rfl, Nat.le_of_ble_eq_true rfl⟩ dX2_nameOf_2 rfl (fun r_2 S2_2 h_2 => ?_)
  obtain ⟨v2, rfl, p_v2, q_v2⟩ := h_2
  obtain rfl := q_v2.symm
  refine v_istore_n C dX2_nameOf_5 (by decide) (by first | rfl | exact cat_ok _ | simp [okS, cat_rf]) ?_
  refine v_iload_n C dX2_nameOf_6 rfl ?_
  refine v_iconst (v := -1) C dX2_nameOf_7 (by decide) ?_
  refine v_icmp_ne (tgt := 15) C dX2_nameOf_8 (by decide) (fun c_8 => ?_) (fun c_8 => ?_)
  · skip
    refine v_aload_n C dX2_nameOf_15 rfl ?_
    obtain ⟨r16, e_r16, i_r16, m_r16⟩ := T136 iv i_this List.not_mem_nil
    refine r2_32 (b := r16) C i_this e_r16 dX2_nameOf_16 ?_
    refine v_iload_n C dX2_nameOf_19 rfl ?_
    refine v_iald C i_r16 (slot_or p_v2 c_8) dX2_nameOf_20 ?_
    refine v_topi (fun v20 e_v20 => ?_)
    refine v_iret C hr (Nat.le_of_ble_eq_true rfl) (Nat.le_of_ble_eq_true rfl) dX2_nameOf_21 ?_
    exact ⟨_, rfl, rfl⟩
  · skip
    refine v_iconst (v := -1) C dX2_nameOf_11 (by decide) ?_
    refine v_goto (tgt := 21) C dX2_nameOf_12 (by decide) ?_
    refine v_iret C hr (Nat.le_of_ble_eq_true rfl) (Nat.le_of_ble_eq_true rfl) dX2_nameOf_21 ?_
    exact ⟨_, rfl, rfl⟩
theorem dX2_originOf_0 : decode cX2_originOf 0 = .ok (.iload_n 1, 1) := by decide +kernel
theorem dX2_originOf_1 : decode cX2_originOf 1 = .ok (.iload_n 2, 1) := by decide +kernel
theorem dX2_originOf_2 : decode cX2_originOf 2 = .ok (.invokestatic 69, 3) := by decide +kernel
theorem dX2_originOf_5 : decode cX2_originOf 5 = .ok (.istore_n 3, 1) := by decide +kernel
theorem dX2_originOf_6 : decode cX2_originOf 6 = .ok (.iload_n 3, 1) := by decide +kernel
theorem dX2_originOf_7 : decode cX2_originOf 7 = .ok (.iconst (-1), 1) := by decide +kernel
theorem dX2_originOf_8 : decode cX2_originOf 8 = .ok (.if_icmp .ne 7, 3) := by decide +kernel
theorem dX2_originOf_11 : decode cX2_originOf 11 = .ok (.iconst (-1), 1) := by decide +kernel
theorem dX2_originOf_12 : decode cX2_originOf 12 = .ok (.goto 9, 3) := by decide +kernel
theorem dX2_originOf_15 : decode cX2_originOf 15 = .ok (.aload_n 0, 1) := by decide +kernel
theorem dX2_originOf_16 : decode cX2_originOf 16 = .ok (.getfield 35, 3) := by decide +kernel
theorem dX2_originOf_19 : decode cX2_originOf 19 = .ok (.iload_n 3, 1) := by decide +kernel
theorem dX2_originOf_20 : decode cX2_originOf 20 = .ok (.iaload, 1) := by decide +kernel
theorem dX2_originOf_21 : decode cX2_originOf 21 = .ok (.ireturn, 1) := by decide +kernel
set_option maxRecDepth 100000 in
set_option maxHeartbeats 4000000 in
theorem st_X2_originOf (l : Launch) (M : Nat → Prop) (h : Nat) (p0 : Int32) (p1 : Int32) : Ct l yX2_originOf cX2_originOf 4 (some .int) 1 0 0 22 (fun S av => av = [.ref h, .int p0, .int p1] ∧ INV M [] S ∧ is S h 2) (fun S _ r S' => ∃ v, r = some (.int v) ∧ S' = S) := by
  refine ct_of (by decide) (fun S av h => by obtain ⟨rfl, iv, i_this⟩ := h; exact Nat.le_of_ble_eq_true rfl) ?_
  intro p e s m args below meth c D G bs S av C hr hin hpre
  obtain ⟨rfl, iv, i_this⟩ := hpre
  refine v_iload_n C dX2_originOf_0 rfl ?_
  refine v_iload_n C dX2_originOf_1 rfl ?_
  refine v_callS (As := [_, _]) (n := 2) C (st_X2_slot l _ _) rfl ⟨wd436, wd437, wd271, wd438⟩ hy_X2_slot rfl ⟨Nat.le_of_ble_eq_true rfl, Nat.le_of_ble_eq_true rfl⟩ (Nat.le_of_ble_eq_true rfl) ⟨Nat.le_of_ble_eq_true rfl, Nat.le_of_ble_eq_true rfl⟩ dX2_originOf_2 rfl (fun r_2 S2_2 h_2 => ?_)
  obtain ⟨v2, rfl, p_v2, q_v2⟩ := h_2
  obtain rfl := q_v2.symm
  refine v_istore_n C dX2_originOf_5 (by decide) (by first | rfl | exact cat_ok _ | simp [okS, cat_rf]) ?_
  refine v_iload_n C dX2_originOf_6 rfl ?_
  refine v_iconst (v := -1) C dX2_originOf_7 (by decide) ?_
  refine v_icmp_ne (tgt := 15) C dX2_originOf_8 (by decide) (fun c_8 => ?_) (fun c_8 => ?_)
  · skip
    refine v_aload_n C dX2_originOf_15 rfl ?_
    obtain ⟨r16, e_r16, i_r16, m_r16⟩ := T137 iv i_this List.not_mem_nil
    refine r2_35 (b := r16) C i_this e_r16 dX2_originOf_16 ?_
    refine v_iload_n C dX2_originOf_19 rfl ?_
    refine v_iald C i_r16 (slot_or p_v2 c_8) dX2_originOf_20 ?_
    refine v_topi (fun v20 e_v20 => ?_)
    refine v_iret C hr (Nat.le_of_ble_eq_true rfl) (Nat.le_of_ble_eq_true rfl) dX2_originOf_21 ?_
    exact ⟨_, rfl, rfl⟩
  · skip
    refine v_iconst (v := -1) C dX2_originOf_11 (by decide) ?_
    refine v_goto (tgt := 21) C dX2_originOf_12 (by decide) ?_
    refine v_iret C hr (Nat.le_of_ble_eq_true rfl) (Nat.le_of_ble_eq_true rfl) dX2_originOf_21 ?_
    exact ⟨_, rfl, rfl⟩
theorem dX2_sourceOf_0 : decode cX2_sourceOf 0 = .ok (.iload_n 1, 1) := by decide +kernel
theorem dX2_sourceOf_1 : decode cX2_sourceOf 1 = .ok (.iload_n 2, 1) := by decide +kernel
theorem dX2_sourceOf_2 : decode cX2_sourceOf 2 = .ok (.invokestatic 69, 3) := by decide +kernel
theorem dX2_sourceOf_5 : decode cX2_sourceOf 5 = .ok (.istore_n 3, 1) := by decide +kernel
theorem dX2_sourceOf_6 : decode cX2_sourceOf 6 = .ok (.iload_n 3, 1) := by decide +kernel
theorem dX2_sourceOf_7 : decode cX2_sourceOf 7 = .ok (.iconst (-1), 1) := by decide +kernel
theorem dX2_sourceOf_8 : decode cX2_sourceOf 8 = .ok (.if_icmp .ne 5, 3) := by decide +kernel
theorem dX2_sourceOf_11 : decode cX2_sourceOf 11 = .ok (.iconst (-1), 1) := by decide +kernel
theorem dX2_sourceOf_12 : decode cX2_sourceOf 12 = .ok (.ireturn, 1) := by decide +kernel
theorem dX2_sourceOf_13 : decode cX2_sourceOf 13 = .ok (.aload_n 0, 1) := by decide +kernel
theorem dX2_sourceOf_14 : decode cX2_sourceOf 14 = .ok (.getfield 35, 3) := by decide +kernel
theorem dX2_sourceOf_17 : decode cX2_sourceOf 17 = .ok (.iload_n 3, 1) := by decide +kernel
theorem dX2_sourceOf_18 : decode cX2_sourceOf 18 = .ok (.iaload, 1) := by decide +kernel
theorem dX2_sourceOf_19 : decode cX2_sourceOf 19 = .ok (.iconst (-1), 1) := by decide +kernel
theorem dX2_sourceOf_20 : decode cX2_sourceOf 20 = .ok (.if_icmp .eq 10, 3) := by decide +kernel
theorem dX2_sourceOf_23 : decode cX2_sourceOf 23 = .ok (.aload_n 0, 1) := by decide +kernel
theorem dX2_sourceOf_24 : decode cX2_sourceOf 24 = .ok (.getfield 35, 3) := by decide +kernel
theorem dX2_sourceOf_27 : decode cX2_sourceOf 27 = .ok (.iload_n 3, 1) := by decide +kernel
theorem dX2_sourceOf_28 : decode cX2_sourceOf 28 = .ok (.iaload, 1) := by decide +kernel
theorem dX2_sourceOf_29 : decode cX2_sourceOf 29 = .ok (.ireturn, 1) := by decide +kernel
theorem dX2_sourceOf_30 : decode cX2_sourceOf 30 = .ok (.aload_n 0, 1) := by decide +kernel
theorem dX2_sourceOf_31 : decode cX2_sourceOf 31 = .ok (.getfield 28, 3) := by decide +kernel
theorem dX2_sourceOf_34 : decode cX2_sourceOf 34 = .ok (.iload_n 3, 1) := by decide +kernel
theorem dX2_sourceOf_35 : decode cX2_sourceOf 35 = .ok (.baload, 1) := by decide +kernel
theorem dX2_sourceOf_36 : decode cX2_sourceOf 36 = .ok (.ifCond .ne 13, 3) := by decide +kernel
theorem dX2_sourceOf_39 : decode cX2_sourceOf 39 = .ok (.aload_n 0, 1) := by decide +kernel
theorem dX2_sourceOf_40 : decode cX2_sourceOf 40 = .ok (.getfield 32, 3) := by decide +kernel
theorem dX2_sourceOf_43 : decode cX2_sourceOf 43 = .ok (.iload_n 3, 1) := by decide +kernel
theorem dX2_sourceOf_44 : decode cX2_sourceOf 44 = .ok (.iaload, 1) := by decide +kernel
theorem dX2_sourceOf_45 : decode cX2_sourceOf 45 = .ok (.iconst (-1), 1) := by decide +kernel
theorem dX2_sourceOf_46 : decode cX2_sourceOf 46 = .ok (.if_icmp .eq 7, 3) := by decide +kernel
theorem dX2_sourceOf_49 : decode cX2_sourceOf 49 = .ok (.iconst (-1), 1) := by decide +kernel
theorem dX2_sourceOf_50 : decode cX2_sourceOf 50 = .ok (.goto 4, 3) := by decide +kernel
theorem dX2_sourceOf_53 : decode cX2_sourceOf 53 = .ok (.iload_n 2, 1) := by decide +kernel
theorem dX2_sourceOf_54 : decode cX2_sourceOf 54 = .ok (.ireturn, 1) := by decide +kernel
set_option maxRecDepth 100000 in
set_option maxHeartbeats 4000000 in
theorem st_X2_sourceOf (l : Launch) (M : Nat → Prop) (h : Nat) (p0 : Int32) (p1 : Int32) : Ct l yX2_sourceOf cX2_sourceOf 4 (some .int) 1 0 0 22 (fun S av => av = [.ref h, .int p0, .int p1] ∧ INV M [] S ∧ is S h 2) (fun S _ r S' => ∃ v, r = some (.int v) ∧ S' = S) := by
  refine ct_of (by decide) (fun S av h => by obtain ⟨rfl, iv, i_this⟩ := h; exact Nat.le_of_ble_eq_true rfl) ?_
  intro p e s m args below meth c D G bs S av C hr hin hpre
  obtain ⟨rfl, iv, i_this⟩ := hpre
  refine v_iload_n C dX2_sourceOf_0 rfl ?_
  refine v_iload_n C dX2_sourceOf_1 rfl ?_
  refine v_callS (As := [_, _]) (n := 2) C (st_X2_slot l _ _) rfl ⟨wd436, wd437, wd271, wd438⟩ hy_X2_slot rfl ⟨Nat.le_of_ble_eq_true rfl, Nat.le_of_ble_eq_true rfl⟩ (Nat.le_of_ble_eq_true rfl) ⟨Nat.le_of_ble_eq_true rfl, Nat.le_of_ble_eq_true rfl⟩ dX2_sourceOf_2 rfl (fun r_2 S2_2 h_2 => ?_)
  obtain ⟨v2, rfl, p_v2, q_v2⟩ := h_2
  obtain rfl := q_v2.symm
  refine v_istore_n C dX2_sourceOf_5 (by decide) (by first | rfl | exact cat_ok _ | simp [okS, cat_rf]) ?_
  refine v_iload_n C dX2_sourceOf_6 rfl ?_
  refine v_iconst (v := -1) C dX2_sourceOf_7 (by decide) ?_
  refine v_icmp_ne (tgt := 13) C dX2_sourceOf_8 (by decide) (fun c_8 => ?_) (fun c_8 => ?_)
  · skip
    refine v_aload_n C dX2_sourceOf_13 rfl ?_
    obtain ⟨r14, e_r14, i_r14, m_r14⟩ := T137 iv i_this List.not_mem_nil
    refine r2_35 (b := r14) C i_this e_r14 dX2_sourceOf_14 ?_
    refine v_iload_n C dX2_sourceOf_17 rfl ?_
    refine v_iald C i_r14 (slot_or p_v2 c_8) dX2_sourceOf_18 ?_
    refine v_topi (fun v18 e_v18 => ?_)
    refine v_iconst (v := -1) C dX2_sourceOf_19 (by decide) ?_
    refine v_icmp_eq (tgt := 30) C dX2_sourceOf_20 (by decide) (fun c_20 => ?_) (fun c_20 => ?_)
    · skip
      refine v_aload_n C dX2_sourceOf_30 rfl ?_
      obtain ⟨r31, e_r31, i_r31, m_r31⟩ := T134 iv i_this List.not_mem_nil
      refine r2_28 (b := r31) C i_this e_r31 dX2_sourceOf_31 ?_
      refine v_iload_n C dX2_sourceOf_34 rfl ?_
      refine v_zald C i_r31 (slot_or p_v2 c_8) dX2_sourceOf_35 ?_
      refine v_topi (fun v35 e_v35 => ?_)
      refine v_if_ne (tgt := 49) C dX2_sourceOf_36 (by decide) (fun c_36 => ?_) (fun c_36 => ?_)
      · skip
        refine v_iconst (v := -1) C dX2_sourceOf_49 (by decide) ?_
        refine v_goto (tgt := 54) C dX2_sourceOf_50 (by decide) ?_
        refine v_iret C hr (Nat.le_of_ble_eq_true rfl) (Nat.le_of_ble_eq_true rfl) dX2_sourceOf_54 ?_
        exact ⟨_, rfl, rfl⟩
      · skip
        refine v_aload_n C dX2_sourceOf_39 rfl ?_
        obtain ⟨r40, e_r40, i_r40, m_r40⟩ := T136 iv i_this List.not_mem_nil
        refine r2_32 (b := r40) C i_this e_r40 dX2_sourceOf_40 ?_
        refine v_iload_n C dX2_sourceOf_43 rfl ?_
        refine v_iald C i_r40 (slot_or p_v2 c_8) dX2_sourceOf_44 ?_
        refine v_topi (fun v44 e_v44 => ?_)
        refine v_iconst (v := -1) C dX2_sourceOf_45 (by decide) ?_
        refine v_icmp_eq (tgt := 53) C dX2_sourceOf_46 (by decide) (fun c_46 => ?_) (fun c_46 => ?_)
        · skip
          refine v_iload_n C dX2_sourceOf_53 rfl ?_
          refine v_iret C hr (Nat.le_of_ble_eq_true rfl) (Nat.le_of_ble_eq_true rfl) dX2_sourceOf_54 ?_
          exact ⟨_, rfl, rfl⟩
        · skip
          refine v_iconst (v := -1) C dX2_sourceOf_49 (by decide) ?_
          refine v_goto (tgt := 54) C dX2_sourceOf_50 (by decide) ?_
          refine v_iret C hr (Nat.le_of_ble_eq_true rfl) (Nat.le_of_ble_eq_true rfl) dX2_sourceOf_54 ?_
          exact ⟨_, rfl, rfl⟩
    · skip
      refine v_aload_n C dX2_sourceOf_23 rfl ?_
      obtain ⟨r24, e_r24, i_r24, m_r24⟩ := T137 iv i_this List.not_mem_nil
      refine r2_35 (b := r24) C i_this e_r24 dX2_sourceOf_24 ?_
      refine v_iload_n C dX2_sourceOf_27 rfl ?_
      refine v_iald C i_r24 (slot_or p_v2 c_8) dX2_sourceOf_28 ?_
      refine v_topi (fun v28 e_v28 => ?_)
      refine v_iret C hr (Nat.le_of_ble_eq_true rfl) (Nat.le_of_ble_eq_true rfl) dX2_sourceOf_29 ?_
      exact ⟨_, rfl, rfl⟩
  · skip
    refine v_iconst (v := -1) C dX2_sourceOf_11 (by decide) ?_
    refine v_iret C hr (Nat.le_of_ble_eq_true rfl) (Nat.le_of_ble_eq_true rfl) dX2_sourceOf_12 ?_
    exact ⟨_, rfl, rfl⟩
theorem dX2_addTaken_0 : decode cX2_addTaken 0 = .ok (.aload_n 0, 1) := by decide +kernel
theorem dX2_addTaken_1 : decode cX2_addTaken 1 = .ok (.getfield 58, 3) := by decide +kernel
theorem dX2_addTaken_4 : decode cX2_addTaken 4 = .ok (.iconst 5, 1) := by decide +kernel
theorem dX2_addTaken_5 : decode cX2_addTaken 5 = .ok (.invokestatic 61, 3) := by decide +kernel
theorem dX2_addTaken_8 : decode cX2_addTaken 8 = .ok (.ifCond .eq 23, 3) := by decide +kernel
theorem dX2_addTaken_11 : decode cX2_addTaken 11 = .ok (.aload_n 0, 1) := by decide +kernel
theorem dX2_addTaken_12 : decode cX2_addTaken 12 = .ok (.getfield 18, 3) := by decide +kernel
theorem dX2_addTaken_15 : decode cX2_addTaken 15 = .ok (.aload_n 0, 1) := by decide +kernel
theorem dX2_addTaken_16 : decode cX2_addTaken 16 = .ok (.getfield 58, 3) := by decide +kernel
theorem dX2_addTaken_19 : decode cX2_addTaken 19 = .ok (.iload_n 1, 1) := by decide +kernel
theorem dX2_addTaken_20 : decode cX2_addTaken 20 = .ok (.iastore, 1) := by decide +kernel
theorem dX2_addTaken_21 : decode cX2_addTaken 21 = .ok (.aload_n 0, 1) := by decide +kernel
theorem dX2_addTaken_22 : decode cX2_addTaken 22 = .ok (.dup, 1) := by decide +kernel
theorem dX2_addTaken_23 : decode cX2_addTaken 23 = .ok (.getfield 58, 3) := by decide +kernel
theorem dX2_addTaken_26 : decode cX2_addTaken 26 = .ok (.iconst 1, 1) := by decide +kernel
theorem dX2_addTaken_27 : decode cX2_addTaken 27 = .ok (.iadd, 1) := by decide +kernel
theorem dX2_addTaken_28 : decode cX2_addTaken 28 = .ok (.putfield 58, 3) := by decide +kernel
theorem dX2_addTaken_31 : decode cX2_addTaken 31 = .ok (.return_, 1) := by decide +kernel
set_option maxRecDepth 100000 in
set_option maxHeartbeats 4000000 in
theorem st_X2_addTaken (l : Launch) (M : Nat → Prop) (h : Nat) (p0 : Int32) : Ct l yX2_addTaken cX2_addTaken 2 none 1 0 0 21 (fun S av => av = [.ref h, .int p0] ∧ INV M [] S ∧ is S h 2) (fun S _ r S' => r = none ∧ INV M [] S' ∧ ext S S' (fun a => ¬ M a ∧ mK S a ∈ [2, 11])) := by
  refine ct_of (by decide) (fun S av h => by obtain ⟨rfl, iv, i_this⟩ := h; exact Nat.le_of_ble_eq_true rfl) ?_
  intro p e s m args below meth c D G bs S av C hr hin hpre
  obtain ⟨rfl, iv, i_this⟩ := hpre
  have E0 : ext S S (fun a => ¬ M a ∧ mK S a ∈ [2, 11]) := ext_rfl
  refine v_aload_n C dX2_addTaken_0 rfl ?_
  refine g2_58 C i_this dX2_addTaken_1 ?_
  refine v_topi (fun v1 e_v1 => ?_)
  refine v_iconst (v := 5) C dX2_addTaken_4 (by decide) ?_
  refine v_callSN (As := [_, _]) (n := 2) C (sb_isBelow l _ _) rfl ⟨(by decide +kernel), wd141, wd2, wd142⟩ hy_X9_isBelow rfl ⟨Nat.le_of_ble_eq_true rfl, Nat.le_of_ble_eq_true rfl⟩ (Nat.le_of_ble_eq_true rfl) ⟨Nat.le_of_ble_eq_true rfl, Nat.le_of_ble_eq_true rfl⟩ dX2_addTaken_5 rfl (fun r_5 S2_5 h_5 => ?_)
  obtain ⟨v5, rfl, p_v5, q_v5⟩ := h_5
  obtain rfl := q_v5.symm
  refine v_if_eq (tgt := 31) C dX2_addTaken_8 (by decide) (fun c_8 => ?_) (fun c_8 => ?_)
  · skip
    refine v_vret C hr (Nat.le_of_ble_eq_true rfl) (Nat.le_of_ble_eq_true rfl) dX2_addTaken_31 ?_
    exact ⟨rfl, iv, E0⟩
  · skip
    refine v_aload_n C dX2_addTaken_11 rfl ?_
    obtain ⟨r12, e_r12, i_r12, m_r12⟩ := T131 iv i_this List.not_mem_nil
    refine r2_18 (b := r12) C i_this e_r12 dX2_addTaken_12 ?_
    refine v_aload_n C dX2_addTaken_15 rfl ?_
    refine g2_58 C i_this dX2_addTaken_16 ?_
    refine v_topi (fun v16 e_v16 => ?_)
    refine v_iload_n C dX2_addTaken_19 rfl ?_
    refine v_iast C i_r12 (eq_in (e_v16.trans e_v1.symm) (bI_ne p_v5 c_8 rfl)) dX2_addTaken_20 ?_
    refine V.gen (fun S4_20 e_20 => ?_)
    have iv' := inv_sA e_20 iv
    have x_20 := x_sA e_20
    have E0' := ext_tr E0 x_20 (xk_A E0 i_r12 m_r12 (by decide))
    have E0 := E0'
    have i_this := is_ext x_20 i_this
    have i_r12 := isA_ext x_20 i_r12
    have iv := iv'
    refine v_aload_n C dX2_addTaken_21 rfl ?_
    refine v_dup C dX2_addTaken_22 rfl ?_
    refine g2_58 C i_this dX2_addTaken_23 ?_
    refine v_topi (fun v23 e_v23 => ?_)
    refine v_iconst (v := 1) C dX2_addTaken_26 (by decide) ?_
    refine v_iadd C dX2_addTaken_27 ?_
    refine p2_58 C i_this dX2_addTaken_28 ?_
    refine V.gen (fun S4_28 e_28 => ?_)
    have iv' := inv_sI e_28 iv (by decide) (by decide)
    have x_28 := x_sI e_28
    have E0' := ext_tr E0 x_28 (xk_is E0 i_this iv (by decide) (by decide))
    have E0 := E0'
    have i_this := is_ext x_28 i_this
    have i_r12 := isA_ext x_28 i_r12
    have iv := iv'
    refine v_vret C hr (Nat.le_of_ble_eq_true rfl) (Nat.le_of_ble_eq_true rfl) dX2_addTaken_31 ?_
    exact ⟨rfl, iv, E0⟩
theorem dX2_addLeft_0 : decode cX2_addLeft 0 = .ok (.iload_n 1, 1) := by decide +kernel
theorem dX2_addLeft_1 : decode cX2_addLeft 1 = .ok (.iload_n 2, 1) := by decide +kernel
theorem dX2_addLeft_2 : decode cX2_addLeft 2 = .ok (.invokestatic 69, 3) := by decide +kernel
theorem dX2_addLeft_5 : decode cX2_addLeft 5 = .ok (.istore_n 3, 1) := by decide +kernel
theorem dX2_addLeft_6 : decode cX2_addLeft 6 = .ok (.iload_n 3, 1) := by decide +kernel
theorem dX2_addLeft_7 : decode cX2_addLeft 7 = .ok (.iconst (-1), 1) := by decide +kernel
theorem dX2_addLeft_8 : decode cX2_addLeft 8 = .ok (.if_icmp .eq 20, 3) := by decide +kernel
theorem dX2_addLeft_11 : decode cX2_addLeft 11 = .ok (.aload_n 0, 1) := by decide +kernel
theorem dX2_addLeft_12 : decode cX2_addLeft 12 = .ok (.getfield 28, 3) := by decide +kernel
theorem dX2_addLeft_15 : decode cX2_addLeft 15 = .ok (.iload_n 3, 1) := by decide +kernel
theorem dX2_addLeft_16 : decode cX2_addLeft 16 = .ok (.iconst 1, 1) := by decide +kernel
theorem dX2_addLeft_17 : decode cX2_addLeft 17 = .ok (.bastore, 1) := by decide +kernel
theorem dX2_addLeft_18 : decode cX2_addLeft 18 = .ok (.aload_n 0, 1) := by decide +kernel
theorem dX2_addLeft_19 : decode cX2_addLeft 19 = .ok (.dup, 1) := by decide +kernel
theorem dX2_addLeft_20 : decode cX2_addLeft 20 = .ok (.getfield 73, 3) := by decide +kernel
theorem dX2_addLeft_23 : decode cX2_addLeft 23 = .ok (.iconst 1, 1) := by decide +kernel
theorem dX2_addLeft_24 : decode cX2_addLeft 24 = .ok (.iadd, 1) := by decide +kernel
theorem dX2_addLeft_25 : decode cX2_addLeft 25 = .ok (.putfield 73, 3) := by decide +kernel
theorem dX2_addLeft_28 : decode cX2_addLeft 28 = .ok (.iconst 1, 1) := by decide +kernel
theorem dX2_addLeft_29 : decode cX2_addLeft 29 = .ok (.ireturn, 1) := by decide +kernel
set_option maxRecDepth 100000 in
set_option maxHeartbeats 4000000 in
theorem st_X2_addLeft (l : Launch) (M : Nat → Prop) (h : Nat) (p0 : Int32) (p1 : Int32) : Ct l yX2_addLeft cX2_addLeft 4 (some .int) 1 0 0 22 (fun S av => av = [.ref h, .int p0, .int p1] ∧ INV M [] S ∧ is S h 2) (fun S _ r S' => ∃ v, r = some (.int v) ∧ INV M [] S' ∧ ext S S' (fun a => ¬ M a ∧ mK S a ∈ [2, 13])) := by
  refine ct_of (by decide) (fun S av h => by obtain ⟨rfl, iv, i_this⟩ := h; exact Nat.le_of_ble_eq_true rfl) ?_
  intro p e s m args below meth c D G bs S av C hr hin hpre
  obtain ⟨rfl, iv, i_this⟩ := hpre
  have E0 : ext S S (fun a => ¬ M a ∧ mK S a ∈ [2, 13]) := ext_rfl
  refine v_iload_n C dX2_addLeft_0 rfl ?_
  refine v_iload_n C dX2_addLeft_1 rfl ?_
  refine v_callS (As := [_, _]) (n := 2) C (st_X2_slot l _ _) rfl ⟨wd436, wd437, wd271, wd438⟩ hy_X2_slot rfl ⟨Nat.le_of_ble_eq_true rfl, Nat.le_of_ble_eq_true rfl⟩ (Nat.le_of_ble_eq_true rfl) ⟨Nat.le_of_ble_eq_true rfl, Nat.le_of_ble_eq_true rfl⟩ dX2_addLeft_2 rfl (fun r_2 S2_2 h_2 => ?_)
  obtain ⟨v2, rfl, p_v2, q_v2⟩ := h_2
  obtain rfl := q_v2.symm
  refine v_istore_n C dX2_addLeft_5 (by decide) (by first | rfl | exact cat_ok _ | simp [okS, cat_rf]) ?_
  refine v_iload_n C dX2_addLeft_6 rfl ?_
  refine v_iconst (v := -1) C dX2_addLeft_7 (by decide) ?_
  refine v_icmp_eq (tgt := 28) C dX2_addLeft_8 (by decide) (fun c_8 => ?_) (fun c_8 => ?_)
  · skip
    refine v_iconst (v := 1) C dX2_addLeft_28 (by decide) ?_
    refine v_iret C hr (Nat.le_of_ble_eq_true rfl) (Nat.le_of_ble_eq_true rfl) dX2_addLeft_29 ?_
    exact ⟨_, rfl, iv, E0⟩
  · skip
    refine v_aload_n C dX2_addLeft_11 rfl ?_
    obtain ⟨r12, e_r12, i_r12, m_r12⟩ := T134 iv i_this List.not_mem_nil
    refine r2_28 (b := r12) C i_this e_r12 dX2_addLeft_12 ?_
    refine v_iload_n C dX2_addLeft_15 rfl ?_
    refine v_iconst (v := 1) C dX2_addLeft_16 (by decide) ?_
    refine v_zast C i_r12 (slot_or p_v2 c_8) rfl dX2_addLeft_17 ?_
    refine V.gen (fun S4_17 e_17 => ?_)
    have iv' := inv_sA e_17 iv
    have x_17 := x_sA e_17
    have E0' := ext_tr E0 x_17 (xk_A E0 i_r12 m_r12 (by decide))
    have E0 := E0'
    have i_this := is_ext x_17 i_this
    have i_r12 := isA_ext x_17 i_r12
    have iv := iv'
    refine v_aload_n C dX2_addLeft_18 rfl ?_
    refine v_dup C dX2_addLeft_19 rfl ?_
    refine g2_73 C i_this dX2_addLeft_20 ?_
    refine v_topi (fun v20 e_v20 => ?_)
    refine v_iconst (v := 1) C dX2_addLeft_23 (by decide) ?_
    refine v_iadd C dX2_addLeft_24 ?_
    refine p2_73 C i_this dX2_addLeft_25 ?_
    refine V.gen (fun S4_25 e_25 => ?_)
    have iv' := inv_sI e_25 iv (by decide) (by decide)
    have x_25 := x_sI e_25
    have E0' := ext_tr E0 x_25 (xk_is E0 i_this iv (by decide) (by decide))
    have E0 := E0'
    have i_this := is_ext x_25 i_this
    have i_r12 := isA_ext x_25 i_r12
    have iv := iv'
    refine v_iconst (v := 1) C dX2_addLeft_28 (by decide) ?_
    refine v_iret C hr (Nat.le_of_ble_eq_true rfl) (Nat.le_of_ble_eq_true rfl) dX2_addLeft_29 ?_
    exact ⟨_, rfl, iv, E0⟩
theorem dX2_addRenamed_0 : decode cX2_addRenamed 0 = .ok (.iload_n 1, 1) := by decide +kernel
theorem dX2_addRenamed_1 : decode cX2_addRenamed 1 = .ok (.iload_n 2, 1) := by decide +kernel
theorem dX2_addRenamed_2 : decode cX2_addRenamed 2 = .ok (.invokestatic 69, 3) := by decide +kernel
theorem dX2_addRenamed_5 : decode cX2_addRenamed 5 = .ok (.istore 4, 2) := by decide +kernel
theorem dX2_addRenamed_7 : decode cX2_addRenamed 7 = .ok (.iload_n 1, 1) := by decide +kernel
theorem dX2_addRenamed_8 : decode cX2_addRenamed 8 = .ok (.iload_n 3, 1) := by decide +kernel
theorem dX2_addRenamed_9 : decode cX2_addRenamed 9 = .ok (.invokestatic 69, 3) := by decide +kernel
theorem dX2_addRenamed_12 : decode cX2_addRenamed 12 = .ok (.istore 5, 2) := by decide +kernel
theorem dX2_addRenamed_14 : decode cX2_addRenamed 14 = .ok (.iload 4, 2) := by decide +kernel
theorem dX2_addRenamed_16 : decode cX2_addRenamed 16 = .ok (.iconst (-1), 1) := by decide +kernel
theorem dX2_addRenamed_17 : decode cX2_addRenamed 17 = .ok (.if_icmp .eq 35, 3) := by decide +kernel
theorem dX2_addRenamed_20 : decode cX2_addRenamed 20 = .ok (.iload 5, 2) := by decide +kernel
theorem dX2_addRenamed_22 : decode cX2_addRenamed 22 = .ok (.iconst (-1), 1) := by decide +kernel
theorem dX2_addRenamed_23 : decode cX2_addRenamed 23 = .ok (.if_icmp .eq 29, 3) := by decide +kernel
theorem dX2_addRenamed_26 : decode cX2_addRenamed 26 = .ok (.aload_n 0, 1) := by decide +kernel
theorem dX2_addRenamed_27 : decode cX2_addRenamed 27 = .ok (.getfield 32, 3) := by decide +kernel
theorem dX2_addRenamed_30 : decode cX2_addRenamed 30 = .ok (.iload 4, 2) := by decide +kernel
theorem dX2_addRenamed_32 : decode cX2_addRenamed 32 = .ok (.iload_n 3, 1) := by decide +kernel
theorem dX2_addRenamed_33 : decode cX2_addRenamed 33 = .ok (.iastore, 1) := by decide +kernel
theorem dX2_addRenamed_34 : decode cX2_addRenamed 34 = .ok (.aload_n 0, 1) := by decide +kernel
theorem dX2_addRenamed_35 : decode cX2_addRenamed 35 = .ok (.getfield 35, 3) := by decide +kernel
theorem dX2_addRenamed_38 : decode cX2_addRenamed 38 = .ok (.iload 5, 2) := by decide +kernel
theorem dX2_addRenamed_40 : decode cX2_addRenamed 40 = .ok (.iload_n 2, 1) := by decide +kernel
theorem dX2_addRenamed_41 : decode cX2_addRenamed 41 = .ok (.iastore, 1) := by decide +kernel
theorem dX2_addRenamed_42 : decode cX2_addRenamed 42 = .ok (.aload_n 0, 1) := by decide +kernel
theorem dX2_addRenamed_43 : decode cX2_addRenamed 43 = .ok (.dup, 1) := by decide +kernel
theorem dX2_addRenamed_44 : decode cX2_addRenamed 44 = .ok (.getfield 76, 3) := by decide +kernel
theorem dX2_addRenamed_47 : decode cX2_addRenamed 47 = .ok (.iconst 1, 1) := by decide +kernel
theorem dX2_addRenamed_48 : decode cX2_addRenamed 48 = .ok (.iadd, 1) := by decide +kernel
theorem dX2_addRenamed_49 : decode cX2_addRenamed 49 = .ok (.putfield 76, 3) := by decide +kernel
theorem dX2_addRenamed_52 : decode cX2_addRenamed 52 = .ok (.iconst 1, 1) := by decide +kernel
theorem dX2_addRenamed_53 : decode cX2_addRenamed 53 = .ok (.ireturn, 1) := by decide +kernel
set_option maxRecDepth 100000 in
set_option maxHeartbeats 4000000 in
theorem st_X2_addRenamed (l : Launch) (M : Nat → Prop) (h : Nat) (p0 : Int32) (p1 : Int32) (p2 : Int32) : Ct l yX2_addRenamed cX2_addRenamed 6 (some .int) 1 0 0 22 (fun S av => av = [.ref h, .int p0, .int p1, .int p2] ∧ INV M [] S ∧ is S h 2) (fun S _ r S' => ∃ v, r = some (.int v) ∧ INV M [] S' ∧ ext S S' (fun a => ¬ M a ∧ mK S a ∈ [2, 11])) := by
  refine ct_of (by decide) (fun S av h => by obtain ⟨rfl, iv, i_this⟩ := h; exact Nat.le_of_ble_eq_true rfl) ?_
  intro p e s m args below meth c D G bs S av C hr hin hpre
  obtain ⟨rfl, iv, i_this⟩ := hpre
  have E0 : ext S S (fun a => ¬ M a ∧ mK S a ∈ [2, 11]) := ext_rfl
  refine v_iload_n C dX2_addRenamed_0 rfl ?_
  refine v_iload_n C dX2_addRenamed_1 rfl ?_
  refine v_callS (As := [_, _]) (n := 2) C (st_X2_slot l _ _) rfl ⟨wd436, wd437, wd271, wd438⟩ hy_X2_slot rfl ⟨Nat.le_of_ble_eq_true rfl, Nat.le_of_ble_eq_true rfl⟩ (Nat.le_of_ble_eq_true rfl) ⟨Nat.le_of_ble_eq_true rfl, Nat.le_of_ble_eq_true rfl⟩ dX2_addRenamed_2 rfl (fun r_2 S2_2 h_2 => ?_)
  obtain ⟨v2, rfl, p_v2, q_v2⟩ := h_2
  obtain rfl := q_v2.symm
  refine v_istore C dX2_addRenamed_5 (by decide) (by first | rfl | exact cat_ok _ | simp [okS, cat_rf]) ?_
  refine v_iload_n C dX2_addRenamed_7 rfl ?_
  refine v_iload_n C dX2_addRenamed_8 rfl ?_
  refine v_callS (As := [_, _]) (n := 2) C (st_X2_slot l _ _) rfl ⟨wd436, wd437, wd271, wd438⟩ hy_X2_slot rfl ⟨Nat.le_of_ble_eq_true rfl, Nat.le_of_ble_eq_true rfl⟩ (Nat.le_of_ble_eq_true rfl) ⟨Nat.le_of_ble_eq_true rfl, Nat.le_of_ble_eq_true rfl⟩ dX2_addRenamed_9 rfl (fun r_9 S2_9 h_9 => ?_)
  obtain ⟨v9, rfl, p_v9, q_v9⟩ := h_9
  obtain rfl := q_v9.symm
  refine v_istore C dX2_addRenamed_12 (by decide) (by first | rfl | exact cat_ok _ | simp [okS, cat_rf]) ?_
  refine v_iload C dX2_addRenamed_14 rfl ?_
  refine v_iconst (v := -1) C dX2_addRenamed_16 (by decide) ?_
  refine v_icmp_eq (tgt := 52) C dX2_addRenamed_17 (by decide) (fun c_17 => ?_) (fun c_17 => ?_)
  · skip
    refine v_iconst (v := 1) C dX2_addRenamed_52 (by decide) ?_
    refine v_iret C hr (Nat.le_of_ble_eq_true rfl) (Nat.le_of_ble_eq_true rfl) dX2_addRenamed_53 ?_
    exact ⟨_, rfl, iv, E0⟩
  · skip
    refine v_iload C dX2_addRenamed_20 rfl ?_
    refine v_iconst (v := -1) C dX2_addRenamed_22 (by decide) ?_
    refine v_icmp_eq (tgt := 52) C dX2_addRenamed_23 (by decide) (fun c_23 => ?_) (fun c_23 => ?_)
    · skip
      refine v_iconst (v := 1) C dX2_addRenamed_52 (by decide) ?_
      refine v_iret C hr (Nat.le_of_ble_eq_true rfl) (Nat.le_of_ble_eq_true rfl) dX2_addRenamed_53 ?_
      exact ⟨_, rfl, iv, E0⟩
    · skip
      refine v_aload_n C dX2_addRenamed_26 rfl ?_
      obtain ⟨r27, e_r27, i_r27, m_r27⟩ := T136 iv i_this List.not_mem_nil
      refine r2_32 (b := r27) C i_this e_r27 dX2_addRenamed_27 ?_
      refine v_iload C dX2_addRenamed_30 rfl ?_
      refine v_iload_n C dX2_addRenamed_32 rfl ?_
      refine v_iast C i_r27 (slot_or p_v2 c_17) dX2_addRenamed_33 ?_
      refine V.gen (fun S6_33 e_33 => ?_)
      have iv' := inv_sA e_33 iv
      have x_33 := x_sA e_33
      have E0' := ext_tr E0 x_33 (xk_A E0 i_r27 m_r27 (by decide))
      have E0 := E0'
      have i_this := is_ext x_33 i_this
      have i_r27 := isA_ext x_33 i_r27
      have iv := iv'
      refine v_aload_n C dX2_addRenamed_34 rfl ?_
      obtain ⟨r35, e_r35, i_r35, m_r35⟩ := T137 iv i_this List.not_mem_nil
      refine r2_35 (b := r35) C i_this e_r35 dX2_addRenamed_35 ?_
      refine v_iload C dX2_addRenamed_38 rfl ?_
      refine v_iload_n C dX2_addRenamed_40 rfl ?_
      refine v_iast C i_r35 (slot_or p_v9 c_23) dX2_addRenamed_41 ?_
      refine V.gen (fun S6_41 e_41 => ?_)
      have iv' := inv_sA e_41 iv
      have x_41 := x_sA e_41
      have E0' := ext_tr E0 x_41 (xk_A E0 i_r35 m_r35 (by decide))
      have E0 := E0'
      have i_this := is_ext x_41 i_this
      have i_r27 := isA_ext x_41 i_r27
      have i_r35 := isA_ext x_41 i_r35
      have iv := iv'
      refine v_aload_n C dX2_addRenamed_42 rfl ?_
      refine v_dup C dX2_addRenamed_43 rfl ?_
      refine g2_76 C i_this dX2_addRenamed_44 ?_
      refine v_topi (fun v44 e_v44 => ?_)
      refine v_iconst (v := 1) C dX2_addRenamed_47 (by decide) ?_
      refine v_iadd C dX2_addRenamed_48 ?_
      refine p2_76 C i_this dX2_addRenamed_49 ?_
      refine V.gen (fun S6_49 e_49 => ?_)
      have iv' := inv_sI e_49 iv (by decide) (by decide)
      have x_49 := x_sI e_49
      have E0' := ext_tr E0 x_49 (xk_is E0 i_this iv (by decide) (by decide))
      have E0 := E0'
      have i_this := is_ext x_49 i_this
      have i_r27 := isA_ext x_49 i_r27
      have i_r35 := isA_ext x_49 i_r35
      have iv := iv'
      refine v_iconst (v := 1) C dX2_addRenamed_52 (by decide) ?_
      refine v_iret C hr (Nat.le_of_ble_eq_true rfl) (Nat.le_of_ble_eq_true rfl) dX2_addRenamed_53 ?_
      exact ⟨_, rfl, iv, E0⟩
theorem dX2_swapPreferred_0 : decode cX2_swapPreferred 0 = .ok (.aload_n 0, 1) := by decide +kernel
theorem dX2_swapPreferred_1 : decode cX2_swapPreferred 1 = .ok (.iload_n 1, 1) := by decide +kernel
theorem dX2_swapPreferred_2 : decode cX2_swapPreferred 2 = .ok (.invokevirtual 79, 3) := by decide +kernel
theorem dX2_swapPreferred_5 : decode cX2_swapPreferred 5 = .ok (.istore_n 3, 1) := by decide +kernel
theorem dX2_swapPreferred_6 : decode cX2_swapPreferred 6 = .ok (.iload_n 1, 1) := by decide +kernel
theorem dX2_swapPreferred_7 : decode cX2_swapPreferred 7 = .ok (.bipush 12, 2) := by decide +kernel
theorem dX2_swapPreferred_9 : decode cX2_swapPreferred 9 = .ok (.invokestatic 61, 3) := by decide +kernel
theorem dX2_swapPreferred_12 : decode cX2_swapPreferred 12 = .ok (.ifCond .eq 10, 3) := by decide +kernel
theorem dX2_swapPreferred_15 : decode cX2_swapPreferred 15 = .ok (.aload_n 0, 1) := by decide +kernel
theorem dX2_swapPreferred_16 : decode cX2_swapPreferred 16 = .ok (.getfield 38, 3) := by decide +kernel
theorem dX2_swapPreferred_19 : decode cX2_swapPreferred 19 = .ok (.iload_n 1, 1) := by decide +kernel
theorem dX2_swapPreferred_20 : decode cX2_swapPreferred 20 = .ok (.iload_n 2, 1) := by decide +kernel
theorem dX2_swapPreferred_21 : decode cX2_swapPreferred 21 = .ok (.iastore, 1) := by decide +kernel
theorem dX2_swapPreferred_22 : decode cX2_swapPreferred 22 = .ok (.iload_n 3, 1) := by decide +kernel
theorem dX2_swapPreferred_23 : decode cX2_swapPreferred 23 = .ok (.ireturn, 1) := by decide +kernel
set_option maxRecDepth 100000 in
set_option maxHeartbeats 4000000 in
theorem st_X2_swapPreferred (l : Launch) (M : Nat → Prop) (h : Nat) (p0 : Int32) (p1 : Int32) : Ct l yX2_swapPreferred cX2_swapPreferred 4 (some .int) 2 0 0 42 (fun S av => av = [.ref h, .int p0, .int p1] ∧ INV M [] S ∧ is S h 2) (fun S _ r S' => ∃ v, r = some (.int v) ∧ INV M [] S' ∧ ext S S' (fun a => ¬ M a ∧ mK S a ∈ [11])) := by
  refine ct_of (by decide) (fun S av h => by obtain ⟨rfl, iv, i_this⟩ := h; exact Nat.le_of_ble_eq_true rfl) ?_
  intro p e s m args below meth c D G bs S av C hr hin hpre
  obtain ⟨rfl, iv, i_this⟩ := hpre
  have E0 : ext S S (fun a => ¬ M a ∧ mK S a ∈ [11]) := ext_rfl
  refine v_aload_n C dX2_swapPreferred_0 rfl ?_
  refine v_iload_n C dX2_swapPreferred_1 rfl ?_
  refine v_callV (As := [_]) (n := 1) C (st_X2_preferredFor l _ _ _) rfl i_this (by decide) rfl ⟨wd490, wd491, wd492, wd271, wd493⟩ ⟨rfl, hy_X2_preferredFor⟩ rfl ⟨Nat.le_of_ble_eq_true rfl, Nat.le_of_ble_eq_true rfl⟩ (Nat.le_of_ble_eq_true rfl) ⟨Nat.le_of_ble_eq_true rfl, Nat.le_of_ble_eq_true rfl⟩ dX2_swapPreferred_2 ⟨rfl, iv, i_this⟩ (fun r_2 S2_2 h_2 => ?_)
  obtain ⟨v2, rfl, q_v2⟩ := h_2
  obtain rfl := q_v2.symm
  refine v_istore_n C dX2_swapPreferred_5 (by decide) (by first | rfl | exact cat_ok _ | simp [okS, cat_rf]) ?_
  refine v_iload_n C dX2_swapPreferred_6 rfl ?_
  refine v_bipush (v := 12) C dX2_swapPreferred_7 (by decide) ?_
  refine v_callSN (As := [_, _]) (n := 2) C (sb_isBelow l _ _) rfl ⟨(by decide +kernel), wd141, wd2, wd142⟩ hy_X9_isBelow rfl ⟨Nat.le_of_ble_eq_true rfl, Nat.le_of_ble_eq_true rfl⟩ (Nat.le_of_ble_eq_true rfl) ⟨Nat.le_of_ble_eq_true rfl, Nat.le_of_ble_eq_true rfl⟩ dX2_swapPreferred_9 rfl (fun r_9 S2_9 h_9 => ?_)
  obtain ⟨v9, rfl, p_v9, q_v9⟩ := h_9
  obtain rfl := q_v9.symm
  refine v_if_eq (tgt := 22) C dX2_swapPreferred_12 (by decide) (fun c_12 => ?_) (fun c_12 => ?_)
  · skip
    refine v_iload_n C dX2_swapPreferred_22 rfl ?_
    refine v_iret C hr (Nat.le_of_ble_eq_true rfl) (Nat.le_of_ble_eq_true rfl) dX2_swapPreferred_23 ?_
    exact ⟨_, rfl, iv, E0⟩
  · skip
    refine v_aload_n C dX2_swapPreferred_15 rfl ?_
    obtain ⟨r16, e_r16, i_r16, m_r16⟩ := T139 iv i_this List.not_mem_nil
    refine r2_38 (b := r16) C i_this e_r16 dX2_swapPreferred_16 ?_
    refine v_iload_n C dX2_swapPreferred_19 rfl ?_
    refine v_iload_n C dX2_swapPreferred_20 rfl ?_
    refine v_iast C i_r16 (bI_ne p_v9 c_12 rfl) dX2_swapPreferred_21 ?_
    refine V.gen (fun S4_21 e_21 => ?_)
    have iv' := inv_sA e_21 iv
    have x_21 := x_sA e_21
    have E0' := ext_tr E0 x_21 (xk_A E0 i_r16 m_r16 (by decide))
    have E0 := E0'
    have i_this := is_ext x_21 i_this
    have i_r16 := isA_ext x_21 i_r16
    have iv := iv'
    refine v_iload_n C dX2_swapPreferred_22 rfl ?_
    refine v_iret C hr (Nat.le_of_ble_eq_true rfl) (Nat.le_of_ble_eq_true rfl) dX2_swapPreferred_23 ?_
    exact ⟨_, rfl, iv, E0⟩
theorem dX8_countBodies_0 : decode cX8_countBodies 0 = .ok (.iconst 0, 1) := by decide +kernel
theorem dX8_countBodies_1 : decode cX8_countBodies 1 = .ok (.istore_n 1, 1) := by decide +kernel
theorem dX8_countBodies_2 : decode cX8_countBodies 2 = .ok (.iconst 0, 1) := by decide +kernel
theorem dX8_countBodies_3 : decode cX8_countBodies 3 = .ok (.istore_n 2, 1) := by decide +kernel
theorem dX8_countBodies_4 : decode cX8_countBodies 4 = .ok (.iload_n 2, 1) := by decide +kernel
theorem dX8_countBodies_5 : decode cX8_countBodies 5 = .ok (.bipush 12, 2) := by decide +kernel
theorem dX8_countBodies_7 : decode cX8_countBodies 7 = .ok (.if_icmp .ge 25, 3) := by decide +kernel
theorem dX8_countBodies_10 : decode cX8_countBodies 10 = .ok (.iload_n 1, 1) := by decide +kernel
theorem dX8_countBodies_11 : decode cX8_countBodies 11 = .ok (.aload_n 0, 1) := by decide +kernel
theorem dX8_countBodies_12 : decode cX8_countBodies 12 = .ok (.iload_n 2, 1) := by decide +kernel
theorem dX8_countBodies_13 : decode cX8_countBodies 13 = .ok (.invokevirtual 31, 3) := by decide +kernel
theorem dX8_countBodies_16 : decode cX8_countBodies 16 = .ok (.ifnonnull 7, 3) := by decide +kernel
theorem dX8_countBodies_19 : decode cX8_countBodies 19 = .ok (.iconst 0, 1) := by decide +kernel
theorem dX8_countBodies_20 : decode cX8_countBodies 20 = .ok (.goto 4, 3) := by decide +kernel
theorem dX8_countBodies_23 : decode cX8_countBodies 23 = .ok (.iconst 1, 1) := by decide +kernel
theorem dX8_countBodies_24 : decode cX8_countBodies 24 = .ok (.iadd, 1) := by decide +kernel
theorem dX8_countBodies_25 : decode cX8_countBodies 25 = .ok (.istore_n 1, 1) := by decide +kernel
theorem dX8_countBodies_26 : decode cX8_countBodies 26 = .ok (.iinc 2 1, 3) := by decide +kernel
theorem dX8_countBodies_29 : decode cX8_countBodies 29 = .ok (.goto (-25), 3) := by decide +kernel
theorem dX8_countBodies_32 : decode cX8_countBodies 32 = .ok (.iload_n 1, 1) := by decide +kernel
theorem dX8_countBodies_33 : decode cX8_countBodies 33 = .ok (.ireturn, 1) := by decide +kernel
set_option maxRecDepth 100000 in
set_option maxHeartbeats 4000000 in
theorem st_X8_countBodies (l : Launch) (M : Nat → Prop) (h : Nat) : Ct l yX8_countBodies cX8_countBodies 3 (some .int) 2 0 0 42 (fun S av => av = [.ref h] ∧ INV M [] S ∧ is S h 8) (fun S _ r S' => ∃ v, r = some (.int v) ∧ S' = S) := by
  refine ct_of (by decide) (fun S av h => by obtain ⟨rfl, iv, i_this⟩ := h; exact Nat.le_of_ble_eq_true rfl) ?_
  intro p e s m args below meth c D G bs S av C hr hin hpre
  obtain ⟨rfl, iv, i_this⟩ := hpre
  refine v_iconst (v := 0) C dX8_countBodies_0 (by decide) ?_
  refine v_istore_n C dX8_countBodies_1 (by decide) (by first | rfl | exact cat_ok _ | simp [okS, cat_rf]) ?_
  refine v_iconst (v := 0) C dX8_countBodies_2 (by decide) ?_
  refine v_istore_n C dX8_countBodies_3 (by decide) (by first | rfl | exact cat_ok _ | simp [okS, cat_rf]) ?_
  refine V.lits (lv' := [_, _, _]) rfl ?_
  refine v_loop (fun (t : Int32 × Int32) lv0 => ((lv0.set 1 (some (.int t.1))).set 2 (some (.int t.2)))) (fun (S1 : Mem) (t : Int32 × Int32) => INV M [] S1 ∧ is S1 h 8 ∧ S1 = S) (fun (S1 : Mem) (t : Int32 × Int32) => upm t.2) (t := (_, _)) rfl ⟨iv, i_this, rfl⟩ ?_
  intro L4 t h_4 ih_4
  obtain ⟨t0_4, t1_4⟩ := t
  obtain ⟨iv, i_this, e_S⟩ := h_4
  subst e_S
  try dsimp only
  refine v_iload_n C dX8_countBodies_4 rfl ?_
  refine v_bipush (v := 12) C dX8_countBodies_5 (by decide) ?_
  refine v_icmp_ge (tgt := 32) C dX8_countBodies_7 (by decide) (fun c_7 => ?_) (fun c_7 => ?_)
  · skip
    refine v_iload_n C dX8_countBodies_32 rfl ?_
    refine v_iret C hr (Nat.le_of_ble_eq_true rfl) (Nat.le_of_ble_eq_true rfl) dX8_countBodies_33 ?_
    exact ⟨_, rfl, rfl⟩
  · skip
    refine v_iload_n C dX8_countBodies_10 rfl ?_
    refine v_aload_n C dX8_countBodies_11 rfl ?_
    refine v_iload_n C dX8_countBodies_12 rfl ?_
    refine v_callV (As := [_]) (n := 1) C (st_X8_bodyFor l _ _ _) rfl i_this (by decide) rfl ⟨wd943, wd548, wd549, wd212, wd550⟩ ⟨rfl, hy_X8_bodyFor⟩ rfl ⟨Nat.le_of_ble_eq_true rfl, Nat.le_of_ble_eq_true rfl⟩ (Nat.le_of_ble_eq_true rfl) ⟨Nat.le_of_ble_eq_true rfl, Nat.le_of_ble_eq_true rfl⟩ dX8_countBodies_13 ⟨rfl, iv, i_this⟩ (fun r_13 S2_13 h_13 => ?_)
    obtain ⟨v13, rfl, n_v13, q_v13⟩ := h_13
    obtain rfl := q_v13.symm
    refine v_ifnonnull (tgt := 23) C dX8_countBodies_16 (by decide) (fun b16 c_16 => ?_) (fun c_16 => ?_)
    · skip
      subst c_16
      have i_b16 := nOK_some n_v13 rfl
      refine v_iconst (v := 1) C dX8_countBodies_23 (by decide) ?_
      refine v_iadd C dX8_countBodies_24 ?_
      refine v_istore_n C dX8_countBodies_25 (by decide) (by first | rfl | exact cat_ok _ | simp [okS, cat_rf]) ?_
      refine v_iinc C dX8_countBodies_26 rfl rfl (by decide) (by first | rfl | exact cat_ok _ | simp [okS, cat_rf]) ?_
      refine v_goto (tgt := 4) C dX8_countBodies_29 (by decide) ?_
      refine V.lits (lv' := [_, _, _]) rfl ?_
      exact ih_4 _ (_, _) (upm_lt c_7) ⟨iv, i_this, rfl⟩
    · skip
      subst c_16
      refine v_iconst (v := 0) C dX8_countBodies_19 (by decide) ?_
      refine v_goto (tgt := 24) C dX8_countBodies_20 (by decide) ?_
      refine v_iadd C dX8_countBodies_24 ?_
      refine v_istore_n C dX8_countBodies_25 (by decide) (by first | rfl | exact cat_ok _ | simp [okS, cat_rf]) ?_
      refine v_iinc C dX8_countBodies_26 rfl rfl (by decide) (by first | rfl | exact cat_ok _ | simp [okS, cat_rf]) ?_
      refine v_goto (tgt := 4) C dX8_countBodies_29 (by decide) ?_
      refine V.lits (lv' := [_, _, _]) rfl ?_
      exact ih_4 _ (_, _) (upm_lt c_7) ⟨iv, i_this, rfl⟩
theorem dX8_countGuards_0 : decode cX8_countGuards 0 = .ok (.iconst 0, 1) := by decide +kernel
theorem dX8_countGuards_1 : decode cX8_countGuards 1 = .ok (.istore_n 1, 1) := by decide +kernel
theorem dX8_countGuards_2 : decode cX8_countGuards 2 = .ok (.iconst 0, 1) := by decide +kernel
theorem dX8_countGuards_3 : decode cX8_countGuards 3 = .ok (.istore_n 2, 1) := by decide +kernel
theorem dX8_countGuards_4 : decode cX8_countGuards 4 = .ok (.iload_n 2, 1) := by decide +kernel
theorem dX8_countGuards_5 : decode cX8_countGuards 5 = .ok (.bipush 12, 2) := by decide +kernel
theorem dX8_countGuards_7 : decode cX8_countGuards 7 = .ok (.if_icmp .ge 25, 3) := by decide +kernel
theorem dX8_countGuards_10 : decode cX8_countGuards 10 = .ok (.iload_n 1, 1) := by decide +kernel
theorem dX8_countGuards_11 : decode cX8_countGuards 11 = .ok (.aload_n 0, 1) := by decide +kernel
theorem dX8_countGuards_12 : decode cX8_countGuards 12 = .ok (.iload_n 2, 1) := by decide +kernel
theorem dX8_countGuards_13 : decode cX8_countGuards 13 = .ok (.invokevirtual 35, 3) := by decide +kernel
theorem dX8_countGuards_16 : decode cX8_countGuards 16 = .ok (.ifnonnull 7, 3) := by decide +kernel
theorem dX8_countGuards_19 : decode cX8_countGuards 19 = .ok (.iconst 0, 1) := by decide +kernel
theorem dX8_countGuards_20 : decode cX8_countGuards 20 = .ok (.goto 4, 3) := by decide +kernel
theorem dX8_countGuards_23 : decode cX8_countGuards 23 = .ok (.iconst 1, 1) := by decide +kernel
theorem dX8_countGuards_24 : decode cX8_countGuards 24 = .ok (.iadd, 1) := by decide +kernel
theorem dX8_countGuards_25 : decode cX8_countGuards 25 = .ok (.istore_n 1, 1) := by decide +kernel
theorem dX8_countGuards_26 : decode cX8_countGuards 26 = .ok (.iinc 2 1, 3) := by decide +kernel
theorem dX8_countGuards_29 : decode cX8_countGuards 29 = .ok (.goto (-25), 3) := by decide +kernel
theorem dX8_countGuards_32 : decode cX8_countGuards 32 = .ok (.iload_n 1, 1) := by decide +kernel
theorem dX8_countGuards_33 : decode cX8_countGuards 33 = .ok (.ireturn, 1) := by decide +kernel
set_option maxRecDepth 100000 in
set_option maxHeartbeats 4000000 in
theorem st_X8_countGuards (l : Launch) (M : Nat → Prop) (h : Nat) : Ct l yX8_countGuards cX8_countGuards 3 (some .int) 2 0 0 42 (fun S av => av = [.ref h] ∧ INV M [] S ∧ is S h 8) (fun S _ r S' => ∃ v, r = some (.int v) ∧ S' = S) := by
  refine ct_of (by decide) (fun S av h => by obtain ⟨rfl, iv, i_this⟩ := h; exact Nat.le_of_ble_eq_true rfl) ?_
  intro p e s m args below meth c D G bs S av C hr hin hpre
  obtain ⟨rfl, iv, i_this⟩ := hpre
  refine v_iconst (v := 0) C dX8_countGuards_0 (by decide) ?_
  refine v_istore_n C dX8_countGuards_1 (by decide) (by first | rfl | exact cat_ok _ | simp [okS, cat_rf]) ?_
  refine v_iconst (v := 0) C dX8_countGuards_2 (by decide) ?_
  refine v_istore_n C dX8_countGuards_3 (by decide) (by first | rfl | exact cat_ok _ | simp [okS, cat_rf]) ?_
  refine V.lits (lv' := [_, _, _]) rfl ?_
  refine v_loop (fun (t : Int32 × Int32) lv0 => ((lv0.set 1 (some (.int t.1))).set 2 (some (.int t.2)))) (fun (S1 : Mem) (t : Int32 × Int32) => INV M [] S1 ∧ is S1 h 8 ∧ S1 = S) (fun (S1 : Mem) (t : Int32 × Int32) => upm t.2) (t := (_, _)) rfl ⟨iv, i_this, rfl⟩ ?_
  intro L4 t h_4 ih_4
  obtain ⟨t0_4, t1_4⟩ := t
  obtain ⟨iv, i_this, e_S⟩ := h_4
  subst e_S
  try dsimp only
  refine v_iload_n C dX8_countGuards_4 rfl ?_
  refine v_bipush (v := 12) C dX8_countGuards_5 (by decide) ?_
  refine v_icmp_ge (tgt := 32) C dX8_countGuards_7 (by decide) (fun c_7 => ?_) (fun c_7 => ?_)
  · skip
    refine v_iload_n C dX8_countGuards_32 rfl ?_
    refine v_iret C hr (Nat.le_of_ble_eq_true rfl) (Nat.le_of_ble_eq_true rfl) dX8_countGuards_33 ?_
    exact ⟨_, rfl, rfl⟩
  · skip
    refine v_iload_n C dX8_countGuards_10 rfl ?_
    refine v_aload_n C dX8_countGuards_11 rfl ?_
    refine v_iload_n C dX8_countGuards_12 rfl ?_
    refine v_callV (As := [_]) (n := 1) C (st_X8_guardFor l _ _ _) rfl i_this (by decide) rfl ⟨wd952, wd643, wd644, wd212, wd645⟩ ⟨rfl, hy_X8_guardFor⟩ rfl ⟨Nat.le_of_ble_eq_true rfl, Nat.le_of_ble_eq_true rfl⟩ (Nat.le_of_ble_eq_true rfl) ⟨Nat.le_of_ble_eq_true rfl, Nat.le_of_ble_eq_true rfl⟩ dX8_countGuards_13 ⟨rfl, iv, i_this⟩ (fun r_13 S2_13 h_13 => ?_)
    obtain ⟨v13, rfl, n_v13, q_v13⟩ := h_13
    obtain rfl := q_v13.symm
    refine v_ifnonnull (tgt := 23) C dX8_countGuards_16 (by decide) (fun b16 c_16 => ?_) (fun c_16 => ?_)
    · skip
      subst c_16
      have i_b16 := nOK_some n_v13 rfl
      refine v_iconst (v := 1) C dX8_countGuards_23 (by decide) ?_
      refine v_iadd C dX8_countGuards_24 ?_
      refine v_istore_n C dX8_countGuards_25 (by decide) (by first | rfl | exact cat_ok _ | simp [okS, cat_rf]) ?_
      refine v_iinc C dX8_countGuards_26 rfl rfl (by decide) (by first | rfl | exact cat_ok _ | simp [okS, cat_rf]) ?_
      refine v_goto (tgt := 4) C dX8_countGuards_29 (by decide) ?_
      refine V.lits (lv' := [_, _, _]) rfl ?_
      exact ih_4 _ (_, _) (upm_lt c_7) ⟨iv, i_this, rfl⟩
    · skip
      subst c_16
      refine v_iconst (v := 0) C dX8_countGuards_19 (by decide) ?_
      refine v_goto (tgt := 24) C dX8_countGuards_20 (by decide) ?_
      refine v_iadd C dX8_countGuards_24 ?_
      refine v_istore_n C dX8_countGuards_25 (by decide) (by first | rfl | exact cat_ok _ | simp [okS, cat_rf]) ?_
      refine v_iinc C dX8_countGuards_26 rfl rfl (by decide) (by first | rfl | exact cat_ok _ | simp [okS, cat_rf]) ?_
      refine v_goto (tgt := 4) C dX8_countGuards_29 (by decide) ?_
      refine V.lits (lv' := [_, _, _]) rfl ?_
      exact ih_4 _ (_, _) (upm_lt c_7) ⟨iv, i_this, rfl⟩
