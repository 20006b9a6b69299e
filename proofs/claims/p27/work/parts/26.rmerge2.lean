theorem beh_step {row : Nat → Nat → Option Nat} {fr : Nat → Nat} {t r i : Nat} (h : i < 20) (hp : row r i ≠ some t) : sc (fun i => decide (row r i = some t)) (20 - i) i = sc (fun i => decide (row r i = some t)) (20 - (i + 1)) (i + 1) := sc_step h (decide_eq_false hp)
theorem beh_no {row : Nat → Nat → Option Nat} {nr t r i : Nat} (hs : shut row nr) (hr : r < nr) (hi : row r i = none) : sc (fun i => decide (row r i = some t)) (20 - i) i = none := sc_eq_none (fun j h1 _ => decide_eq_false (fun z => by rw [(hs r hr).1 i j h1 hi] at z; cases z))
theorem frS {K : RS} {fr : Nat → Nat} {np r : Nat} (h : ∀ q, q ≤ np → rA K 30 q = nI (fr q) ∧ fr q ≤ 20) (hr : r ≤ np) : rA K 30 r = nI (fr r) ∧ fr r ≤ 20 := h r hr
def moN (b : Bool) : Nat := bif b then 1 else 0
theorem any_step {row : Nat → Nat → Option Nat} {fr : Nat → Nat} {r : Nat} (h : row r (fr r) = none) : anyFr row fr (r + 1) = anyFr row fr r := by
  unfold anyFr
  cases e : sc (fun r => (row r (fr r)).isSome) r 0 with
  | some j =>
    obtain ⟨h1, h2, h3, h4⟩ := sc_some e
    rw [sc_eq_some (f := r + 1) h1 (by omega) h3 h4]
  | none =>
    rw [sc_eq_none (fun i h1 h2 => ?_)]
    by_cases hi : i = r
    · subst hi; simp only [h]; rfl
    · exact sc_none e i h1 (by omega)
theorem any_hit {row : Nat → Nat → Option Nat} {fr : Nat → Nat} {r t : Nat} (h : row r (fr r) = some t) : anyFr row fr (r + 1) = true := by
  unfold anyFr
  cases e : sc (fun r => (row r (fr r)).isSome) (r + 1) 0 with
  | some j => rfl
  | none => have := sc_none e r (Nat.zero_le _) (by omega); simp only [h] at this; cases this
theorem mg_none {row : Nat → Nat → Option Nat} {nr f : Nat} {fr : Nat → Nat} {acc : List Nat} (h : nx row fr nr = none) : mg row nr f fr acc = bif anyFr row fr nr then none else some acc := by
  cases f with
  | zero => rw [mg]
  | succ f => rw [mg, h]
theorem mg_next {row : Nat → Nat → Option Nat} {nr t : Nat} {fr : Nat → Nat} {acc : List Nat} (h : nx row fr nr = some t) (hl : acc.length < 20) : mg row nr (20 - acc.length) fr acc = mg row nr (20 - (acc ++ [t]).length) (adv row fr t) (acc ++ [t]) := by
  obtain ⟨f, hf⟩ : ∃ f, 20 - acc.length = f + 1 := ⟨20 - acc.length - 1, by omega⟩
  rw [hf, mg, h, List.length_append]
  show mg row nr f _ _ = mg row nr (20 - (acc.length + 1)) _ _
  rw [show 20 - (acc.length + 1) = f by omega]
theorem app_get {acc : List Nat} {t i x : Nat} (h : (acc ++ [t])[i]? = some x) : (i < acc.length ∧ acc[i]? = some x) ∨ (i = acc.length ∧ x = t) := by
  rw [List.getElem?_append] at h
  split at h
  · rename_i h1; exact Or.inl ⟨h1, h⟩
  · rename_i h1
    right
    obtain ⟨k, hk⟩ : ∃ k, i - acc.length = k := ⟨_, rfl⟩
    rw [hk] at h
    cases k with
    | zero => simp at h; exact ⟨by omega, h.symm⟩
    | succ k => simp at h
theorem dX10_placeOf_0 : decode cX10_placeOf 0 = .ok (.iload_n 1, 1) := by decide +kernel
theorem dX10_placeOf_1 : decode cX10_placeOf 1 = .ok (.aload_n 0, 1) := by decide +kernel
theorem dX10_placeOf_2 : decode cX10_placeOf 2 = .ok (.getfield 155, 3) := by decide +kernel
theorem dX10_placeOf_5 : decode cX10_placeOf 5 = .ok (.if_icmp .ne 22, 3) := by decide +kernel
theorem dX10_placeOf_8 : decode cX10_placeOf 8 = .ok (.iload_n 2, 1) := by decide +kernel
theorem dX10_placeOf_9 : decode cX10_placeOf 9 = .ok (.aload_n 0, 1) := by decide +kernel
theorem dX10_placeOf_10 : decode cX10_placeOf 10 = .ok (.getfield 155, 3) := by decide +kernel
theorem dX10_placeOf_13 : decode cX10_placeOf 13 = .ok (.if_icmp .ge 12, 3) := by decide +kernel
theorem dX10_placeOf_16 : decode cX10_placeOf 16 = .ok (.aload_n 0, 1) := by decide +kernel
theorem dX10_placeOf_17 : decode cX10_placeOf 17 = .ok (.getfield 91, 3) := by decide +kernel
theorem dX10_placeOf_20 : decode cX10_placeOf 20 = .ok (.iload_n 2, 1) := by decide +kernel
theorem dX10_placeOf_21 : decode cX10_placeOf 21 = .ok (.iaload, 1) := by decide +kernel
theorem dX10_placeOf_22 : decode cX10_placeOf 22 = .ok (.goto 4, 3) := by decide +kernel
theorem dX10_placeOf_25 : decode cX10_placeOf 25 = .ok (.iconst (-1), 1) := by decide +kernel
theorem dX10_placeOf_26 : decode cX10_placeOf 26 = .ok (.ireturn, 1) := by decide +kernel
theorem dX10_placeOf_27 : decode cX10_placeOf 27 = .ok (.iload_n 2, 1) := by decide +kernel
theorem dX10_placeOf_28 : decode cX10_placeOf 28 = .ok (.aload_n 0, 1) := by decide +kernel
theorem dX10_placeOf_29 : decode cX10_placeOf 29 = .ok (.getfield 13, 3) := by decide +kernel
theorem dX10_placeOf_32 : decode cX10_placeOf 32 = .ok (.aload_n 0, 1) := by decide +kernel
theorem dX10_placeOf_33 : decode cX10_placeOf 33 = .ok (.getfield 91, 3) := by decide +kernel
theorem dX10_placeOf_36 : decode cX10_placeOf 36 = .ok (.iload_n 1, 1) := by decide +kernel
theorem dX10_placeOf_37 : decode cX10_placeOf 37 = .ok (.iaload, 1) := by decide +kernel
theorem dX10_placeOf_38 : decode cX10_placeOf 38 = .ok (.iaload, 1) := by decide +kernel
theorem dX10_placeOf_39 : decode cX10_placeOf 39 = .ok (.if_icmp .ge 22, 3) := by decide +kernel
theorem dX10_placeOf_42 : decode cX10_placeOf 42 = .ok (.aload_n 0, 1) := by decide +kernel
theorem dX10_placeOf_43 : decode cX10_placeOf 43 = .ok (.getfield 7, 3) := by decide +kernel
theorem dX10_placeOf_46 : decode cX10_placeOf 46 = .ok (.bipush 20, 2) := by decide +kernel
theorem dX10_placeOf_48 : decode cX10_placeOf 48 = .ok (.aload_n 0, 1) := by decide +kernel
theorem dX10_placeOf_49 : decode cX10_placeOf 49 = .ok (.getfield 91, 3) := by decide +kernel
theorem dX10_placeOf_52 : decode cX10_placeOf 52 = .ok (.iload_n 1, 1) := by decide +kernel
theorem dX10_placeOf_53 : decode cX10_placeOf 53 = .ok (.iaload, 1) := by decide +kernel
theorem dX10_placeOf_54 : decode cX10_placeOf 54 = .ok (.imul, 1) := by decide +kernel
theorem dX10_placeOf_55 : decode cX10_placeOf 55 = .ok (.iload_n 2, 1) := by decide +kernel
theorem dX10_placeOf_56 : decode cX10_placeOf 56 = .ok (.iadd, 1) := by decide +kernel
theorem dX10_placeOf_57 : decode cX10_placeOf 57 = .ok (.iaload, 1) := by decide +kernel
theorem dX10_placeOf_58 : decode cX10_placeOf 58 = .ok (.goto 4, 3) := by decide +kernel
theorem dX10_placeOf_61 : decode cX10_placeOf 61 = .ok (.iconst (-1), 1) := by decide +kernel
theorem dX10_placeOf_62 : decode cX10_placeOf 62 = .ok (.ireturn, 1) := by decide +kernel
set_option maxRecDepth 100000 in
set_option maxHeartbeats 4000000 in
theorem rt_X10_placeOf (l : Launch) (m0 : Nat) (ad : Nat → Nat) (K : RS) (w : Nat) (i : Nat) : Ct l yX10_placeOf cX10_placeOf 3 (some .int) 0 0 0 0 (fun S av => av = [.ref m0, .int (nI w), .int (nI i)] ∧ mdR S m0 ad K ∧ RV K ∧ (MPre K) ∧ (w ≤ fN K 29) ∧ (i ≤ 21)) (fun S _ r S' => ∃ v : Option Nat, r = some (.int (oI v)) ∧ v = rowF K w i ∧ (∀ k, v = some k → k < 20) ∧ S' = S) := by
  refine ct_of (by decide) (fun S av h => by obtain ⟨rfl, hk, rv, mp, hr2, hi2⟩ := h; exact Nat.le_of_ble_eq_true rfl) ?_
  intro p e s m args below meth c D G bs S av C hr hin hpre
  obtain ⟨rfl, hk, rv, mp, hr2, hi2⟩ := hpre
  obtain ⟨z1, z2, z3⟩ := mp
  have zt := rv.p1.2
  refine v_iload_n C dX10_placeOf_0 rfl ?_
  refine v_aload_n C dX10_placeOf_1 rfl ?_
  refine q10_155 C hk dX10_placeOf_2 ?_
  refine v_val z1 ?_
  refine n_icmp_ne (tgt := 27) C (by omega) (by omega) dX10_placeOf_5 (by decide) (fun c_5 => ?_) (fun c_5 => ?_)
  · skip
    obtain ⟨x1, x2⟩ := z3 w (by omega)
    obtain ⟨w1, w2⟩ := rv.p3 (rN K 28 w) (by omega)
    refine v_iload_n C dX10_placeOf_27 rfl ?_
    refine v_aload_n C dX10_placeOf_28 rfl ?_
    refine q10_13 C hk dX10_placeOf_29 ?_
    refine v_aload_n C dX10_placeOf_32 rfl ?_
    refine q10_91 C hk dX10_placeOf_33 ?_
    refine v_iload_n C dX10_placeOf_36 rfl ?_
    refine n_iald C hk (show (28, 11, 6) ∈ mTab by decide +kernel) (by omega) dX10_placeOf_37 ?_
    refine v_val x1 ?_
    refine n_iald C hk (show (2, 11, 20) ∈ mTab by decide +kernel) (by omega) dX10_placeOf_38 ?_
    refine v_val w1 ?_
    refine n_icmp_ge (tgt := 61) C (by omega) (by omega) dX10_placeOf_39 (by decide) (fun c_39 => ?_) (fun c_39 => ?_)
    · skip
      refine v_iconst (v := -1) C dX10_placeOf_61 (by decide) ?_
      refine v_iret C hr (Nat.le_of_ble_eq_true rfl) (Nat.le_of_ble_eq_true rfl) dX10_placeOf_62 ?_
      exact ⟨none, rfl, (by unfold rowF; rw [if_neg c_5]; rw [if_neg (by omega)]), (fun k z => by cases z <;> omega), rfl⟩
    · skip
      obtain ⟨v1, v2⟩ := rv.p4 (rN K 28 w) (by omega) i c_39
      refine v_aload_n C dX10_placeOf_42 rfl ?_
      refine q10_7 C hk dX10_placeOf_43 ?_
      refine v_bipush (v := nI 20) C dX10_placeOf_46 (by decide) ?_
      refine v_aload_n C dX10_placeOf_48 rfl ?_
      refine q10_91 C hk dX10_placeOf_49 ?_
      refine v_iload_n C dX10_placeOf_52 rfl ?_
      refine n_iald C hk (show (28, 11, 6) ∈ mTab by decide +kernel) (by omega) dX10_placeOf_53 ?_
      refine v_val x1 ?_
      refine n_imul C dX10_placeOf_54 ?_
      refine v_iload_n C dX10_placeOf_55 rfl ?_
      refine n_iadd C dX10_placeOf_56 ?_
      refine n_iald C hk (show (1, 11, 400) ∈ mTab by decide +kernel) (by omega) dX10_placeOf_57 ?_
      refine v_val v1 ?_
      refine v_goto (tgt := 62) C dX10_placeOf_58 (by decide) ?_
      refine v_iret C hr (Nat.le_of_ble_eq_true rfl) (Nat.le_of_ble_eq_true rfl) dX10_placeOf_62 ?_
      exact ⟨some _, rfl, (by unfold rowF; rw [if_neg c_5]; rw [if_pos c_39]), (fun k z => by cases z <;> omega), rfl⟩
  · skip
    refine v_iload_n C dX10_placeOf_8 rfl ?_
    refine v_aload_n C dX10_placeOf_9 rfl ?_
    refine q10_155 C hk dX10_placeOf_10 ?_
    refine v_val z1 ?_
    refine n_icmp_ge (tgt := 25) C (by omega) (by omega) dX10_placeOf_13 (by decide) (fun c_13 => ?_) (fun c_13 => ?_)
    · skip
      refine v_iconst (v := -1) C dX10_placeOf_25 (by decide) ?_
      refine v_iret C hr (Nat.le_of_ble_eq_true rfl) (Nat.le_of_ble_eq_true rfl) dX10_placeOf_26 ?_
      exact ⟨none, rfl, (by unfold rowF; rw [if_pos c_5]; rw [if_neg (by omega)]), (fun k z => by cases z <;> omega), rfl⟩
    · skip
      obtain ⟨y1, y2⟩ := z3 i c_13
      refine v_aload_n C dX10_placeOf_16 rfl ?_
      refine q10_91 C hk dX10_placeOf_17 ?_
      refine v_iload_n C dX10_placeOf_20 rfl ?_
      refine n_iald C hk (show (28, 11, 6) ∈ mTab by decide +kernel) (by omega) dX10_placeOf_21 ?_
      refine v_val y1 ?_
      refine v_goto (tgt := 26) C dX10_placeOf_22 (by decide) ?_
      refine v_iret C hr (Nat.le_of_ble_eq_true rfl) (Nat.le_of_ble_eq_true rfl) dX10_placeOf_26 ?_
      exact ⟨some _, rfl, (by unfold rowF; rw [if_pos c_5]; rw [if_pos c_13]), (fun k z => by cases z <;> omega), rfl⟩
theorem dX10_isBehind_0 : decode cX10_isBehind 0 = .ok (.iconst 0, 1) := by decide +kernel
theorem dX10_isBehind_1 : decode cX10_isBehind 1 = .ok (.istore_n 2, 1) := by decide +kernel
theorem dX10_isBehind_2 : decode cX10_isBehind 2 = .ok (.iload_n 2, 1) := by decide +kernel
theorem dX10_isBehind_3 : decode cX10_isBehind 3 = .ok (.aload_n 0, 1) := by decide +kernel
theorem dX10_isBehind_4 : decode cX10_isBehind 4 = .ok (.getfield 155, 3) := by decide +kernel
theorem dX10_isBehind_7 : decode cX10_isBehind 7 = .ok (.if_icmp .gt 61, 3) := by decide +kernel
theorem dX10_isBehind_10 : decode cX10_isBehind 10 = .ok (.aload_n 0, 1) := by decide +kernel
theorem dX10_isBehind_11 : decode cX10_isBehind 11 = .ok (.getfield 94, 3) := by decide +kernel
theorem dX10_isBehind_14 : decode cX10_isBehind 14 = .ok (.iload_n 2, 1) := by decide +kernel
theorem dX10_isBehind_15 : decode cX10_isBehind 15 = .ok (.iaload, 1) := by decide +kernel
theorem dX10_isBehind_16 : decode cX10_isBehind 16 = .ok (.iconst 1, 1) := by decide +kernel
theorem dX10_isBehind_17 : decode cX10_isBehind 17 = .ok (.iadd, 1) := by decide +kernel
theorem dX10_isBehind_18 : decode cX10_isBehind 18 = .ok (.istore_n 3, 1) := by decide +kernel
theorem dX10_isBehind_19 : decode cX10_isBehind 19 = .ok (.aload_n 0, 1) := by decide +kernel
theorem dX10_isBehind_20 : decode cX10_isBehind 20 = .ok (.iload_n 2, 1) := by decide +kernel
theorem dX10_isBehind_21 : decode cX10_isBehind 21 = .ok (.aload_n 0, 1) := by decide +kernel
theorem dX10_isBehind_22 : decode cX10_isBehind 22 = .ok (.getfield 94, 3) := by decide +kernel
theorem dX10_isBehind_25 : decode cX10_isBehind 25 = .ok (.iload_n 2, 1) := by decide +kernel
theorem dX10_isBehind_26 : decode cX10_isBehind 26 = .ok (.iaload, 1) := by decide +kernel
theorem dX10_isBehind_27 : decode cX10_isBehind 27 = .ok (.invokevirtual 158, 3) := by decide +kernel
theorem dX10_isBehind_30 : decode cX10_isBehind 30 = .ok (.iconst (-1), 1) := by decide +kernel
theorem dX10_isBehind_31 : decode cX10_isBehind 31 = .ok (.if_icmp .eq 31, 3) := by decide +kernel
theorem dX10_isBehind_34 : decode cX10_isBehind 34 = .ok (.aload_n 0, 1) := by decide +kernel
theorem dX10_isBehind_35 : decode cX10_isBehind 35 = .ok (.iload_n 2, 1) := by decide +kernel
theorem dX10_isBehind_36 : decode cX10_isBehind 36 = .ok (.iload_n 3, 1) := by decide +kernel
theorem dX10_isBehind_37 : decode cX10_isBehind 37 = .ok (.invokevirtual 158, 3) := by decide +kernel
theorem dX10_isBehind_40 : decode cX10_isBehind 40 = .ok (.iconst (-1), 1) := by decide +kernel
theorem dX10_isBehind_41 : decode cX10_isBehind 41 = .ok (.if_icmp .eq 21, 3) := by decide +kernel
theorem dX10_isBehind_44 : decode cX10_isBehind 44 = .ok (.aload_n 0, 1) := by decide +kernel
theorem dX10_isBehind_45 : decode cX10_isBehind 45 = .ok (.iload_n 2, 1) := by decide +kernel
theorem dX10_isBehind_46 : decode cX10_isBehind 46 = .ok (.iload_n 3, 1) := by decide +kernel
theorem dX10_isBehind_47 : decode cX10_isBehind 47 = .ok (.invokevirtual 158, 3) := by decide +kernel
theorem dX10_isBehind_50 : decode cX10_isBehind 50 = .ok (.iload_n 1, 1) := by decide +kernel
theorem dX10_isBehind_51 : decode cX10_isBehind 51 = .ok (.if_icmp .ne 5, 3) := by decide +kernel
theorem dX10_isBehind_54 : decode cX10_isBehind 54 = .ok (.iconst 1, 1) := by decide +kernel
theorem dX10_isBehind_55 : decode cX10_isBehind 55 = .ok (.ireturn, 1) := by decide +kernel
theorem dX10_isBehind_56 : decode cX10_isBehind 56 = .ok (.iinc 3 1, 3) := by decide +kernel
theorem dX10_isBehind_59 : decode cX10_isBehind 59 = .ok (.goto (-40), 3) := by decide +kernel
theorem dX10_isBehind_62 : decode cX10_isBehind 62 = .ok (.iinc 2 1, 3) := by decide +kernel
theorem dX10_isBehind_65 : decode cX10_isBehind 65 = .ok (.goto (-63), 3) := by decide +kernel
theorem dX10_isBehind_68 : decode cX10_isBehind 68 = .ok (.iconst 0, 1) := by decide +kernel
theorem dX10_isBehind_69 : decode cX10_isBehind 69 = .ok (.ireturn, 1) := by decide +kernel
set_option maxRecDepth 100000 in
set_option maxHeartbeats 4000000 in
theorem rt_X10_isBehind (l : Launch) (m0 : Nat) (ad : Nat → Nat) (K : RS) (t : Nat) (fr : Nat → Nat) : Ct l yX10_isBehind cX10_isBehind 4 (some .boolean) 1 0 0 22 (fun S av => av = [.ref m0, .int (nI t)] ∧ mdR S m0 ad K ∧ RV K ∧ (MPre K) ∧ (∀ q, q ≤ fN K 29 → rA K 30 q = nI (fr q) ∧ fr q ≤ 20) ∧ (t < 20)) (fun S _ r S' => ∃ v : Bool, r = some (.int (bI v)) ∧ v = beh (rowF K) fr (fN K 29 + 1) t ∧ S' = S) := by
  refine ct_of (by decide) (fun S av h => by obtain ⟨rfl, hk, rv, mp, hfr, ht⟩ := h; exact Nat.le_of_ble_eq_true rfl) ?_
  intro p e s m args below meth c D G bs S av C hr hin hpre
  obtain ⟨rfl, hk, rv, mp, hfr, ht⟩ := hpre
  have sh := rowF_shut rv mp
  have z6 := mp.2.1
  refine v_iconst (v := nI 0) C dX10_isBehind_0 (by decide) ?_
  refine v_istore_n C dX10_isBehind_1 (by decide) rfl ?_
  refine V.lits (lv' := [_, _, _, _]) rfl ?_
  refine v_loop (fun (tt : (Nat)) lv0 => (lv0.set 2 (some (.int (nI tt))))) (fun (S1 : Mem) (tt : (Nat)) => S1 = S ∧ (tt ≤ fN K 29 + 1) ∧ (beh (rowF K) fr (fN K 29 + 1) t = (sc (behR (rowF K) fr t) (fN K 29 + 1 - tt) tt).isSome)) (fun (S1 : Mem) (tt : (Nat)) => fN K 29 + 1 - tt) (t := (0)) rfl ⟨rfl, (by omega), rfl⟩ ?_
  intro L2 tt h_2 ih_2
  revert h_2 ih_2
  revert tt
  intro r h_2 ih_2
  obtain ⟨e_S, hri, ho⟩ := h_2
  subst e_S
  try dsimp only at *
  refine v_iload_n C dX10_isBehind_2 rfl ?_
  refine v_aload_n C dX10_isBehind_3 rfl ?_
  refine q10_155 C hk dX10_isBehind_4 ?_
  refine v_val mp.1 ?_
  refine n_icmp_gt (tgt := 68) C (by omega) (by omega) dX10_isBehind_7 (by decide) (fun c_7 => ?_) (fun c_7 => ?_)
  · skip
    refine v_iconst (v := nI 0) C dX10_isBehind_68 (by decide) ?_
    refine v_zret C hr (by first | rfl | exact bI_nar _) (Nat.le_of_ble_eq_true rfl) (Nat.le_of_ble_eq_true rfl) dX10_isBehind_69 ?_
    exact ⟨false, rfl, (by rw [ho, sc_end (by omega)]; rfl), rfl⟩
  · skip
    obtain ⟨f1, f2⟩ := hfr r (by omega)
    refine v_aload_n C dX10_isBehind_10 rfl ?_
    refine q10_94 C hk dX10_isBehind_11 ?_
    refine v_iload_n C dX10_isBehind_14 rfl ?_
    refine n_iald C hk (show (30, 11, 7) ∈ mTab by decide +kernel) (by omega) dX10_isBehind_15 ?_
    refine v_val f1 ?_
    refine v_iconst (v := nI 1) C dX10_isBehind_16 (by decide) ?_
    refine n_iadd C dX10_isBehind_17 ?_
    refine v_istore_n C dX10_isBehind_18 (by decide) rfl ?_
    refine V.lits (lv' := [_, _, _, _]) rfl ?_
    refine v_loop (fun (tt : (Nat)) lv0 => (lv0.set 3 (some (.int (nI tt))))) (fun (S1 : Mem) (tt : (Nat)) => S1 = L2 ∧ (fr r + 1 ≤ tt ∧ tt ≤ 21) ∧ ((sc (fun tt => decide (rowF K r tt = some t)) (20 - (fr r + 1)) (fr r + 1)).isSome = (sc (fun tt => decide (rowF K r tt = some t)) (20 - tt) tt).isSome)) (fun (S1 : Mem) (tt : (Nat)) => 21 - tt) (t := ((fr r + 1))) rfl ⟨rfl, (by omega), rfl⟩ ?_
    intro L19 tt h_19 ih_19
    revert h_19 ih_19
    revert tt
    intro i h_19 ih_19
    obtain ⟨e_S, hi, hi3⟩ := h_19
    subst e_S
    try dsimp only at *
    refine v_aload_n C dX10_isBehind_19 rfl ?_
    refine v_iload_n C dX10_isBehind_20 rfl ?_
    refine v_aload_n C dX10_isBehind_21 rfl ?_
    refine q10_94 C hk dX10_isBehind_22 ?_
    refine v_iload_n C dX10_isBehind_25 rfl ?_
    refine n_iald C hk (show (30, 11, 7) ∈ mTab by decide +kernel) (by omega) dX10_isBehind_26 ?_
    refine v_val f1 ?_
    refine v_callV (As := [_, _]) (n := 2) C (rt_X10_placeOf l m0 ad _ _ _) rfl hk.1 (by decide) rfl ⟨wd251, wd252, wd253, wd5, wd254⟩ ⟨rfl, hy_X10_placeOf⟩ rfl ⟨Nat.le_of_ble_eq_true rfl, Nat.le_of_ble_eq_true rfl⟩ (Nat.le_of_ble_eq_true rfl) ⟨Nat.le_of_ble_eq_true rfl, Nat.le_of_ble_eq_true rfl⟩ dX10_isBehind_27 ⟨rfl, hk, rv, mp, (by omega), (by omega)⟩ (fun r_27 S0_27 h_27 => ?_)
    obtain ⟨v27, rfl, p_v27, b_v27, q_v27⟩ := h_27
    obtain rfl := q_v27.symm
    refine v_iconst (v := -1) C dX10_isBehind_30 (by decide) ?_
    refine o_icmp_eq (tgt := 62) C (fun k z => by have := b_v27 k z; omega) dX10_isBehind_31 (by decide) (fun c_31 => ?_) (fun k31 c_31 => ?_)
    · skip
      subst c_31
      have hb : behR (rowF K) fr t r = false := by unfold behR; rw [← p_v27]; rfl
      refine v_iinc C dX10_isBehind_62 rfl (nI_inc _) (by decide) rfl ?_
      refine v_goto (tgt := 2) C dX10_isBehind_65 (by decide) ?_
      refine V.drop 3 ?_
      refine V.lits (lv' := [_, _, _, _]) rfl ?_
      exact ih_2 _ ((r + 1)) (by first | omega | (dsimp only; omega)) ⟨rfl, (by omega), (ho.trans (congrArg Option.isSome (sc_step (by omega) hb)))⟩
    · skip
      have b_k31 := b_v27 k31 c_31
      subst c_31
      have hsm : (rowF K r (fr r)).isSome = true := by rw [← p_v27]; rfl
      refine v_aload_n C dX10_isBehind_34 rfl ?_
      refine v_iload_n C dX10_isBehind_35 rfl ?_
      refine v_iload_n C dX10_isBehind_36 rfl ?_
      refine v_callV (As := [_, _]) (n := 2) C (rt_X10_placeOf l m0 ad _ _ _) rfl hk.1 (by decide) rfl ⟨wd251, wd252, wd253, wd5, wd254⟩ ⟨rfl, hy_X10_placeOf⟩ rfl ⟨Nat.le_of_ble_eq_true rfl, Nat.le_of_ble_eq_true rfl⟩ (Nat.le_of_ble_eq_true rfl) ⟨Nat.le_of_ble_eq_true rfl, Nat.le_of_ble_eq_true rfl⟩ dX10_isBehind_37 ⟨rfl, hk, rv, mp, (by omega), (by omega)⟩ (fun r_37 S2_37 h_37 => ?_)
      obtain ⟨v37, rfl, p_v37, b_v37, q_v37⟩ := h_37
      obtain rfl := q_v37.symm
      refine v_iconst (v := -1) C dX10_isBehind_40 (by decide) ?_
      refine o_icmp_eq (tgt := 62) C (fun k z => by have := b_v37 k z; omega) dX10_isBehind_41 (by decide) (fun c_41 => ?_) (fun k41 c_41 => ?_)
      · skip
        subst c_41
        have hb : behR (rowF K) fr t r = false := by unfold behR; rw [hsm, hi3, beh_no sh (by omega) p_v37.symm]; rfl
        refine v_iinc C dX10_isBehind_62 rfl (nI_inc _) (by decide) rfl ?_
        refine v_goto (tgt := 2) C dX10_isBehind_65 (by decide) ?_
        refine V.drop 3 ?_
        refine V.lits (lv' := [_, _, _, _]) rfl ?_
        exact ih_2 _ ((r + 1)) (by first | omega | (dsimp only; omega)) ⟨rfl, (by omega), (ho.trans (congrArg Option.isSome (sc_step (by omega) hb)))⟩
      · skip
        have b_k41 := b_v37 k41 c_41
        subst c_41
        have h20 := (sh r (by omega)).2 i _ p_v37.symm
        refine v_aload_n C dX10_isBehind_44 rfl ?_
        refine v_iload_n C dX10_isBehind_45 rfl ?_
        refine v_iload_n C dX10_isBehind_46 rfl ?_
        refine v_callV (As := [_, _]) (n := 2) C (rt_X10_placeOf l m0 ad _ _ _) rfl hk.1 (by decide) rfl ⟨wd251, wd252, wd253, wd5, wd254⟩ ⟨rfl, hy_X10_placeOf⟩ rfl ⟨Nat.le_of_ble_eq_true rfl, Nat.le_of_ble_eq_true rfl⟩ (Nat.le_of_ble_eq_true rfl) ⟨Nat.le_of_ble_eq_true rfl, Nat.le_of_ble_eq_true rfl⟩ dX10_isBehind_47 ⟨rfl, hk, rv, mp, (by omega), (by omega)⟩ (fun r_47 S4_47 h_47 => ?_)
        obtain ⟨v47, rfl, p_v47, b_v47, q_v47⟩ := h_47
        obtain rfl := q_v47.symm
        refine v_iload_n C dX10_isBehind_50 rfl ?_
        refine v_icmp_ne (tgt := 56) C dX10_isBehind_51 (by decide) (fun c_51 => ?_) (fun c_51 => ?_)
        · skip
          refine v_iinc C dX10_isBehind_56 rfl (nI_inc _) (by decide) rfl ?_
          refine v_goto (tgt := 19) C dX10_isBehind_59 (by decide) ?_
          refine V.lits (lv' := [_, _, _, _]) rfl ?_
          exact ih_19 _ ((i + 1)) (by first | omega | (dsimp only; omega)) ⟨rfl, (by omega), (hi3.trans (congrArg Option.isSome (beh_step (fr := fr) (by omega) (by rw [← p_v47]; exact fun z => c_51 ((oI_nI (fun k z => by have := b_v47 k z; omega) (by omega)).mpr z)))))⟩
        · skip
          have hit : rowF K r i = some t := by rw [← p_v47]; exact (oI_nI (fun k z => by have := b_v47 k z; omega) (by omega)).mp c_51
          have hb : behR (rowF K) fr t r = true := by unfold behR; rw [hsm, hi3, sc_hit h20 (decide_eq_true hit)]; rfl
          refine v_iconst (v := nI 1) C dX10_isBehind_54 (by decide) ?_
          refine v_zret C hr (by first | rfl | exact bI_nar _) (Nat.le_of_ble_eq_true rfl) (Nat.le_of_ble_eq_true rfl) dX10_isBehind_55 ?_
          exact ⟨true, rfl, (by rw [ho, sc_hit (by omega) hb]; rfl), rfl⟩
theorem dX10_merge_0 : decode cX10_merge 0 = .ok (.iconst 0, 1) := by decide +kernel
theorem dX10_merge_1 : decode cX10_merge 1 = .ok (.istore_n 1, 1) := by decide +kernel
theorem dX10_merge_2 : decode cX10_merge 2 = .ok (.iload_n 1, 1) := by decide +kernel
theorem dX10_merge_3 : decode cX10_merge 3 = .ok (.aload_n 0, 1) := by decide +kernel
theorem dX10_merge_4 : decode cX10_merge 4 = .ok (.getfield 155, 3) := by decide +kernel
theorem dX10_merge_7 : decode cX10_merge 7 = .ok (.if_icmp .gt 16, 3) := by decide +kernel
theorem dX10_merge_10 : decode cX10_merge 10 = .ok (.aload_n 0, 1) := by decide +kernel
theorem dX10_merge_11 : decode cX10_merge 11 = .ok (.getfield 94, 3) := by decide +kernel
theorem dX10_merge_14 : decode cX10_merge 14 = .ok (.iload_n 1, 1) := by decide +kernel
theorem dX10_merge_15 : decode cX10_merge 15 = .ok (.iconst 0, 1) := by decide +kernel
theorem dX10_merge_16 : decode cX10_merge 16 = .ok (.iastore, 1) := by decide +kernel
theorem dX10_merge_17 : decode cX10_merge 17 = .ok (.iinc 1 1, 3) := by decide +kernel
theorem dX10_merge_20 : decode cX10_merge 20 = .ok (.goto (-18), 3) := by decide +kernel
theorem dX10_merge_23 : decode cX10_merge 23 = .ok (.iconst 0, 1) := by decide +kernel
theorem dX10_merge_24 : decode cX10_merge 24 = .ok (.istore_n 1, 1) := by decide +kernel
theorem dX10_merge_25 : decode cX10_merge 25 = .ok (.iconst 1, 1) := by decide +kernel
theorem dX10_merge_26 : decode cX10_merge 26 = .ok (.istore_n 2, 1) := by decide +kernel
theorem dX10_merge_27 : decode cX10_merge 27 = .ok (.iload_n 2, 1) := by decide +kernel
theorem dX10_merge_28 : decode cX10_merge 28 = .ok (.ifCond .eq 161, 3) := by decide +kernel
theorem dX10_merge_31 : decode cX10_merge 31 = .ok (.iconst 0, 1) := by decide +kernel
theorem dX10_merge_32 : decode cX10_merge 32 = .ok (.istore_n 2, 1) := by decide +kernel
theorem dX10_merge_33 : decode cX10_merge 33 = .ok (.iconst (-1), 1) := by decide +kernel
theorem dX10_merge_34 : decode cX10_merge 34 = .ok (.istore_n 3, 1) := by decide +kernel
theorem dX10_merge_35 : decode cX10_merge 35 = .ok (.iconst 0, 1) := by decide +kernel
theorem dX10_merge_36 : decode cX10_merge 36 = .ok (.istore 4, 2) := by decide +kernel
theorem dX10_merge_38 : decode cX10_merge 38 = .ok (.iload 4, 2) := by decide +kernel
theorem dX10_merge_40 : decode cX10_merge 40 = .ok (.aload_n 0, 1) := by decide +kernel
theorem dX10_merge_41 : decode cX10_merge 41 = .ok (.getfield 155, 3) := by decide +kernel
theorem dX10_merge_44 : decode cX10_merge 44 = .ok (.if_icmp .gt 67, 3) := by decide +kernel
theorem dX10_merge_47 : decode cX10_merge 47 = .ok (.iload_n 3, 1) := by decide +kernel
theorem dX10_merge_48 : decode cX10_merge 48 = .ok (.iconst (-1), 1) := by decide +kernel
theorem dX10_merge_49 : decode cX10_merge 49 = .ok (.if_icmp .ne 62, 3) := by decide +kernel
theorem dX10_merge_52 : decode cX10_merge 52 = .ok (.aload_n 0, 1) := by decide +kernel
theorem dX10_merge_53 : decode cX10_merge 53 = .ok (.iload 4, 2) := by decide +kernel
theorem dX10_merge_55 : decode cX10_merge 55 = .ok (.aload_n 0, 1) := by decide +kernel
theorem dX10_merge_56 : decode cX10_merge 56 = .ok (.getfield 94, 3) := by decide +kernel
theorem dX10_merge_59 : decode cX10_merge 59 = .ok (.iload 4, 2) := by decide +kernel
theorem dX10_merge_61 : decode cX10_merge 61 = .ok (.iaload, 1) := by decide +kernel
theorem dX10_merge_62 : decode cX10_merge 62 = .ok (.invokevirtual 158, 3) := by decide +kernel
theorem dX10_merge_65 : decode cX10_merge 65 = .ok (.istore 5, 2) := by decide +kernel
theorem dX10_merge_67 : decode cX10_merge 67 = .ok (.iload_n 2, 1) := by decide +kernel
theorem dX10_merge_68 : decode cX10_merge 68 = .ok (.ifCond .ne 9, 3) := by decide +kernel
theorem dX10_merge_71 : decode cX10_merge 71 = .ok (.iload 5, 2) := by decide +kernel
theorem dX10_merge_73 : decode cX10_merge 73 = .ok (.iconst (-1), 1) := by decide +kernel
theorem dX10_merge_74 : decode cX10_merge 74 = .ok (.if_icmp .eq 7, 3) := by decide +kernel
theorem dX10_merge_77 : decode cX10_merge 77 = .ok (.iconst 1, 1) := by decide +kernel
theorem dX10_merge_78 : decode cX10_merge 78 = .ok (.goto 4, 3) := by decide +kernel
theorem dX10_merge_81 : decode cX10_merge 81 = .ok (.iconst 0, 1) := by decide +kernel
theorem dX10_merge_82 : decode cX10_merge 82 = .ok (.istore_n 2, 1) := by decide +kernel
theorem dX10_merge_83 : decode cX10_merge 83 = .ok (.iload 5, 2) := by decide +kernel
theorem dX10_merge_85 : decode cX10_merge 85 = .ok (.iconst (-1), 1) := by decide +kernel
theorem dX10_merge_86 : decode cX10_merge 86 = .ok (.if_icmp .eq 17, 3) := by decide +kernel
theorem dX10_merge_89 : decode cX10_merge 89 = .ok (.aload_n 0, 1) := by decide +kernel
theorem dX10_merge_90 : decode cX10_merge 90 = .ok (.iload 5, 2) := by decide +kernel
theorem dX10_merge_92 : decode cX10_merge 92 = .ok (.invokevirtual 162, 3) := by decide +kernel
theorem dX10_merge_95 : decode cX10_merge 95 = .ok (.ifCond .ne 8, 3) := by decide +kernel
theorem dX10_merge_98 : decode cX10_merge 98 = .ok (.iload 5, 2) := by decide +kernel
theorem dX10_merge_100 : decode cX10_merge 100 = .ok (.goto 4, 3) := by decide +kernel
theorem dX10_merge_103 : decode cX10_merge 103 = .ok (.iconst (-1), 1) := by decide +kernel
theorem dX10_merge_104 : decode cX10_merge 104 = .ok (.istore_n 3, 1) := by decide +kernel
theorem dX10_merge_105 : decode cX10_merge 105 = .ok (.iinc 4 1, 3) := by decide +kernel
theorem dX10_merge_108 : decode cX10_merge 108 = .ok (.goto (-70), 3) := by decide +kernel
theorem dX10_merge_111 : decode cX10_merge 111 = .ok (.iload_n 2, 1) := by decide +kernel
theorem dX10_merge_112 : decode cX10_merge 112 = .ok (.ifCond .eq 10, 3) := by decide +kernel
theorem dX10_merge_115 : decode cX10_merge 115 = .ok (.iload_n 3, 1) := by decide +kernel
theorem dX10_merge_116 : decode cX10_merge 116 = .ok (.iconst (-1), 1) := by decide +kernel
theorem dX10_merge_117 : decode cX10_merge 117 = .ok (.if_icmp .ne 5, 3) := by decide +kernel
theorem dX10_merge_120 : decode cX10_merge 120 = .ok (.iconst (-1), 1) := by decide +kernel
theorem dX10_merge_121 : decode cX10_merge 121 = .ok (.ireturn, 1) := by decide +kernel
theorem dX10_merge_122 : decode cX10_merge 122 = .ok (.iload_n 2, 1) := by decide +kernel
theorem dX10_merge_123 : decode cX10_merge 123 = .ok (.ifCond .eq 63, 3) := by decide +kernel
theorem dX10_merge_126 : decode cX10_merge 126 = .ok (.aload_n 0, 1) := by decide +kernel
theorem dX10_merge_127 : decode cX10_merge 127 = .ok (.getfield 97, 3) := by decide +kernel
theorem dX10_merge_130 : decode cX10_merge 130 = .ok (.iload_n 1, 1) := by decide +kernel
theorem dX10_merge_131 : decode cX10_merge 131 = .ok (.iload_n 3, 1) := by decide +kernel
theorem dX10_merge_132 : decode cX10_merge 132 = .ok (.iastore, 1) := by decide +kernel
theorem dX10_merge_133 : decode cX10_merge 133 = .ok (.iinc 1 1, 3) := by decide +kernel
theorem dX10_merge_136 : decode cX10_merge 136 = .ok (.iconst 0, 1) := by decide +kernel
theorem dX10_merge_137 : decode cX10_merge 137 = .ok (.istore 4, 2) := by decide +kernel
theorem dX10_merge_139 : decode cX10_merge 139 = .ok (.iload 4, 2) := by decide +kernel
theorem dX10_merge_141 : decode cX10_merge 141 = .ok (.aload_n 0, 1) := by decide +kernel
theorem dX10_merge_142 : decode cX10_merge 142 = .ok (.getfield 155, 3) := by decide +kernel
theorem dX10_merge_145 : decode cX10_merge 145 = .ok (.if_icmp .gt 41, 3) := by decide +kernel
theorem dX10_merge_148 : decode cX10_merge 148 = .ok (.aload_n 0, 1) := by decide +kernel
theorem dX10_merge_149 : decode cX10_merge 149 = .ok (.getfield 94, 3) := by decide +kernel
theorem dX10_merge_152 : decode cX10_merge 152 = .ok (.iload 4, 2) := by decide +kernel
theorem dX10_merge_154 : decode cX10_merge 154 = .ok (.dup2, 1) := by decide +kernel
theorem dX10_merge_155 : decode cX10_merge 155 = .ok (.iaload, 1) := by decide +kernel
theorem dX10_merge_156 : decode cX10_merge 156 = .ok (.aload_n 0, 1) := by decide +kernel
theorem dX10_merge_157 : decode cX10_merge 157 = .ok (.iload 4, 2) := by decide +kernel
theorem dX10_merge_159 : decode cX10_merge 159 = .ok (.aload_n 0, 1) := by decide +kernel
theorem dX10_merge_160 : decode cX10_merge 160 = .ok (.getfield 94, 3) := by decide +kernel
theorem dX10_merge_163 : decode cX10_merge 163 = .ok (.iload 4, 2) := by decide +kernel
theorem dX10_merge_165 : decode cX10_merge 165 = .ok (.iaload, 1) := by decide +kernel
theorem dX10_merge_166 : decode cX10_merge 166 = .ok (.invokevirtual 158, 3) := by decide +kernel
theorem dX10_merge_169 : decode cX10_merge 169 = .ok (.iload_n 3, 1) := by decide +kernel
theorem dX10_merge_170 : decode cX10_merge 170 = .ok (.if_icmp .ne 7, 3) := by decide +kernel
theorem dX10_merge_173 : decode cX10_merge 173 = .ok (.iconst 1, 1) := by decide +kernel
theorem dX10_merge_174 : decode cX10_merge 174 = .ok (.goto 4, 3) := by decide +kernel
theorem dX10_merge_177 : decode cX10_merge 177 = .ok (.iconst 0, 1) := by decide +kernel
theorem dX10_merge_178 : decode cX10_merge 178 = .ok (.iadd, 1) := by decide +kernel
theorem dX10_merge_179 : decode cX10_merge 179 = .ok (.iastore, 1) := by decide +kernel
theorem dX10_merge_180 : decode cX10_merge 180 = .ok (.iinc 4 1, 3) := by decide +kernel
theorem dX10_merge_183 : decode cX10_merge 183 = .ok (.goto (-44), 3) := by decide +kernel
theorem dX10_merge_186 : decode cX10_merge 186 = .ok (.goto (-159), 3) := by decide +kernel
theorem dX10_merge_189 : decode cX10_merge 189 = .ok (.iload_n 1, 1) := by decide +kernel
theorem dX10_merge_190 : decode cX10_merge 190 = .ok (.ireturn, 1) := by decide +kernel
set_option maxRecDepth 100000 in
set_option maxHeartbeats 4000000 in
theorem rt_X10_merge (l : Launch) (m0 : Nat) (ad : Nat → Nat) (K : RS)  : Ct l yX10_merge cX10_merge 6 (some .int) 2 0 0 45 (fun S av => av = [.ref m0] ∧ mdR S m0 ad K ∧ RV K ∧ (MPre K)) (fun S _ r S' => ∃ (v : Option Nat) (K' : RS), r = some (.int (oI v)) ∧ mdR S' m0 ad K' ∧ exm S S' m0 ad ∧ (v = (mgF K).map List.length ∧ (∀ L, mgF K = some L → ∀ i x, L[i]? = some x → rA K' 31 i = nI x) ∧ keep [] [30, 31] [] [] K K') ∧ (∀ k, v = some k → k ≤ fN K 0)) := by
  refine ct_of (by decide) (fun S av h => by obtain ⟨rfl, hk, rv, mp⟩ := h; exact Nat.le_of_ble_eq_true rfl) ?_
  intro p e s m args below meth c D G bs S av C hr hin hpre
  obtain ⟨rfl, hk, rv, mp⟩ := hpre
  have E0 : exm S S m0 ad := exm_rfl
  have sh := rowF_shut rv mp
  have hT := rowF_T rv mp
  have zt := rv.p1.2
  have z6 := mp.2.1
  obtain ⟨np, hnp⟩ : ∃ np, np = fN K 29 := ⟨_, rfl⟩
  rw [← hnp] at z6 sh hT
  obtain ⟨row, hrow⟩ : ∃ row, row = rowF K := ⟨_, rfl⟩
  rw [← hrow] at sh hT
  have mg0 : mgF K = mg row (np + 1) 20 (fun _ => 0) [] := by rw [hrow, hnp]; rfl
  refine v_iconst (v := nI 0) C dX10_merge_0 (by decide) ?_
  refine v_istore_n C dX10_merge_1 (by decide) rfl ?_
  refine V.lits (lv' := [_, _, _, _, _, _]) rfl ?_
  refine v_loop (fun (tt : (Nat) × (RS)) lv0 => (lv0.set 1 (some (.int (nI tt.1))))) (fun (S1 : Mem) (tt : (Nat) × (RS)) => mdR S1 m0 ad tt.2 ∧ exm S S1 m0 ad ∧ (tt.1 ≤ np + 1) ∧ (∀ q, q < tt.1 → rA tt.2 30 q = nI 0) ∧ (keep [] [30, 31] [] [] K tt.2)) (fun (S1 : Mem) (tt : (Nat) × (RS)) => np + 1 - tt.1) (t := (0, K)) rfl ⟨hk, E0, (by omega), (fun q h => absurd h (Nat.not_lt_zero q)), keep_rfl⟩ ?_
  intro L2 tt h_2 ih_2
  obtain ⟨r, KA⟩ := tt
  obtain ⟨hk, E0, hri, hA, kA⟩ := h_2
  try dsimp only at *
  refine v_iload_n C dX10_merge_2 rfl ?_
  refine v_aload_n C dX10_merge_3 rfl ?_
  refine q10_155 C hk dX10_merge_4 ?_
  refine v_val ((kA.1 29 (by decide)).trans (hnp ▸ mp.1)) ?_
  refine n_icmp_gt (tgt := 23) C (by omega) (by omega) dX10_merge_7 (by decide) (fun c_7 => ?_) (fun c_7 => ?_)
  · skip
    refine v_iconst (v := nI 0) C dX10_merge_23 (by decide) ?_
    refine v_istore_n C dX10_merge_24 (by decide) rfl ?_
    refine v_iconst (v := nI 1) C dX10_merge_25 (by decide) ?_
    refine v_istore_n C dX10_merge_26 (by decide) rfl ?_
    refine V.lits (lv' := [_, _, _, _, _, _]) rfl ?_
    refine v_loop (fun (tt : (Nat) × (Bool) × (RS) × (Nat → Nat) × (List Nat)) lv0 => ((lv0.set 1 (some (.int (nI tt.1)))).set 2 (some (.int (bI tt.2.1))))) (fun (S1 : Mem) (tt : (Nat) × (Bool) × (RS) × (Nat → Nat) × (List Nat)) => mdR S1 m0 ad tt.2.2.1 ∧ exm S S1 m0 ad ∧ (tt.1 = tt.2.2.2.2.length ∧ tt.1 ≤ 20) ∧ (∀ q, q ≤ np → rA tt.2.2.1 30 q = nI (tt.2.2.2.1 q) ∧ tt.2.2.2.1 q ≤ 20) ∧ (∀ i x, tt.2.2.2.2[i]? = some x → rA tt.2.2.1 31 i = nI x) ∧ (DI row (np + 1) tt.2.2.2.1 tt.2.2.2.2 (fN K 0)) ∧ ((tt.2.1 = true → mgF K = mg row (np + 1) (20 - tt.2.2.2.2.length) tt.2.2.2.1 tt.2.2.2.2) ∧ (tt.2.1 = false → mgF K = some tt.2.2.2.2)) ∧ (keep [] [30, 31] [] [] K tt.2.2.1)) (fun (S1 : Mem) (tt : (Nat) × (Bool) × (RS) × (Nat → Nat) × (List Nat)) => 2 * (20 - tt.1) + moN tt.2.1) (t := (0, true, KA, (fun _ => 0), [])) rfl ⟨hk, E0, ⟨rfl, Nat.zero_le _⟩, (fun q hq => ⟨hA q (by omega), Nat.zero_le _⟩), (fun i x z => by simp at z), DI_0, ⟨fun _ => mg0, fun z => (by cases z)⟩, kA⟩ ?_
    intro L27 tt h_27 ih_27
    obtain ⟨n, mo, KB, fr, acc⟩ := tt
    obtain ⟨hk, E0, hn, hfB, haB, dB, hm, kB⟩ := h_27
    try dsimp only at *
    refine v_iload_n C dX10_merge_27 rfl ?_
    refine b_if_eq (tgt := 189) C dX10_merge_28 (by decide) (fun c_28 => ?_) (fun c_28 => ?_)
    · skip
      subst c_28
      have hmf := hm.2 rfl
      refine v_iload_n C dX10_merge_189 rfl ?_
      refine v_iret C hr (Nat.le_of_ble_eq_true rfl) (Nat.le_of_ble_eq_true rfl) dX10_merge_190 ?_
      exact ⟨some _, _, rfl, hk, E0, (⟨by rw [hmf, hn.1]; rfl, fun L hL i x hx => by rw [hmf] at hL; cases hL; exact haB i x hx, kB⟩), (fun k z => by cases z; have := DI_len dB; omega)⟩
    · skip
      subst c_28
      have hm1 := hm.1 rfl
      have rvB := RV_keep kB (by decide) (by decide) rv
      have mpB := MPre_keep kB (by decide) (by decide) (by decide) mp
      have rB := (rowF_keep kB (by decide) (by decide) (by decide) (by decide)).trans hrow.symm
      have npB := (keep_fN kB (g := 29) (by decide)).trans hnp.symm
      refine v_iconst (v := nI 0) C dX10_merge_31 (by decide) ?_
      refine v_istore_n C dX10_merge_32 (by decide) rfl ?_
      refine v_iconst (v := -1) C dX10_merge_33 (by decide) ?_
      refine v_istore_n C dX10_merge_34 (by decide) rfl ?_
      refine v_iconst (v := nI 0) C dX10_merge_35 (by decide) ?_
      refine v_istore C dX10_merge_36 (by decide) rfl ?_
      refine V.lits (lv' := [_, _, _, _, _, _]) rfl ?_
      refine v_loop (fun (tt : (Nat) × (Bool) × (Option Nat)) lv0 => (((lv0.set 4 (some (.int (nI tt.1)))).set 2 (some (.int (bI tt.2.1)))).set 3 (some (.int (oI tt.2.2))))) (fun (S1 : Mem) (tt : (Nat) × (Bool) × (Option Nat)) => S1 = L27 ∧ (tt.1 ≤ np + 1) ∧ (tt.2.2 = none → nx row fr (np + 1) = nxO row fr (sc (nxP row fr (np + 1)) (np + 1 - tt.1) tt.1)) ∧ (∀ t, tt.2.2 = some t → nx row fr (np + 1) = some t ∧ tt.2.1 = true) ∧ (tt.2.1 = anyFr row fr tt.1) ∧ (∀ k, tt.2.2 = some k → k < 20)) (fun (S1 : Mem) (tt : (Nat) × (Bool) × (Option Nat)) => np + 1 - tt.1) (t := (0, false, none)) rfl ⟨rfl, (by omega), (fun _ => rfl), (fun t z => by cases z), rfl, (fun k z => by cases z)⟩ ?_
      intro L38 tt h_38 ih_38
      obtain ⟨r, mo2, nxt⟩ := tt
      obtain ⟨e_S, hri, hC1, hC2, hC3, b_nxt⟩ := h_38
      subst e_S
      try dsimp only at *
      refine v_iload C dX10_merge_38 rfl ?_
      refine v_aload_n C dX10_merge_40 rfl ?_
      refine q10_155 C hk dX10_merge_41 ?_
      refine v_val ((kB.1 29 (by decide)).trans (hnp ▸ mp.1)) ?_
      refine n_icmp_gt (tgt := 111) C (by omega) (by omega) dX10_merge_44 (by decide) (fun c_44 => ?_) (fun c_44 => ?_)
      · skip
        refine v_iload_n C dX10_merge_111 rfl ?_
        refine b_if_eq (tgt := 122) C dX10_merge_112 (by decide) (fun c_112 => ?_) (fun c_112 => ?_)
        · skip
          have hnone : nxt = none := by
            cases nxt with
            | none => rfl
            | some t => exact absurd ((hC2 t rfl).2.symm.trans c_112) (by decide)
          obtain rfl : r = np + 1 := by omega
          have hnx : nx row fr (np + 1) = none := (hC1 hnone).trans (by rw [sc_end (by omega)]; rfl)
          have hdone : mgF K = some acc := by rw [hm1, mg_none hnx, ← hC3, c_112]; rfl
          obtain rfl : mo2 = false := c_112
          refine v_iload_n C dX10_merge_122 rfl ?_
          refine b_if_eq (tgt := 186) C dX10_merge_123 (by decide) (fun c_123 => ?_) (fun c_123 => ?_)
          · skip
            refine v_goto (tgt := 27) C dX10_merge_186 (by decide) ?_
            refine V.drop 3 ?_
            refine V.drop 4 ?_
            refine V.lits (lv' := [_, _, _, _, _, _]) rfl ?_
            exact ih_27 _ (n, false, KB, fr, acc) (by show 2 * (20 - n) + 0 < 2 * (20 - n) + 1; omega) ⟨hk, E0, hn, hfB, haB, dB, ⟨fun z => (by cases z), fun _ => hdone⟩, kB⟩
          · skip
            exact absurd c_123 (by decide)
        · skip
          obtain rfl : mo2 = true := c_112
          refine v_iload_n C dX10_merge_115 rfl ?_
          refine v_iconst (v := -1) C dX10_merge_116 (by decide) ?_
          refine o_icmp_ne (tgt := 122) C (fun k z => by have := b_nxt k z; omega) dX10_merge_117 (by decide) (fun k117 c_117 => ?_) (fun c_117 => ?_)
          · skip
            have b_k117 := b_nxt k117 c_117
            subst c_117
            have hnx := (hC2 k117 rfl).1
            have d2 := DI_step sh hT dB hnx
            have l2 := DI_len d2
            rw [List.length_append] at l2
            simp only [List.length_cons, List.length_nil] at l2
            have hmn := hm1.trans (mg_next hnx (by omega))
            refine v_iload_n C dX10_merge_122 rfl ?_
            refine b_if_eq (tgt := 186) C dX10_merge_123 (by decide) (fun c_123 => ?_) (fun c_123 => ?_)
            · skip
              exact absurd c_123 (by decide)
            · skip
              refine v_aload_n C dX10_merge_126 rfl ?_
              refine q10_97 C hk dX10_merge_127 ?_
              refine v_iload_n C dX10_merge_130 rfl ?_
              refine v_iload_n C dX10_merge_131 rfl ?_
              refine n_iast C hk (show (31, 11, 20) ∈ mTab by decide +kernel) (by omega) dX10_merge_132 (fun S8_132 hk' x_132 => ?_)
              have E0 := exm_tr E0 x_132
              have hk := hk'
              clear hk'
              refine v_iinc C dX10_merge_133 rfl (nI_inc _) (by decide) rfl ?_
              refine v_iconst (v := nI 0) C dX10_merge_136 (by decide) ?_
              refine v_istore C dX10_merge_137 (by decide) rfl ?_
              refine V.lits (lv' := [_, _, _, _, _, _]) rfl ?_
              refine v_loop (fun (tt : (Nat) × (RS)) lv0 => (lv0.set 4 (some (.int (nI tt.1))))) (fun (S1 : Mem) (tt : (Nat) × (RS)) => mdR S1 m0 ad tt.2 ∧ exm S S1 m0 ad ∧ (tt.1 ≤ np + 1) ∧ (∀ q, q < tt.1 → rA tt.2 30 q = nI (adv row fr k117 q) ∧ adv row fr k117 q ≤ 20) ∧ (∀ q, tt.1 ≤ q → q ≤ np → rA tt.2 30 q = nI (fr q)) ∧ (∀ i x, (acc ++ [k117])[i]? = some x → rA tt.2 31 i = nI x) ∧ (keep [] [30, 31] [] [] K tt.2)) (fun (S1 : Mem) (tt : (Nat) × (RS)) => np + 1 - tt.1) (t := (0, (wA KB 31 n _))) rfl ⟨hk, E0, (Nat.zero_le _), (fun q h => absurd h (Nat.not_lt_zero q)), (fun q _ hq => by rw [rA_wA, if_neg (by simp)]; exact (hfB q hq).1), (fun i x z => by rw [rA_wA]; rcases app_get z with ⟨g1, g2⟩ | ⟨g1, g2⟩; rw [if_neg (fun q => by omega)]; exact haB i x g2; (subst g2; exact if_pos ⟨rfl, by omega⟩)), (keep_wA kB (by decide))⟩ ?_
              intro L139 tt h_139 ih_139
              obtain ⟨r, KD⟩ := tt
              obtain ⟨hk, E0, hri, hD1, hD2, haD, kD⟩ := h_139
              try dsimp only at *
              refine v_iload C dX10_merge_139 rfl ?_
              refine v_aload_n C dX10_merge_141 rfl ?_
              refine q10_155 C hk dX10_merge_142 ?_
              refine v_val ((kD.1 29 (by decide)).trans (hnp ▸ mp.1)) ?_
              refine n_icmp_gt (tgt := 186) C (by omega) (by omega) dX10_merge_145 (by decide) (fun c_145 => ?_) (fun c_145 => ?_)
              · skip
                refine v_goto (tgt := 27) C dX10_merge_186 (by decide) ?_
                refine V.drop 3 ?_
                refine V.drop 4 ?_
                refine V.lits (lv' := [_, _, _, _, _, _]) rfl ?_
                exact ih_27 _ ((n + 1), true, KD, (adv row fr k117), (acc ++ [k117])) (by show 2 * (20 - (n + 1)) + moN true < 2 * (20 - n) + moN true; omega) ⟨hk, E0, (by rw [List.length_append]; simp; omega), (fun q hq => hD1 q (by omega)), haD, d2, ⟨fun _ => hmn, fun z => (by cases z)⟩, kD⟩
              · skip
                have rvD := RV_keep kD (by decide) (by decide) rv
                have mpD := MPre_keep kD (by decide) (by decide) (by decide) mp
                have rD := (rowF_keep kD (by decide) (by decide) (by decide) (by decide)).trans hrow.symm
                have npD := (keep_fN kD (g := 29) (by decide)).trans hnp.symm
                have hf20 := (hfB r (by omega)).2
                refine v_aload_n C dX10_merge_148 rfl ?_
                refine q10_94 C hk dX10_merge_149 ?_
                refine v_iload C dX10_merge_152 rfl ?_
                refine v_dup2 C dX10_merge_154 rfl rfl ?_
                refine n_iald C hk (show (30, 11, 7) ∈ mTab by decide +kernel) (by omega) dX10_merge_155 ?_
                refine v_val (hD2 r (Nat.le_refl _) (by omega)) ?_
                refine v_aload_n C dX10_merge_156 rfl ?_
                refine v_iload C dX10_merge_157 rfl ?_
                refine v_aload_n C dX10_merge_159 rfl ?_
                refine q10_94 C hk dX10_merge_160 ?_
                refine v_iload C dX10_merge_163 rfl ?_
                refine n_iald C hk (show (30, 11, 7) ∈ mTab by decide +kernel) (by omega) dX10_merge_165 ?_
                refine v_val (hD2 r (Nat.le_refl _) (by omega)) ?_
                refine v_callV (As := [_, _]) (n := 2) C (rt_X10_placeOf l m0 ad _ _ _) rfl hk.1 (by decide) rfl ⟨wd251, wd252, wd253, wd5, wd254⟩ ⟨rfl, hy_X10_placeOf⟩ rfl ⟨Nat.le_of_ble_eq_true rfl, Nat.le_of_ble_eq_true rfl⟩ (Nat.le_of_ble_eq_true rfl) ⟨Nat.le_of_ble_eq_true rfl, Nat.le_of_ble_eq_true rfl⟩ dX10_merge_166 ⟨rfl, hk, rvD, mpD, (by rw [npD]; omega), (by omega)⟩ (fun r_166 S2_166 h_166 => ?_)
                obtain ⟨v166, rfl, p_v166, b_v166, q_v166⟩ := h_166
                obtain rfl := q_v166.symm
                rw [rD] at p_v166
                refine v_iload_n C dX10_merge_169 rfl ?_
                refine v_icmp_ne (tgt := 177) C dX10_merge_170 (by decide) (fun c_170 => ?_) (fun c_170 => ?_)
                · skip
                  refine v_iconst (v := nI 0) C dX10_merge_177 (by decide) ?_
                  refine n_iadd C dX10_merge_178 ?_
                  refine n_iast C hk (show (30, 11, 7) ∈ mTab by decide +kernel) (by omega) dX10_merge_179 (fun S4_179 hk' x_179 => ?_)
                  have E0 := exm_tr E0 x_179
                  have hk := hk'
                  clear hk'
                  refine v_iinc C dX10_merge_180 rfl (nI_inc _) (by decide) rfl ?_
                  refine v_goto (tgt := 139) C dX10_merge_183 (by decide) ?_
                  refine V.lits (lv' := [_, _, _, _, _, _]) rfl ?_
                  have ha : ¬ row r (fr r) = some k117 := by rw [← p_v166]; exact fun z => c_170 ((oI_nI (fun k z => by have := b_v166 k z; omega) (by omega)).mpr z)
                  have hadv : adv row fr k117 r = fr r + 0 := if_neg ha
                  have hD1' : ∀ q, q < r + 1 → rA (wA KD 30 r (nI (fr r + 0))) 30 q = nI (adv row fr k117 q) ∧ adv row fr k117 q ≤ 20 := by
                    intro q hq
                    rw [rA_wA]
                    by_cases hqr : q = r
                    · rw [if_pos ⟨rfl, hqr⟩, hqr, hadv]; exact ⟨rfl, by omega⟩
                    · rw [if_neg (fun z => hqr z.2)]; exact hD1 q (by omega)
                  exact ih_139 _ ((r + 1), (wA KD 30 r _)) (by first | omega | (dsimp only; omega)) ⟨hk, E0, (by omega), hD1', (fun q h1 h2 => by rw [rA_wA, if_neg (fun z => by omega)]; exact hD2 q (by omega) h2), (fun i x z => by rw [rA_wA, if_neg (fun z => absurd z.1 (by decide))]; exact haD i x z), (keep_wA kD (by decide))⟩
                · skip
                  refine v_iconst (v := nI 1) C dX10_merge_173 (by decide) ?_
                  refine v_goto (tgt := 178) C dX10_merge_174 (by decide) ?_
                  refine n_iadd C dX10_merge_178 ?_
                  refine n_iast C hk (show (30, 11, 7) ∈ mTab by decide +kernel) (by omega) dX10_merge_179 (fun S4_179 hk' x_179 => ?_)
                  have E0 := exm_tr E0 x_179
                  have hk := hk'
                  clear hk'
                  refine v_iinc C dX10_merge_180 rfl (nI_inc _) (by decide) rfl ?_
                  refine v_goto (tgt := 139) C dX10_merge_183 (by decide) ?_
                  refine V.lits (lv' := [_, _, _, _, _, _]) rfl ?_
                  have ha : row r (fr r) = some k117 := by rw [← p_v166]; exact (oI_nI (fun k z => by have := b_v166 k z; omega) (by omega)).mp c_170
                  have hadv : adv row fr k117 r = fr r + 1 := if_pos ha
                  have hl20 := (sh r (by omega)).2 _ _ ha
                  have hD1' : ∀ q, q < r + 1 → rA (wA KD 30 r (nI (fr r + 1))) 30 q = nI (adv row fr k117 q) ∧ adv row fr k117 q ≤ 20 := by
                    intro q hq
                    rw [rA_wA]
                    by_cases hqr : q = r
                    · rw [if_pos ⟨rfl, hqr⟩, hqr, hadv]; exact ⟨rfl, by omega⟩
                    · rw [if_neg (fun z => hqr z.2)]; exact hD1 q (by omega)
                  exact ih_139 _ ((r + 1), (wA KD 30 r _)) (by first | omega | (dsimp only; omega)) ⟨hk, E0, (by omega), hD1', (fun q h1 h2 => by rw [rA_wA, if_neg (fun z => by omega)]; exact hD2 q (by omega) h2), (fun i x z => by rw [rA_wA, if_neg (fun z => absurd z.1 (by decide))]; exact haD i x z), (keep_wA kD (by decide))⟩
          · skip
            subst c_117
            obtain rfl : r = np + 1 := by omega
            have hnx : nx row fr (np + 1) = none := (hC1 rfl).trans (by rw [sc_end (by omega)]; rfl)
            have hfail : mgF K = none := by rw [hm1, mg_none hnx, ← hC3]; rfl
            refine v_iconst (v := -1) C dX10_merge_120 (by decide) ?_
            refine v_iret C hr (Nat.le_of_ble_eq_true rfl) (Nat.le_of_ble_eq_true rfl) dX10_merge_121 ?_
            exact ⟨none, _, rfl, hk, E0, (⟨by rw [hfail]; rfl, fun L hL i x hx => absurd (hfail.symm.trans hL) (by simp), kB⟩), (fun k z => (by cases z))⟩
      · skip
        refine v_iload_n C dX10_merge_47 rfl ?_
        refine v_iconst (v := -1) C dX10_merge_48 (by decide) ?_
        refine o_icmp_ne (tgt := 111) C (fun k z => by have := b_nxt k z; omega) dX10_merge_49 (by decide) (fun k49 c_49 => ?_) (fun c_49 => ?_)
        · skip
          have b_k49 := b_nxt k49 c_49
          subst c_49
          have hnx := (hC2 k49 rfl).1
          have hmo := (hC2 k49 rfl).2
          have d2 := DI_step sh hT dB hnx
          have l2 := DI_len d2
          rw [List.length_append] at l2
          simp only [List.length_cons, List.length_nil] at l2
          have hmn := hm1.trans (mg_next hnx (by omega))
          refine v_iload_n C dX10_merge_111 rfl ?_
          refine b_if_eq (tgt := 122) C dX10_merge_112 (by decide) (fun c_112 => ?_) (fun c_112 => ?_)
          · skip
            exact absurd (hmo.symm.trans c_112) (by decide)
          · skip
            obtain rfl : mo2 = true := c_112
            refine v_iload_n C dX10_merge_115 rfl ?_
            refine v_iconst (v := -1) C dX10_merge_116 (by decide) ?_
            refine v_icmp_ne (tgt := 122) C dX10_merge_117 (by decide) (fun c_117 => ?_) (fun c_117 => ?_)
            · skip
              refine v_iload_n C dX10_merge_122 rfl ?_
              refine b_if_eq (tgt := 186) C dX10_merge_123 (by decide) (fun c_123 => ?_) (fun c_123 => ?_)
              · skip
                exact absurd c_123 (by decide)
              · skip
                refine v_aload_n C dX10_merge_126 rfl ?_
                refine q10_97 C hk dX10_merge_127 ?_
                refine v_iload_n C dX10_merge_130 rfl ?_
                refine v_iload_n C dX10_merge_131 rfl ?_
                refine n_iast C hk (show (31, 11, 20) ∈ mTab by decide +kernel) (by omega) dX10_merge_132 (fun S10_132 hk' x_132 => ?_)
                have E0 := exm_tr E0 x_132
                have hk := hk'
                clear hk'
                refine v_iinc C dX10_merge_133 rfl (nI_inc _) (by decide) rfl ?_
                refine v_iconst (v := nI 0) C dX10_merge_136 (by decide) ?_
                refine v_istore C dX10_merge_137 (by decide) rfl ?_
                refine V.lits (lv' := [_, _, _, _, _, _]) rfl ?_
                refine v_loop (fun (tt : (Nat) × (RS)) lv0 => (lv0.set 4 (some (.int (nI tt.1))))) (fun (S1 : Mem) (tt : (Nat) × (RS)) => mdR S1 m0 ad tt.2 ∧ exm S S1 m0 ad ∧ (tt.1 ≤ np + 1) ∧ (∀ q, q < tt.1 → rA tt.2 30 q = nI (adv row fr k49 q) ∧ adv row fr k49 q ≤ 20) ∧ (∀ q, tt.1 ≤ q → q ≤ np → rA tt.2 30 q = nI (fr q)) ∧ (∀ i x, (acc ++ [k49])[i]? = some x → rA tt.2 31 i = nI x) ∧ (keep [] [30, 31] [] [] K tt.2)) (fun (S1 : Mem) (tt : (Nat) × (RS)) => np + 1 - tt.1) (t := (0, (wA KB 31 n _))) rfl ⟨hk, E0, (Nat.zero_le _), (fun q h => absurd h (Nat.not_lt_zero q)), (fun q _ hq => by rw [rA_wA, if_neg (by simp)]; exact (hfB q hq).1), (fun i x z => by rw [rA_wA]; rcases app_get z with ⟨g1, g2⟩ | ⟨g1, g2⟩; rw [if_neg (fun q => by omega)]; exact haB i x g2; (subst g2; exact if_pos ⟨rfl, by omega⟩)), (keep_wA kB (by decide))⟩ ?_
                intro L139 tt h_139 ih_139
                obtain ⟨r, KD⟩ := tt
                obtain ⟨hk, E0, hri, hD1, hD2, haD, kD⟩ := h_139
                try dsimp only at *
                refine v_iload C dX10_merge_139 rfl ?_
                refine v_aload_n C dX10_merge_141 rfl ?_
                refine q10_155 C hk dX10_merge_142 ?_
                refine v_val ((kD.1 29 (by decide)).trans (hnp ▸ mp.1)) ?_
                refine n_icmp_gt (tgt := 186) C (by omega) (by omega) dX10_merge_145 (by decide) (fun c_145 => ?_) (fun c_145 => ?_)
                · skip
                  refine v_goto (tgt := 27) C dX10_merge_186 (by decide) ?_
                  refine V.drop 3 ?_
                  refine V.drop 4 ?_
                  refine V.lits (lv' := [_, _, _, _, _, _]) rfl ?_
                  exact ih_27 _ ((n + 1), true, KD, (adv row fr k49), (acc ++ [k49])) (by show 2 * (20 - (n + 1)) + moN true < 2 * (20 - n) + moN true; omega) ⟨hk, E0, (by rw [List.length_append]; simp; omega), (fun q hq => hD1 q (by omega)), haD, d2, ⟨fun _ => hmn, fun z => (by cases z)⟩, kD⟩
                · skip
                  have rvD := RV_keep kD (by decide) (by decide) rv
                  have mpD := MPre_keep kD (by decide) (by decide) (by decide) mp
                  have rD := (rowF_keep kD (by decide) (by decide) (by decide) (by decide)).trans hrow.symm
                  have npD := (keep_fN kD (g := 29) (by decide)).trans hnp.symm
                  have hf20 := (hfB r (by omega)).2
                  refine v_aload_n C dX10_merge_148 rfl ?_
                  refine q10_94 C hk dX10_merge_149 ?_
                  refine v_iload C dX10_merge_152 rfl ?_
                  refine v_dup2 C dX10_merge_154 rfl rfl ?_
                  refine n_iald C hk (show (30, 11, 7) ∈ mTab by decide +kernel) (by omega) dX10_merge_155 ?_
                  refine v_val (hD2 r (Nat.le_refl _) (by omega)) ?_
                  refine v_aload_n C dX10_merge_156 rfl ?_
                  refine v_iload C dX10_merge_157 rfl ?_
                  refine v_aload_n C dX10_merge_159 rfl ?_
                  refine q10_94 C hk dX10_merge_160 ?_
                  refine v_iload C dX10_merge_163 rfl ?_
                  refine n_iald C hk (show (30, 11, 7) ∈ mTab by decide +kernel) (by omega) dX10_merge_165 ?_
                  refine v_val (hD2 r (Nat.le_refl _) (by omega)) ?_
                  refine v_callV (As := [_, _]) (n := 2) C (rt_X10_placeOf l m0 ad _ _ _) rfl hk.1 (by decide) rfl ⟨wd251, wd252, wd253, wd5, wd254⟩ ⟨rfl, hy_X10_placeOf⟩ rfl ⟨Nat.le_of_ble_eq_true rfl, Nat.le_of_ble_eq_true rfl⟩ (Nat.le_of_ble_eq_true rfl) ⟨Nat.le_of_ble_eq_true rfl, Nat.le_of_ble_eq_true rfl⟩ dX10_merge_166 ⟨rfl, hk, rvD, mpD, (by rw [npD]; omega), (by omega)⟩ (fun r_166 S2_166 h_166 => ?_)
                  obtain ⟨v166, rfl, p_v166, b_v166, q_v166⟩ := h_166
                  obtain rfl := q_v166.symm
                  rw [rD] at p_v166
                  refine v_iload_n C dX10_merge_169 rfl ?_
                  refine v_icmp_ne (tgt := 177) C dX10_merge_170 (by decide) (fun c_170 => ?_) (fun c_170 => ?_)
                  · skip
                    refine v_iconst (v := nI 0) C dX10_merge_177 (by decide) ?_
                    refine n_iadd C dX10_merge_178 ?_
                    refine n_iast C hk (show (30, 11, 7) ∈ mTab by decide +kernel) (by omega) dX10_merge_179 (fun S4_179 hk' x_179 => ?_)
                    have E0 := exm_tr E0 x_179
                    have hk := hk'
                    clear hk'
                    refine v_iinc C dX10_merge_180 rfl (nI_inc _) (by decide) rfl ?_
                    refine v_goto (tgt := 139) C dX10_merge_183 (by decide) ?_
                    refine V.lits (lv' := [_, _, _, _, _, _]) rfl ?_
                    have ha : ¬ row r (fr r) = some k49 := by rw [← p_v166]; exact fun z => c_170 ((oI_nI (fun k z => by have := b_v166 k z; omega) (by omega)).mpr z)
                    have hadv : adv row fr k49 r = fr r + 0 := if_neg ha
                    have hD1' : ∀ q, q < r + 1 → rA (wA KD 30 r (nI (fr r + 0))) 30 q = nI (adv row fr k49 q) ∧ adv row fr k49 q ≤ 20 := by
                      intro q hq
                      rw [rA_wA]
                      by_cases hqr : q = r
                      · rw [if_pos ⟨rfl, hqr⟩, hqr, hadv]; exact ⟨rfl, by omega⟩
                      · rw [if_neg (fun z => hqr z.2)]; exact hD1 q (by omega)
                    exact ih_139 _ ((r + 1), (wA KD 30 r _)) (by first | omega | (dsimp only; omega)) ⟨hk, E0, (by omega), hD1', (fun q h1 h2 => by rw [rA_wA, if_neg (fun z => by omega)]; exact hD2 q (by omega) h2), (fun i x z => by rw [rA_wA, if_neg (fun z => absurd z.1 (by decide))]; exact haD i x z), (keep_wA kD (by decide))⟩
                  · skip
                    refine v_iconst (v := nI 1) C dX10_merge_173 (by decide) ?_
                    refine v_goto (tgt := 178) C dX10_merge_174 (by decide) ?_
                    refine n_iadd C dX10_merge_178 ?_
                    refine n_iast C hk (show (30, 11, 7) ∈ mTab by decide +kernel) (by omega) dX10_merge_179 (fun S4_179 hk' x_179 => ?_)
                    have E0 := exm_tr E0 x_179
                    have hk := hk'
                    clear hk'
                    refine v_iinc C dX10_merge_180 rfl (nI_inc _) (by decide) rfl ?_
                    refine v_goto (tgt := 139) C dX10_merge_183 (by decide) ?_
                    refine V.lits (lv' := [_, _, _, _, _, _]) rfl ?_
                    have ha : row r (fr r) = some k49 := by rw [← p_v166]; exact (oI_nI (fun k z => by have := b_v166 k z; omega) (by omega)).mp c_170
                    have hadv : adv row fr k49 r = fr r + 1 := if_pos ha
                    have hl20 := (sh r (by omega)).2 _ _ ha
                    have hD1' : ∀ q, q < r + 1 → rA (wA KD 30 r (nI (fr r + 1))) 30 q = nI (adv row fr k49 q) ∧ adv row fr k49 q ≤ 20 := by
                      intro q hq
                      rw [rA_wA]
                      by_cases hqr : q = r
                      · rw [if_pos ⟨rfl, hqr⟩, hqr, hadv]; exact ⟨rfl, by omega⟩
                      · rw [if_neg (fun z => hqr z.2)]; exact hD1 q (by omega)
                    exact ih_139 _ ((r + 1), (wA KD 30 r _)) (by first | omega | (dsimp only; omega)) ⟨hk, E0, (by omega), hD1', (fun q h1 h2 => by rw [rA_wA, if_neg (fun z => by omega)]; exact hD2 q (by omega) h2), (fun i x z => by rw [rA_wA, if_neg (fun z => absurd z.1 (by decide))]; exact haD i x z), (keep_wA kD (by decide))⟩
            · skip
              exact absurd c_117 (nI_nem1 (by omega))
        · skip
          subst c_49
          refine v_aload_n C dX10_merge_52 rfl ?_
          refine v_iload C dX10_merge_53 rfl ?_
          refine v_aload_n C dX10_merge_55 rfl ?_
          refine q10_94 C hk dX10_merge_56 ?_
          refine v_iload C dX10_merge_59 rfl ?_
          refine n_iald C hk (show (30, 11, 7) ∈ mTab by decide +kernel) (by omega) dX10_merge_61 ?_
          refine v_val (hfB r (by omega)).1 ?_
          refine v_callV (As := [_, _]) (n := 2) C (rt_X10_placeOf l m0 ad _ _ _) rfl hk.1 (by decide) rfl ⟨wd251, wd252, wd253, wd5, wd254⟩ ⟨rfl, hy_X10_placeOf⟩ rfl ⟨Nat.le_of_ble_eq_true rfl, Nat.le_of_ble_eq_true rfl⟩ (Nat.le_of_ble_eq_true rfl) ⟨Nat.le_of_ble_eq_true rfl, Nat.le_of_ble_eq_true rfl⟩ dX10_merge_62 ⟨rfl, hk, rvB, mpB, (by rw [npB]; omega), (by have := (hfB r (by omega)).2; omega)⟩ (fun r_62 S4_62 h_62 => ?_)
          obtain ⟨v62, rfl, p_v62, b_v62, q_v62⟩ := h_62
          obtain rfl := q_v62.symm
          rw [rB] at p_v62
          refine v_istore C dX10_merge_65 (by decide) rfl ?_
          refine v_iload_n C dX10_merge_67 rfl ?_
          refine b_if_ne (tgt := 77) C dX10_merge_68 (by decide) (fun c_68 => ?_) (fun c_68 => ?_)
          · skip
            refine v_iconst (v := nI 1) C dX10_merge_77 (by decide) ?_
            refine v_goto (tgt := 82) C dX10_merge_78 (by decide) ?_
            refine v_istore_n C dX10_merge_82 (by decide) rfl ?_
            refine v_iload C dX10_merge_83 rfl ?_
            refine v_iconst (v := -1) C dX10_merge_85 (by decide) ?_
            refine o_icmp_eq (tgt := 103) C (fun k z => by have := b_v62 k z; omega) dX10_merge_86 (by decide) (fun c_86 => ?_) (fun k86 c_86 => ?_)
            · skip
              subst c_86
              have hrn := p_v62.symm
              have hP : nxP row fr (np + 1) r = false := by unfold nxP; rw [hrn]
              refine v_iconst (v := -1) C dX10_merge_103 (by decide) ?_
              refine v_istore_n C dX10_merge_104 (by decide) rfl ?_
              refine v_iinc C dX10_merge_105 rfl (nI_inc _) (by decide) rfl ?_
              refine v_goto (tgt := 38) C dX10_merge_108 (by decide) ?_
              refine V.drop 5 ?_
              refine V.lits (lv' := [_, _, _, _, _, _]) rfl ?_
              exact ih_38 _ ((r + 1), true, none) (by first | omega | (dsimp only; omega)) ⟨rfl, (by omega), (fun _ => (hC1 rfl).trans (congrArg (nxO row fr) (sc_step (by omega) hP))), (fun t z => by cases z), (by rw [any_step hrn, ← hC3, c_68]), (fun k z => by cases z)⟩
            · skip
              have b_k86 := b_v62 k86 c_86
              subst c_86
              have hrs := p_v62.symm
              refine v_aload_n C dX10_merge_89 rfl ?_
              refine v_iload C dX10_merge_90 rfl ?_
              refine v_callV (As := [_]) (n := 1) C (rt_X10_isBehind l m0 ad _ _ fr) rfl hk.1 (by decide) rfl ⟨wd255, wd256, wd257, wd5, wd258⟩ ⟨rfl, hy_X10_isBehind⟩ rfl ⟨Nat.le_of_ble_eq_true rfl, Nat.le_of_ble_eq_true rfl⟩ (Nat.le_of_ble_eq_true rfl) ⟨Nat.le_of_ble_eq_true rfl, Nat.le_of_ble_eq_true rfl⟩ dX10_merge_92 ⟨rfl, hk, rvB, mpB, (by rw [npB]; exact hfB), (by omega)⟩ (fun r_92 S8_92 h_92 => ?_)
              obtain ⟨v92, rfl, p_v92, q_v92⟩ := h_92
              obtain rfl := q_v92.symm
              rw [rB, npB] at p_v92
              refine b_if_ne (tgt := 103) C dX10_merge_95 (by decide) (fun c_95 => ?_) (fun c_95 => ?_)
              · skip
                have hP : nxP row fr (np + 1) r = false := by unfold nxP; rw [hrs]; show (!beh row fr (np + 1) _) = false; rw [← p_v92, c_95]; rfl
                refine v_iconst (v := -1) C dX10_merge_103 (by decide) ?_
                refine v_istore_n C dX10_merge_104 (by decide) rfl ?_
                refine v_iinc C dX10_merge_105 rfl (nI_inc _) (by decide) rfl ?_
                refine v_goto (tgt := 38) C dX10_merge_108 (by decide) ?_
                refine V.drop 5 ?_
                refine V.lits (lv' := [_, _, _, _, _, _]) rfl ?_
                exact ih_38 _ ((r + 1), true, none) (by first | omega | (dsimp only; omega)) ⟨rfl, (by omega), (fun _ => (hC1 rfl).trans (congrArg (nxO row fr) (sc_step (by omega) hP))), (fun t z => by cases z), (any_hit hrs).symm, (fun k z => by cases z)⟩
              · skip
                have hP : nxP row fr (np + 1) r = true := by unfold nxP; rw [hrs]; show (!beh row fr (np + 1) _) = true; rw [← p_v92, c_95]; rfl
                refine v_iload C dX10_merge_98 rfl ?_
                refine v_goto (tgt := 104) C dX10_merge_100 (by decide) ?_
                refine v_istore_n C dX10_merge_104 (by decide) rfl ?_
                refine v_iinc C dX10_merge_105 rfl (nI_inc _) (by decide) rfl ?_
                refine v_goto (tgt := 38) C dX10_merge_108 (by decide) ?_
                refine V.drop 5 ?_
                refine V.lits (lv' := [_, _, _, _, _, _]) rfl ?_
                exact ih_38 _ ((r + 1), true, (some k86)) (by first | omega | (dsimp only; omega)) ⟨rfl, (by omega), (fun z => by cases z), (fun t z => by cases z; exact ⟨(hC1 rfl).trans (by rw [sc_hit (by omega) hP]; exact hrs), rfl⟩), (any_hit hrs).symm, (fun k z => by cases z; exact b_k86)⟩
          · skip
            refine v_iload C dX10_merge_71 rfl ?_
            refine v_iconst (v := -1) C dX10_merge_73 (by decide) ?_
            refine o_icmp_eq (tgt := 81) C (fun k z => by have := b_v62 k z; omega) dX10_merge_74 (by decide) (fun c_74 => ?_) (fun k74 c_74 => ?_)
            · skip
              subst c_74
              have hrn := p_v62.symm
              have hP : nxP row fr (np + 1) r = false := by unfold nxP; rw [hrn]
              refine v_iconst (v := nI 0) C dX10_merge_81 (by decide) ?_
              refine v_istore_n C dX10_merge_82 (by decide) rfl ?_
              refine v_iload C dX10_merge_83 rfl ?_
              refine v_iconst (v := -1) C dX10_merge_85 (by decide) ?_
              refine v_icmp_eq (tgt := 103) C dX10_merge_86 (by decide) (fun c_86 => ?_) (fun c_86 => ?_)
              · skip
                refine v_iconst (v := -1) C dX10_merge_103 (by decide) ?_
                refine v_istore_n C dX10_merge_104 (by decide) rfl ?_
                refine v_iinc C dX10_merge_105 rfl (nI_inc _) (by decide) rfl ?_
                refine v_goto (tgt := 38) C dX10_merge_108 (by decide) ?_
                refine V.drop 5 ?_
                refine V.lits (lv' := [_, _, _, _, _, _]) rfl ?_
                exact ih_38 _ ((r + 1), false, none) (by first | omega | (dsimp only; omega)) ⟨rfl, (by omega), (fun _ => (hC1 rfl).trans (congrArg (nxO row fr) (sc_step (by omega) hP))), (fun t z => by cases z), (by rw [any_step hrn, ← hC3, c_68]), (fun k z => by cases z)⟩
              · skip
                exact absurd c_86 (by decide)
            · skip
              have b_k74 := b_v62 k74 c_74
              subst c_74
              have hrs := p_v62.symm
              refine v_iconst (v := nI 1) C dX10_merge_77 (by decide) ?_
              refine v_goto (tgt := 82) C dX10_merge_78 (by decide) ?_
              refine v_istore_n C dX10_merge_82 (by decide) rfl ?_
              refine v_iload C dX10_merge_83 rfl ?_
              refine v_iconst (v := -1) C dX10_merge_85 (by decide) ?_
              refine v_icmp_eq (tgt := 103) C dX10_merge_86 (by decide) (fun c_86 => ?_) (fun c_86 => ?_)
              · skip
                exact absurd c_86 (nI_nem1 (by omega))
              · skip
                refine v_aload_n C dX10_merge_89 rfl ?_
                refine v_iload C dX10_merge_90 rfl ?_
                refine v_callV (As := [_]) (n := 1) C (rt_X10_isBehind l m0 ad _ _ fr) rfl hk.1 (by decide) rfl ⟨wd255, wd256, wd257, wd5, wd258⟩ ⟨rfl, hy_X10_isBehind⟩ rfl ⟨Nat.le_of_ble_eq_true rfl, Nat.le_of_ble_eq_true rfl⟩ (Nat.le_of_ble_eq_true rfl) ⟨Nat.le_of_ble_eq_true rfl, Nat.le_of_ble_eq_true rfl⟩ dX10_merge_92 ⟨rfl, hk, rvB, mpB, (by rw [npB]; exact hfB), (by omega)⟩ (fun r_92 S10_92 h_92 => ?_)
                obtain ⟨v92, rfl, p_v92, q_v92⟩ := h_92
                obtain rfl := q_v92.symm
                rw [rB, npB] at p_v92
                refine b_if_ne (tgt := 103) C dX10_merge_95 (by decide) (fun c_95 => ?_) (fun c_95 => ?_)
                · skip
                  have hP : nxP row fr (np + 1) r = false := by unfold nxP; rw [hrs]; show (!beh row fr (np + 1) _) = false; rw [← p_v92, c_95]; rfl
                  refine v_iconst (v := -1) C dX10_merge_103 (by decide) ?_
                  refine v_istore_n C dX10_merge_104 (by decide) rfl ?_
                  refine v_iinc C dX10_merge_105 rfl (nI_inc _) (by decide) rfl ?_
                  refine v_goto (tgt := 38) C dX10_merge_108 (by decide) ?_
                  refine V.drop 5 ?_
                  refine V.lits (lv' := [_, _, _, _, _, _]) rfl ?_
                  exact ih_38 _ ((r + 1), true, none) (by first | omega | (dsimp only; omega)) ⟨rfl, (by omega), (fun _ => (hC1 rfl).trans (congrArg (nxO row fr) (sc_step (by omega) hP))), (fun t z => by cases z), (any_hit hrs).symm, (fun k z => by cases z)⟩
                · skip
                  have hP : nxP row fr (np + 1) r = true := by unfold nxP; rw [hrs]; show (!beh row fr (np + 1) _) = true; rw [← p_v92, c_95]; rfl
                  refine v_iload C dX10_merge_98 rfl ?_
                  refine v_goto (tgt := 104) C dX10_merge_100 (by decide) ?_
                  refine v_istore_n C dX10_merge_104 (by decide) rfl ?_
                  refine v_iinc C dX10_merge_105 rfl (nI_inc _) (by decide) rfl ?_
                  refine v_goto (tgt := 38) C dX10_merge_108 (by decide) ?_
                  refine V.drop 5 ?_
                  refine V.lits (lv' := [_, _, _, _, _, _]) rfl ?_
                  exact ih_38 _ ((r + 1), true, (some k74)) (by first | omega | (dsimp only; omega)) ⟨rfl, (by omega), (fun z => by cases z), (fun t z => by cases z; exact ⟨(hC1 rfl).trans (by rw [sc_hit (by omega) hP]; exact hrs), rfl⟩), (any_hit hrs).symm, (fun k z => by cases z; exact b_k74)⟩
  · skip
    refine v_aload_n C dX10_merge_10 rfl ?_
    refine q10_94 C hk dX10_merge_11 ?_
    refine v_iload_n C dX10_merge_14 rfl ?_
    refine v_iconst (v := nI 0) C dX10_merge_15 (by decide) ?_
    refine n_iast C hk (show (30, 11, 7) ∈ mTab by decide +kernel) (by omega) dX10_merge_16 (fun S2_16 hk' x_16 => ?_)
    have E0 := exm_tr E0 x_16
    have hk := hk'
    clear hk'
    refine v_iinc C dX10_merge_17 rfl (nI_inc _) (by decide) rfl ?_
    refine v_goto (tgt := 2) C dX10_merge_20 (by decide) ?_
    refine V.lits (lv' := [_, _, _, _, _, _]) rfl ?_
    exact ih_2 _ ((r + 1), (wA KA 30 r _)) (by first | omega | (dsimp only; omega)) ⟨hk, E0, (by omega), (fun q hq => by rw [rA_wA]; by_cases hqr : q = r; exact (if_pos ⟨rfl, hqr⟩); exact (if_neg (fun z => hqr z.2)).trans (hA q (by omega))), (keep_wA kA (by decide))⟩
