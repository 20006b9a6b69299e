/-! CLASS AND REFERENCE AGREE, CALL BY CALL -/
theorem tch_chg {S S' : Mem} {x : Nat} {M : Nat → Prop} {W : Nat → Nat} {pt : Nat → Option Nat} {K : RS} {AR PR : List Nat} {FI : List (Nat × Nat)} {PI L : List Nat} (r : rep S x M W pt K) (c : chg S S' (AR.map W) (PR.map W) (FI.map (wP W) ++ PI.map (Prod.mk 328)) (L.map (fun g => (g, x)))) (a : ∀ j ∈ AR, uC (fN K 0) (fN K 3) j) (p : ∀ j ∈ PR, uC (fN K 0) (fN K 3) j) (f : ∀ q ∈ FI, q.1 < 320 ∧ uC (fN K 0) (fN K 3) q.2) (l : ∀ g ∈ L, g = 578) : tch W x (fN K 0) (fN K 3) (fun _ => True) S S' AR PR FI PI L := ⟨chx_chg c, fun _ _ => trivial, r.2.1, a, p, f, l, trivial⟩
theorem rep_mut {S S' : Mem} {x : Nat} {M : Nat → Prop} {W : Nat → Nat} {pt : Nat → Option Nat} {K K' : RS} (r : rep S x M W pt K) {pt' : Nat → Option Nat} {Z : Nat → Prop} {AR PR : List Nat} {FI : List (Nat × Nat)} {PI L F A : List Nat} (t : tch W x (fN K 0) (fN K 3) Z S S' AR PR FI PI L) (kp : keep F A [] [] K K') (hF : 0 ∉ F ∧ 3 ∉ F) (hA : 1 ∉ A ∧ 2 ∉ A) (n1 : 1 ∉ PR ∧ 2 ∉ PR ∧ (65, 0) ∉ FI ∧ (67, 0) ∉ FI) (n2 : ∀ t, t < fN K 0 → 6 * t + 102 ∉ AR ∧ 6 * t + 103 ∉ AR ∧ (194, 6 * t + 101) ∉ FI) (z : mgZ S' (W 3) (xA W)) (b : all1 (bR1 S' W pt') (fN K 0)) (fl : all1 (fL1 S' W K') (fN K 3)) (ft : all1 (fT1 S' W K') (fN K 3)) (fb : all1 (fB1 S' W pt') (fN K 3)) (fq : all1 (fQ1 S' W K') (fN K 3)) (fn : all1 (fN1 S' W K') (fN K 3)) (fp : all1 (fP1 S' W K') (fN K 3)) (p : prtS S' pt' K') (la : latS S' x pt' K') (o : offK K') : rep S' x M W pt' K' := by
  obtain ⟨r1, r2, r3, r4, r5, r6, ⟨k1, k2, k3, k4, k5, k6, k7, k8⟩, r8, r9, r10⟩ := id r
  unfold rep
  rw [keep_fN kp hF.1, keep_fN kp hF.2]
  exact ⟨⟨tch_is t r1.1, tch_mox t r1.1 (fun z => by have := t.2.2.2.2.2.2.1 576 z; omega) r1.2⟩, r2, r3, trS_cg (trS_t t r4 n1.1 n1.2.2.1 n2) ⟨rfl, rfl⟩ (fun t _ => ⟨rfl, rfl, rfl, rfl, tlist_keep kp hA.1 hA.2 t⟩), z, b, ⟨fA0_t t r4.1 k1 ⟨n1.2.1, n1.2.2.2⟩, fun c hc => fA1_t t hc (k2 c hc), fl, ft, fb, fq, fn, fp⟩, p, la, o⟩
theorem sc_snoc {p : Nat → Bool} : ∀ (n i : Nat), sc p (n + 1) i = match sc p n i with
    | some j => some j
    | none => bif p (i + n) then some (i + n) else none := by
  intro n
  induction n with
  | zero => intro i; rw [sc, sc]; rfl
  | succ n ih =>
    intro i
    rw [sc, ih (i + 1)]
    show _ = match (bif p i then some i else sc p n (i + 1)) with | some j => some j | none => bif p (i + (n + 1)) then some (i + (n + 1)) else none
    cases p i with
    | true => rfl
    | false =>
      rw [show i + 1 + n = i + (n + 1) by omega]
      rfl
theorem i_ne {k w : Nat} (hk : k < 2 ^ 31) (hw : w < 2 ^ 31) : decide (nI k = nI w) = decide (k = w) := decide_eq_decide.mpr (nI_eq hk hw)
theorem nIN {n : Nat} (h : n < 2 ^ 31) : (nI n).toNatClampNeg = n := nI_clamp h
theorem tie_prefer {S S' : Mem} {x : Nat} {M : Nat → Prop} {W : Nat → Nat} {pt : Nat → Option Nat} {K K' : RS} (r : rep S x M W pt K) {t ac u v v' : Int32} (c : chg S S' [W (10 * t.toNatClampNeg + 309)] [] [] []) (hr : ((blw t (fN K 3) && blw ac 12 && (decide (u = -1) || blw u (fN K 0))) = false ∧ v = -2 ∧ S' = S) ∨ ∃ k j, k < (fN K 3) ∧ j < 12 ∧ t = nI k ∧ ac = nI j ∧ (u = -1 ∨ ∃ w, w < (fN K 0) ∧ u = nI w) ∧ v = mA S (W (10 * k + 309)) j ∧ ∀ i, mA S' (W (10 * k + 309)) i = if i = j then u else mA S (W (10 * k + 309)) i) (q : preferP K t ac u = (v', K')) : v = v' ∧ rep S' x M W pt K' := by
  obtain ⟨r1, r2, r3, r4, r5, r6, ⟨k1, k2, k3, k4, k5, k6, k7, k8⟩, r8, r9, r10⟩ := id r
  have hC := k1.2.2.2.1
  have hT := r4.2.2.2.2.1
  rcases hr with ⟨b, rfl, rfl⟩ | ⟨k, j, hk, hj, rfl, rfl, hu, rfl, hm⟩
  · have e : preferP K t ac u = (-2, K) := by unfold preferP; rw [show (below t (fN K 3) && below ac 12 && (decide (u = -1) || below u (fN K 0))) = false from b]; rfl
    rw [e] at q; cases q; exact ⟨rfl, r⟩
  · have hu2 : (decide (u = -1) || below u (fN K 0)) = true := by
      rcases hu with rfl | ⟨w, hw, rfl⟩
      · rfl
      · rw [below_nI hw (by have := r4.2.2.2.2.1; omega)]; simp
    have e : preferP K (nI k) (nI j) u = (rA K 27 (12 * k + j), wA K 27 (12 * k + j) u) := by
      unfold preferP
      rw [below_nI hk (by omega), below_nI hj (by decide), hu2, nIN (by omega), nIN (by omega)]; rfl
    rw [e] at q; cases q
    rw [nIN (by omega)] at c
    refine ⟨k8 k hk j hj, ?_⟩
    have kp : keep [] [27] [] [] K (wA K 27 (12 * k + j) u) := keep_wA keep_rfl (by decide)
    have t : tch W x (fN K 0) (fN K 3) (fun _ => True) S S' [10 * k + 309] [] [] [] [] := tch_chg r (show chg S S' (List.map W [10 * k + 309]) (List.map W []) (List.map (wP W) [] ++ List.map (Prod.mk 328) []) (List.map (fun g => (g, x)) []) from c) (by unfold uC; simp <;> omega) (by unfold uC; simp <;> omega) (by unfold uC; simp <;> omega) (by simp)
    exact rep_mut r t kp ⟨by decide, by decide⟩ ⟨by decide, by decide⟩ (by refine ⟨?_, ?_, ?_, ?_⟩ <;> (simp <;> omega)) (fun t_ ht => (by refine ⟨?_, ?_, ?_⟩ <;> (simp <;> omega)))
            (mgZ_t t r5 (by refine ⟨?_, ?_, ?_, ?_, ?_, ?_⟩ <;> (simp <;> omega)))
            (fun t_ ht => bR1_t t ht (trs_is r4 ht) (r6 t_ ht) (by refine ⟨?_, ?_⟩ <;> (simp <;> omega)))
            (fun c_ hc => fL1_K (keep_rN kp (by decide) c_) (fun i _ => keep_rN kp (by decide) _) (fL1_t t hc (k3 c_ hc) (by refine ⟨?_, ?_, ?_⟩ <;> (simp <;> omega))))
            (fun c_ hc => fT1_K (keep_rN kp (by decide) c_) (fun i _ => kp.2.1 5 (by decide) _) (fT1_t t hc (k2 c_ hc) (k4 c_ hc) (by refine ⟨?_, ?_⟩ <;> (simp <;> omega))))
            (fun c_ hc => fB1_t t hc (k2 c_ hc) (k5 c_ hc) (by simp <;> omega))
            (fun c_ hc => fQ1_K (keep_rN kp (by decide) c_) (fun i _ => ⟨kp.2.1 21 (by decide) _, kp.2.1 22 (by decide) _⟩) (fQ1_t t hc (k2 c_ hc) (k6 c_ hc) (by refine ⟨?_, ?_⟩ <;> (simp <;> omega))))
            (fun c_ hc => fN1_K (keep_rN kp (by decide) c_) (fun i _ => ⟨kp.2.1 24 (by decide) _, kp.2.1 25 (by decide) _, kp.2.1 26 (by decide) _⟩) (fN1_t t hc (k2 c_ hc) (k7 c_ hc) (by refine ⟨?_, ?_, ?_⟩ <;> (simp <;> omega))))
            (fun c_ hc n hn => by
                by_cases z : c_ = k
                · rw [z, hm, rA_wA]
                  by_cases y : n = j
                  · rw [if_pos y, if_pos ⟨rfl, by omega⟩]
                  · rw [if_neg y, if_neg (fun w => y (by omega))]; exact k8 k hk n hn
                · have w := fP1_t t hc (k2 c_ hc) (k8 c_ hc) (by simp <;> omega) n hn
                  rw [rA_wA, if_neg (fun w => z (by omega))]; exact w)
            (prtS_K (kp.2.1 10 (by decide)) (fun k => ⟨kp.2.1 11 (by decide) k, kp.2.1 12 (by decide) k, kp.2.1 13 (by decide) k, kp.2.1 15 (by decide) k⟩) (prtS_t t (fun _ _ => trivial) rfl r8))
            (by unfold latS; rw [latO_K (kp.1 19 (by decide))]; exact latS_t t r1.1 rfl r9)
            (offK_K kp ⟨by decide, by decide⟩ ⟨by decide, by decide, by decide, by decide, by decide, by decide⟩ r10)
theorem leaves_add {K : RS} {k w j t n : Nat} (hw : w < 20) (hj : j < 12) (ht : t < 20) (hn : n < 12) (h8 : rN K 20 k < 8) : leavesF (wA (wA (wA K 21 (8 * k + rN K 20 k) (nI w)) 22 (8 * k + rN K 20 k) (nI j)) 20 k (nI (rN K 20 k + 1))) k t n = (leavesF K k t n || (decide (w = t) && decide (j = n))) := by
  unfold leavesF
  have e : rN (wA (wA (wA K 21 (8 * k + rN K 20 k) (nI w)) 22 (8 * k + rN K 20 k) (nI j)) 20 k (nI (rN K 20 k + 1))) 20 k = rN K 20 k + 1 := by rw [rN_wA, if_pos ⟨rfl, rfl⟩, nIN (by omega)]
  rw [e, sc_snoc]
  have e1 : ∀ i, i < rN K 20 k → lvP (wA (wA (wA K 21 (8 * k + rN K 20 k) (nI w)) 22 (8 * k + rN K 20 k) (nI j)) 20 k (nI (rN K 20 k + 1))) k t n i = lvP K k t n i := fun i hi => by
    unfold lvP
    rw [rA_wA, if_neg (fun z => by omega), rA_wA, if_neg (fun z => by omega), rA_wA, if_neg (fun z => by omega), rA_wA, if_neg (fun z => by omega), rA_wA, if_neg (fun z => by omega), rA_wA, if_neg (fun z => by omega)]
  have e2 : lvP (wA (wA (wA K 21 (8 * k + rN K 20 k) (nI w)) 22 (8 * k + rN K 20 k) (nI j)) 20 k (nI (rN K 20 k + 1))) k t n (0 + rN K 20 k) = (decide (w = t) && decide (j = n)) := by
    unfold lvP
    rw [Nat.zero_add, rA_wA, if_neg (fun z => by omega), rA_wA, if_neg (fun z => by omega), rA_wA, if_pos ⟨rfl, rfl⟩, rA_wA, if_neg (fun z => by omega), rA_wA, if_pos ⟨rfl, rfl⟩, i_ne (by omega) (by omega), i_ne (by omega) (by omega)]
  rw [sc_cg _ _ (fun i _ hi => e1 i (by omega)), e2]
  cases sc (lvP K k t n) (rN K 20 k) 0 with
  | some i => rfl
  | none => cases (decide (w = t) && decide (j = n)) <;> rfl
theorem tie_leave {S S' : Mem} {x : Nat} {M : Nat → Prop} {W : Nat → Nat} {pt : Nat → Option Nat} {K K' : RS} (r : rep S x M W pt K) (rv : RV K) {t u ac v v' : Int32} (c : chg S S' [W (10 * t.toNatClampNeg + 306)] [] [(135, W (10 * t.toNatClampNeg + 300))] []) (hr : ((blw t (fN K 3) && blw u (fN K 0) && blw ac 12) = false ∧ v = -2 ∧ S' = S) ∨ ∃ k w j, k < (fN K 3) ∧ w < (fN K 0) ∧ j < 12 ∧ t = nI k ∧ u = nI w ∧ ac = nI j ∧ ((leavesF K k w j = true ∧ v = 0 ∧ S' = S) ∨ (leavesF K k w j = false ∧ rN K 20 k = 8 ∧ v = -4 ∧ S' = S) ∨ (leavesF K k w j = false ∧ rN K 20 k < 8 ∧ v = 1 ∧ (∀ i, mA S' (W (10 * k + 306)) i = if i = 12 * w + j then 1 else mA S (W (10 * k + 306)) i) ∧ mI S' 135 (W (10 * k + 300)) = nI (rN K 20 k + 1)))) (q : leaveP K t u ac = (v', K')) : v = v' ∧ rep S' x M W pt K' := by
  obtain ⟨r1, r2, r3, r4, r5, r6, ⟨k1, k2, k3, k4, k5, k6, k7, k8⟩, r8, r9, r10⟩ := id r
  have hC := k1.2.2.2.1
  have hT := r4.2.2.2.2.1
  rcases hr with ⟨b, rfl, rfl⟩ | ⟨k, w, j, hk, hw, hj, rfl, rfl, rfl, hr⟩
  · have e : leaveP K t u ac = (-2, K) := by unfold leaveP; rw [show (below t (fN K 3) && below u (fN K 0) && below ac 12) = false from b]; rfl
    rw [e] at q; cases q; exact ⟨rfl, r⟩
  · have e0 : leaveP K (nI k) (nI w) (nI j) = (bif leavesF K k w j then (nI 0, K) else if rN K 20 k = 8 then (-4, K) else (nI 1, wA (wA (wA K 21 (8 * k + rN K 20 k) (nI w)) 22 (8 * k + rN K 20 k) (nI j)) 20 k (nI (rN K 20 k + 1)))) := by
      unfold leaveP
      rw [below_nI hk (by omega), below_nI hw (by omega), below_nI hj (by decide), nIN (by omega), nIN (by omega), nIN (by omega)]; rfl
    rw [e0] at q
    rcases hr with ⟨l, rfl, rfl⟩ | ⟨l, h8, rfl, rfl⟩ | ⟨l, h8, rfl, hm, hi⟩
    · rw [l] at q; cases q; exact ⟨rfl, r⟩
    · rw [l, if_pos h8] at q; cases q; exact ⟨rfl, r⟩
    · rw [l, if_neg (by omega)] at q; cases q
      rw [nIN (by omega)] at c
      refine ⟨rfl, ?_⟩
      have kp : keep [] [20, 21, 22] [] [] K (wA (wA (wA K 21 (8 * k + rN K 20 k) (nI w)) 22 (8 * k + rN K 20 k) (nI j)) 20 k (nI (rN K 20 k + 1))) := keep_wA (keep_wA (keep_wA keep_rfl (by decide)) (by decide)) (by decide)
      have t : tch W x (fN K 0) (fN K 3) (fun _ => True) S S' [10 * k + 306] [] [(135, 10 * k + 300)] [] [] := tch_chg r (show chg S S' (List.map W [10 * k + 306]) (List.map W []) (List.map (wP W) [(135, 10 * k + 300)] ++ List.map (Prod.mk 328) []) (List.map (fun g => (g, x)) []) from c) (by unfold uC; simp <;> omega) (by unfold uC; simp <;> omega) (by unfold uC; simp <;> omega) (by simp)
      have o' : offK (wA (wA (wA K 21 (8 * k + rN K 20 k) (nI w)) 22 (8 * k + rN K 20 k) (nI j)) 20 k (nI (rN K 20 k + 1))) := by
        obtain ⟨o1, o2, o3, o4⟩ := r10
        refine ⟨o1, o2, fun c_ h1 h2 => ?_, o4⟩
        obtain ⟨p1, p2, p3, p4⟩ := o3 c_ h1 h2
        have hck : c_ ≠ k := fun z => by have : fN K 3 ≤ c_ := h1; omega
        exact ⟨p1, p2, by rw [rN_wA, if_neg (fun z => hck z.2)]; exact p3, p4⟩
      exact rep_mut r t kp ⟨by decide, by decide⟩ ⟨by decide, by decide⟩ (by refine ⟨?_, ?_, ?_, ?_⟩ <;> (simp <;> omega)) (fun t_ ht => (by refine ⟨?_, ?_, ?_⟩ <;> (simp <;> omega)))
            (mgZ_t t r5 (by refine ⟨?_, ?_, ?_, ?_, ?_, ?_⟩ <;> (simp <;> omega)))
            (fun t_ ht => bR1_t t ht (trs_is r4 ht) (r6 t_ ht) (by refine ⟨?_, ?_⟩ <;> (simp <;> omega)))
            (fun c_ hc => fL1_K (keep_rN kp (by decide) c_) (fun i _ => keep_rN kp (by decide) _) (fL1_t t hc (k3 c_ hc) (by refine ⟨?_, ?_, ?_⟩ <;> (simp <;> omega))))
            (fun c_ hc => fT1_K (keep_rN kp (by decide) c_) (fun i _ => kp.2.1 5 (by decide) _) (fT1_t t hc (k2 c_ hc) (k4 c_ hc) (by refine ⟨?_, ?_⟩ <;> (simp <;> omega))))
            (fun c_ hc => fB1_t t hc (k2 c_ hc) (k5 c_ hc) (by simp <;> omega))
            (fun c_ hc => by
                  by_cases z : c_ = k
                  · rw [z]
                    refine ⟨by rw [hi, rN_wA, if_pos ⟨rfl, rfl⟩, nIN (by omega)], fun t_ n ht hn => ?_⟩
                    rw [hm, leaves_add (by omega) hj ht hn h8]
                    by_cases y : t_ = w ∧ n = j
                    · rw [if_pos (by omega), y.1, y.2]; simp [bI]
                    · have y2 : (decide (w = t_) && decide (j = n)) = false := by
                        cases e : (decide (w = t_) && decide (j = n)) with
                        | false => rfl
                        | true =>
                          rw [Bool.and_eq_true, decide_eq_true_eq, decide_eq_true_eq] at e
                          exact absurd ⟨e.1.symm, e.2.symm⟩ y
                      rw [if_neg (fun z => y (by omega)), y2, Bool.or_false]
                      exact (k6 k hk).2 t_ n ht hn
                  · have h9 := (rv.p9 c_ (by omega)).2
                    exact fQ1_K (by rw [rN_wA, if_neg (fun y => z y.2)]; rfl) (fun i hi => ⟨by rw [rA_wA, if_neg (fun y => by omega), rA_wA, if_neg (fun y => by omega), rA_wA, if_neg (fun y => by omega)], by rw [rA_wA, if_neg (fun y => by omega), rA_wA, if_neg (fun y => by omega), rA_wA, if_neg (fun y => by omega)]⟩) (fQ1_t t hc (k2 c_ hc) (k6 c_ hc) (by refine ⟨?_, ?_⟩ <;> (simp <;> omega))))
            (fun c_ hc => fN1_K (keep_rN kp (by decide) c_) (fun i _ => ⟨kp.2.1 24 (by decide) _, kp.2.1 25 (by decide) _, kp.2.1 26 (by decide) _⟩) (fN1_t t hc (k2 c_ hc) (k7 c_ hc) (by refine ⟨?_, ?_, ?_⟩ <;> (simp <;> omega))))
            (fun c_ hc => fP1_K (fun n _ => kp.2.1 27 (by decide) _) (fP1_t t hc (k2 c_ hc) (k8 c_ hc) (by simp <;> omega)))
            (prtS_K (kp.2.1 10 (by decide)) (fun k => ⟨kp.2.1 11 (by decide) k, kp.2.1 12 (by decide) k, kp.2.1 13 (by decide) k, kp.2.1 15 (by decide) k⟩) (prtS_t t (fun _ _ => trivial) rfl r8))
            (by unfold latS; rw [latO_K (kp.1 19 (by decide))]; exact latS_t t r1.1 rfl r9)
            o'
theorem sc_cg0 {p q : Nat → Bool} {n : Nat} (h : ∀ j, j < n → p j = q j) : sc p n 0 = sc q n 0 := sc_cg n 0 (fun j _ h2 => h j (by omega))
theorem rnK_at {K : RS} {k : Nat} {a b d : Int32} (h8 : rN K 23 k < 8) : rA (renameK K k a b d) 24 (8 * k + rN K 23 k) = a ∧ rA (renameK K k a b d) 25 (8 * k + rN K 23 k) = b ∧ rA (renameK K k a b d) 26 (8 * k + rN K 23 k) = d ∧ rN (renameK K k a b d) 23 k = rN K 23 k + 1 := by
  unfold renameK
  refine ⟨?_, ?_, ?_, ?_⟩
  · rw [rA_wA, if_neg (fun z => by omega), rA_wA, if_neg (fun z => by omega), rA_wA, if_neg (fun z => by omega), rA_wA, if_pos ⟨rfl, rfl⟩]
  · rw [rA_wA, if_neg (fun z => by omega), rA_wA, if_neg (fun z => by omega), rA_wA, if_pos ⟨rfl, rfl⟩]
  · rw [rA_wA, if_neg (fun z => by omega), rA_wA, if_pos ⟨rfl, rfl⟩]
  · rw [rN_wA, if_pos ⟨rfl, rfl⟩, nIN (by omega)]
theorem rnK_el {K : RS} {k g p : Nat} {a b d : Int32} (hg : g = 24 ∨ g = 25 ∨ g = 26) (h : p ≠ 8 * k + rN K 23 k) : rA (renameK K k a b d) g p = rA K g p := by
  unfold renameK
  rw [rA_wA, if_neg (fun z => by omega), rA_wA, if_neg (fun z => by omega), rA_wA, if_neg (fun z => by omega), rA_wA, if_neg (fun z => by omega)]
set_option maxRecDepth 100000 in
theorem names_add {K : RS} {k w j i t n : Nat} (hw : w < 20) (hj : j < 12) (hi : i < 12) (ht : t < 20) (hn : n < 12) (h8 : rN K 23 k < 8) (no : renamedF K k w j = none ∧ namedF K k w i = none) : renamedF (renameK K k (nI w) (nI j) (nI i)) k t n = (if t = w ∧ n = j then some i else renamedF K k t n) ∧ namedF (renameK K k (nI w) (nI j) (nI i)) k t n = (if t = w ∧ n = i then some j else namedF K k t n) := by
  obtain ⟨a1, a2, a3, a4⟩ := rnK_at (a := nI w) (b := nI j) (d := nI i) h8
  have el : ∀ g, g = 24 ∨ g = 25 ∨ g = 26 → ∀ q, q < rN K 23 k → rA (renameK K k (nI w) (nI j) (nI i)) g (8 * k + q) = rA K g (8 * k + q) := fun g hg q hq => rnK_el hg (by omega)
  have n1 : ∀ q, q < rN K 23 k → rnP (renameK K k (nI w) (nI j) (nI i)) k t n q = rnP K k t n q := fun q hq => by unfold rnP; rw [el 24 (by decide) q hq, el 25 (by decide) q hq]
  have n2 : ∀ q, q < rN K 23 k → nmP (renameK K k (nI w) (nI j) (nI i)) k t n q = nmP K k t n q := fun q hq => by unfold nmP; rw [el 24 (by decide) q hq, el 26 (by decide) q hq]
  have m1 : rnP (renameK K k (nI w) (nI j) (nI i)) k t n (0 + rN K 23 k) = (decide (w = t) && decide (j = n)) := by
    unfold rnP; rw [Nat.zero_add, a1, a2, i_ne (by omega) (by omega), i_ne (by omega) (by omega)]
  have m2 : nmP (renameK K k (nI w) (nI j) (nI i)) k t n (0 + rN K 23 k) = (decide (w = t) && decide (i = n)) := by
    unfold nmP; rw [Nat.zero_add, a1, a3, i_ne (by omega) (by omega), i_ne (by omega) (by omega)]
  obtain ⟨no1, no2⟩ := no
  unfold renamedF namedF at *
  rw [a4, sc_snoc, sc_snoc, m1, m2, sc_cg0 n1, sc_cg0 n2]
  constructor
  · by_cases y : t = w ∧ n = j
    · obtain ⟨rfl, rfl⟩ := y
      rw [if_pos ⟨rfl, rfl⟩, Option.map_eq_none_iff.mp no1]
      rw [show (decide (t = t) && decide (n = n)) = true by simp]
      show some (rN (renameK K k (nI t) (nI n) (nI i)) 26 (8 * k + (0 + rN K 23 k))) = some i
      rw [Nat.zero_add]
      exact congrArg some (rN_nI a3 (by omega))
    · rw [if_neg y]
      have y2 : (decide (w = t) && decide (j = n)) = false := by
        cases e : (decide (w = t) && decide (j = n)) with
        | false => rfl
        | true =>
          rw [Bool.and_eq_true, decide_eq_true_eq, decide_eq_true_eq] at e
          exact absurd ⟨e.1.symm, e.2.symm⟩ y
      rw [y2]
      cases e : sc (rnP K k t n) (rN K 23 k) 0 with
      | none =>
        show Option.map _ (none : Option Nat) = _
        rw [Option.map_none, Option.map_none]
      | some q =>
        have hq := (sc_some e).2.1
        show some (rN (renameK K k (nI w) (nI j) (nI i)) 26 (8 * k + q)) = some (rN K 26 (8 * k + q))
        unfold rN; rw [el 26 (by decide) q (by omega)]
  · by_cases y : t = w ∧ n = i
    · obtain ⟨rfl, rfl⟩ := y
      rw [if_pos ⟨rfl, rfl⟩, Option.map_eq_none_iff.mp no2]
      rw [show (decide (t = t) && decide (n = n)) = true by simp]
      show some (rN (renameK K k (nI t) (nI j) (nI n)) 25 (8 * k + (0 + rN K 23 k))) = some j
      rw [Nat.zero_add]
      exact congrArg some (rN_nI a2 (by omega))
    · rw [if_neg y]
      have y2 : (decide (w = t) && decide (i = n)) = false := by
        cases e : (decide (w = t) && decide (i = n)) with
        | false => rfl
        | true =>
          rw [Bool.and_eq_true, decide_eq_true_eq, decide_eq_true_eq] at e
          exact absurd ⟨e.1.symm, e.2.symm⟩ y
      rw [y2]
      cases e : sc (nmP K k t n) (rN K 23 k) 0 with
      | none =>
        show Option.map _ (none : Option Nat) = _
        rw [Option.map_none, Option.map_none]
      | some q =>
        have hq := (sc_some e).2.1
        show some (rN (renameK K k (nI w) (nI j) (nI i)) 25 (8 * k + q)) = some (rN K 25 (8 * k + q))
        unfold rN; rw [el 25 (by decide) q (by omega)]
theorem tie_rename {S S' : Mem} {x : Nat} {M : Nat → Prop} {W : Nat → Nat} {pt : Nat → Option Nat} {K K' : RS} (r : rep S x M W pt K) (rv : RV K) {t u ac nn v v' : Int32} (c : chg S S' [W (10 * t.toNatClampNeg + 307), W (10 * t.toNatClampNeg + 308)] [] [(138, W (10 * t.toNatClampNeg + 300))] []) (hr : ((blw t (fN K 3) && blw u (fN K 0) && blw ac 12 && blw nn 12 && !decide (ac = nn)) = false ∧ v = -2 ∧ S' = S) ∨ ∃ k w j i, k < (fN K 3) ∧ w < (fN K 0) ∧ j < 12 ∧ i < 12 ∧ j ≠ i ∧ t = nI k ∧ u = nI w ∧ ac = nI j ∧ nn = nI i ∧ ((((renamedF K k w j).isSome || (namedF K k w i).isSome) = true ∧ v = -3 ∧ S' = S) ∨ (((renamedF K k w j).isSome || (namedF K k w i).isSome) = false ∧ rN K 23 k = 8 ∧ v = -4 ∧ S' = S) ∨ (((renamedF K k w j).isSome || (namedF K k w i).isSome) = false ∧ rN K 23 k < 8 ∧ v = 1 ∧ (∀ q, mA S' (W (10 * k + 307)) q = if q = 12 * w + j then nI i else mA S (W (10 * k + 307)) q) ∧ (∀ q, mA S' (W (10 * k + 308)) q = if q = 12 * w + i then nI j else mA S (W (10 * k + 308)) q) ∧ mI S' 138 (W (10 * k + 300)) = nI (rN K 23 k + 1)))) (q : renameP K t u ac nn = (v', K')) : v = v' ∧ rep S' x M W pt K' := by
  obtain ⟨r1, r2, r3, r4, r5, r6, ⟨k1, k2, k3, k4, k5, k6, k7, k8⟩, r8, r9, r10⟩ := id r
  have hC := k1.2.2.2.1
  have hT := r4.2.2.2.2.1
  rcases hr with ⟨b, rfl, rfl⟩ | ⟨k, w, j, i, hk, hw, hj, hi, hji, rfl, rfl, rfl, rfl, hr⟩
  · have e : renameP K t u ac nn = (-2, K) := by unfold renameP; rw [show (below t (fN K 3) && below u (fN K 0) && below ac 12 && below nn 12 && !decide (ac = nn)) = false from b]; rfl
    rw [e] at q; cases q; exact ⟨rfl, r⟩
  · have e0 : renameP K (nI k) (nI w) (nI j) (nI i) = (bif (renamedF K k w j).isSome || (namedF K k w i).isSome then (-3, K) else if rN K 23 k = 8 then (-4, K) else (nI 1, (renameK K k (nI w) (nI j) (nI i)))) := by
      unfold renameP
      rw [below_nI hk (by omega), below_nI hw (by omega), below_nI hj (by decide), below_nI hi (by decide), i_ne (by omega) (by omega), decide_eq_false hji, nIN (by omega), nIN (by omega), nIN (by omega), nIN (by omega)]; rfl
    rw [e0] at q
    rcases hr with ⟨l, rfl, rfl⟩ | ⟨l, h8, rfl, rfl⟩ | ⟨l, h8, rfl, hm, hm2, hi2⟩
    · rw [l] at q; cases q; exact ⟨rfl, r⟩
    · rw [l, if_pos h8] at q; cases q; exact ⟨rfl, r⟩
    · rw [l, if_neg (by omega)] at q; cases q
      rw [nIN (by omega)] at c
      have no : renamedF K k w j = none ∧ namedF K k w i = none := by
        rw [Bool.or_eq_false_iff] at l
        exact ⟨Option.isSome_eq_false_iff.mp l.1 |> Option.isNone_iff_eq_none.mp, Option.isSome_eq_false_iff.mp l.2 |> Option.isNone_iff_eq_none.mp⟩
      refine ⟨rfl, ?_⟩
      have kp : keep [] [23, 24, 25, 26] [] [] K (renameK K k (nI w) (nI j) (nI i)) := keep_wA (keep_wA (keep_wA (keep_wA keep_rfl (by decide)) (by decide)) (by decide)) (by decide)
      have t : tch W x (fN K 0) (fN K 3) (fun _ => True) S S' [10 * k + 307, 10 * k + 308] [] [(138, 10 * k + 300)] [] [] := tch_chg r (show chg S S' (List.map W [10 * k + 307, 10 * k + 308]) (List.map W []) (List.map (wP W) [(138, 10 * k + 300)] ++ List.map (Prod.mk 328) []) (List.map (fun g => (g, x)) []) from c) (by unfold uC; simp <;> omega) (by unfold uC; simp <;> omega) (by unfold uC; simp <;> omega) (by simp)
      have o' : offK (renameK K k (nI w) (nI j) (nI i)) := by
        obtain ⟨o1, o2, o3, o4⟩ := r10
        refine ⟨o1, o2, fun c_ h1 h2 => ?_, o4⟩
        obtain ⟨p1, p2, p3, p4⟩ := o3 c_ h1 h2
        have hck : c_ ≠ k := fun z => by have : fN K 3 ≤ c_ := h1; omega
        exact ⟨p1, p2, p3, by unfold renameK; rw [rN_wA, if_neg (fun z => hck z.2)]; exact p4⟩
      exact rep_mut r t kp ⟨by decide, by decide⟩ ⟨by decide, by decide⟩ (by refine ⟨?_, ?_, ?_, ?_⟩ <;> (simp <;> omega)) (fun t_ ht => (by refine ⟨?_, ?_, ?_⟩ <;> (simp <;> omega)))
            (mgZ_t t r5 (by refine ⟨?_, ?_, ?_, ?_, ?_, ?_⟩ <;> (simp <;> omega)))
            (fun t_ ht => bR1_t t ht (trs_is r4 ht) (r6 t_ ht) (by refine ⟨?_, ?_⟩ <;> (simp <;> omega)))
            (fun c_ hc => fL1_K (keep_rN kp (by decide) c_) (fun i _ => keep_rN kp (by decide) _) (fL1_t t hc (k3 c_ hc) (by refine ⟨?_, ?_, ?_⟩ <;> (simp <;> omega))))
            (fun c_ hc => fT1_K (keep_rN kp (by decide) c_) (fun i _ => kp.2.1 5 (by decide) _) (fT1_t t hc (k2 c_ hc) (k4 c_ hc) (by refine ⟨?_, ?_⟩ <;> (simp <;> omega))))
            (fun c_ hc => fB1_t t hc (k2 c_ hc) (k5 c_ hc) (by simp <;> omega))
            (fun c_ hc => fQ1_K (keep_rN kp (by decide) c_) (fun i _ => ⟨kp.2.1 21 (by decide) _, kp.2.1 22 (by decide) _⟩) (fQ1_t t hc (k2 c_ hc) (k6 c_ hc) (by refine ⟨?_, ?_⟩ <;> (simp <;> omega))))
            (fun c_ hc => by
                  by_cases z : c_ = k
                  · rw [z]
                    refine ⟨by rw [hi2, (rnK_at h8).2.2.2], fun t_ n ht hn => ?_⟩
                    obtain ⟨y1, y2⟩ := names_add (by omega) hj hi ht hn h8 no
                    rw [hm, hm2, y1, y2]
                    obtain ⟨z1, z2⟩ := (k7 k hk).2 t_ n ht hn
                    constructor
                    · by_cases y : t_ = w ∧ n = j
                      · rw [if_pos (by omega), if_pos y]; rfl
                      · rw [if_neg (fun z => y (by omega)), if_neg y]; exact z1
                    · by_cases y : t_ = w ∧ n = i
                      · rw [if_pos (by omega), if_pos y]; rfl
                      · rw [if_neg (fun z => y (by omega)), if_neg y]; exact z2
                  · have h9 := (rv.p10 c_ (by omega)).2
                    exact fN1_K (by unfold renameK; rw [rN_wA, if_neg (fun y => z y.2)]; rfl) (fun i hi => ⟨rnK_el (by decide) (by omega), rnK_el (by decide) (by omega), rnK_el (by decide) (by omega)⟩) (fN1_t t hc (k2 c_ hc) (k7 c_ hc) (by refine ⟨?_, ?_, ?_⟩ <;> (simp <;> omega))))
            (fun c_ hc => fP1_K (fun n _ => kp.2.1 27 (by decide) _) (fP1_t t hc (k2 c_ hc) (k8 c_ hc) (by simp <;> omega)))
            (prtS_K (kp.2.1 10 (by decide)) (fun k => ⟨kp.2.1 11 (by decide) k, kp.2.1 12 (by decide) k, kp.2.1 13 (by decide) k, kp.2.1 15 (by decide) k⟩) (prtS_t t (fun _ _ => trivial) rfl r8))
            (by unfold latS; rw [latO_K (kp.1 19 (by decide))]; exact latS_t t r1.1 rfl r9)
            o'
theorem tie_op {S S' : Mem} {x : Nat} {M : Nat → Prop} {W : Nat → Nat} {pt : Nat → Option Nat} {K K' : RS} (r : rep S x M W pt K) (rv : RV K) {ra sa ta n : Nat} {o : Option Nat} {ki oa ob v v' : Int32} (ho : o = mO S 578 x) (hn : ∀ a, o = some a → mI S 328 a = nI n ∧ n ≤ 8) (hrow : o ≠ none → isA S ra 11 8 ∧ isA S sa 11 8 ∧ isA S ta 11 8) (c : chg S S' [ra, sa, ta] [] [(328, o.getD 0)] []) (hr : (isOpF ki oa ob = false ∧ v = -2 ∧ S' = S) ∨ (isOpF ki oa ob = true ∧ ((o = none ∧ v = -3 ∧ S' = S) ∨ ∃ a, o = some a ∧ ((n = 8 ∧ v = -4 ∧ S' = S) ∨ (n < 8 ∧ v = nI (n + 1) ∧ mI S' 328 a = nI (n + 1)))))) (q : opP K ki oa ob = (v', K')) : v = v' ∧ rep S' x M W pt K' := by
  obtain ⟨r1, r2, r3, r4, r5, r6, ⟨k1, k2, k3, k4, k5, k6, k7, k8⟩, r8, r9, r10⟩ := id r
  rcases hr with ⟨b, rfl, rfl⟩ | ⟨b, hr⟩
  · have e : opP K ki oa ob = (-2, K) := by unfold opP; rw [b]; rfl
    rw [e] at q; cases q; exact ⟨rfl, r⟩
  · have e0 : opP K ki oa ob = (match latO K with
        | none => (-3, K)
        | some g => if rN K 15 g = 8 then (-4, K) else (nI (rN K 15 g + 1), opK K g ki oa ob)) := by unfold opP; rw [b]; rfl
    rw [e0] at q
    have hl := ho.trans r9.1
    obtain ⟨lo, hlo, hlo2⟩ := rv.p14
    have hlo3 := latO_eq hlo hlo2
    rcases hr with ⟨rfl, rfl, rfl⟩ | ⟨a, rfl, hr⟩
    · cases e : latO K with
      | none => rw [e] at q; cases q; exact ⟨rfl, r⟩
      | some g =>
        have z := r9.2 g e
        rw [e] at hl
        rw [← (show none = pt g from hl)] at z
        cases z
    · cases e : latO K with
      | none => rw [e] at hl; cases hl
      | some g =>
        rw [e] at hl q
        have hg : pt g = some a := hl.symm
        have hg6 : g < 624 := hlo2 g (hlo3.symm.trans e)
        have pv := r8.2.1 g a hg6 hg
        obtain ⟨hn1, hn8⟩ := hn a rfl
        have hng : rN K 15 g = n := (nI_eq (by have := (rv.p12 g hg6).2; omega) (by omega)).mp (pv.2.1.symm.trans hn1)
        rcases hr with ⟨h8, rfl, rfl⟩ | ⟨h8, rfl, hm⟩
        · rw [show (match some g with | none => (-3, K) | some g => if rN K 15 g = 8 then (-4, K) else (nI (rN K 15 g + 1), opK K g ki oa ob)) = ((if rN K 15 g = 8 then (-4, K) else (nI (rN K 15 g + 1), opK K g ki oa ob)) : Int32 × RS) from rfl, hng, if_pos h8] at q
          cases q; exact ⟨rfl, r⟩
        · rw [show (match some g with | none => (-3, K) | some g => if rN K 15 g = 8 then (-4, K) else (nI (rN K 15 g + 1), opK K g ki oa ob)) = ((if rN K 15 g = 8 then (-4, K) else (nI (rN K 15 g + 1), opK K g ki oa ob)) : Int32 × RS) from rfl, hng, if_neg (by omega)] at q
          cases q
          refine ⟨rfl, ?_⟩
          obtain ⟨i5, j5, l5⟩ := hrow (fun z => by cases z)
          have kp : keep [] [15, 16, 17, 18] [] [] K (opK K g ki oa ob) := keep_wA (keep_wA (keep_wA (keep_wA keep_rfl (by decide)) (by decide)) (by decide)) (by decide)
          have t : tch W x (fN K 0) (fN K 3) (fun b => b ∉ [ra, sa, ta]) S S' [] [] [] [a] [] := ⟨⟨c.1, fun b hb z _ => c.2.1 b hb z, fun b hb _ k => c.2.2.1 b hb k, fun b hb _ g k => c.2.2.2.1 b hb g k, fun b hb _ g k => c.2.2.2.2.1 b hb g k⟩, fun i u z => by
            obtain ⟨k, m, ⟨f1, f2⟩ | ⟨f1, f2⟩⟩ := rep_kd r i u
            · have y := kdsO_ok k f2
              have kk := f1.2
              simp only [List.mem_cons, List.not_mem_nil, or_false] at z
              have d := show ∀ k ∈ kdsO, k ≠ 11 by decide
              rcases z with z | z | z <;> rw [z] at kk
              · exact d k f2 (kk.symm.trans i5.2.1)
              · exact d k f2 (kk.symm.trans j5.2.1)
              · exact d k f2 (kk.symm.trans l5.2.1)
            · have y := (kdsA_ok _ f2).2.2.2.2.2
              simp only [List.mem_cons, List.not_mem_nil, or_false] at z
              rcases z with z | z | z <;> rw [z] at f1
              · exact y (by rw [← f1.2.1, ← f1.2.2, i5.2.1, i5.2.2])
              · exact y (by rw [← f1.2.1, ← f1.2.2, j5.2.1, j5.2.2])
              · exact y (by rw [← f1.2.1, ← f1.2.2, l5.2.1, l5.2.2]), r2, by simp, by simp, by simp, by simp, fun z => by
              have kk := r1.1.2
              simp only [List.mem_cons, List.not_mem_nil, or_false] at z
              rcases z with z | z | z <;> rw [z] at kk
              · rw [i5.2.1] at kk; cases kk
              · rw [j5.2.1] at kk; cases kk
              · rw [l5.2.1] at kk; cases kk⟩
          have z5 : ∀ b, is S b 5 → b ∉ [ra, sa, ta] := fun b i z => by
            have kk := i.2
            simp only [List.mem_cons, List.not_mem_nil, or_false] at z
            rcases z with z | z | z <;> rw [z] at kk
            · rw [i5.2.1] at kk; cases kk
            · rw [j5.2.1] at kk; cases kk
            · rw [l5.2.1] at kk; cases kk
          have p' : prtS S' pt (opK K g ki oa ob) := by
            refine ⟨r8.1, fun k b hk hb => ?_, r8.2.2⟩
            have pb := r8.2.1 k b hk hb
            by_cases y : k = g
            · subst y
              obtain rfl : b = a := Option.some.inj (hb.symm.trans hg)
              refine ⟨tch_is t pb.1, ?_, fun hk2 => ?_⟩
              · rw [hm]; unfold opK; rw [rN_wA, if_pos ⟨rfl, rfl⟩, nIN (by omega), hng]
              · obtain ⟨p1, p2, p3, p4⟩ := pb.2.2 hk2
                exact ⟨tch_mip t pb.1 (z5 _ pb.1) (by decide) (fun e => by cases e) p1, tch_mip t pb.1 (z5 _ pb.1) (by decide) (fun e => by cases e) p2, tch_mip t pb.1 (z5 _ pb.1) (by decide) (fun e => by cases e) p3, tch_mip t pb.1 (z5 _ pb.1) (by decide) (fun e => by cases e) p4⟩
            · have w := prtV_t t (z5 _ pb.1) (fun z => y (r8.2.2 k g b hk hg6 hb (by rw [List.mem_singleton.mp z]; exact hg))) pb
              exact prtV_K (K := K) ⟨kp.2.1 11 (by decide) k, kp.2.1 12 (by decide) k, kp.2.1 13 (by decide) k, by unfold opK; rw [rA_wA, if_neg (fun z => y z.2)]; rfl⟩ w
          exact rep_mut r t kp ⟨by decide, by decide⟩ ⟨by decide, by decide⟩ (by refine ⟨?_, ?_, ?_, ?_⟩ <;> (simp <;> omega)) (fun t_ ht => (by refine ⟨?_, ?_, ?_⟩ <;> (simp <;> omega)))
            (mgZ_t t r5 (by refine ⟨?_, ?_, ?_, ?_, ?_, ?_⟩ <;> (simp <;> omega)))
            (fun t_ ht => bR1_t t ht (trs_is r4 ht) (r6 t_ ht) (by refine ⟨?_, ?_⟩ <;> (simp <;> omega)))
            (fun c_ hc => fL1_K (keep_rN kp (by decide) c_) (fun i _ => keep_rN kp (by decide) _) (fL1_t t hc (k3 c_ hc) (by refine ⟨?_, ?_, ?_⟩ <;> (simp <;> omega))))
            (fun c_ hc => fT1_K (keep_rN kp (by decide) c_) (fun i _ => kp.2.1 5 (by decide) _) (fT1_t t hc (k2 c_ hc) (k4 c_ hc) (by refine ⟨?_, ?_⟩ <;> (simp <;> omega))))
            (fun c_ hc => fB1_t t hc (k2 c_ hc) (k5 c_ hc) (by simp <;> omega))
            (fun c_ hc => fQ1_K (keep_rN kp (by decide) c_) (fun i _ => ⟨kp.2.1 21 (by decide) _, kp.2.1 22 (by decide) _⟩) (fQ1_t t hc (k2 c_ hc) (k6 c_ hc) (by refine ⟨?_, ?_⟩ <;> (simp <;> omega))))
            (fun c_ hc => fN1_K (keep_rN kp (by decide) c_) (fun i _ => ⟨kp.2.1 24 (by decide) _, kp.2.1 25 (by decide) _, kp.2.1 26 (by decide) _⟩) (fN1_t t hc (k2 c_ hc) (k7 c_ hc) (by refine ⟨?_, ?_, ?_⟩ <;> (simp <;> omega))))
            (fun c_ hc => fP1_K (fun n _ => kp.2.1 27 (by decide) _) (fP1_t t hc (k2 c_ hc) (k8 c_ hc) (by simp <;> omega)))
            p'
            (by unfold latS; rw [latO_K (kp.1 19 (by decide))]; exact ⟨tch_mox t r1.1 (by simp) r9.1, r9.2⟩)
            (offK_K kp ⟨by decide, by decide⟩ ⟨by decide, by decide, by decide, by decide, by decide, by decide⟩ r10)
