/-! A NEW PART -/
theorem up_at {A : Type} {f : Nat → A} {n q : Nat} {v : A} (h : q = n) : up f n v q = v := if_pos h
theorem rep_new {S S' : Mem} {x : Nat} {M : Nat → Prop} {W : Nat → Nat} {pt : Nat → Option Nat} {K K' : RS} (r : rep S x M W pt K) {R j code a : Nat} (c : chg S S' [] [W R] [] [(578, x)]) (hj : j < 12) (np : a ∉ mL S) (pv : prtV S' a code K') (hm : ∀ i, mP S' (W R) i = if i = j then some a else mP S (W R) i)
    (hb : (∃ k, k < fN K 0 ∧ R = 6 * k + 104 ∧ code = 12 * k + j) ∨ (∃ k, k < fN K 0 ∧ R = 6 * k + 105 ∧ code = 240 + 12 * k + j) ∨ ∃ k, k < fN K 3 ∧ R = 10 * k + 305 ∧ code = 480 + 12 * k + j)
    (kp : keep [19] [10, 11, 12, 13, 14, 15] [] [] K K') (k10 : ∀ q, rA K' 10 q = if q = code then nI 1 else rA K 10 q) (kq : ∀ q, q ≠ code → rA K' 11 q = rA K 11 q ∧ rA K' 12 q = rA K 12 q ∧ rA K' 13 q = rA K 13 q ∧ rA K' 15 q = rA K 15 q)
    (la : (latO K' = some code ∧ mO S' 578 x = some a) ∨ (latO K' = none ∧ mO S' 578 x = none)) : ∃ pt', rep S' x M W pt' K' := by
  obtain ⟨r1, r2, r3, r4, r5, r6, ⟨k1, k2, k3, k4, k5, k6, k7, k8⟩, r8, r9, r10⟩ := id r
  have hC := k1.2.2.2.1
  have hT := r4.2.2.2.2.1
  have uR : uC (fN K 0) (fN K 3) R := by
    rcases hb with ⟨k, h1, rfl, -⟩ | ⟨k, h1, rfl, -⟩ | ⟨k, h1, rfl, -⟩ <;> (unfold uC; omega)
  have hRlo : 104 ≤ R := by
    rcases hb with ⟨k, h1, rfl, -⟩ | ⟨k, h1, rfl, -⟩ | ⟨k, h1, rfl, -⟩ <;> omega
  have t : tch W x (fN K 0) (fN K 3) (fun _ => True) S S' [] [R] [] [] [578] := tch_chg r c (by simp) (by simp; exact uR) (by simp) (by simp)
  have hcode : code < 624 := by
    rcases hb with ⟨k, h1, -, rfl⟩ | ⟨k, h1, -, rfl⟩ | ⟨k, h1, -, rfl⟩ <;> omega
  have old : ∀ q b, q < 624 → pt q = some b → b ≠ a := fun q b hq hp z => np (z ▸ (r8.2.1 q b hq hp).1.1)
  refine ⟨(up pt code (some a)), ?_⟩
  have bb : all1 (bR1 S' W (up pt code (some a))) (fN K 0) := fun t_ ht => by
    obtain ⟨h1, h2, h3, h4, h5⟩ := r6 t_ ht
    have i8 := trs_is r4 ht
    refine ⟨tch_mo t i8 (by unfold uC; omega) (by decide) h1, tch_mo t i8 (by unfold uC; omega) (by decide) h2, tch_isA t h3, tch_isA t h4, fun n hn => ⟨?_, ?_⟩⟩
    · by_cases z : R = 6 * t_ + 104
      · have hcd : code = 12 * t_ + j := by
          rcases hb with ⟨k, q1, q2, q3⟩ | ⟨k, q1, q2, q3⟩ | ⟨k, q1, q2, q3⟩ <;> omega
        rw [← z, hm, z, (h5 n hn).1]
        by_cases y : n = j
        · rw [if_pos y, up_at (by omega)]
        · rw [if_neg y, up_ne (by omega)]
      · rw [tch_mp t h3 (by unfold uC; omega) (by simp; omega), (h5 n hn).1, up_ne]
        rcases hb with ⟨k, q1, q2, q3⟩ | ⟨k, q1, q2, q3⟩ | ⟨k, q1, q2, q3⟩ <;> omega
    · by_cases z : R = 6 * t_ + 105
      · have hcd : code = 240 + 12 * t_ + j := by
          rcases hb with ⟨k, q1, q2, q3⟩ | ⟨k, q1, q2, q3⟩ | ⟨k, q1, q2, q3⟩ <;> omega
        rw [← z, hm, z, (h5 n hn).2]
        by_cases y : n = j
        · rw [if_pos y, up_at (by omega)]
        · rw [if_neg y, up_ne (by omega)]
      · rw [tch_mp t h4 (by unfold uC; omega) (by simp; omega), (h5 n hn).2, up_ne]
        rcases hb with ⟨k, q1, q2, q3⟩ | ⟨k, q1, q2, q3⟩ | ⟨k, q1, q2, q3⟩ <;> omega
  have fbb : all1 (fB1 S' W (up pt code (some a))) (fN K 3) := fun c_ hc n hn => by
    have h3 := (k2 c_ hc).2.2.2.2.2.1
    by_cases z : R = 10 * c_ + 305
    · have hcd : code = 480 + 12 * c_ + j := by
        rcases hb with ⟨k, q1, q2, q3⟩ | ⟨k, q1, q2, q3⟩ | ⟨k, q1, q2, q3⟩ <;> omega
      rw [← z, hm, z, k5 c_ hc n hn]
      by_cases y : n = j
      · rw [if_pos y, up_at (by omega)]
      · rw [if_neg y, up_ne (by omega)]
    · rw [tch_mp t h3 (by unfold uC; omega) (by simp; omega), k5 c_ hc n hn, up_ne]
      rcases hb with ⟨k, q1, q2, q3⟩ | ⟨k, q1, q2, q3⟩ | ⟨k, q1, q2, q3⟩ <;> omega
  have pp : prtS S' (up pt code (some a)) K' := by
    refine ⟨fun q hq => ?_, fun q b hq hb2 => ?_, fun q q' b hq hq' e e' => ?_⟩
    · rw [k10]
      by_cases y : q = code
      · rw [if_pos y, up_at y]; exact ⟨fun _ => by decide, fun _ => rfl⟩
      · rw [if_neg y, up_ne y]; exact r8.1 q hq
    · by_cases y : q = code
      · rw [up_at y] at hb2
        cases hb2; rw [y]; exact pv
      · rw [up_ne y] at hb2
        exact prtV_K (K := K) (kq q y) (prtV_t t trivial List.not_mem_nil (r8.2.1 q b hq hb2))
    · by_cases y : q = code <;> by_cases y' : q' = code
      · rw [y, y']
      · rw [up_at y] at e; rw [up_ne y'] at e'
        cases e; exact absurd rfl (old q' _ hq' e')
      · rw [up_ne y] at e; rw [up_at y'] at e'
        cases e'; exact absurd rfl (old q _ hq e)
      · rw [up_ne y] at e; rw [up_ne y'] at e'
        exact r8.2.2 q q' b hq hq' e e'
  have ll : latS S' x (up pt code (some a)) K' := by
    rcases la with ⟨l1, l2⟩ | ⟨l1, l2⟩
    · refine ⟨by rw [l1, l2]; exact up_eq.symm, fun g hg => ?_⟩
      rw [l1] at hg; cases hg
      rw [up_eq]; rfl
    · exact ⟨by rw [l1, l2]; rfl, fun g hg => by rw [l1] at hg; cases hg⟩
  have oo : offK K' := by
    obtain ⟨o1, o2, o3, o4⟩ := r10
    unfold offK
    rw [keep_fN kp (by decide), keep_fN kp (by decide)]
    refine ⟨fun t_ n h1 h2 h3 => ?_, fun c_ n h1 h2 h3 => ?_, fun c_ h1 h2 => ?_, fun c_ i j_ h1 h2 h3 => ?_⟩
    · rw [k10, k10, if_neg, if_neg]
      · exact o1 t_ n h1 h2 h3
      · rcases hb with ⟨k, q1, q2, q3⟩ | ⟨k, q1, q2, q3⟩ | ⟨k, q1, q2, q3⟩ <;> omega
      · rcases hb with ⟨k, q1, q2, q3⟩ | ⟨k, q1, q2, q3⟩ | ⟨k, q1, q2, q3⟩ <;> omega
    · rw [k10, if_neg]
      · exact o2 c_ n h1 h2 h3
      · rcases hb with ⟨k, q1, q2, q3⟩ | ⟨k, q1, q2, q3⟩ | ⟨k, q1, q2, q3⟩ <;> omega
    · rw [keep_rN kp (by decide), keep_rN kp (by decide), keep_rN kp (by decide), keep_rN kp (by decide)]; exact o3 c_ h1 h2
    · rw [keep_rN kp (by decide)] at h3
      rw [keep_rN kp (by decide), keep_rN kp (by decide)]; exact o4 c_ i j_ h1 h2 h3
  exact rep_mut r t kp ⟨by decide, by decide⟩ ⟨by decide, by decide⟩ (by refine ⟨?_, ?_, ?_, ?_⟩ <;> (simp <;> omega)) (fun t_ ht => by simp) (mgZ_t t r5 (by simp)) bb
          (fun c_ hc => fL1_K (keep_rN kp (by decide) c_) (fun i _ => keep_rN kp (by decide) _) (fL1_t t hc (k3 c_ hc) (by refine ⟨?_, ?_, ?_⟩ <;> (simp <;> omega))))
          (fun c_ hc => fT1_K (keep_rN kp (by decide) c_) (fun i _ => kp.2.1 5 (by decide) _) (fT1_t t hc (k2 c_ hc) (k4 c_ hc) (by refine ⟨?_, ?_⟩ <;> (simp <;> omega)))) fbb
          (fun c_ hc => fQ1_K (keep_rN kp (by decide) c_) (fun i _ => ⟨kp.2.1 21 (by decide) _, kp.2.1 22 (by decide) _⟩) (fQ1_t t hc (k2 c_ hc) (k6 c_ hc) (by refine ⟨?_, ?_⟩ <;> (simp <;> omega))))
          (fun c_ hc => fN1_K (keep_rN kp (by decide) c_) (fun i _ => ⟨kp.2.1 24 (by decide) _, kp.2.1 25 (by decide) _, kp.2.1 26 (by decide) _⟩) (fN1_t t hc (k2 c_ hc) (k7 c_ hc) (by refine ⟨?_, ?_, ?_⟩ <;> (simp <;> omega))))
          (fun c_ hc => fP1_K (fun n _ => kp.2.1 27 (by decide) _) (fP1_t t hc (k2 c_ hc) (k8 c_ hc) (by simp <;> omega))) pp ll oo
theorem beg_10 {K : RS} {k q : Nat} : rA (begK K k) 10 q = if q = k then nI 1 else rA K 10 q := by
  unfold begK
  rw [rA_wF, rA_wA, if_neg (fun z => by omega), rA_wA, if_neg (fun z => by omega), rA_wA]; simp
theorem beg_11 {K : RS} {k q : Nat} : rA (begK K k) 11 q = if q = k then nI 0 else rA K 11 q := by
  unfold begK
  rw [rA_wF, rA_wA, if_neg (fun z => by omega), rA_wA, rA_wA, if_neg (fun z : 11 = 10 ∧ _ => by omega)]; simp
theorem beg_15 {K : RS} {k q : Nat} : rA (begK K k) 15 q = if q = k then nI 0 else rA K 15 q := by
  unfold begK
  rw [rA_wF, rA_wA, rA_wA, if_neg (fun z : 15 = 11 ∧ _ => by omega), rA_wA, if_neg (fun z : 15 = 10 ∧ _ => by omega)]; simp
theorem beg_o {K : RS} {k q g : Nat} (h : g ≠ 10 ∧ g ≠ 11 ∧ g ≠ 15) : rA (begK K k) g q = rA K g q := by
  unfold begK
  rw [rA_wF, rA_wA, if_neg (fun z => by omega), rA_wA, if_neg (fun z => by omega), rA_wA, if_neg (fun z => by omega)]
theorem beg_19 {K : RS} {k : Nat} (h : k < 2 ^ 31) : latO (begK K k) = some k := by
  have e : rF (begK K k) 19 = nI k := by unfold begK; rw [rF_wF, if_pos rfl]
  unfold latO
  rw [e, if_neg (nI_m1 h)]
  exact congrArg some (fN_nI e h)
theorem keep_beg {K K1 : RS} {k : Nat} (h : keep [19] [10, 11, 12, 13, 14, 15] [] [] K K1) : keep [19] [10, 11, 12, 13, 14, 15] [] [] K (begK K1 k) := keep_wF (keep_wA (keep_wA (keep_wA h (by decide)) (by decide)) (by decide)) (by decide)
theorem bit1 (n : Nat) : 12 * n / 12 = n := by omega
theorem tie_body {S S' : Mem} {x : Nat} {M : Nat → Prop} {W : Nat → Nat} {pt : Nat → Option Nat} {K K' : RS} (r : rep S x M W pt K) (rv : RV K) {t ac re rs v v' : Int32} (c : chg S S' [] [W (6 * t.toNatClampNeg + 104)] [] [(578, x)]) (hr : ((blw t (fN K 0) && blw ac 12 && blw re 3 && blw rs 4) = false ∧ v = -2 ∧ S' = S) ∨ (∃ k j a, k < (fN K 0) ∧ j < 12 ∧ t = nI k ∧ ac = nI j ∧ blw re 3 = true ∧ blw rs 4 = true ∧ v = 1 ∧ newP S S' a t (-1) re rs 0 ∧ (∀ i, mP S' (W (6 * k + 104)) i = if i = j then some a else mP S (W (6 * k + 104)) i) ∧ mO S' 578 x = some a)) (q : bodyP K t ac re rs = (v', K')) : v = v' ∧ ∃ pt', rep S' x M W pt' K' := by
  obtain ⟨r1, r2, r3, r4, r5, r6, ⟨k1, k2, k3, k4, k5, k6, k7, k8⟩, r8, r9, r10⟩ := id r
  have hC := k1.2.2.2.1
  have hT := r4.2.2.2.2.1
  rcases hr with ⟨b, rfl, rfl⟩ | ⟨k, j, a, hk, hj, rfl, rfl, h1, h2, rfl, hnp, hm, hl⟩
  · have e : bodyP K t ac re rs = (-2, K) := by unfold bodyP; rw [show (below t (fN K 0) && below ac 12 && below re 3 && below rs 4) = false from b]; rfl
    rw [e] at q; cases q; exact ⟨rfl, pt, r⟩
  · have e0 : bodyP K (nI k) (nI j) re rs = (nI 1, begK (wA (wA K 12 (12 * k + j) re) 13 (12 * k + j) rs) (12 * k + j)) := by
      unfold bodyP
      rw [below_nI hk (by omega), below_nI hj (by decide), show below re 3 = true from h1, show below rs 4 = true from h2, nIN (by omega), nIN (by omega)]; rfl
    rw [e0] at q; cases q
    rw [nIN (by omega)] at c
    obtain ⟨n0, n1, n2, n3, n4, n5, n6, n7⟩ := hnp
    refine ⟨rfl, rep_new r c hj n0 ⟨n1, ?_, ?_⟩ hm (Or.inl ⟨k, hk, rfl, rfl⟩) (keep_beg (keep_wA (keep_wA keep_rfl (by decide)) (by decide))) (fun q => ?_) (fun q hq => ?_) (Or.inl ⟨beg_19 (by omega), hl⟩)⟩
    · rw [n2, rN_nI (show rA (begK (wA (wA K 12 (12 * k + j) re) 13 (12 * k + j) rs) (12 * k + j)) 15 (12 * k + j) = nI 0 by rw [beg_15, if_pos rfl]) (by decide)]; rfl
    · intro _
      refine ⟨?_, ?_, ?_, ?_⟩
      · rw [n3]; unfold gvI; rw [if_pos (by omega), show (12 * k + j) / 12 = k by omega]
      · rw [n5, beg_o (by decide), rA_wA, if_neg (fun z => by omega), rA_wA, if_pos ⟨rfl, rfl⟩]
      · rw [n6, beg_o (by decide), rA_wA, if_pos ⟨rfl, rfl⟩]
      · rw [n7, beg_11, if_pos rfl]; rfl
    · rw [beg_10, (keep_wA (keep_wA keep_rfl (by decide)) (by decide) : keep [] [12, 13] [] [] K (wA (wA K 12 (12 * k + j) re) 13 (12 * k + j) rs)).2.1 10 (by decide) q]
    · exact ⟨by rw [beg_11, if_neg hq, rA_wA, if_neg (fun z => by omega), rA_wA, if_neg (fun z => by omega)], by rw [beg_o (by decide), rA_wA, if_neg (fun z => by omega), rA_wA, if_neg (fun z => hq z.2)], by rw [beg_o (by decide), rA_wA, if_neg (fun z => hq z.2), rA_wA, if_neg (fun z => by omega)], by rw [beg_15, if_neg hq, rA_wA, if_neg (fun z => by omega), rA_wA, if_neg (fun z => by omega)]⟩
theorem tie_own {S S' : Mem} {x : Nat} {M : Nat → Prop} {W : Nat → Nat} {pt : Nat → Option Nat} {K K' : RS} (r : rep S x M W pt K) (rv : RV K) {t ac re rs v v' : Int32} (c : chg S S' [] [W (10 * t.toNatClampNeg + 305)] [] [(578, x)]) (hr : ((blw t (fN K 3) && blw ac 12 && blw re 3 && blw rs 4) = false ∧ v = -2 ∧ S' = S) ∨ (∃ k j a, k < (fN K 3) ∧ j < 12 ∧ t = nI k ∧ ac = nI j ∧ blw re 3 = true ∧ blw rs 4 = true ∧ v = 1 ∧ newP S S' a (-1) (-1) re rs 0 ∧ (∀ i, mP S' (W (10 * k + 305)) i = if i = j then some a else mP S (W (10 * k + 305)) i) ∧ mO S' 578 x = some a)) (q : ownP K t ac re rs = (v', K')) : v = v' ∧ ∃ pt', rep S' x M W pt' K' := by
  obtain ⟨r1, r2, r3, r4, r5, r6, ⟨k1, k2, k3, k4, k5, k6, k7, k8⟩, r8, r9, r10⟩ := id r
  have hC := k1.2.2.2.1
  have hT := r4.2.2.2.2.1
  rcases hr with ⟨b, rfl, rfl⟩ | ⟨k, j, a, hk, hj, rfl, rfl, h1, h2, rfl, hnp, hm, hl⟩
  · have e : ownP K t ac re rs = (-2, K) := by unfold ownP; rw [show (below t (fN K 3) && below ac 12 && below re 3 && below rs 4) = false from b]; rfl
    rw [e] at q; cases q; exact ⟨rfl, pt, r⟩
  · have e0 : ownP K (nI k) (nI j) re rs = (nI 1, begK (wA (wA K 12 (480 + 12 * k + j) re) 13 (480 + 12 * k + j) rs) (480 + 12 * k + j)) := by
      unfold ownP
      rw [below_nI hk (by omega), below_nI hj (by decide), show below re 3 = true from h1, show below rs 4 = true from h2, nIN (by omega), nIN (by omega)]; rfl
    rw [e0] at q; cases q
    rw [nIN (by omega)] at c
    obtain ⟨n0, n1, n2, n3, n4, n5, n6, n7⟩ := hnp
    refine ⟨rfl, rep_new r c hj n0 ⟨n1, ?_, ?_⟩ hm (Or.inr (Or.inr ⟨k, hk, rfl, rfl⟩)) (keep_beg (keep_wA (keep_wA keep_rfl (by decide)) (by decide))) (fun q => ?_) (fun q hq => ?_) (Or.inl ⟨beg_19 (by omega), hl⟩)⟩
    · rw [n2, rN_nI (show rA (begK (wA (wA K 12 (480 + 12 * k + j) re) 13 (480 + 12 * k + j) rs) (480 + 12 * k + j)) 15 (480 + 12 * k + j) = nI 0 by rw [beg_15, if_pos rfl]) (by decide)]; rfl
    · intro _
      refine ⟨?_, ?_, ?_, ?_⟩
      · rw [n3]; unfold gvI; rw [if_neg (by omega)]
      · rw [n5, beg_o (by decide), rA_wA, if_neg (fun z => by omega), rA_wA, if_pos ⟨rfl, rfl⟩]
      · rw [n6, beg_o (by decide), rA_wA, if_pos ⟨rfl, rfl⟩]
      · rw [n7, beg_11, if_pos rfl]; rfl
    · rw [beg_10, (keep_wA (keep_wA keep_rfl (by decide)) (by decide) : keep [] [12, 13] [] [] K (wA (wA K 12 (480 + 12 * k + j) re) 13 (480 + 12 * k + j) rs)).2.1 10 (by decide) q]
    · exact ⟨by rw [beg_11, if_neg hq, rA_wA, if_neg (fun z => by omega), rA_wA, if_neg (fun z => by omega)], by rw [beg_o (by decide), rA_wA, if_neg (fun z => by omega), rA_wA, if_neg (fun z => hq z.2)], by rw [beg_o (by decide), rA_wA, if_neg (fun z => hq z.2), rA_wA, if_neg (fun z => by omega)], by rw [beg_15, if_neg hq, rA_wA, if_neg (fun z => by omega), rA_wA, if_neg (fun z => by omega)]⟩
theorem tie_guard {S S' : Mem} {x : Nat} {M : Nat → Prop} {W : Nat → Nat} {pt : Nat → Option Nat} {K K' : RS} (r : rep S x M W pt K) (rv : RV K) {t ac rs v v' : Int32} (c : chg S S' [] [W (6 * t.toNatClampNeg + 105)] [] [(578, x)]) (hr : ((blw t (fN K 0) && blw ac 12 && blw rs 3) = false ∧ v = -2 ∧ S' = S) ∨ (∃ k j a, k < (fN K 0) ∧ j < 12 ∧ t = nI k ∧ ac = nI j ∧ blw rs 3 = true ∧ v = 1 ∧ newP S S' a t rs 0 0 0 ∧ (∀ i, mP S' (W (6 * k + 105)) i = if i = j then some a else mP S (W (6 * k + 105)) i) ∧ mO S' 578 x = some a)) (q : guardP K t ac rs = (v', K')) : v = v' ∧ ∃ pt', rep S' x M W pt' K' := by
  obtain ⟨r1, r2, r3, r4, r5, r6, ⟨k1, k2, k3, k4, k5, k6, k7, k8⟩, r8, r9, r10⟩ := id r
  have hC := k1.2.2.2.1
  have hT := r4.2.2.2.2.1
  rcases hr with ⟨b, rfl, rfl⟩ | ⟨k, j, a, hk, hj, rfl, rfl, h2, rfl, hnp, hm, hl⟩
  · have e : guardP K t ac rs = (-2, K) := by unfold guardP; rw [show (below t (fN K 0) && below ac 12 && below rs 3) = false from b]; rfl
    rw [e] at q; cases q; exact ⟨rfl, pt, r⟩
  · have e0 : guardP K (nI k) (nI j) rs = (nI 1, begK (wA K 14 (240 + 12 * k + j) rs) (240 + 12 * k + j)) := by
      unfold guardP
      rw [below_nI hk (by omega), below_nI hj (by decide), show below rs 3 = true from h2, nIN (by omega), nIN (by omega)]; rfl
    rw [e0] at q; cases q
    rw [nIN (by omega)] at c
    obtain ⟨n0, n1, n2, n3, n4, n5, n6, n7⟩ := hnp
    refine ⟨rfl, rep_new r c hj n0 ⟨n1, ?_, ?_⟩ hm (Or.inr (Or.inl ⟨k, hk, rfl, rfl⟩)) (keep_beg (keep_wA keep_rfl (by decide))) (fun q => ?_) (fun q hq => ?_) (Or.inl ⟨beg_19 (by omega), hl⟩)⟩
    · rw [n2, rN_nI (show rA (begK (wA K 14 (240 + 12 * k + j) rs) (240 + 12 * k + j)) 15 (240 + 12 * k + j) = nI 0 by rw [beg_15, if_pos rfl]) (by decide)]; rfl
    · intro z; omega
    · rw [beg_10, (keep_wA keep_rfl (by decide) : keep [] [14] [] [] K (wA K 14 (240 + 12 * k + j) rs)).2.1 10 (by decide) q]
    · exact ⟨by rw [beg_11, if_neg hq, rA_wA, if_neg (fun z => by omega)], by rw [beg_o (by decide), rA_wA, if_neg (fun z => by omega)], by rw [beg_o (by decide), rA_wA, if_neg (fun z => by omega)], by rw [beg_15, if_neg hq, rA_wA, if_neg (fun z => by omega)]⟩
theorem tie_need {S S' : Mem} {x : Nat} {M : Nat → Prop} {W : Nat → Nat} {pt : Nat → Option Nat} {K K' : RS} (r : rep S x M W pt K) (rv : RV K) {t ac rs v v' : Int32} (c : chg S S' [] [W (6 * t.toNatClampNeg + 104)] [] [(578, x)]) (hr : ((blw t (fN K 0) && blw ac 12 && blw rs 4) = false ∧ v = -2 ∧ S' = S) ∨ (∃ k j a, k < (fN K 0) ∧ j < 12 ∧ t = nI k ∧ ac = nI j ∧ blw rs 4 = true ∧ v = 1 ∧ newP S S' a t (-1) 0 rs 1 ∧ (∀ i, mP S' (W (6 * k + 104)) i = if i = j then some a else mP S (W (6 * k + 104)) i) ∧ mO S' 578 x = none)) (q : needP K t ac rs = (v', K')) : v = v' ∧ ∃ pt', rep S' x M W pt' K' := by
  obtain ⟨r1, r2, r3, r4, r5, r6, ⟨k1, k2, k3, k4, k5, k6, k7, k8⟩, r8, r9, r10⟩ := id r
  have hC := k1.2.2.2.1
  have hT := r4.2.2.2.2.1
  rcases hr with ⟨b, rfl, rfl⟩ | ⟨k, j, a, hk, hj, rfl, rfl, h2, rfl, hnp, hm, hl⟩
  · have e : needP K t ac rs = (-2, K) := by unfold needP; rw [show (below t (fN K 0) && below ac 12 && below rs 4) = false from b]; rfl
    rw [e] at q; cases q; exact ⟨rfl, pt, r⟩
  · have e0 : needP K (nI k) (nI j) rs = (nI 1, wF (wA (begK (wA (wA K 12 (12 * k + j) (nI 0)) 13 (12 * k + j) rs) (12 * k + j)) 11 (12 * k + j) (nI 1)) 19 (-1)) := by
      unfold needP
      rw [below_nI hk (by omega), below_nI hj (by decide), show below rs 4 = true from h2, nIN (by omega), nIN (by omega)]; rfl
    rw [e0] at q; cases q
    rw [nIN (by omega)] at c
    obtain ⟨n0, n1, n2, n3, n4, n5, n6, n7⟩ := hnp
    refine ⟨rfl, rep_new r c hj n0 ⟨n1, ?_, ?_⟩ hm (Or.inl ⟨k, hk, rfl, rfl⟩) (keep_wF (keep_wA (keep_beg (keep_wA (keep_wA keep_rfl (by decide)) (by decide))) (by decide)) (by decide)) (fun q => ?_) (fun q hq => ?_) (Or.inr ⟨by unfold latO; rw [rF_wF, if_pos rfl, if_pos rfl], hl⟩)⟩
    · rw [n2, rN_nI (show rA (wF (wA (begK (wA (wA K 12 (12 * k + j) (nI 0)) 13 (12 * k + j) rs) (12 * k + j)) 11 (12 * k + j) (nI 1)) 19 (-1)) 15 (12 * k + j) = nI 0 by rw [rA_wF, rA_wA, if_neg (fun z => by omega), beg_15, if_pos rfl]) (by decide)]; rfl
    · intro _
      refine ⟨?_, ?_, ?_, ?_⟩
      · rw [n3]; unfold gvI; rw [if_pos (by omega), show (12 * k + j) / 12 = k by omega]
      · rw [n5, rA_wF, rA_wA, if_neg (fun z => by omega), beg_o (by decide), rA_wA, if_neg (fun z => by omega), rA_wA, if_pos ⟨rfl, rfl⟩]; rfl
      · rw [n6, rA_wF, rA_wA, if_neg (fun z => by omega), beg_o (by decide), rA_wA, if_pos ⟨rfl, rfl⟩]
      · rw [n7, rA_wF, rA_wA, if_pos ⟨rfl, rfl⟩]; rfl
    · rw [rA_wF, rA_wA, if_neg (fun z => by omega), beg_10, (keep_wA (keep_wA keep_rfl (by decide)) (by decide) : keep [] [12, 13] [] [] K (wA (wA K 12 (12 * k + j) (nI 0)) 13 (12 * k + j) rs)).2.1 10 (by decide) q]
    · exact ⟨by rw [rA_wF, rA_wA, if_neg (fun z => hq z.2), beg_11, if_neg hq, rA_wA, if_neg (fun z => by omega), rA_wA, if_neg (fun z => by omega)], by rw [rA_wF, rA_wA, if_neg (fun z => by omega), beg_o (by decide), rA_wA, if_neg (fun z => by omega), rA_wA, if_neg (fun z => hq z.2)], by rw [rA_wF, rA_wA, if_neg (fun z => by omega), beg_o (by decide), rA_wA, if_neg (fun z => hq z.2), rA_wA, if_neg (fun z => by omega)], by rw [rA_wF, rA_wA, if_neg (fun z => by omega), beg_15, if_neg hq, rA_wA, if_neg (fun z => by omega), rA_wA, if_neg (fun z => by omega)]⟩
