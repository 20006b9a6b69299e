/-! NEW ADDRESSES -/
def exW (W N : Nat → Nat) (b n d : Nat) : Nat → Nat := fun i => if b ≤ i ∧ i < b + n then N (i - b + d) else W i
theorem exW_lo {W N : Nat → Nat} {b n d i : Nat} (h : ¬ (b ≤ i ∧ i < b + n)) : exW W N b n d i = W i := if_neg h
theorem exW_hi {W N : Nat → Nat} {b n d i : Nat} (h : i < n) : exW W N b n d (b + i) = N (d + i) := by
  unfold exW; rw [if_pos ⟨by omega, by omega⟩, show b + i - b + d = d + i by omega]
theorem inj_ex {S : Mem} {W N : Nat → Nat} {b n d T C T' C' : Nat} (h : injW W T C) (l : ∀ i, uC T C i → W i ∈ mL S) (f : ∀ i, i < n → N (d + i) ∉ mL S) (j : ∀ i k, i < n → k < n → N (d + i) = N (d + k) → i = k) (u : ∀ i, uC T' C' i → uC T C i ∨ (b ≤ i ∧ i < b + n)) (o : ∀ i, uC T C i → ¬ (b ≤ i ∧ i < b + n)) : injW (exW W N b n d) T' C' := by
  have nw : ∀ i, b ≤ i ∧ i < b + n → exW W N b n d i = N (d + (i - b)) := fun i hi => by
    have := exW_hi (W := W) (N := N) (b := b) (n := n) (d := d) (i := i - b) (by omega)
    rw [show b + (i - b) = i by omega] at this; exact this
  intro i k hi hk e
  rcases u i hi with a | a <;> rcases u k hk with c | c
  · rw [exW_lo (o i a), exW_lo (o k c)] at e; exact h i k a c e
  · rw [exW_lo (o i a), nw k c] at e; exact absurd (e ▸ l i a) (f _ (by omega))
  · rw [nw i a, exW_lo (o k c)] at e; exact absurd (e ▸ l k c) (f _ (by omega))
  · rw [nw i a, nw k c] at e
    have := j _ _ (by omega) (by omega) e
    omega
theorem mgZ_W {S : Mem} {m : Nat} {W W' : Nat → Nat} (e : ∀ i, i < 12 → W' i = W i) (h : mgZ S m (xA W)) : mgZ S m (xA W') := by
  obtain ⟨h1, h2, h3, h4, h5, h6, h7, ⟨G, h8⟩, ⟨D, h9⟩⟩ := h
  have e4 : (xA W').rows = (xA W).rows := e 4 (by decide)
  have e5 : (xA W').ft = (xA W).ft := e 5 (by decide)
  have e6 : (xA W').gv = (xA W).gv := e 6 (by decide)
  have e7 : (xA W').gr = (xA W).gr := e 7 (by decide)
  have e8 : (xA W').gp = (xA W).gp := e 8 (by decide)
  have e9 : (xA W').md = (xA W).md := e 9 (by decide)
  have e10 : (xA W').mr = (xA W).mr := e 10 (by decide)
  have e11 : (xA W').mp = (xA W).mp := e 11 (by decide)
  unfold mgZ
  rw [e4, e5, e6, e7, e8, e9, e10, e11]
  exact ⟨h1, h2, h3, h4, h5, h6, h7, ⟨G, h8⟩, ⟨D, h9⟩⟩
theorem bR1_W {S : Mem} {W W' : Nat → Nat} {pt : Nat → Option Nat} {t : Nat} (e : ∀ i, i < 6 → W' (6 * t + (100 + i)) = W (6 * t + (100 + i))) (h : bR1 S W pt t) : bR1 S W' pt t := by
  have e0 : W' (6 * t + 100) = W (6 * t + 100) := e 0 (by decide)
  have e4 : W' (6 * t + 104) = W (6 * t + 104) := e 4 (by decide)
  have e5 : W' (6 * t + 105) = W (6 * t + 105) := e 5 (by decide)
  unfold bR1; rw [e0, e4, e5]; exact h
theorem fA1_W {S : Mem} {W W' : Nat → Nat} {c c' : Nat} (e : ∀ j, j < 10 → W' (10 * c' + (300 + j)) = W (10 * c + (300 + j))) (h : fA1 S W c) : fA1 S W' c' := by
  have e0 : W' (10 * c' + 300) = W (10 * c + 300) := e 0 (by decide)
  have e1 : W' (10 * c' + 301) = W (10 * c + 301) := e 1 (by decide)
  have e4 : W' (10 * c' + 304) = W (10 * c + 304) := e 4 (by decide)
  have e5 : W' (10 * c' + 305) = W (10 * c + 305) := e 5 (by decide)
  have e6 : W' (10 * c' + 306) = W (10 * c + 306) := e 6 (by decide)
  have e7 : W' (10 * c' + 307) = W (10 * c + 307) := e 7 (by decide)
  have e8 : W' (10 * c' + 308) = W (10 * c + 308) := e 8 (by decide)
  have e9 : W' (10 * c' + 309) = W (10 * c + 309) := e 9 (by decide)
  unfold fA1; rw [e0, e1, e4, e5, e6, e7, e8, e9]; exact h
theorem fR1_W {S : Mem} {W W' : Nat → Nat} {pt : Nat → Option Nat} {K : RS} {c : Nat} (e : ∀ j, j < 10 → W' (10 * c + (300 + j)) = W (10 * c + (300 + j))) : (fL1 S W K c → fL1 S W' K c) ∧ (fT1 S W K c → fT1 S W' K c) ∧ (fB1 S W pt c → fB1 S W' pt c) ∧ (fQ1 S W K c → fQ1 S W' K c) ∧ (fN1 S W K c → fN1 S W' K c) ∧ (fP1 S W K c → fP1 S W' K c) := by
  have e0 : W' (10 * c + 300) = W (10 * c + 300) := e 0 (by decide)
  have e1 : W' (10 * c + 301) = W (10 * c + 301) := e 1 (by decide)
  have e2 : W' (10 * c + 302) = W (10 * c + 302) := e 2 (by decide)
  have e3 : W' (10 * c + 303) = W (10 * c + 303) := e 3 (by decide)
  have e4 : W' (10 * c + 304) = W (10 * c + 304) := e 4 (by decide)
  have e5 : W' (10 * c + 305) = W (10 * c + 305) := e 5 (by decide)
  have e6 : W' (10 * c + 306) = W (10 * c + 306) := e 6 (by decide)
  have e7 : W' (10 * c + 307) = W (10 * c + 307) := e 7 (by decide)
  have e8 : W' (10 * c + 308) = W (10 * c + 308) := e 8 (by decide)
  have e9 : W' (10 * c + 309) = W (10 * c + 309) := e 9 (by decide)
  unfold fL1 fT1 fB1 fQ1 fN1 fP1
  rw [e0, e1, e2, e3, e4, e5, e6, e7, e8, e9]
  exact ⟨id, id, id, id, id, id⟩
def knF : List Nat := [2000, 3000, 11020, 11020, 11005, 16012, 13240, 11240, 11240, 11012]
theorem knF_ok : ∀ i ∈ List.range 10, ∀ j ∈ List.range 10, knF.getD i 0 = knF.getD j 0 → i = j ∨ (i = 2 ∧ j = 3) ∨ (i = 3 ∧ j = 2) ∨ (i = 7 ∧ j = 8) ∨ (i = 8 ∧ j = 7) := by decide +kernel
theorem newF_inj {S S' : Mem} {a : Nat} {N : Nat → Nat} (f : newF S S' a N) : ∀ i k, i < 10 → k < 10 → N (300 + i) = N (300 + k) → i = k := by
  obtain ⟨e, ⟨h1, h2, h3, h4, h5, h6, h7, h8, h9, h10, h11, h12, h13, h14⟩, l, fr, d, m, p1, p2, p3, p4⟩ := f
  have tg : ∀ i, i < 10 → tgK S' (N (300 + i)) = knF.getD i 0 := fun i hi => by
    have q : i = 0 ∨ i = 1 ∨ i = 2 ∨ i = 3 ∨ i = 4 ∨ i = 5 ∨ i = 6 ∨ i = 7 ∨ i = 8 ∨ i = 9 := by omega
    rcases q with rfl | rfl | rfl | rfl | rfl | rfl | rfl | rfl | rfl | rfl
    · exact tg_is h1 (by decide)
    · exact tg_is l.1 (by decide)
    · exact tg_isA l.2.2.2.1 (by decide)
    · exact tg_isA l.2.2.2.2.1 (by decide)
    · exact tg_isA h4 (by decide)
    · exact tg_isA h6 (by decide)
    · exact tg_isA h8 (by decide)
    · exact tg_isA h10 (by decide)
    · exact tg_isA h12 (by decide)
    · exact tg_isA h14 (by decide)
  intro i k hi hk q
  have w := (tg i hi).symm.trans ((congrArg (tgK S') q).trans (tg k hk))
  rcases knF_ok i (List.mem_range.mpr hi) k (List.mem_range.mpr hk) w with z | ⟨rfl, rfl⟩ | ⟨rfl, rfl⟩ | ⟨rfl, rfl⟩ | ⟨rfl, rfl⟩
  · exact z
  · exact absurd q l.2.2.2.2.2.1
  · exact absurd q.symm l.2.2.2.2.2.1
  · exact absurd q d
  · exact absurd q.symm d
theorem nC_keep {K K' : RS} {tp : Int32} (h : newChar K tp K') : keep [3] [4, 27] [] [] K K' := h.2.2.2.2.2
theorem tie_character {S S' : Mem} {x : Nat} {M : Nat → Prop} {W : Nat → Nat} {pt : Nat → Option Nat} {K K' : RS} (r : rep S x M W pt K) (hM : ∀ a, M a → a ∈ mL S) {tp v v' : Int32} (c : chg S S' [] [W 2] [(67, W 0)] []) (hr : (blw tp 4 = false ∧ v = -2 ∧ S' = S) ∨ (blw tp 4 = true ∧ (fN K 3) = 12 ∧ v = -4 ∧ S' = S) ∨ (blw tp 4 = true ∧ (fN K 3) < 12 ∧ v = nI (fN K 3) ∧ ∃ a N, a ∉ mL S ∧ newF S S' a N ∧ (∀ i, mP S' (W 2) i = if i = (fN K 3) then some a else mP S (W 2) i) ∧ mI S' 67 (W 0) = nI ((fN K 3) + 1))) (q : charR K tp v' K') : v = v' ∧ ∃ W', rep S' x M W' pt K' := by
  have live := rep_live r
  obtain ⟨r1, r2, r3, r4, r5, r6, ⟨k1, k2, k3, k4, k5, k6, k7, k8⟩, r8, r9, r10⟩ := id r
  have hC := k1.2.2.2.1
  have hT := r4.2.2.2.2.1
  rcases hr with ⟨b, rfl, rfl⟩ | ⟨b, h12, rfl, rfl⟩ | ⟨b, h12, rfl, a, N, na, nf, hm, hi⟩ <;> rcases q with ⟨b', rfl, rfl⟩ | ⟨b', h', rfl, rfl⟩ | ⟨b', h', rfl, nc⟩
  · exact ⟨rfl, W, r⟩
  · rw [show below tp 4 = false from b] at b'; cases b'
  · rw [show below tp 4 = false from b] at b'; cases b'
  · rw [show below tp 4 = true from b] at b'; cases b'
  · exact ⟨rfl, W, r⟩
  · omega
  · rw [show below tp 4 = true from b] at b'; cases b'
  · omega
  · refine ⟨rfl, exW W N (10 * fN K 3 + 300) 10 300, ?_⟩
    have kp := nC_keep nc
    have t : tch W x (fN K 0) (fN K 3) (fun _ => True) S S' [] [2] [(67, 0)] [] [] := tch_chg r c (by simp) (by simp; exact Or.inl (by decide)) (by simp; exact Or.inl (by decide)) (by simp)
    have e0 : fN K' 0 = fN K 0 := keep_fN kp (by decide)
    have e3 : fN K' 3 = fN K 3 + 1 := fN_nI nc.1 (by omega)
    have lo : ∀ i, uC (fN K 0) (fN K 3) i → exW W N (10 * fN K 3 + 300) 10 300 i = W i := fun i u => exW_lo (by unfold uC at u; omega)
    have lo3 : ∀ i, i < 300 → exW W N (10 * fN K 3 + 300) 10 300 i = W i := fun i u => exW_lo (by omega)
    have nN : ∀ i, i < 10 → exW W N (10 * fN K 3 + 300) 10 300 (10 * fN K 3 + (300 + i)) = N (300 + i) := fun i hi => by
      rw [show 10 * fN K 3 + (300 + i) = 10 * fN K 3 + 300 + i by omega]; exact exW_hi hi
    have fr : ∀ i, i < 10 → N (300 + i) ∉ mL S := fun i hi => by
      by_cases z : i = 0
      · rw [z, show N (300 + 0) = a from nf.1]; exact na
      · exact nf.2.2.2.1 _ (by omega) (by omega)
    obtain ⟨o1, o2, o3, o4⟩ := r10
    obtain ⟨z6, z8, z20, z23⟩ := o3 (fN K 3) (Nat.le_refl _) (by omega)
    have n6 : rN K' 6 (fN K 3) = 0 := (keep_rN kp (by decide) _).trans z6
    have n8 : rN K' 8 (fN K 3) = 0 := (keep_rN kp (by decide) _).trans z8
    have n20 : rN K' 20 (fN K 3) = 0 := (keep_rN kp (by decide) _).trans z20
    have n23 : rN K' 23 (fN K 3) = 0 := (keep_rN kp (by decide) _).trans z23
    have fl : ∀ cc, cc < fN K 3 → ∀ j, j < 10 → exW W N (10 * fN K 3 + 300) 10 300 (10 * cc + (300 + j)) = W (10 * cc + (300 + j)) := fun cc hcc j hj => lo _ (by unfold uC; omega)
    obtain ⟨f1, f2, f3, f4, f5, ⟨m1, m2, m3⟩, p1, p2, p3, p4⟩ := nf
    have wN : exW W N (10 * fN K 3 + 300) 10 300 (10 * fN K 3 + 300) = N 300 := nN 0 (by decide)
    have wN1 : exW W N (10 * fN K 3 + 300) 10 300 (10 * fN K 3 + 301) = N 301 := nN 1 (by decide)
    have wN2 : exW W N (10 * fN K 3 + 300) 10 300 (10 * fN K 3 + 302) = N 302 := nN 2 (by decide)
    have wN3 : exW W N (10 * fN K 3 + 300) 10 300 (10 * fN K 3 + 303) = N 303 := nN 3 (by decide)
    have wN4 : exW W N (10 * fN K 3 + 300) 10 300 (10 * fN K 3 + 304) = N 304 := nN 4 (by decide)
    have wN5 : exW W N (10 * fN K 3 + 300) 10 300 (10 * fN K 3 + 305) = N 305 := nN 5 (by decide)
    have wN6 : exW W N (10 * fN K 3 + 300) 10 300 (10 * fN K 3 + 306) = N 306 := nN 6 (by decide)
    have wN7 : exW W N (10 * fN K 3 + 300) 10 300 (10 * fN K 3 + 307) = N 307 := nN 7 (by decide)
    have wN8 : exW W N (10 * fN K 3 + 300) 10 300 (10 * fN K 3 + 308) = N 308 := nN 8 (by decide)
    have wN9 : exW W N (10 * fN K 3 + 300) 10 300 (10 * fN K 3 + 309) = N 309 := nN 9 (by decide)
    have at1 : ∀ (P : Nat → Prop), all1 P (fN K 3) → P (fN K 3) → all1 P (fN K 3 + 1) := fun P h1 h2 cc hcc => by
      by_cases z : cc = fN K 3
      · rw [z]; exact h2
      · exact h1 cc (by omega)
    unfold rep
    rw [e0, e3]
    refine ⟨⟨tch_is t r1.1, by rw [lo3 0 (by decide)]; exact tch_mox t r1.1 List.not_mem_nil r1.2⟩, inj_ex r2 live fr (newF_inj ⟨f1, f2, f3, f4, f5, ⟨m1, m2, m3⟩, p1, p2, p3, p4⟩) (fun i u => by unfold uC at *; omega) (fun i u => by unfold uC at u; omega), fun i u => ?_, ?_, ?_, fun t_ ht => ?_, ⟨?_, ?_, ?_, ?_, ?_, ?_, ?_, ?_⟩, ?_, ?_, ?_⟩
    · rcases (show uC (fN K 0) (fN K 3) i ∨ (10 * fN K 3 + 300 ≤ i ∧ i < 10 * fN K 3 + 310) by unfold uC at *; omega) with y | y
      · rw [lo i y]; exact r3 i y
      · have := nN (i - (10 * fN K 3 + 300)) (by omega)
        rw [show 10 * fN K 3 + (300 + (i - (10 * fN K 3 + 300))) = i by omega] at this
        rw [this]
        exact fun z => fr _ (by omega) (hM _ z)
    · rw [lo3 0 (by decide)]
      exact trS_cg (trS_t t r4 (by decide) (by simp) (fun t_ ht => by simp)) ⟨lo3 1 (by decide), lo3 3 (by decide)⟩ (fun t_ ht => ⟨lo3 (6 * t_ + 100) (by omega), lo3 (6 * t_ + 101) (by omega), lo3 (6 * t_ + 102) (by omega), lo3 (6 * t_ + 103) (by omega), tlist_keep kp (by decide) (by decide) t_⟩)
    · rw [lo3 3 (by decide)]
      exact mgZ_W (fun i hi => lo3 i (by omega)) (mgZ_t t r5 (by simp))
    · exact bR1_W (fun i hi => lo3 _ (by omega)) (bR1_t t ht (trs_is r4 ht) (r6 t_ ht) (by simp <;> omega))
    · refine ⟨by rw [lo3 0 (by decide), lo3 2 (by decide)]; exact tch_mo t r4.1 (Or.inl (by decide)) (by decide) k1.1, by rw [lo3 2 (by decide)]; exact tch_isA t k1.2.1, by rw [lo3 0 (by decide)]; exact hi, by omega, fun i hi2 => ?_⟩
      rw [lo3 2 (by decide), hm]
      by_cases z : i = fN K 3
      · rw [if_pos z, if_pos (by omega), z, wN, f1]
      · rw [if_neg z, k1.2.2.2.2 i hi2]
        by_cases y : i < fN K 3
        · rw [if_pos y, if_pos (by omega), show exW W N (10 * fN K 3 + 300) 10 300 (10 * i + 300) = W (10 * i + 300) from fl i y 0 (by decide)]
        · rw [if_neg y, if_neg (by omega)]
    · exact at1 _ (fun cc hcc => fA1_W (fl cc hcc) (fA1_t t hcc (k2 cc hcc))) (fA1_W (c := 0) (fun j hj => by rw [nN j hj, Nat.mul_zero, Nat.zero_add]) f2)
    · refine at1 _ (fun cc hcc => (fR1_W (pt := pt) (fl cc hcc)).1 (fL1_K (keep_rN kp (by decide) cc) (fun i _ => keep_rN kp (by decide) _) (fL1_t t hcc (k3 cc hcc) (by simp; try omega)))) ?_
      unfold fL1
      rw [wN1, wN2, wN3, show flist K' (fN K 3) = [] by unfold flist; rw [n8]; rfl]; exact f3
    · refine at1 _ (fun cc hcc => (fR1_W (pt := pt) (fl cc hcc)).2.1 (fT1_K (keep_rN kp (by decide) cc) (fun i _ => kp.2.1 5 (by decide) _) (fT1_t t hcc (k2 cc hcc) (k4 cc hcc) (by simp)))) ⟨?_, fun i hi2 => ?_⟩
      · rw [wN, n6, f1, m1]; rfl
      · rw [n6] at hi2; omega
    · refine at1 _ (fun cc hcc => (fR1_W (K := K) (fl cc hcc)).2.2.1 (fB1_t t hcc (k2 cc hcc) (k5 cc hcc) (by simp; try omega))) (fun n hn => ?_)
      rw [wN5, p1]
      have w := o2 (fN K 3) n (Nat.le_refl _) (by omega) hn
      cases y : pt (480 + 12 * fN K 3 + n) with
      | none => rfl
      | some b => exact absurd w ((r8.1 _ (by omega)).mp (by rw [y]; rfl))
    · refine at1 _ (fun cc hcc => (fR1_W (pt := pt) (fl cc hcc)).2.2.2.1 (fQ1_K (keep_rN kp (by decide) cc) (fun i _ => ⟨kp.2.1 21 (by decide) _, kp.2.1 22 (by decide) _⟩) (fQ1_t t hcc (k2 cc hcc) (k6 cc hcc) (by simp)))) ⟨?_, fun t_ n ht hn => ?_⟩
      · rw [wN, n20, f1, m2]; rfl
      · rw [wN6, p2]; unfold leavesF; rw [n20]; rfl
    · refine at1 _ (fun cc hcc => (fR1_W (pt := pt) (fl cc hcc)).2.2.2.2.1 (fN1_K (keep_rN kp (by decide) cc) (fun i _ => ⟨kp.2.1 24 (by decide) _, kp.2.1 25 (by decide) _, kp.2.1 26 (by decide) _⟩) (fN1_t t hcc (k2 cc hcc) (k7 cc hcc) (by simp)))) ⟨?_, fun t_ n ht hn => ?_⟩
      · rw [wN, n23, f1, m3]; rfl
      · rw [wN7, wN8, (p3 _ (by omega)).1, (p3 _ (by omega)).2]; unfold renamedF namedF; rw [n23]; exact ⟨rfl, rfl⟩
    · refine at1 _ (fun cc hcc => (fR1_W (pt := pt) (fl cc hcc)).2.2.2.2.2 (fP1_K (fun n hn => nc.2.2.2.2.1 _ (Or.inl (by omega))) (fP1_t t hcc (k2 cc hcc) (k8 cc hcc) (by simp)))) (fun n hn => ?_)
      rw [wN9, p4 n hn, nc.2.2.1 n hn]
    · exact prtS_K (kp.2.1 10 (by decide)) (fun k => ⟨kp.2.1 11 (by decide) k, kp.2.1 12 (by decide) k, kp.2.1 13 (by decide) k, kp.2.1 15 (by decide) k⟩) (prtS_t t (fun _ _ => trivial) rfl r8)
    · unfold latS
      rw [latO_K (kp.1 19 (by decide))]; exact latS_t t r1.1 rfl r9
    · unfold offK
      rw [e0, e3]
      simp only [kp.2.1 10 (by decide), keep_rN kp (show 6 ∉ [4, 27] by decide), keep_rN kp (show 8 ∉ [4, 27] by decide), keep_rN kp (show 20 ∉ [4, 27] by decide), keep_rN kp (show 23 ∉ [4, 27] by decide), keep_rN kp (show 5 ∉ [4, 27] by decide)]
      exact ⟨o1, fun cc n h1 h2 h3 => o2 cc n (by omega) h2 h3, fun cc h1 h2 => o3 cc (by omega) h2, o4⟩
