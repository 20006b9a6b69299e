/-! TRAIT -/
theorem traitR_keep {K K' : RS} {a b c v : Int32} (h : traitR K a b c v K') : keep [0, 29] [1, 2, 28, 30, 31] [] [] K K' := by
  rcases h with ⟨_, _, rfl⟩ | ⟨_, K1, _, ⟨_, _, kp⟩ | ⟨L, _, ⟨_, _, kp⟩ | ⟨_, _, hn⟩⟩⟩
  · exact keep_rfl
  · exact keep_mono kp (by decide) (by decide) (by decide) (by decide)
  · exact keep_mono kp (by decide) (by decide) (by decide) (by decide)
  · exact hn.2.2.2.2.2.2
theorem inj_mdj {W : Nat → Nat} {T C : Nat} (h : injW W T C) : mdj (xA W) := by
  have n : ∀ i k, i < 12 → k < 12 → i ≠ k → W i ≠ W k := fun i k hi hk d z => d (h i k (Or.inl hi) (Or.inl hk) z)
  exact ⟨n 6 9 (by decide) (by decide) (by decide), n 7 10 (by decide) (by decide) (by decide), n 7 11 (by decide) (by decide) (by decide), n 8 10 (by decide) (by decide) (by decide), n 8 11 (by decide) (by decide) (by decide)⟩
theorem inj_tdj {W : Nat → Nat} {T C : Nat} (h : injW W T C) : tdj (aA W) (xA W) T := fun t ht => by
  have n : ∀ i k, i < 12 → (100 ≤ k ∧ k < 6 * T + 100) → W k ≠ W i := fun i k hi hk z => by
    have := h k i (Or.inr (Or.inl hk)) (Or.inl hi) z; omega
  exact ⟨n 6 (6 * t + 101) (by decide) (by omega), n 9 (6 * t + 101) (by decide) (by omega), n 7 (6 * t + 102) (by decide) (by omega), n 8 (6 * t + 102) (by decide) (by omega), n 10 (6 * t + 102) (by decide) (by omega), n 11 (6 * t + 102) (by decide) (by omega), n 7 (6 * t + 103) (by decide) (by omega), n 8 (6 * t + 103) (by decide) (by omega), n 10 (6 * t + 103) (by decide) (by omega), n 11 (6 * t + 103) (by decide) (by omega)⟩
theorem tl_ok {K : RS} (rv : RV K) : ∀ t, t < fN K 0 → (tlist K t).length ≤ 20 ∧ ∀ u ∈ tlist K t, u < fN K 0 := fun t ht => by
  have h20 := rv.p1.2
  refine ⟨by rw [tlist_len]; exact (rv.p3 t (by omega)).2, fun u hu => ?_⟩
  unfold tlist at hu
  obtain ⟨i, hi, rfl⟩ := List.mem_map.mp hu
  exact (rv.p4 t (by omega) i (List.mem_range.mp hi)).2
def knT : List Nat := [8000, 3000, 11020, 11020, 16012, 16012]
theorem knT_ok : ∀ i ∈ List.range 6, ∀ j ∈ List.range 6, knT.getD i 0 = knT.getD j 0 → i = j ∨ (i = 2 ∧ j = 3) ∨ (i = 3 ∧ j = 2) ∨ (i = 4 ∧ j = 5) ∨ (i = 5 ∧ j = 4) := by decide +kernel
def nwT (a ln rw pl bo gu : Nat) : Nat → Nat := fun i => [a, ln, rw, pl, bo, gu].getD (i - 100) 0
theorem nwT_inj {S : Mem} {a ln rw pl bo gu : Nat} {L : List Nat} (b : newTB S a bo gu) (l : lnV S ln rw pl L) : ∀ i k, i < 6 → k < 6 → nwT a ln rw pl bo gu (100 + i) = nwT a ln rw pl bo gu (100 + k) → i = k := by
  obtain ⟨b1, b2, b3, b4, b5, b6, b7, b8⟩ := b
  have tg : ∀ i, i < 6 → tgK S (nwT a ln rw pl bo gu (100 + i)) = knT.getD i 0 := fun i hi => by
    have q : i = 0 ∨ i = 1 ∨ i = 2 ∨ i = 3 ∨ i = 4 ∨ i = 5 := by omega
    rcases q with rfl | rfl | rfl | rfl | rfl | rfl
    · exact tg_is b1 (by decide)
    · exact tg_is l.1 (by decide)
    · exact tg_isA l.2.2.2.1 (by decide)
    · exact tg_isA l.2.2.2.2.1 (by decide)
    · exact tg_isA b4 (by decide)
    · exact tg_isA b5 (by decide)
  intro i k hi hk q
  have w := (tg i hi).symm.trans ((congrArg (tgK S) q).trans (tg k hk))
  rcases knT_ok i (List.mem_range.mpr hi) k (List.mem_range.mpr hk) w with z | ⟨rfl, rfl⟩ | ⟨rfl, rfl⟩ | ⟨rfl, rfl⟩ | ⟨rfl, rfl⟩
  · exact z
  · exact absurd q l.2.2.2.2.2.1
  · exact absurd q.symm l.2.2.2.2.2.1
  · exact absurd q b6
  · exact absurd q.symm b6
theorem rep_mut2 {S S' : Mem} {x : Nat} {M : Nat → Prop} {W : Nat → Nat} {pt : Nat → Option Nat} {K K' : RS} (r : rep S x M W pt K) {pt' : Nat → Option Nat} {Z : Nat → Prop} {AR PR : List Nat} {FI : List (Nat × Nat)} {PI L F A : List Nat} (t : tch W x (fN K 0) (fN K 3) Z S S' AR PR FI PI L) (kp : keep F A [] [] K K') (hF : 3 ∉ F) (e0 : fN K' 0 = fN K 0) (n1 : 2 ∉ PR ∧ (67, 0) ∉ FI) (tr : trS S' (W 0) (fN K 0) (aA W) (tlist K')) (z : mgZ S' (W 3) (xA W)) (b : all1 (bR1 S' W pt') (fN K 0)) (fl : all1 (fL1 S' W K') (fN K 3)) (ft : all1 (fT1 S' W K') (fN K 3)) (fb : all1 (fB1 S' W pt') (fN K 3)) (fq : all1 (fQ1 S' W K') (fN K 3)) (fn : all1 (fN1 S' W K') (fN K 3)) (fp : all1 (fP1 S' W K') (fN K 3)) (p : prtS S' pt' K') (la : latS S' x pt' K') (o : offK K') : rep S' x M W pt' K' := by
  obtain ⟨r1, r2, r3, r4, r5, r6, ⟨k1, k2, k3, k4, k5, k6, k7, k8⟩, r8, r9, r10⟩ := id r
  unfold rep
  rw [e0, keep_fN kp hF]
  exact ⟨⟨tch_is t r1.1, tch_mox t r1.1 (fun z => by have := t.2.2.2.2.2.2.1 576 z; omega) r1.2⟩, r2, r3, tr, z, b, ⟨fA0_t t r4.1 k1 n1, fun c hc => fA1_t t hc (k2 c hc), fl, ft, fb, fq, fn, fp⟩, p, la, o⟩
theorem offK_K0 {K K' : RS} {F A Q J : List Nat} (h : keep F A Q J K K') (h0 : fN K 0 ≤ fN K' 0) (h3 : 3 ∉ F) (hA : 6 ∉ A ∧ 8 ∉ A ∧ 10 ∉ A ∧ 20 ∉ A ∧ 23 ∉ A ∧ 5 ∉ A) (o : offK K) : offK K' := by
  obtain ⟨o1, o2, o3, o4⟩ := o
  unfold offK
  simp only [keep_fN h h3, h.2.1 10 hA.2.2.1, keep_rN h hA.1, keep_rN h hA.2.1, keep_rN h hA.2.2.2.1, keep_rN h hA.2.2.2.2.1, keep_rN h hA.2.2.2.2.2]
  exact ⟨fun t n h1 h2 h3 => o1 t n (by omega) h2 h3, o2, o3, o4⟩
theorem tie_trait2 {S S' : Mem} {x : Nat} {M : Nat → Prop} {W : Nat → Nat} {pt : Nat → Option Nat} {K K' : RS} (r : rep S x M W pt K) (rv : RV K) (hM : ∀ a, M a → a ∈ mL S) {ta tb tc v v' : Int32} (c : chg S S' [(xA W).ft, (xA W).gr, (xA W).gp, (xA W).mr, (xA W).mp] [(xA W).rows, (aA W).ta] [(260, (aA W).mg), (194, (xA W).gv), (194, (xA W).md), (65, W 0)] []) (hr : ctR S S' (W 0) (fN K 0) (aA W) (tlist K) ta tb tc v) (z3 : mgZ S' (W 3) (xA W)) (q : traitR K ta tb tc v' K') : v = v' ∧ ∃ W', rep S' x M W' pt K' := by
  have live := rep_live r
  obtain ⟨r1, r2, r3, r4, r5, r6, ⟨k1, k2, k3, k4, k5, k6, k7, k8⟩, r8, r9, r10⟩ := id r
  have hC := k1.2.2.2.1
  have hT := r4.2.2.2.2.1
  have kp := traitR_keep q
  have t : tch W x (fN K 0) (fN K 3) (fun _ => True) S S' [5, 7, 8, 10, 11] [4, 1] [(260, 3), (194, 6), (194, 9), (65, 0)] [] [] := tch_chg r c (by unfold uC; simp) (by unfold uC; simp) (by unfold uC; simp) (by simp)
  obtain ⟨rfl, h⟩ := tie_trait rfl hT (fun _ _ => rfl) (tl_ok rv) hr q
  refine ⟨rfl, ?_⟩
  have e3 : fN K' 3 = fN K 3 := keep_fN kp (by decide)
  have pp : prtS S' pt K' := (prtS_K (kp.2.1 10 (by decide)) (fun k => ⟨kp.2.1 11 (by decide) k, kp.2.1 12 (by decide) k, kp.2.1 13 (by decide) k, kp.2.1 15 (by decide) k⟩) (prtS_t t (fun _ _ => trivial) rfl r8))
  have ll : latS S' x pt K' := (by unfold latS; rw [latO_K (kp.1 19 (by decide))]; exact latS_t t r1.1 rfl r9)
  have fl : all1 (fL1 S' W K') (fN K 3) := (fun c_ hc => fL1_K (keep_rN kp (by decide) c_) (fun i _ => keep_rN kp (by decide) _) (fL1_t t hc (k3 c_ hc) (by refine ⟨?_, ?_, ?_⟩ <;> (simp <;> omega))))
  have ft : all1 (fT1 S' W K') (fN K 3) := (fun c_ hc => fT1_K (keep_rN kp (by decide) c_) (fun i _ => kp.2.1 5 (by decide) _) (fT1_t t hc (k2 c_ hc) (k4 c_ hc) (by refine ⟨?_, ?_⟩ <;> (simp <;> omega))))
  have fb : all1 (fB1 S' W pt) (fN K 3) := (fun c_ hc => fB1_t t hc (k2 c_ hc) (k5 c_ hc) (by simp <;> omega))
  have fq : all1 (fQ1 S' W K') (fN K 3) := (fun c_ hc => fQ1_K (keep_rN kp (by decide) c_) (fun i _ => ⟨kp.2.1 21 (by decide) _, kp.2.1 22 (by decide) _⟩) (fQ1_t t hc (k2 c_ hc) (k6 c_ hc) (by refine ⟨?_, ?_⟩ <;> (simp <;> omega))))
  have fn : all1 (fN1 S' W K') (fN K 3) := (fun c_ hc => fN1_K (keep_rN kp (by decide) c_) (fun i _ => ⟨kp.2.1 24 (by decide) _, kp.2.1 25 (by decide) _, kp.2.1 26 (by decide) _⟩) (fN1_t t hc (k2 c_ hc) (k7 c_ hc) (by refine ⟨?_, ?_, ?_⟩ <;> (simp <;> omega))))
  have fp : all1 (fP1 S' W K') (fN K 3) := (fun c_ hc => fP1_K (fun n _ => kp.2.1 27 (by decide) _) (fP1_t t hc (k2 c_ hc) (k8 c_ hc) (by simp <;> omega)))
  have bb : all1 (bR1 S' W pt) (fN K 0) := (fun t_ ht => bR1_t t ht (trs_is r4 ht) (r6 t_ ht) (by refine ⟨?_, ?_⟩ <;> (simp <;> omega)))
  rcases h with ⟨e0, tr, hl⟩ | ⟨t20, e0, L, a, ln, rw, pl, bo, gu, hL, ⟨f1, f2, f3, f4, f5, f6⟩, nb, tr, hl⟩
  · exact ⟨W, rep_mut2 r t kp (by decide) e0 (by simp) (trS_cg tr ⟨rfl, rfl⟩ (fun t ht => ⟨rfl, rfl, rfl, rfl, (hl t ht).symm⟩)) z3 bb fl ft fb fq fn fp pp ll (offK_K0 kp (by omega) (by decide) (by decide) r10)⟩
  · refine ⟨exW W (nwT a ln rw pl bo gu) (6 * fN K 0 + 100) 6 100, ?_⟩
    have lo : ∀ i, uC (fN K 0) (fN K 3) i → exW W (nwT a ln rw pl bo gu) (6 * fN K 0 + 100) 6 100 i = W i := fun i u => exW_lo (by unfold uC at u; omega)
    have lo1 : ∀ i, i < 100 → exW W (nwT a ln rw pl bo gu) (6 * fN K 0 + 100) 6 100 i = W i := fun i u => exW_lo (by omega)
    have nN : ∀ i, i < 6 → exW W (nwT a ln rw pl bo gu) (6 * fN K 0 + 100) 6 100 (6 * fN K 0 + (100 + i)) = nwT a ln rw pl bo gu (100 + i) := fun i hi => by
      rw [show 6 * fN K 0 + (100 + i) = 6 * fN K 0 + 100 + i by omega]; exact exW_hi hi
    have w0 : exW W (nwT a ln rw pl bo gu) (6 * fN K 0 + 100) 6 100 (6 * fN K 0 + 100) = a := nN 0 (by decide)
    have w1 : exW W (nwT a ln rw pl bo gu) (6 * fN K 0 + 100) 6 100 (6 * fN K 0 + 101) = ln := nN 1 (by decide)
    have w2 : exW W (nwT a ln rw pl bo gu) (6 * fN K 0 + 100) 6 100 (6 * fN K 0 + 102) = rw := nN 2 (by decide)
    have w3 : exW W (nwT a ln rw pl bo gu) (6 * fN K 0 + 100) 6 100 (6 * fN K 0 + 103) = pl := nN 3 (by decide)
    have w4 : exW W (nwT a ln rw pl bo gu) (6 * fN K 0 + 100) 6 100 (6 * fN K 0 + 104) = bo := nN 4 (by decide)
    have w5 : exW W (nwT a ln rw pl bo gu) (6 * fN K 0 + 100) 6 100 (6 * fN K 0 + 105) = gu := nN 5 (by decide)
    have fr : ∀ i, i < 6 → nwT a ln rw pl bo gu (100 + i) ∉ mL S := fun i hi => by
      have q : i = 0 ∨ i = 1 ∨ i = 2 ∨ i = 3 ∨ i = 4 ∨ i = 5 := by omega
      rcases q with rfl | rfl | rfl | rfl | rfl | rfl
      · exact f1
      · exact f2
      · exact f3
      · exact f4
      · exact f5
      · exact f6
    have fe : ∀ cc, cc < fN K 3 → ∀ j, j < 10 → exW W (nwT a ln rw pl bo gu) (6 * fN K 0 + 100) 6 100 (10 * cc + (300 + j)) = W (10 * cc + (300 + j)) := fun cc hcc j hj => lo _ (by unfold uC; omega)
    obtain ⟨c1, c2, c3, c4⟩ := cup_at (A := aA W) (T := fN K 0) (tr := a) (ln := ln) (rw := rw) (pl := pl)
    have lT := (tr.2.2.2.2.2.2.2 (fN K 0) (by omega)).2.2
    rw [c2, c3, c4] at lT
    obtain ⟨o1, o2, o3, o4⟩ := id r10
    unfold rep
    rw [e0, e3]
    refine ⟨⟨tch_is t r1.1, by rw [lo1 0 (by decide)]; exact tch_mox t r1.1 List.not_mem_nil r1.2⟩, inj_ex r2 live fr (nwT_inj nb lT) (fun i u => by unfold uC at *; omega) (fun i u => by unfold uC at u; omega), fun i u => ?_, ?_, ?_, fun t_ ht => ?_, ⟨?_, ?_, ?_, ?_, ?_, ?_, ?_, ?_⟩, pp, ll, offK_K0 kp (by omega) (by decide) (by decide) r10⟩
    · rcases (show uC (fN K 0) (fN K 3) i ∨ (6 * fN K 0 + 100 ≤ i ∧ i < 6 * fN K 0 + 106) by unfold uC at *; omega) with y | y
      · rw [lo i y]; exact r3 i y
      · have := nN (i - (6 * fN K 0 + 100)) (by omega)
        rw [show 6 * fN K 0 + (100 + (i - (6 * fN K 0 + 100))) = i by omega] at this
        rw [this]
        exact fun z => fr _ (by omega) (hM _ z)
    · rw [lo1 0 (by decide)]
      refine trS_cg tr ⟨by rw [cup_ta]; exact lo1 1 (by decide), by rw [cup_mg]; exact lo1 3 (by decide)⟩ (fun t_ ht => ?_)
      by_cases z : t_ = fN K 0
      · rw [z, c1, c2, c3, c4]
        exact ⟨w0, w1, w2, w3, (hl _ (by omega)).symm⟩
      · obtain ⟨d1, d2, d3, d4⟩ := cup_ne (A := aA W) (T := fN K 0) (tr := a) (ln := ln) (rw := rw) (pl := pl) z
        rw [d1, d2, d3, d4]
        exact ⟨lo (6 * t_ + 100) (by unfold uC; omega), lo (6 * t_ + 101) (by unfold uC; omega), lo (6 * t_ + 102) (by unfold uC; omega), lo (6 * t_ + 103) (by unfold uC; omega), (hl t_ ht).symm⟩
    · rw [lo1 3 (by decide)]
      exact mgZ_W (fun i hi => lo1 i (by omega)) z3
    · by_cases z : t_ = fN K 0
      · obtain ⟨b1, b2, b3, b4, b5, b6, b7, b8⟩ := nb
        subst z
        refine ⟨by rw [w0, w4]; exact b2, by rw [w0, w5]; exact b3, by rw [w4]; exact b4, by rw [w5]; exact b5, fun n hn => ?_⟩
        obtain ⟨y1, y2⟩ := o1 (fN K 0) n (Nat.le_refl _) t20 hn
        rw [w4, w5, b7, b8]
        constructor
        · cases y : pt (12 * fN K 0 + n) with
          | none => rfl
          | some b => exact absurd y1 ((r8.1 _ (by omega)).mp (by rw [y]; rfl))
        · cases y : pt (240 + 12 * fN K 0 + n) with
          | none => rfl
          | some b => exact absurd y2 ((r8.1 _ (by omega)).mp (by rw [y]; rfl))
      · exact bR1_W (fun i hi => lo _ (by unfold uC; omega)) (bb t_ (by omega))
    · have f0 := fA0_t t r4.1 k1 (by simp)
      refine ⟨by rw [lo1 0 (by decide), lo1 2 (by decide)]; exact f0.1, by rw [lo1 2 (by decide)]; exact f0.2.1, by rw [lo1 0 (by decide)]; exact f0.2.2.1, f0.2.2.2.1, fun i hi => ?_⟩
      rw [lo1 2 (by decide), f0.2.2.2.2 i hi]
      by_cases y : i < fN K 3
      · rw [if_pos y, if_pos y, show exW W (nwT a ln rw pl bo gu) (6 * fN K 0 + 100) 6 100 (10 * i + 300) = W (10 * i + 300) from fe i y 0 (by decide)]
      · rw [if_neg y, if_neg y]
    · exact fun cc hcc => fA1_W (fe cc hcc) (fA1_t t hcc (k2 cc hcc))
    · exact fun cc hcc => (fR1_W (pt := pt) (fe cc hcc)).1 (fl cc hcc)
    · exact fun cc hcc => (fR1_W (pt := pt) (fe cc hcc)).2.1 (ft cc hcc)
    · exact fun cc hcc => (fR1_W (K := K') (fe cc hcc)).2.2.1 (fb cc hcc)
    · exact fun cc hcc => (fR1_W (pt := pt) (fe cc hcc)).2.2.2.1 (fq cc hcc)
    · exact fun cc hcc => (fR1_W (pt := pt) (fe cc hcc)).2.2.2.2.1 (fn cc hcc)
    · exact fun cc hcc => (fR1_W (pt := pt) (fe cc hcc)).2.2.2.2.2 (fp cc hcc)
/-! TAKES -/
theorem tk_ok {S : Mem} {W : Nat → Nat} {K : RS} {k : Nat} (rv : RV K) (o : offK K) (hk : k < 12) (a : fA1 S W k) (f : fT1 S W K k) : tkS S (W (10 * k + 300)) (W (10 * k + 304)) (tkl K k) ∧ (tkl K k).Nodup ∧ ∀ u ∈ tkl K k, u < fN K 0 := by
  have h5 := (rv.p7 k hk).2
  have h20 := rv.p1.2
  have hu : ∀ u ∈ tkl K k, u < fN K 0 := fun u hu => by
    unfold tkl at hu
    obtain ⟨i, hi, rfl⟩ := List.mem_map.mp hu
    exact (rv.p8 k hk i (List.mem_range.mp hi)).2
  refine ⟨⟨a.1, a.2.2.1, a.2.2.2.1, by rw [tkl_len]; exact f.1, by rw [tkl_len]; exact h5, fun i hi => ?_, fun u hu2 => by have := hu u hu2; omega⟩, ?_, hu⟩
  · rw [tkl_len] at hi
    rw [tkl_D hi, f.2 i hi]; exact (rv.p8 k hk i hi).1
  · refine List.pairwise_iff_getElem.mpr (fun i j hi hj hij e => ?_)
    have q : ∀ i (h : i < (tkl K k).length), (tkl K k)[i] = rN K 5 (5 * k + i) := fun i h => by
      rw [← getD_at h]
      rw [tkl_len] at h
      exact tkl_D h
    rw [q i hi, q j hj] at e
    rw [tkl_len] at hj
    exact o.2.2.2 k i j hk hij hj e
theorem hasF_mem {K : RS} {k w : Nat} (rv : RV K) (hk : k < 12) (hw : w < 2 ^ 31) : hasF K k w = decide (w ∈ tkl K k) := by
  have h20 := rv.p1.2
  unfold hasF
  cases e : sc (fun i => decide (rA K 5 (5 * k + i) = nI w)) (rN K 6 k - 0) 0 with
  | none =>
    refine (decide_eq_false (fun z => ?_)).symm
    unfold tkl at z
    obtain ⟨i, hi, rfl⟩ := List.mem_map.mp z
    have hi2 := List.mem_range.mp hi
    have := sc_none e i (Nat.zero_le _) (by omega)
    rw [decide_eq_true (rv.p8 k hk i hi2).1] at this; cases this
  | some i =>
    obtain ⟨_, h2, h3, _⟩ := sc_some e
    refine (decide_eq_true ?_).symm
    have hi : i < rN K 6 k := by omega
    have e2 := (rv.p8 k hk i hi)
    have e3 : nI (rN K 5 (5 * k + i)) = nI w := e2.1.symm.trans (of_decide_eq_true h3)
    have e4 := (nI_eq (by omega) hw).mp e3
    unfold tkl
    exact List.mem_map.mpr ⟨i, List.mem_range.mpr hi, e4⟩
theorem takesR_keep {K K' : RS} {x y v : Int32} (h : takesR K x y v K') : keep [29] [5, 6, 7, 8, 28, 30, 31] [] [] K K' := by
  rcases h with ⟨_, _, rfl⟩ | ⟨u, t, _, _, _, _, ⟨_, _, kp⟩ | ⟨_, K1, _, ⟨_, _, kp⟩ | ⟨L, _, ⟨_, _, kp⟩ | ⟨_, _, hn⟩⟩⟩⟩
  · exact keep_rfl
  · exact keep_mono kp (by decide) (by decide) (by decide) (by decide)
  · exact keep_mono kp (by decide) (by decide) (by decide) (by decide)
  · exact keep_mono kp (by decide) (by decide) (by decide) (by decide)
  · exact hn.2.2.2.2.2.2.2.2
theorem al_tk {K K1 : RS} {k w : Nat} (rv : RV K) (hk : k < 12) (hw : w < fN K 0) (h : tkPre K k w K1) : alF (tlist K) (tkl K k ++ [w]) = mgF K1 := by
  have h20 := rv.p1.2
  obtain ⟨p1, p2, p3, kp⟩ := h
  have h5 := (rv.p7 k hk).2
  refine al_mg (T := fN K 0) (fun _ _ => rfl) (fun u hu => ?_) ?_ (fun r u hu => ?_) (fun t => keep_rN kp (by decide) t) (fun i => keep_rN kp (by decide) i)
  · rcases List.mem_append.mp hu with z | z
    · unfold tkl at z
      obtain ⟨i, hi, rfl⟩ := List.mem_map.mp z
      exact (rv.p8 k hk i (List.mem_range.mp hi)).2
    · rw [List.mem_singleton.mp z]; exact hw
  · rw [List.length_append, tkl_len]
    show fN K1 29 = rN K 6 k + 1
    exact fN_nI p1 (by omega)
  · rcases app_get hu with ⟨g1, g2⟩ | ⟨g1, g2⟩
    · rw [tkl_len] at g1
      have e := p2 r g1
      unfold tkl at g2
      rw [List.getElem?_map, List.getElem?_range g1] at g2
      have e2 : rN K 5 (5 * k + r) = u := Option.some.inj g2
      unfold rN at e2 ⊢
      rw [e]; exact e2
    · rw [tkl_len] at g1
      rw [g1, g2]; exact rN_nI p3 (by omega)
theorem flist_new {K' : RS} {k : Nat} {L : List Nat} (h8 : rA K' 8 k = nI L.length) (hl : L.length ≤ 20) (h7 : ∀ i x, L[i]? = some x → rA K' 7 (20 * k + i) = nI x) (hx : ∀ u ∈ L, u < 20) : flist K' k = L := by
  have e8 : rN K' 8 k = L.length := rN_nI h8 (by omega)
  refine List.ext_getElem? (fun i => ?_)
  unfold flist
  rw [e8, List.getElem?_map]
  by_cases z : i < L.length
  · rw [List.getElem?_range z, List.getElem?_eq_getElem z]
    have := h7 i _ (List.getElem?_eq_getElem z)
    exact congrArg some (rN_nI this (by have := hx _ (List.getElem_mem z); omega))
  · rw [List.getElem?_eq_none (by rw [List.length_range]; omega), List.getElem?_eq_none (by omega)]; rfl
theorem tie_takes {S S' : Mem} {x : Nat} {M : Nat → Prop} {W : Nat → Nat} {pt : Nat → Option Nat} {K K' : RS} (r : rep S x M W pt K) (rv : RV K) {t u v v' : Int32} (c : chg S S' [(xA W).ft, (xA W).gr, (xA W).gp, (xA W).mr, (xA W).mp, W (10 * t.toNatClampNeg + 302), W (10 * t.toNatClampNeg + 303), W (10 * t.toNatClampNeg + 304)] [(xA W).rows] [(260, W 3), (194, (xA W).gv), (194, (xA W).md), (132, W (10 * t.toNatClampNeg + 300)), (194, W (10 * t.toNatClampNeg + 301))] []) (hr : tkR S S' W K (fN K 3) (fN K 0) (tlist K) t u v) (q : takesR K t u v' K') : v = v' ∧ rep S' x M W pt K' := by
  obtain ⟨r1, r2, r3, r4, r5, r6, ⟨k1, k2, k3, k4, k5, k6, k7, k8⟩, r8, r9, r10⟩ := id r
  have hC := k1.2.2.2.1
  have hT := r4.2.2.2.2.1
  have kp := takesR_keep q
  rcases hr with ⟨b, rfl, rfl⟩ | ⟨k, w, hk, hw, rfl, rfl, hr⟩
  · rcases q with ⟨b', rfl, rfl⟩ | ⟨k', w', hk', hw', rfl, rfl, _⟩
    · exact ⟨rfl, r⟩
    · exact absurd b (by show ¬ (below (nI k') (fN K 3) && below (nI w') (fN K 0)) = false; rw [below_nI hk' (by omega), below_nI hw' (by omega)]; decide)
  · rcases q with ⟨b', rfl, rfl⟩ | ⟨k', w', hk', hw', ek, ew, q⟩
    · rw [below_nI hk (by omega), below_nI hw (by omega)] at b'; cases b'
    · obtain rfl : k = k' := (nI_eq (by omega) (by omega)).mp ek
      obtain rfl : w = w' := (nI_eq (by omega) (by omega)).mp ew
      rw [hasF_mem rv (by omega) (by omega)] at q
      rcases hr with ⟨hm, rfl, rfl⟩ | ⟨hm, z3, hr⟩
      · rcases q with ⟨_, rfl, kq⟩ | ⟨f, _⟩
        · exact ⟨rfl, rep_K kq (by decide) (by decide) r⟩
        · rw [decide_eq_true hm] at f; cases f
      · rcases q with ⟨f, _⟩ | ⟨_, K1, hp, q⟩
        · rw [decide_eq_false hm] at f; cases f
        · have al := al_tk rv (by omega) hw hp
          rw [al] at hr
          rw [nIN (by omega)] at c
          have t : tch W x (fN K 0) (fN K 3) (fun _ => True) S S' [5, 7, 8, 10, 11, 10 * k + 302, 10 * k + 303, 10 * k + 304] [4] [(260, 3), (194, 6), (194, 9), (132, 10 * k + 300), (194, 10 * k + 301)] [] [] := tch_chg r c (by unfold uC; simp <;> omega) (by unfold uC; simp) (by unfold uC; simp <;> omega) (by simp)
          have fin : (keep [29] [5, 6, 7, 8, 28, 30, 31] [] [] K K') → (∀ c, c ≠ k → rA K' 6 c = rA K 6 c ∧ rA K' 8 c = rA K 8 c) → (∀ c, c ≠ k → ∀ i, (i < 5 → rA K' 5 (5 * c + i) = rA K 5 (5 * c + i)) ∧ (i < 20 → rA K' 7 (20 * c + i) = rA K 7 (20 * c + i))) → fL1 S' W K' k → fT1 S' W K' k → offK K' → rep S' x M W pt K' := fun kp g1 g2 g3 g4 g5 => by
            have nr : ∀ c, c ≠ k → rN K' 6 c = rN K 6 c ∧ rN K' 8 c = rN K 8 c := fun c hc => ⟨by unfold rN; rw [(g1 c hc).1], by unfold rN; rw [(g1 c hc).2]⟩
            exact rep_mut r t kp ⟨by decide, by decide⟩ ⟨by decide, by decide⟩ (by refine ⟨?_, ?_, ?_, ?_⟩ <;> (simp <;> omega)) (fun t_ ht => by refine ⟨?_, ?_, ?_⟩ <;> (simp <;> omega)) z3
              (fun t_ ht => bR1_t t ht (trs_is r4 ht) (r6 t_ ht) (by refine ⟨?_, ?_⟩ <;> (simp <;> omega)))
              (fun c_ hc => by
                by_cases y : c_ = k
                · rw [y]; exact g3
                · exact fL1_K (nr c_ y).2 (fun i hi => by have h8 := (rv.p5 c_ (by omega)).2; unfold rN; rw [(g2 c_ y i).2 (by omega)]) (fL1_t t hc (k3 c_ hc) (by refine ⟨?_, ?_, ?_⟩ <;> (simp <;> omega))))
              (fun c_ hc => by
                by_cases y : c_ = k
                · rw [y]; exact g4
                · exact fT1_K (nr c_ y).1 (fun i hi => by have h8 := (rv.p7 c_ (by omega)).2; exact (g2 c_ y i).1 (by omega)) (fT1_t t hc (k2 c_ hc) (k4 c_ hc) (by refine ⟨?_, ?_⟩ <;> (simp <;> omega))))
              (fun c_ hc => fB1_t t hc (k2 c_ hc) (k5 c_ hc) (by simp <;> omega))
              (fun c_ hc => fQ1_K (keep_rN kp (by decide) c_) (fun i _ => ⟨kp.2.1 21 (by decide) _, kp.2.1 22 (by decide) _⟩) (fQ1_t t hc (k2 c_ hc) (k6 c_ hc) (by refine ⟨?_, ?_⟩ <;> (simp <;> omega))))
              (fun c_ hc => fN1_K (keep_rN kp (by decide) c_) (fun i _ => ⟨kp.2.1 24 (by decide) _, kp.2.1 25 (by decide) _, kp.2.1 26 (by decide) _⟩) (fN1_t t hc (k2 c_ hc) (k7 c_ hc) (by refine ⟨?_, ?_, ?_⟩ <;> (simp <;> omega))))
              (fun c_ hc => fP1_K (fun n _ => kp.2.1 27 (by decide) _) (fP1_t t hc (k2 c_ hc) (k8 c_ hc) (by simp <;> omega)))
              (prtS_K (kp.2.1 10 (by decide)) (fun k => ⟨kp.2.1 11 (by decide) k, kp.2.1 12 (by decide) k, kp.2.1 13 (by decide) k, kp.2.1 15 (by decide) k⟩) (prtS_t t (fun _ _ => trivial) rfl r8))
              (by unfold latS; rw [latO_K (kp.1 19 (by decide))]; exact latS_t t r1.1 rfl r9) g5
          have keepcase : keep [29] [28, 30, 31] [] [] K K' → tkS S' (W (10 * k + 300)) (W (10 * k + 304)) (tkl K k) → fL1 S' W K k → rep S' x M W pt K' := fun kq h1 h2 => by
            refine fin (keep_mono kq (by decide) (by decide) (by decide) (by decide)) (fun c _ => ⟨kq.2.1 6 (by decide) c, kq.2.1 8 (by decide) c⟩) (fun c _ i => ⟨fun _ => kq.2.1 5 (by decide) _, fun _ => kq.2.1 7 (by decide) _⟩) (fL1_K (keep_rN kq (by decide) k) (fun i _ => keep_rN kq (by decide) _) h2) (fT1_K (keep_rN kq (by decide) k) (fun i _ => kq.2.1 5 (by decide) _) ⟨by rw [h1.2.2.2.1, tkl_len], fun i hi => ?_⟩) (offK_K kq ⟨by decide, by decide⟩ (by decide) r10)
            rw [h1.2.2.2.2.2.1 i (by rw [tkl_len]; exact hi), tkl_D hi]
            exact (rv.p8 k (by omega) i hi).1.symm
          rcases q with ⟨m0, rfl, kq⟩ | ⟨L, m0, q⟩
          · rcases hr with ⟨_, rfl, h1, h2⟩ | ⟨L, m1, _⟩
            · exact ⟨rfl, keepcase kq h1 h2⟩
            · rw [m0] at m1; cases m1
          · rcases hr with ⟨m1, _⟩ | ⟨L', m1, hr⟩
            · rw [m0] at m1; cases m1
            · obtain rfl : L = L' := Option.some.inj (m0.symm.trans m1)
              rcases q with ⟨l5, rfl, kq⟩ | ⟨l5, rfl, nt⟩
              · rcases hr with ⟨_, rfl, h1, h2⟩ | ⟨y, _⟩
                · exact ⟨rfl, keepcase kq h1 h2⟩
                · omega
              · rcases hr with ⟨y, _⟩ | ⟨_, rfl, h1, h2⟩
                · omega
                · obtain ⟨a1, a2, a3, a4, a5, a6, a7, a8, kq⟩ := nt
                  have n6 : rN K' 6 k = rN K 6 k + 1 := rN_nI a2 (by omega)
                  refine ⟨rfl, fin kq (fun c hc => ⟨a6 c hc, a8 c hc⟩) (fun c hc i => ⟨fun hi => a5 _ (by omega), fun hi => a7 _ (by omega)⟩) ?_ ⟨?_, fun i hi => ?_⟩ ?_⟩
                  · unfold fL1
                    rw [flist_new a4 (lnV_len h2) a3 h2.2.2.2.2.2.2.2.2.1]; exact h2
                  · rw [n6, h1.2.2.2.1, List.length_append, tkl_len]; rfl
                  · rw [n6] at hi
                    rw [h1.2.2.2.2.2.1 i (by rw [List.length_append, tkl_len]; exact hi)]
                    by_cases y : i = rN K 6 k
                    · rw [y, a1, List.getD_eq_getElem?_getD, List.getElem?_append_right (by rw [tkl_len]; exact Nat.le_refl _), tkl_len, Nat.sub_self]; rfl
                    · rw [a5 _ (by omega), (rv.p8 k (by omega) i (by omega)).1, List.getD_eq_getElem?_getD, List.getElem?_append_left (by rw [tkl_len]; omega), ← List.getD_eq_getElem?_getD, tkl_D (by omega)]
                  · obtain ⟨o1, o2, o3, o4⟩ := r10
                    refine ⟨?_, ?_, fun cc h3 h4 => ?_, fun cc i j h3 h4 h6 e => ?_⟩
                    · unfold offK at *; simp only [keep_fN kq (show 0 ∉ [29] by decide), kq.2.1 10 (by decide)]; exact o1
                    · simp only [keep_fN kq (show 3 ∉ [29] by decide), kq.2.1 10 (by decide)]; exact o2
                    · rw [keep_fN kq (by decide)] at h3
                      have hck : cc ≠ k := fun y => by omega
                      obtain ⟨y1, y2, y3, y4⟩ := o3 cc h3 h4
                      exact ⟨by unfold rN at *; rw [a6 cc hck]; exact y1, by unfold rN at *; rw [a8 cc hck]; exact y2, (keep_rN kq (by decide) cc).trans y3, (keep_rN kq (by decide) cc).trans y4⟩
                    · by_cases hck : cc = k
                      · subst hck
                        rw [n6] at h6
                        have h20 := rv.p1.2
                        have f5 : ∀ i, i < rN K 6 cc → rN K' 5 (5 * cc + i) = rN K 5 (5 * cc + i) := fun i hi => by unfold rN; rw [a5 _ (by omega)]
                        by_cases y : j = rN K 6 cc
                        · rw [f5 i (by omega), y, rN_nI a1 (by omega)] at e
                          exact hm (by unfold tkl; exact List.mem_map.mpr ⟨i, List.mem_range.mpr (by omega), e⟩)
                        · rw [f5 i (by omega), f5 j (by omega)] at e
                          exact o4 cc i j h3 h4 (by omega) e
                      · have q6 : rN K' 6 cc = rN K 6 cc := by unfold rN; rw [a6 cc hck]
                        rw [q6] at h6
                        have h7 := (rv.p7 cc h3).2
                        have f5 : ∀ i, i < rN K 6 cc → rN K' 5 (5 * cc + i) = rN K 5 (5 * cc + i) := fun i hi => by unfold rN; rw [a5 _ (by omega)]
                        rw [f5 i (by omega), f5 j h6] at e
                        exact o4 cc i j h3 h4 h6 e
