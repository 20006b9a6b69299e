/-! WHAT THE LAW KEEPS: the class's cells represent the reference's state -/
def lawI (S : Mem) (x m0 : Nat) (ad : Nat → Nat) (K : RS) : Prop := INV (mX m0 ad) [] S ∧ mdR S m0 ad K ∧ RV K ∧ ∃ W pt, rep S x (mX m0 ad) W pt K
theorem mdR_chg {S S' : Mem} {AR PR : List Nat} {FI FO : List (Nat × Nat)} {m0 : Nat} {ad : Nat → Nat} {K : RS} (c : chg S S' AR PR FI FO) (ha : ∀ a ∈ AR, ¬ mX m0 ad a) (hi : ∀ q ∈ FI, q.1 < 640) (ho : ∀ q ∈ FO, q.1 < 640) (h : mdR S m0 ad K) : mdR S' m0 ad K := by
  obtain ⟨h1, h2, h3, h4, h5, h6, h7⟩ := h
  refine ⟨is_ch c h1, fun q hq => ⟨mo_ch c h1 (fun z => by have := ho _ z; simp only at this; omega) (h2 q hq).1, isA_ch c (h2 q hq).2⟩, h3, fun g => ?_, fun q hq i => ?_, fun q hq i => ?_, fun g => ?_⟩
  · exact mi_ch c h1 (fun z => by have := hi _ z; simp only at this; omega) (h4 g)
  · rw [ma_ch c (h2 q hq).2 (fun z => ha _ z (Or.inr ⟨q, hq, rfl⟩))]; exact h5 q hq i
  · rw [(c.2.2.2.2.2 _ (h2 q hq).2.1).1]; exact h6 q hq i
  · rw [(c.2.2.2.2.2 _ h1.1).2]; exact h7 g
theorem lawI_q {S S' : Mem} {x m0 : Nat} {ad : Nat → Nat} {K : RS} {ks : List Nat} (h : lawI S x m0 ad K) (iv : INV (mX m0 ad) [] S') (e : ext S S' (fun a => ¬ mX m0 ad a ∧ mK S a ∈ ks)) (hk : ∀ k ∈ ks, k = 0 ∨ k = 6 ∨ k = 7 ∨ k = 12) : lawI S' x m0 ad K := by
  obtain ⟨_, i2, i3, W, pt, r⟩ := h
  exact ⟨iv, mdR_ext e (fun a ha z => z.1 ha) i2, i3, W, pt, rep_ext e (fun a z => Or.inr (hk _ z.2)) (fun a z m => absurd m z.1) r⟩
theorem lawI_fin {S1 S2 : Mem} {x m0 : Nat} {ad : Nat → Nat} {K' : RS} {W : Nat → Nat} {pt : Nat → Option Nat} (iv : INV (mX m0 ad) [] S1) (r : rep S1 x (mX m0 ad) W pt K') (hk : mdR S2 m0 ad K') (e : exm S1 S2 m0 ad) (rv : RV K') : lawI S2 x m0 ad K' := ⟨inv_exm iv e, hk, rv, W, pt, rep_ext e.1 (fun a z => Or.inl z) (fun a z m => (iv.1 a m).2) r⟩
theorem lawI_k {S S' : Mem} {x m0 : Nat} {ad : Nat → Nat} {K K' : RS} {F A Q J : List Nat} (h : lawI S x m0 ad K) (hk : mdR S' m0 ad K') (e : exm S S' m0 ad) (rv : RV K') (kp : keep F A Q J K K') (hF : 0 ∉ F ∧ 3 ∉ F ∧ 19 ∉ F) (hA : ∀ g ∈ repA, g ∉ A) : lawI S' x m0 ad K' := by
  obtain ⟨iv, _, _, W, pt, r⟩ := h
  exact lawI_fin iv (rep_K kp hF hA r) hk e rv
theorem setMood_kp {K K' : RS} {v x0 x1 : Int32} {x2 : Int64} (h : setMoodP K x0 x1 x2 = (v, K')) : keep [] [] [9] [] K K' := by
  unfold setMoodP at h
  cases e : (below x0 (fN K 3) && below x1 4) with
  | false => rw [e] at h; cases h; exact keep_rfl
  | true => rw [e] at h; cases h; exact keep_wQ keep_rfl (by decide)
theorem inj_hd {W : Nat → Nat} {T C : Nat} (hT : T ≤ 20) (h : injW W T C) (k : Nat) (hk : k < C) : W (10 * k + 301) ≠ W 6 ∧ W (10 * k + 301) ≠ W 9 ∧ (∀ j, j = 7 ∨ j = 8 ∨ j = 10 ∨ j = 11 → W (10 * k + 302) ≠ W j ∧ W (10 * k + 303) ≠ W j) := by
  have n : ∀ i q, i < 12 → (300 ≤ q ∧ q < 10 * C + 300) → W q ≠ W i := fun i q hi hq z => by
    have := h q i (Or.inr (Or.inr hq)) (Or.inl hi) z; omega
  exact ⟨n 6 _ (by decide) (by omega), n 9 _ (by decide) (by omega), fun j hj => ⟨n j _ (by omega) (by omega), n j _ (by omega) (by omega)⟩⟩
theorem inj_no {W : Nat → Nat} {T C : Nat} (h : injW W T C) (k : Nat) (hk : k < C) : W (10 * k + 307) ≠ W (10 * k + 308) := fun z => by
  have := h _ _ (Or.inr (Or.inr ⟨by omega, by omega⟩)) (Or.inr (Or.inr ⟨by omega, by omega⟩)) z; omega
theorem nm_lt {K : RS} (rv : RV K) (hC : fN K 3 ≤ 12) (k w j : Nat) (hk : k < fN K 3) : (∀ q, renamedF K k w j = some q → q < 12) ∧ ∀ q, namedF K k w j = some q → q < 12 := by
  constructor
  · intro q h
    unfold renamedF at h
    obtain ⟨i, h1, rfl⟩ := Option.map_eq_some_iff.mp h
    obtain ⟨_, h2, _⟩ := sc_some h1
    exact (rv.p11 k (by omega) i (by omega)).2.2
  · intro q h
    unfold namedF at h
    obtain ⟨i, h1, rfl⟩ := Option.map_eq_some_iff.mp h
    obtain ⟨_, h2, _⟩ := sc_some h1
    exact (rv.p11 k (by omega) i (by omega)).1.2
theorem op_pre {S : Mem} {x : Nat} {M : Nat → Prop} {W : Nat → Nat} {pt : Nat → Option Nat} {K : RS} (iv : INV M [] S) (rv : RV K) (r : rep S x M W pt K) : ∃ ra sa ta n, (∀ a, mO S 578 x = some a → is S a 5 ∧ mI S 328 a = nI n ∧ n ≤ 8 ∧ mO S 325 a = some ra ∧ isA S ra 11 8 ∧ mO S 326 a = some sa ∧ isA S sa 11 8 ∧ mO S 327 a = some ta ∧ isA S ta 11 8) ∧ (mO S 578 x ≠ none → (isA S ra 11 8 ∧ isA S sa 11 8 ∧ isA S ta 11 8) ∧ ¬ M ra ∧ ¬ M sa ∧ ¬ M ta) := by
  obtain ⟨r1, r2, r3, r4, r5, r6, r7, r8, r9, r10⟩ := r
  cases e : mO S 578 x with
  | none => exact ⟨0, 0, 0, 0, fun a z => (by cases z), fun z => absurd rfl z⟩
  | some a =>
    obtain ⟨lo, hlo, hlo2⟩ := rv.p14
    have hlo3 := latO_eq hlo hlo2
    have hl := r9.1
    rw [e] at hl
    cases eg : latO K with
    | none => rw [eg] at hl; cases hl
    | some g =>
      rw [eg] at hl
      have hg : pt g = some a := hl.symm
      have hg6 : g < 624 := hlo2 g (hlo3.symm.trans eg)
      have pv := r8.2.1 g a hg6 hg
      obtain ⟨ra, a1, a2, a3⟩ := T325 iv pv.1 List.not_mem_nil
      obtain ⟨sa, b1, b2, b3⟩ := T326 iv pv.1 List.not_mem_nil
      obtain ⟨ta, c1, c2, c3⟩ := T327 iv pv.1 List.not_mem_nil
      exact ⟨ra, sa, ta, rN K 15 g, fun a' z => by cases z; exact ⟨pv.1, pv.2.1, (rv.p12 g hg6).2, a1, a2, b1, b2, c1, c2⟩, fun _ => ⟨⟨a2, b2, c2⟩, a3, b3, c3⟩⟩
theorem mdR_op {S S' : Mem} {x : Nat} {m0 : Nat} {ad : Nat → Nat} {K : RS} {ra sa ta n : Nat} {ki oa ob v : Int32} {o : Option Nat} (eo : o = mO S 578 x) (hm : mO S 578 x ≠ none → (isA S ra 11 8 ∧ isA S sa 11 8 ∧ isA S ta 11 8) ∧ ¬ mX m0 ad ra ∧ ¬ mX m0 ad sa ∧ ¬ mX m0 ad ta) (c : chg S S' [ra, sa, ta] [] [(328, o.getD 0)] []) (hr : (isOpF ki oa ob = false ∧ v = -2 ∧ S' = S) ∨ (isOpF ki oa ob = true ∧ ((o = none ∧ v = -3 ∧ S' = S) ∨ ∃ a, o = some a ∧ ((n = 8 ∧ v = -4 ∧ S' = S) ∨ (n < 8 ∧ v = nI (n + 1) ∧ mI S' 328 a = nI (n + 1)))))) (h : mdR S m0 ad K) : mdR S' m0 ad K := by
  rcases hr with ⟨_, _, rfl⟩ | ⟨_, ⟨_, _, rfl⟩ | ⟨a, e, _⟩⟩
  · exact h
  · exact h
  · obtain ⟨_, n1, n2, n3⟩ := hm (by rw [← eo, e]; exact fun z => by cases z)
    exact mdR_chg c (by simp; exact ⟨n1, n2, n3⟩) (by simp) (by simp) h
theorem mdR_leave {S S' : Mem} {x m0 : Nat} {ad W : Nat → Nat} {pt : Nat → Option Nat} {K : RS} {t u ac v : Int32} (r : rep S x (mX m0 ad) W pt K) (c : chg S S' [W (10 * t.toNatClampNeg + 306)] [] [(135, W (10 * t.toNatClampNeg + 300))] []) (hr : ((blw t (fN K 3) && blw u (fN K 0) && blw ac 12) = false ∧ v = -2 ∧ S' = S) ∨ ∃ k w j, k < (fN K 3) ∧ w < (fN K 0) ∧ j < 12 ∧ t = nI k ∧ u = nI w ∧ ac = nI j ∧ ((leavesF K k w j = true ∧ v = 0 ∧ S' = S) ∨ (leavesF K k w j = false ∧ rN K 20 k = 8 ∧ v = -4 ∧ S' = S) ∨ (leavesF K k w j = false ∧ rN K 20 k < 8 ∧ v = 1 ∧ (∀ i, mA S' (W (10 * k + 306)) i = if i = 12 * w + j then 1 else mA S (W (10 * k + 306)) i) ∧ mI S' 135 (W (10 * k + 300)) = nI (rN K 20 k + 1)))) (h : mdR S m0 ad K) : mdR S' m0 ad K := by
  have r3 := r.2.2.1
  have hC := r.2.2.2.2.2.2.1.1.2.2.2.1
  rcases hr with ⟨_, _, rfl⟩ | ⟨k, w, j, hk, hw, hj, rfl, _⟩
  · exact h
  · rw [nIN (by omega)] at c
    exact mdR_chg c (by simp only [List.mem_cons, List.not_mem_nil, or_false]; intro a z; subst z; exact r3 _ (by unfold uC; omega)) (by simp) (by simp) h
theorem mdR_rename {S S' : Mem} {x m0 : Nat} {ad W : Nat → Nat} {pt : Nat → Option Nat} {K : RS} {t u ac nn v : Int32} (r : rep S x (mX m0 ad) W pt K) (c : chg S S' [W (10 * t.toNatClampNeg + 307), W (10 * t.toNatClampNeg + 308)] [] [(138, W (10 * t.toNatClampNeg + 300))] []) (hr : ((blw t (fN K 3) && blw u (fN K 0) && blw ac 12 && blw nn 12 && !decide (ac = nn)) = false ∧ v = -2 ∧ S' = S) ∨ ∃ k w j i, k < (fN K 3) ∧ w < (fN K 0) ∧ j < 12 ∧ i < 12 ∧ j ≠ i ∧ t = nI k ∧ u = nI w ∧ ac = nI j ∧ nn = nI i ∧ ((((renamedF K k w j).isSome || (namedF K k w i).isSome) = true ∧ v = -3 ∧ S' = S) ∨ (((renamedF K k w j).isSome || (namedF K k w i).isSome) = false ∧ rN K 23 k = 8 ∧ v = -4 ∧ S' = S) ∨ (((renamedF K k w j).isSome || (namedF K k w i).isSome) = false ∧ rN K 23 k < 8 ∧ v = 1 ∧ (∀ q, mA S' (W (10 * k + 307)) q = if q = 12 * w + j then nI i else mA S (W (10 * k + 307)) q) ∧ (∀ q, mA S' (W (10 * k + 308)) q = if q = 12 * w + i then nI j else mA S (W (10 * k + 308)) q) ∧ mI S' 138 (W (10 * k + 300)) = nI (rN K 23 k + 1)))) (h : mdR S m0 ad K) : mdR S' m0 ad K := by
  have r3 := r.2.2.1
  have hC := r.2.2.2.2.2.2.1.1.2.2.2.1
  rcases hr with ⟨_, _, rfl⟩ | ⟨k, w, j, i, hk, hw, hj, hi, hji, rfl, _⟩
  · exact h
  · rw [nIN (by omega)] at c
    exact mdR_chg c (by simp only [List.mem_cons, List.not_mem_nil, or_false]; intro a z; rcases z with rfl | rfl <;> exact r3 _ (by unfold uC; omega)) (by simp) (by simp) h
theorem mdR_prefer {S S' : Mem} {x m0 : Nat} {ad W : Nat → Nat} {pt : Nat → Option Nat} {K : RS} {t ac u v : Int32} (r : rep S x (mX m0 ad) W pt K) (c : chg S S' [W (10 * t.toNatClampNeg + 309)] [] [] []) (hr : ((blw t (fN K 3) && blw ac 12 && (decide (u = -1) || blw u (fN K 0))) = false ∧ v = -2 ∧ S' = S) ∨ ∃ k j, k < (fN K 3) ∧ j < 12 ∧ t = nI k ∧ ac = nI j ∧ (u = -1 ∨ ∃ w, w < (fN K 0) ∧ u = nI w) ∧ v = mA S (W (10 * k + 309)) j ∧ ∀ i, mA S' (W (10 * k + 309)) i = if i = j then u else mA S (W (10 * k + 309)) i) (h : mdR S m0 ad K) : mdR S' m0 ad K := by
  have r3 := r.2.2.1
  have hC := r.2.2.2.2.2.2.1.1.2.2.2.1
  rcases hr with ⟨_, _, rfl⟩ | ⟨k, j, hk, hj, rfl, _⟩
  · exact h
  · rw [nIN (by omega)] at c
    exact mdR_chg c (by simp only [List.mem_cons, List.not_mem_nil, or_false]; intro a z; subst z; exact r3 _ (by unfold uC; omega)) (by simp) (by simp) h
theorem mdR_takes {S S' : Mem} {x m0 : Nat} {ad W : Nat → Nat} {pt : Nat → Option Nat} {K : RS} {t u v : Int32} (r : rep S x (mX m0 ad) W pt K) (c : chg S S' [(xA W).ft, (xA W).gr, (xA W).gp, (xA W).mr, (xA W).mp, W (10 * t.toNatClampNeg + 302), W (10 * t.toNatClampNeg + 303), W (10 * t.toNatClampNeg + 304)] [(xA W).rows] [(260, W 3), (194, (xA W).gv), (194, (xA W).md), (132, W (10 * t.toNatClampNeg + 300)), (194, W (10 * t.toNatClampNeg + 301))] []) (hr : tkR S S' W K (fN K 3) (fN K 0) (tlist K) t u v) (h : mdR S m0 ad K) : mdR S' m0 ad K := by
  have r3 := r.2.2.1
  have hC := r.2.2.2.2.2.2.1.1.2.2.2.1
  rcases hr with ⟨_, _, rfl⟩ | ⟨k, w, hk, hw, rfl, _⟩
  · exact h
  · rw [nIN (by omega)] at c
    have c2 : chg S S' (List.map W [5, 7, 8, 10, 11, 10 * k + 302, 10 * k + 303, 10 * k + 304]) [(xA W).rows] [(260, W 3), (194, (xA W).gv), (194, (xA W).md), (132, W (10 * k + 300)), (194, W (10 * k + 301))] [] := c
    refine mdR_chg c2 (fun a z => ?_) (by simp) (by simp) h
    obtain ⟨i, h1, rfl⟩ := List.mem_map.mp z
    refine r3 _ ?_
    simp only [List.mem_cons, List.not_mem_nil, or_false] at h1
    unfold uC; omega
theorem mdR_trait {S S' : Mem} {x m0 : Nat} {ad W : Nat → Nat} {pt : Nat → Option Nat} {K : RS} {ta tb tc v : Int32} (r : rep S x (mX m0 ad) W pt K) (c : chg S S' [(xA W).ft, (xA W).gr, (xA W).gp, (xA W).mr, (xA W).mp] [(xA W).rows, (aA W).ta] [(260, (aA W).mg), (194, (xA W).gv), (194, (xA W).md), (65, W 0)] []) (hr : True) (h : mdR S m0 ad K) : mdR S' m0 ad K := by
  have r3 := r.2.2.1
  have hC := r.2.2.2.2.2.2.1.1.2.2.2.1
  have c2 : chg S S' (List.map W [5, 7, 8, 10, 11]) [(xA W).rows, (aA W).ta] [(260, (aA W).mg), (194, (xA W).gv), (194, (xA W).md), (65, W 0)] [] := c
  refine mdR_chg c2 (fun a z => ?_) (by simp) (by simp) h
  obtain ⟨i, h1, rfl⟩ := List.mem_map.mp z
  refine r3 _ ?_
  simp only [List.mem_cons, List.not_mem_nil, or_false] at h1
  unfold uC; omega
theorem v_pop2 {p : Program} {l : Launch} {e : Env} {R : Room} {s : State} {m : MethodId} {args : Array Value} {below : List Frame} {meth : Method} {c : Code} {D : va_G} {G : Nat → ClassId} {bs nL cells slots pc : Nat} {cc : ByteArray} {Q : State → Prop} {S : Mem} {lv : List (Option Value)} {st : List Value} {own : String} (C : Cx p s m args meth c D G bs cc nL own) {x : Int64} (hd : decode cc pc = .ok (.pop2, 1)) (k : V p l e R s m args below meth c D G bs nL Q cells slots S (pc + 1) lv st) : V p l e R s m args below meth c D G bs nL Q cells slots S pc lv (.long x :: st) :=
  fun H locs ls h1 h2 h3 h4 => lv_pop2_2 C.1 C.2.1 hd rfl (k H locs ls h1 h2 h3 h4)
theorem v_loopC {p : Program} {l : Launch} {e : Env} {R : Room} {s : State} {m : MethodId} {args : Array Value} {below : List Frame} {meth : Method} {c : Code} {D : va_G} {G : Nat → ClassId} {bs nL : Nat} {Q : State → Prop} {cells slots pc : Nat} {S : Mem} {lv : List (Option Value)} {st : List Value} {T : Type} (g : T → List (Option Value) → List (Option Value)) (cl sl : T → Nat) (I : Mem → T → Prop) (mu : Mem → T → Nat) {t : T} (hg : g t lv = lv) (hc : cl t = cells) (hs : sl t = slots) (hI : I S t) (step : ∀ S t, I S t → (∀ S' t', mu S' t' < mu S t → I S' t' → V p l e R s m args below meth c D G bs nL Q (cl t') (sl t') S' pc (g t' lv) st) → V p l e R s m args below meth c D G bs nL Q (cl t) (sl t) S pc (g t lv) st) : V p l e R s m args below meth c D G bs nL Q cells slots S pc lv st := by
  have h : ∀ n S t, mu S t < n → I S t → V p l e R s m args below meth c D G bs nL Q (cl t) (sl t) S pc (g t lv) st := by
    intro n
    induction n with
    | zero => intro S t h; omega
    | succ n ih => intro S t h hI; exact step S t hI (fun S' t' h2 hI' => ih S' t' (by omega) hI')
  have := h (mu S t + 1) S t (by omega) hI
  rw [hg, hc, hs] at this
  exact this
theorem nI_inc5 (a : Nat) : nI a + Int32.ofInt 5 = nI (a + 5) := nI_add a 5
theorem law_in {L i : Nat} (hL : L ≤ 2560) (hi : i ≤ 2560) (c : ¬ nI L - nI 5 < nI i) : i + 5 ≤ L := by
  rw [Int32.lt_iff_toInt_lt, Int32.toInt_sub, nI_toInt (show L < 2 ^ 31 by omega), nI_toInt (show i < 2 ^ 31 by omega), show (nI 5).toInt = 5 from rfl, Int.bmod_def] at c
  split at c <;> omega
theorem inv_empty {S : Mem} (h : mL S = []) : INV (fun _ => False) [] S := by
  have n : ∀ a, a ∉ mL S := fun a => by rw [h]; exact List.not_mem_nil
  exact ⟨fun a z => z.elim, fun q _ a ha => absurd ha (n a), fun q _ a ha => absurd ha (n a), fun a ha => absurd ha (n a), fun a ha => absurd ha (n a)⟩
theorem RV_0 {K : RS} (h : ∀ g, g ≠ 19 → g < 64 → rF K g = 0) (h19 : rF K 19 = -1) (ha : ∀ g, g ∈ RVA → ∀ i, rA K g i = 0) : RV K := by
  have f : ∀ g, g ≠ 19 → g < 64 → fN K g = 0 := fun g h1 h2 => by unfold fN; rw [h g h1 h2]; rfl
  have z : (0 : Int32).toNatClampNeg = 0 := rfl
  have r : ∀ g, g ∈ RVA → ∀ i, rN K g i = 0 := fun g hg i => by unfold rN; rw [ha g hg i]; rfl
  have e : ∀ g, g ∈ RVA → ∀ i, rA K g i = nI (rN K g i) := fun g hg i => by rw [r g hg, ha g hg]; rfl
  refine ⟨?_, ?_, ?_, ?_, ?_, ?_, ?_, ?_, ?_, ?_, ?_, ?_, ?_, ?_, ?_, ?_⟩
  · unfold P1; rw [f 0 (by decide) (by decide), h 0 (by decide) (by decide)]; exact ⟨rfl, by decide⟩
  · unfold P2; rw [f 3 (by decide) (by decide), h 3 (by decide) (by decide)]; exact ⟨rfl, by decide⟩
  · intro t _; exact ⟨e 2 (by decide) t, by rw [r 2 (by decide)]; omega⟩
  · intro t _ i hi; rw [r 2 (by decide)] at hi; omega
  · intro t _; exact ⟨e 8 (by decide) t, by rw [r 8 (by decide)]; omega⟩
  · intro t _ i hi; rw [r 8 (by decide)] at hi; omega
  · intro t _; exact ⟨e 6 (by decide) t, by rw [r 6 (by decide)]; omega⟩
  · intro t _ i hi; rw [r 6 (by decide)] at hi; omega
  · intro t _; exact ⟨e 20 (by decide) t, by rw [r 20 (by decide)]; omega⟩
  · intro t _; exact ⟨e 23 (by decide) t, by rw [r 23 (by decide)]; omega⟩
  · intro t _ i hi; rw [r 23 (by decide)] at hi; omega
  · intro t _; exact ⟨e 15 (by decide) t, by rw [r 15 (by decide)]; omega⟩
  · intro t _; exact ⟨e 13 (by decide) t, by rw [r 13 (by decide)]; omega⟩
  · exact ⟨none, h19, fun k z => by cases z⟩
  · intro k _
    rw [ha 16 (by decide)]
    exact ⟨fun z => absurd z (by decide), fun z => absurd z (by decide)⟩
  · unfold P16; rw [f 49 (by decide) (by decide), h 49 (by decide) (by decide)]; exact ⟨rfl, by decide⟩
/-- the reference as it comes from its constructor -/
def memK (S : Mem) (m0 : Nat) (ad : Nat → Nat) : RS := (fun g => mI S (640 + g) m0, fun g i => mA S (ad g) i, fun g i => mQ S (ad g) i, fun g => mJ S (640 + g) m0)
theorem memK_mdR {S0 S : Mem} {m0 : Nat} {ad : Nat → Nat} (h : mPz S0 S m0 mTab ad) : mdR S m0 ad (memK S m0 ad) := by
  obtain ⟨h1, h2, h3, h4, h5, h6, h7⟩ := h
  exact ⟨h1, fun q hq => ⟨(h3 q hq).1, (h3 q hq).2.1⟩, h4, fun _ => rfl, fun _ _ _ => rfl, fun _ _ _ => rfl, fun _ => rfl⟩
theorem memK_RV {S0 S1 S : Mem} {m0 : Nat} {ad : Nat → Nat} (e : S1 = sNew S0 m0 10) (h : mPz S1 S m0 mTab ad) (hl : mI S 659 m0 = -1) : RV (memK S m0 ad) := by
  obtain ⟨h1, h2, h3, h4, h5, h6, h7⟩ := h
  refine RV_0 (fun g hg _ => ?_) hl (fun g hg i => ?_)
  · show mI S (640 + g) m0 = 0
    rw [h5 (640 + g) (by omega), e, mI_sNew, if_pos rfl]
  · show mA S (ad g) i = 0
    obtain ⟨q, hq, hq1⟩ := (show ∀ g ∈ RVA, ∃ q ∈ mTab, q.1 = g by decide +kernel) g hg
    rw [← hq1]
    exact (h3 q hq).2.2.2.1 i
theorem lawI_0 {S2 S3 S : Mem} {x m0 : Nat} {ad W : Nat → Nat} {LT : Nat → List Nat} (iv : INV (fun _ => False) [] S2) (r0 : rep0 S2 x W LT) (n : m0 ∉ mL S2) (e : S3 = sNew S2 m0 10) (h : mPz S3 S m0 mTab ad) (hl : mI S 659 m0 = -1) : lawI S x m0 ad (memK S m0 ad) := by
  have x3 := x_sNew e n
  have k := memK_mdR h
  have rv := memK_RV e h hl
  have hx : ext S2 S (fun _ => False) := ext_tr x3 h.2.1 (fun a ha z => n (z ▸ ha))
  have iv4 := inv_add iv k n (fun q hq z => (h.2.2.1 q hq).2.2.1 (x3.1 _ z).1) (fun a ha => by
    rcases h.2.2.2.2.2.2 a ha with z | ⟨q, hq, z⟩
    · rw [e, mL_sNew] at z
      rcases List.mem_append.mp z with z | z
      · exact Or.inl z
      · exact Or.inr (Or.inl (List.mem_singleton.mp z))
    · exact Or.inr (Or.inr ⟨q, hq, z⟩)) hx
  have f0 : ∀ g, g ≠ 19 → g < 64 → rF (memK S m0 ad) g = 0 := fun g h1 h2 => by
    show mI S (640 + g) m0 = 0
    rw [h.2.2.2.2.1 (640 + g) (by omega), e, mI_sNew, if_pos rfl]
  have n0 : fN (memK S m0 ad) 0 = 0 := by unfold fN; rw [f0 0 (by decide) (by decide)]; rfl
  have n3 : fN (memK S m0 ad) 3 = 0 := by unfold fN; rw [f0 3 (by decide) (by decide)]; rfl
  have a0 : ∀ q ∈ mTab, ∀ i, rA (memK S m0 ad) q.1 i = 0 := fun q hq i => (h.2.2.1 q hq).2.2.2.1 i
  have aN : ∀ q ∈ mTab, ∀ i, rN (memK S m0 ad) q.1 i = 0 := fun q hq i => by unfold rN; rw [a0 q hq i]; rfl
  have tb : ∀ g ∈ [5, 6, 8, 10, 20, 23], ∃ q ∈ mTab, q.1 = g := by decide +kernel
  have z0 : ∀ g ∈ [5, 6, 8, 10, 20, 23], ∀ i, rA (memK S m0 ad) g i = 0 := fun g hg i => by
    obtain ⟨q, hq, rfl⟩ := tb g hg; exact a0 q hq i
  have zN : ∀ g ∈ [5, 6, 8, 10, 20, 23], ∀ i, rN (memK S m0 ad) g i = 0 := fun g hg i => by
    obtain ⟨q, hq, rfl⟩ := tb g hg; exact aN q hq i
  have lat : latO (memK S m0 ad) = none := by unfold latO; rw [show rF (memK S m0 ad) 19 = -1 from hl, if_pos rfl]
  obtain ⟨⟨q1, q2⟩, q3, q4, q5, q6, q7, q8⟩ := r0
  refine ⟨iv4, k, rv, W, fun _ => none, rep_ext hx (fun a z => z.elim) (fun a z => z.elim) ?_⟩
  unfold rep
  rw [n0, n3]
  refine ⟨⟨q1, q2⟩, q3, fun i hi z => ?_, trS_cg q5 ⟨rfl, rfl⟩ (fun t ht => absurd ht (Nat.not_lt_zero t)), q6, fun t ht => absurd ht (Nat.not_lt_zero t), ⟨q7, fun c hc => absurd hc (Nat.not_lt_zero c), fun c hc => absurd hc (Nat.not_lt_zero c), fun c hc => absurd hc (Nat.not_lt_zero c), fun c hc => absurd hc (Nat.not_lt_zero c), fun c hc => absurd hc (Nat.not_lt_zero c), fun c hc => absurd hc (Nat.not_lt_zero c), fun c hc => absurd hc (Nat.not_lt_zero c)⟩, ⟨fun q hq => ⟨fun z => (by cases z), fun z => absurd (z0 10 (by decide) q) z⟩, fun q a hq z => (by cases z), fun q q' a hq hq' z => (by cases z)⟩, ⟨(by rw [lat]; exact q8), fun g hg => (by rw [lat] at hg; cases hg)⟩, ?_⟩
  · have hi12 : i < 12 := by unfold uC at hi; omega
    rcases z with z | ⟨q, hq, z⟩
    · exact n (z ▸ q4 i hi12)
    · exact (h.2.2.1 q hq).2.2.1 (z ▸ (x3.1 _ (q4 i hi12)).1)
  · refine ⟨fun t m _ _ _ => ⟨z0 10 (by decide) _, z0 10 (by decide) _⟩, fun c m _ _ _ => z0 10 (by decide) _, fun c _ _ => ⟨zN 6 (by decide) c, zN 8 (by decide) c, zN 20 (by decide) c, zN 23 (by decide) c⟩, fun c i j _ _ h3 => ?_⟩
    rw [zN 6 (by decide) c] at h3; exact absurd h3 (Nat.not_lt_zero j)
theorem bodyP_s {K K' : RS} {v : Int32} (rv : RV K) {x0 : Int32} {x1 : Int32} {x2 : Int32} {x3 : Int32} (h : bodyP K x0 x1 x2 x3 = (v, K')) : RV K' ∧ fN K' 3 = fN K 3 := by
  have h1 := RV_bodyP rv x0 x1 x2 x3
  have h2 : fN (bodyP K x0 x1 x2 x3).2 3 = fN K 3 := by
    unfold bodyP
    cases (below x0 (fN K 0) && below x1 12 && below x2 3 && below x3 4) <;> rfl
  rw [h] at h1 h2
  exact ⟨h1, h2⟩
theorem needP_s {K K' : RS} {v : Int32} (rv : RV K) {x0 : Int32} {x1 : Int32} {x2 : Int32} (h : needP K x0 x1 x2 = (v, K')) : RV K' ∧ fN K' 3 = fN K 3 := by
  have h1 := RV_needP rv x0 x1 x2
  have h2 : fN (needP K x0 x1 x2).2 3 = fN K 3 := by
    unfold needP
    cases (below x0 (fN K 0) && below x1 12 && below x2 4) <;> rfl
  rw [h] at h1 h2
  exact ⟨h1, h2⟩
theorem guardP_s {K K' : RS} {v : Int32} (rv : RV K) {x0 : Int32} {x1 : Int32} {x2 : Int32} (h : guardP K x0 x1 x2 = (v, K')) : RV K' ∧ fN K' 3 = fN K 3 := by
  have h1 := RV_guardP rv x0 x1 x2
  have h2 : fN (guardP K x0 x1 x2).2 3 = fN K 3 := by
    unfold guardP
    cases (below x0 (fN K 0) && below x1 12 && below x2 3) <;> rfl
  rw [h] at h1 h2
  exact ⟨h1, h2⟩
theorem ownP_s {K K' : RS} {v : Int32} (rv : RV K) {x0 : Int32} {x1 : Int32} {x2 : Int32} {x3 : Int32} (h : ownP K x0 x1 x2 x3 = (v, K')) : RV K' ∧ fN K' 3 = fN K 3 := by
  have h1 := RV_ownP rv x0 x1 x2 x3
  have h2 : fN (ownP K x0 x1 x2 x3).2 3 = fN K 3 := by
    unfold ownP
    cases (below x0 (fN K 3) && below x1 12 && below x2 3 && below x3 4) <;> rfl
  rw [h] at h1 h2
  exact ⟨h1, h2⟩
theorem opP_s {K K' : RS} {v : Int32} (rv : RV K) {x0 : Int32} {x1 : Int32} {x2 : Int32} (h : opP K x0 x1 x2 = (v, K')) : RV K' ∧ fN K' 3 = fN K 3 := by
  have h1 := RV_opP rv x0 x1 x2
  have h2 : fN (opP K x0 x1 x2).2 3 = fN K 3 := by
    unfold opP
    cases isOpF x0 x1 x2 with
    | false => rfl
    | true =>
      cases latO K with
      | none => rfl
      | some g =>
        show fN (if rN K 15 g = 8 then (-4, K) else (nI (rN K 15 g + 1), opK K g x0 x1 x2)).2 3 = fN K 3
        split <;> rfl
  rw [h] at h1 h2
  exact ⟨h1, h2⟩
theorem leaveP_s {K K' : RS} {v : Int32} (rv : RV K) {x0 : Int32} {x1 : Int32} {x2 : Int32} (h : leaveP K x0 x1 x2 = (v, K')) : RV K' ∧ fN K' 3 = fN K 3 := by
  have h1 := RV_leaveP rv x0 x1 x2
  have h2 : fN (leaveP K x0 x1 x2).2 3 = fN K 3 := by
    unfold leaveP
    cases (below x0 (fN K 3) && below x1 (fN K 0) && below x2 12) with
    | false => rfl
    | true =>
      cases leavesF K x0.toNatClampNeg x1.toNatClampNeg x2.toNatClampNeg with
      | true => rfl
      | false =>
        simp only [cond_true, cond_false]
        split <;> rfl
  rw [h] at h1 h2
  exact ⟨h1, h2⟩
theorem renameP_s {K K' : RS} {v : Int32} (rv : RV K) {x0 : Int32} {x1 : Int32} {x2 : Int32} {x3 : Int32} (h : renameP K x0 x1 x2 x3 = (v, K')) : RV K' ∧ fN K' 3 = fN K 3 := by
  have h1 := RV_renameP rv x0 x1 x2 x3
  have h2 : fN (renameP K x0 x1 x2 x3).2 3 = fN K 3 := by
    unfold renameP
    cases (below x0 (fN K 3) && below x1 (fN K 0) && below x2 12 && below x3 12 && !decide (x2 = x3)) with
    | false => rfl
    | true =>
      cases ((renamedF K x0.toNatClampNeg x1.toNatClampNeg x2.toNatClampNeg).isSome || (namedF K x0.toNatClampNeg x1.toNatClampNeg x3.toNatClampNeg).isSome) with
      | true => rfl
      | false =>
        simp only [cond_true, cond_false]
        split <;> rfl
  rw [h] at h1 h2
  exact ⟨h1, h2⟩
theorem preferP_s {K K' : RS} {v : Int32} (rv : RV K) {x0 : Int32} {x1 : Int32} {x2 : Int32} (h : preferP K x0 x1 x2 = (v, K')) : RV K' ∧ fN K' 3 = fN K 3 := by
  have h1 := RV_preferP rv x0 x1 x2
  have h2 : fN (preferP K x0 x1 x2).2 3 = fN K 3 := by
    unfold preferP
    cases (below x0 (fN K 3) && below x1 12 && (decide (x2 = -1) || below x2 (fN K 0))) <;> rfl
  rw [h] at h1 h2
  exact ⟨h1, h2⟩
theorem setMoodP_s {K K' : RS} {v : Int32} (rv : RV K) {x0 : Int32} {x1 : Int32} {x2 : Int64} (h : setMoodP K x0 x1 x2 = (v, K')) : RV K' ∧ fN K' 3 = fN K 3 := by
  have h1 := RV_setMoodP rv x0 x1 x2
  have h2 : fN (setMoodP K x0 x1 x2).2 3 = fN K 3 := by
    unfold setMoodP
    cases (below x0 (fN K 3) && below x1 4) <;> rfl
  rw [h] at h1 h2
  exact ⟨h1, h2⟩
