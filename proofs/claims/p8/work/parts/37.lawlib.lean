/-! WHAT THE LAW KEEPS: the class's cells, the reference's state, and what ties them -/
def lawI (S : Mem) (x co fs m0 : Nat) (ad : Nat → Nat) (K : RS) : Prop := INV (mX m0 ad) [] S ∧ is S x 9 ∧ mO S 576 x = some co ∧ is S co 1 ∧ mI S 67 co = nI (fN K 3) ∧ mdR S m0 ad K ∧ RV K ∧ mO S 66 co = some fs ∧ isA S fs 14 12 ∧ figR (mP S fs) (fN K 3)
theorem lawI_cls {S S' : Mem} {x co fs m0 : Nat} {ad : Nat → Nat} {K : RS} {ks : List Nat} (h : lawI S x co fs m0 ad K) (iv : INV (mX m0 ad) [] S') (e : ext S S' (fun a => ¬ mX m0 ad a ∧ mK S a ∈ ks)) (h9 : 9 ∉ ks) (h1 : 1 ∉ ks) (h14 : 14 ∉ ks) : lawI S' x co fs m0 ad K := by
  obtain ⟨_, i2, i3, i4, i5, i6, i7, j1, j2, j3⟩ := h
  exact ⟨iv, is_ext e i2, mo_extx e i2 (fun z => h9 (i2.2 ▸ z.2)) i3, is_ext e i4, mi_extx e i4 (fun z => h1 (i4.2 ▸ z.2)) i5, mdR_ext e (fun a ha z => z.1 ha) i6, i7, mo_extx e i4 (fun z => h1 (i4.2 ▸ z.2)) j1, isA_ext e j2, by rw [mp_extx e j2 (fun z => h14 (j2.2.1 ▸ z.2)) rfl]; exact j3⟩
theorem lawI_cls9 {S S' : Mem} {x co fs m0 : Nat} {ad : Nat → Nat} {K : RS} {ks : List Nat} (h : lawI S x co fs m0 ad K) (o : mO S' 576 x = some co) (iv : INV (mX m0 ad) [] S') (e : ext S S' (fun a => ¬ mX m0 ad a ∧ mK S a ∈ ks)) (h1 : 1 ∉ ks) (h14 : 14 ∉ ks) : lawI S' x co fs m0 ad K := by
  obtain ⟨_, i2, i3, i4, i5, i6, i7, j1, j2, j3⟩ := h
  exact ⟨iv, is_ext e i2, o, is_ext e i4, mi_extx e i4 (fun z => h1 (i4.2 ▸ z.2)) i5, mdR_ext e (fun a ha z => z.1 ha) i6, i7, mo_extx e i4 (fun z => h1 (i4.2 ▸ z.2)) j1, isA_ext e j2, by rw [mp_extx e j2 (fun z => h14 (j2.2.1 ▸ z.2)) rfl]; exact j3⟩
theorem lawI_cls1 {S S' : Mem} {x co fs m0 : Nat} {ad : Nat → Nat} {K : RS} {ks : List Nat} (h : lawI S x co fs m0 ad K) (o : mI S' 67 co = mI S 67 co ∧ mO S' 576 x = some co ∧ mO S' 66 co = some fs) (iv : INV (mX m0 ad) [] S') (e : ext S S' (fun a => ¬ mX m0 ad a ∧ mK S a ∈ ks)) (h14 : 14 ∉ ks) : lawI S' x co fs m0 ad K := by
  obtain ⟨_, i2, i3, i4, i5, i6, i7, j1, j2, j3⟩ := h
  exact ⟨iv, is_ext e i2, o.2.1, is_ext e i4, o.1.trans i5, mdR_ext e (fun a ha z => z.1 ha) i6, i7, o.2.2, isA_ext e j2, by rw [mp_extx e j2 (fun z => h14 (j2.2.1 ▸ z.2)) rfl]; exact j3⟩
theorem lawI_ref {S S' : Mem} {x co fs m0 : Nat} {ad : Nat → Nat} {K K' : RS} (h : lawI S x co fs m0 ad K) (hk : mdR S' m0 ad K') (e : exm S S' m0 ad) (rv : RV K') (h3 : fN K' 3 = fN K 3) : lawI S' x co fs m0 ad K' := by
  obtain ⟨iv, i2, i3, i4, i5, i6, i7, j1, j2, j3⟩ := h
  have n4 := inv_nM iv i4 (Or.inl (by decide))
  exact ⟨inv_exm iv e, is_ext e.1 i2, mo_extx e.1 i2 (inv_nM iv i2 (Or.inl (by decide))) i3, is_ext e.1 i4, by rw [h3]; exact mi_extx e.1 i4 n4 i5, hk, rv, mo_extx e.1 i4 n4 j1, isA_ext e.1 j2, by rw [mp_extx e.1 j2 (inv_nMA iv j2 (Or.inr (by decide))) rfl, h3]; exact j3⟩
theorem isB_below4 (x : Int32) : isB x 4 = below x 4 := isB_below rfl
theorem lawI_char {S S1 S2 : Mem} {x co fs m0 : Nat} {ad : Nat → Nat} {K K' : RS} {ks : List Nat} {p v w : Int32} (h : lawI S x co fs m0 ad K) (q : (∃ k2, charN (fN K 3) p v (nI k2) ∧ mI S1 67 co = nI k2 ∧ k2 ≤ 12 ∧ figR (mP S1 fs) k2) ∧ mO S1 576 x = some co ∧ mO S1 66 co = some fs) (iv : INV (mX m0 ad) [] S1) (e1 : ext S S1 (fun a => ¬ mX m0 ad a ∧ mK S a ∈ ks)) (hk : mdR S2 m0 ad K') (e2 : exm S1 S2 m0 ad) (r : charR K p w K') : v = w ∧ lawI S2 x co fs m0 ad K' := by
  obtain ⟨_, i2, i3, i4, i5, i6, i7, j1, j2, j3⟩ := h
  have rv := RV_charR i7 r
  obtain ⟨⟨k2, q1, qk, q12, qR⟩, q2, q3⟩ := q
  have l2 := is_ext e1 i2
  have l4 := is_ext e1 i4
  have lf := isA_ext e1 j2
  have n2 := inv_nM iv l2 (Or.inl (by decide))
  have n4 := inv_nM iv l4 (Or.inl (by decide))
  have nf := inv_nMA iv lf (Or.inr (by decide))
  have fin : k2 = fN K' 3 → lawI S2 x co fs m0 ad K' := fun hz => ⟨inv_exm iv e2, is_ext e2.1 l2, mo_extx e2.1 l2 n2 q2, is_ext e2.1 l4, mi_extx e2.1 l4 n4 (by rw [← hz]; exact qk), hk, rv, mo_extx e2.1 l4 n4 q3, isA_ext e2.1 lf, by rw [mp_extx e2.1 lf nf rfl, ← hz]; exact qR⟩
  have h12 := i7.p2.2
  have ne : ∀ k, k ≤ 12 → nI k2 = nI k → k2 = k := fun k hk z => (nI_eq (by omega) (by omega)).mp z
  rcases r with ⟨b, r1, rfl⟩ | ⟨b, f, r1, rfl⟩ | ⟨b, f, r1, n⟩ <;> rcases q1 with ⟨b', r1', m'⟩ | ⟨b', f', r1', m'⟩ | ⟨b', f', r1', m'⟩ <;> rw [isB_below4, b] at b'
  · exact ⟨r1'.trans r1.symm, fin (ne _ h12 m')⟩
  · cases b'
  · cases b'
  · cases b'
  · exact ⟨r1'.trans r1.symm, fin (ne _ h12 m')⟩
  · omega
  · cases b'
  · omega
  · exact ⟨r1'.trans r1.symm, fin (by rw [fN_nI n.1 (by omega)]; exact ne _ (by omega) m')⟩
theorem bif_b {a b : Bool} (h : a = b) : (bif a then (1 : Int32) else -2) = bif b then nI 1 else -2 := by rw [h]; rfl
theorem ans_setMood {K K' : RS} {f : Nat → Option Nat} {x y v w : Int32} {z : Int64} (rv : RV K) (h : figR f (fN K 3)) (p : v = (bif (figO f x).isSome && isB y 4 then 1 else -2)) (q : setMoodP K x y z = (w, K')) : v = w := by
  have e : w = (setMoodP K x y z).1 := by rw [q]
  rw [p, e, figO_below h rv.p2.2, isB_below (n := 4) rfl]
  unfold setMoodP
  cases (below x (fN K 3) && below y 4) <;> rfl
theorem ans_own {K K' : RS} {f : Nat → Option Nat} {x y z u v w : Int32} (rv : RV K) (h : figR f (fN K 3)) (p : v = (bif (figO f x).isSome && isB y 12 && isB z 3 && isB u 4 then 1 else -2)) (q : ownP K x y z u = (w, K')) : v = w := by
  have e : w = (ownP K x y z u).1 := by rw [q]
  rw [p, e, figO_below h rv.p2.2, isB_below (n := 12) rfl, isB_below (n := 3) rfl, isB_below (n := 4) rfl]
  unfold ownP
  cases (below x (fN K 3) && below y 12 && below z 3 && below u 4) <;> rfl
theorem traitR_3 {K K' : RS} {a b c r : Int32} (h : traitR K a b c r K') : fN K' 3 = fN K 3 := by
  rcases h with ⟨_, _, rfl⟩ | ⟨_, K1, _, ⟨_, _, kp⟩ | ⟨L, _, ⟨_, _, kp⟩ | ⟨_, _, hn⟩⟩⟩
  · rfl
  · exact keep_fN kp (by decide)
  · exact keep_fN kp (by decide)
  · exact keep_fN hn.2.2.2.2.2.2 (by decide)
theorem takesR_3 {K K' : RS} {x y r : Int32} (h : takesR K x y r K') : fN K' 3 = fN K 3 := by
  rcases h with ⟨_, _, rfl⟩ | ⟨u, t, _, _, _, _, ⟨_, _, kp⟩ | ⟨_, K1, _, ⟨_, _, kp⟩ | ⟨L, _, ⟨_, _, kp⟩ | ⟨_, _, hn⟩⟩⟩⟩
  · rfl
  · exact keep_fN kp (by decide)
  · exact keep_fN kp (by decide)
  · exact keep_fN kp (by decide)
  · exact keep_fN hn.2.2.2.2.2.2.2.2 (by decide)
theorem v_pop2 {p : Program} {l : Launch} {e : Env} {R : Room} {s : State} {m : MethodId} {args : Array Value} {below : List Frame} {meth : Method} {c : Code} {D : va_G} {G : Nat → ClassId} {bs nL cells slots pc : Nat} {cc : ByteArray} {Q : State → Prop} {S : Mem} {lv : List (Option Value)} {st : List Value} {own : String} (C : Cx p s m args meth c D G bs cc nL own) {x : Int64} (hd : decode cc pc = .ok (.pop2, 1)) (k : V p l e R s m args below meth c D G bs nL Q cells slots S (pc + 1) lv st) : V p l e R s m args below meth c D G bs nL Q cells slots S pc lv (.long x :: st) :=
  fun H locs ls h1 h2 h3 h4 => lv_pop2_2 C.1 C.2.1 hd rfl (k H locs ls h1 h2 h3 h4)
theorem v_loopC {p : Program} {l : Launch} {e : Env} {R : Room} {s : State} {m : MethodId} {args : Array Value} {below : List Frame} {meth : Method} {c : Code} {D : va_G} {G : Nat → ClassId} {bs nL : Nat} {Q : State → Prop} {cells slots pc : Nat} {S : Mem} {lv : List (Option Value)} {st : List Value} {T : Type} (g : T → List (Option Value) → List (Option Value)) (cl sl : T → Nat) (I : Mem → T → Prop) (mu : Mem → T → Nat) {t : T} (hg : g t lv = lv) (hc : cl t = cells) (hs : sl t = slots) (hI : I S t) (step : ∀ S t, I S t → (∀ S' t', mu S' t' < mu S t → I S' t' → V p l e R s m args below meth c D G bs nL Q (cl t') (sl t') S' pc (g t' lv) st) → V p l e R s m args below meth c D G bs nL Q (cl t) (sl t) S pc (g t lv) st) : V p l e R s m args below meth c D G bs nL Q cells slots S pc lv st := by
  have h : ∀ n S t, mu S t < n → I S t → V p l e R s m args below meth c D G bs nL Q (cl t) (sl t) S pc (g t lv) st := by
    intro n
    induction n with
    | zero => intro S t h; omega
    | succ n ih => intro S t h hI; exact step S t hI (fun S' t' h2 hI' => ih S' t' (by omega) hI')
  have := h (mu S t + 1) S t (by omega) hI
  rw [hg, hc, hs] at this
  exact this
theorem nI_inc5 (a : Nat) : nI a + Int32.ofInt 5 = nI (a + 5) := nI_add a 5
theorem law_in {L i : Nat} (hL : L ≤ 2560) (hi : i ≤ 2560) (c : ¬ nI L - nI 5 < nI i) : i + 5 ≤ L := by
  rw [Int32.lt_iff_toInt_lt, Int32.toInt_sub, nI_toInt (show L < 2 ^ 31 by omega), nI_toInt (show i < 2 ^ 31 by omega), show (nI 5).toInt = 5 from rfl, Int.bmod_def] at c
  split at c <;> omega
theorem inv_empty {S : Mem} (h : mL S = []) : INV (fun _ => False) [] S := by
  have n : ∀ a, a ∉ mL S := fun a => by rw [h]; exact List.not_mem_nil
  exact ⟨fun a z => z.elim, fun q _ a ha => absurd ha (n a), fun q _ a ha => absurd ha (n a), fun a ha => absurd ha (n a), fun a ha => absurd ha (n a)⟩
theorem RV_0 {K : RS} (h : ∀ g, g ≠ 19 → g < 64 → rF K g = 0) (h19 : rF K 19 = -1) (ha : ∀ g, g ∈ RVA → ∀ i, rA K g i = 0) : RV K := by
  have f : ∀ g, g ≠ 19 → g < 64 → fN K g = 0 := fun g h1 h2 => by unfold fN; rw [h g h1 h2]; rfl
  have z : (0 : Int32).toNatClampNeg = 0 := rfl
  have r : ∀ g, g ∈ RVA → ∀ i, rN K g i = 0 := fun g hg i => by unfold rN; rw [ha g hg i]; rfl
  have e : ∀ g, g ∈ RVA → ∀ i, rA K g i = nI (rN K g i) := fun g hg i => by rw [r g hg, ha g hg]; rfl
  refine ⟨?_, ?_, ?_, ?_, ?_, ?_, ?_, ?_, ?_, ?_, ?_, ?_, ?_, ?_, ?_, ?_⟩
  · unfold P1; rw [f 0 (by decide) (by decide), h 0 (by decide) (by decide)]; exact ⟨rfl, by decide⟩
  · unfold P2; rw [f 3 (by decide) (by decide), h 3 (by decide) (by decide)]; exact ⟨rfl, by decide⟩
  · intro t _; exact ⟨e 2 (by decide) t, by rw [r 2 (by decide)]; omega⟩
  · intro t _ i hi; rw [r 2 (by decide)] at hi; omega
  · intro t _; exact ⟨e 8 (by decide) t, by rw [r 8 (by decide)]; omega⟩
  · intro t _ i hi; rw [r 8 (by decide)] at hi; omega
  · intro t _; exact ⟨e 6 (by decide) t, by rw [r 6 (by decide)]; omega⟩
  · intro t _ i hi; rw [r 6 (by decide)] at hi; omega
  · intro t _; exact ⟨e 20 (by decide) t, by rw [r 20 (by decide)]; omega⟩
  · intro t _; exact ⟨e 23 (by decide) t, by rw [r 23 (by decide)]; omega⟩
  · intro t _ i hi; rw [r 23 (by decide)] at hi; omega
  · intro t _; exact ⟨e 15 (by decide) t, by rw [r 15 (by decide)]; omega⟩
  · intro t _; exact ⟨e 13 (by decide) t, by rw [r 13 (by decide)]; omega⟩
  · exact ⟨none, h19, fun k z => by cases z⟩
  · intro k _
    rw [ha 16 (by decide)]
    exact ⟨fun z => absurd z (by decide), fun z => absurd z (by decide)⟩
  · unfold P16; rw [f 49 (by decide) (by decide), h 49 (by decide) (by decide)]; exact ⟨rfl, by decide⟩
/-- the reference as it comes from its constructor -/
def memK (S : Mem) (m0 : Nat) (ad : Nat → Nat) : RS := (fun g => mI S (640 + g) m0, fun g i => mA S (ad g) i, fun g i => mQ S (ad g) i, fun g => mJ S (640 + g) m0)
theorem memK_mdR {S0 S : Mem} {m0 : Nat} {ad : Nat → Nat} (h : mPz S0 S m0 mTab ad) : mdR S m0 ad (memK S m0 ad) := by
  obtain ⟨h1, h2, h3, h4, h5, h6, h7⟩ := h
  exact ⟨h1, fun q hq => ⟨(h3 q hq).1, (h3 q hq).2.1⟩, h4, fun _ => rfl, fun _ _ _ => rfl, fun _ _ _ => rfl, fun _ => rfl⟩
theorem memK_RV {S0 S1 S : Mem} {m0 : Nat} {ad : Nat → Nat} (e : S1 = sNew S0 m0 10) (h : mPz S1 S m0 mTab ad) (hl : mI S 659 m0 = -1) : RV (memK S m0 ad) := by
  obtain ⟨h1, h2, h3, h4, h5, h6, h7⟩ := h
  refine RV_0 (fun g hg _ => ?_) hl (fun g hg i => ?_)
  · show mI S (640 + g) m0 = 0
    rw [h5 (640 + g) (by omega), e, mI_sNew, if_pos rfl]
  · show mA S (ad g) i = 0
    obtain ⟨q, hq, hq1⟩ := (show ∀ g ∈ RVA, ∃ q ∈ mTab, q.1 = g by decide +kernel) g hg
    rw [← hq1]
    exact (h3 q hq).2.2.2.1 i
theorem lawI_0 {S2 S3 S : Mem} {x co fs m0 : Nat} {ad : Nat → Nat} (iv : INV (fun _ => False) [] S2) (ix : is S2 x 9) (o : mO S2 576 x = some co) (ic : is S2 co 1) (c : mI S2 67 co = 0) (j1 : mO S2 66 co = some fs) (j2 : isA S2 fs 14 12) (j3 : mP S2 fs = fun _ => none) (n : m0 ∉ mL S2) (e : S3 = sNew S2 m0 10) (h : mPz S3 S m0 mTab ad) (hl : mI S 659 m0 = -1) : lawI S x co fs m0 ad (memK S m0 ad) := by
  have x3 := x_sNew e n
  have k := memK_mdR h
  have rv := memK_RV e h hl
  have hx : ext S2 S (fun _ => False) := ext_tr x3 h.2.1 (fun a ha z => n (z ▸ ha))
  have iv4 := inv_add iv k n (fun q hq z => (h.2.2.1 q hq).2.2.1 (x3.1 _ z).1) (fun a ha => by
    rcases h.2.2.2.2.2.2 a ha with z | ⟨q, hq, z⟩
    · rw [e, mL_sNew] at z
      rcases List.mem_append.mp z with z | z
      · exact Or.inl z
      · exact Or.inr (Or.inl (List.mem_singleton.mp z))
    · exact Or.inr (Or.inr ⟨q, hq, z⟩)) hx
  have h3 : rF (memK S m0 ad) 3 = 0 := by
    show mI S 643 m0 = 0
    rw [h.2.2.2.2.1 643 (by decide), e, mI_sNew, if_pos rfl]
  have h30 : fN (memK S m0 ad) 3 = 0 := by unfold fN; rw [h3]; rfl
  refine ⟨iv4, is_ext hx ix, mo_extx hx ix (fun z => z) o, is_ext hx ic, ?_, k, rv, mo_extx hx ic (fun z => z) j1, isA_ext hx j2, ?_⟩
  · rw [mi_extx hx ic (fun z => z) c, h30]; rfl
  · rw [mp_extx hx j2 (fun z => z) j3, h30]
    intro i hi
    exact ⟨fun z => (by cases z), fun z => absurd z (Nat.not_lt_zero i)⟩
theorem bodyP_s {K K' : RS} {v : Int32} (rv : RV K) {x0 : Int32} {x1 : Int32} {x2 : Int32} {x3 : Int32} (h : bodyP K x0 x1 x2 x3 = (v, K')) : RV K' ∧ fN K' 3 = fN K 3 := by
  have h1 := RV_bodyP rv x0 x1 x2 x3
  have h2 : fN (bodyP K x0 x1 x2 x3).2 3 = fN K 3 := by
    unfold bodyP
    cases (below x0 (fN K 0) && below x1 12 && below x2 3 && below x3 4) <;> rfl
  rw [h] at h1 h2
  exact ⟨h1, h2⟩
theorem needP_s {K K' : RS} {v : Int32} (rv : RV K) {x0 : Int32} {x1 : Int32} {x2 : Int32} (h : needP K x0 x1 x2 = (v, K')) : RV K' ∧ fN K' 3 = fN K 3 := by
  have h1 := RV_needP rv x0 x1 x2
  have h2 : fN (needP K x0 x1 x2).2 3 = fN K 3 := by
    unfold needP
    cases (below x0 (fN K 0) && below x1 12 && below x2 4) <;> rfl
  rw [h] at h1 h2
  exact ⟨h1, h2⟩
theorem guardP_s {K K' : RS} {v : Int32} (rv : RV K) {x0 : Int32} {x1 : Int32} {x2 : Int32} (h : guardP K x0 x1 x2 = (v, K')) : RV K' ∧ fN K' 3 = fN K 3 := by
  have h1 := RV_guardP rv x0 x1 x2
  have h2 : fN (guardP K x0 x1 x2).2 3 = fN K 3 := by
    unfold guardP
    cases (below x0 (fN K 0) && below x1 12 && below x2 3) <;> rfl
  rw [h] at h1 h2
  exact ⟨h1, h2⟩
theorem ownP_s {K K' : RS} {v : Int32} (rv : RV K) {x0 : Int32} {x1 : Int32} {x2 : Int32} {x3 : Int32} (h : ownP K x0 x1 x2 x3 = (v, K')) : RV K' ∧ fN K' 3 = fN K 3 := by
  have h1 := RV_ownP rv x0 x1 x2 x3
  have h2 : fN (ownP K x0 x1 x2 x3).2 3 = fN K 3 := by
    unfold ownP
    cases (below x0 (fN K 3) && below x1 12 && below x2 3 && below x3 4) <;> rfl
  rw [h] at h1 h2
  exact ⟨h1, h2⟩
theorem opP_s {K K' : RS} {v : Int32} (rv : RV K) {x0 : Int32} {x1 : Int32} {x2 : Int32} (h : opP K x0 x1 x2 = (v, K')) : RV K' ∧ fN K' 3 = fN K 3 := by
  have h1 := RV_opP rv x0 x1 x2
  have h2 : fN (opP K x0 x1 x2).2 3 = fN K 3 := by
    unfold opP
    cases isOpF x0 x1 x2 with
    | false => rfl
    | true =>
      cases latO K with
      | none => rfl
      | some g =>
        show fN (if rN K 15 g = 8 then (-4, K) else (nI (rN K 15 g + 1), opK K g x0 x1 x2)).2 3 = fN K 3
        split <;> rfl
  rw [h] at h1 h2
  exact ⟨h1, h2⟩
theorem leaveP_s {K K' : RS} {v : Int32} (rv : RV K) {x0 : Int32} {x1 : Int32} {x2 : Int32} (h : leaveP K x0 x1 x2 = (v, K')) : RV K' ∧ fN K' 3 = fN K 3 := by
  have h1 := RV_leaveP rv x0 x1 x2
  have h2 : fN (leaveP K x0 x1 x2).2 3 = fN K 3 := by
    unfold leaveP
    cases (below x0 (fN K 3) && below x1 (fN K 0) && below x2 12) with
    | false => rfl
    | true =>
      cases leavesF K x0.toNatClampNeg x1.toNatClampNeg x2.toNatClampNeg with
      | true => rfl
      | false =>
        simp only [cond_true, cond_false]
        split <;> rfl
  rw [h] at h1 h2
  exact ⟨h1, h2⟩
theorem renameP_s {K K' : RS} {v : Int32} (rv : RV K) {x0 : Int32} {x1 : Int32} {x2 : Int32} {x3 : Int32} (h : renameP K x0 x1 x2 x3 = (v, K')) : RV K' ∧ fN K' 3 = fN K 3 := by
  have h1 := RV_renameP rv x0 x1 x2 x3
  have h2 : fN (renameP K x0 x1 x2 x3).2 3 = fN K 3 := by
    unfold renameP
    cases (below x0 (fN K 3) && below x1 (fN K 0) && below x2 12 && below x3 12 && !decide (x2 = x3)) with
    | false => rfl
    | true =>
      cases ((renamedF K x0.toNatClampNeg x1.toNatClampNeg x2.toNatClampNeg).isSome || (namedF K x0.toNatClampNeg x1.toNatClampNeg x3.toNatClampNeg).isSome) with
      | true => rfl
      | false =>
        simp only [cond_true, cond_false]
        split <;> rfl
  rw [h] at h1 h2
  exact ⟨h1, h2⟩
theorem preferP_s {K K' : RS} {v : Int32} (rv : RV K) {x0 : Int32} {x1 : Int32} {x2 : Int32} (h : preferP K x0 x1 x2 = (v, K')) : RV K' ∧ fN K' 3 = fN K 3 := by
  have h1 := RV_preferP rv x0 x1 x2
  have h2 : fN (preferP K x0 x1 x2).2 3 = fN K 3 := by
    unfold preferP
    cases (below x0 (fN K 3) && below x1 12 && (decide (x2 = -1) || below x2 (fN K 0))) <;> rfl
  rw [h] at h1 h2
  exact ⟨h1, h2⟩
theorem setMoodP_s {K K' : RS} {v : Int32} (rv : RV K) {x0 : Int32} {x1 : Int32} {x2 : Int64} (h : setMoodP K x0 x1 x2 = (v, K')) : RV K' ∧ fN K' 3 = fN K 3 := by
  have h1 := RV_setMoodP rv x0 x1 x2
  have h2 : fN (setMoodP K x0 x1 x2).2 3 = fN K 3 := by
    unfold setMoodP
    cases (below x0 (fN K 3) && below x1 4) <;> rfl
  rw [h] at h1 h2
  exact ⟨h1, h2⟩
