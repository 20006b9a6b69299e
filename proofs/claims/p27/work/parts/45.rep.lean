/-! WHAT STAYS: as chg, but said only of the cells in Z -/
def chx (Z : Nat → Prop) (S S' : Mem) (AR PR : List Nat) (FI FO : List (Nat × Nat)) : Prop := (∀ a, a ∈ mL S → a ∈ mL S' ∧ mK S' a = mK S a ∧ mN S' a = mN S a) ∧ (∀ a, a ∈ mL S → Z a → a ∉ AR → mA S' a = mA S a) ∧ (∀ a, a ∈ mL S → Z a → a ∉ PR → mP S' a = mP S a) ∧ (∀ a, a ∈ mL S → Z a → ∀ g, (g, a) ∉ FI → mI S' g a = mI S g a) ∧ ∀ a, a ∈ mL S → Z a → ∀ g, (g, a) ∉ FO → mO S' g a = mO S g a
theorem chx_chg {S S' : Mem} {AR PR : List Nat} {FI FO : List (Nat × Nat)} (c : chg S S' AR PR FI FO) : chx (fun _ => True) S S' AR PR FI FO := ⟨c.1, fun a h _ n => c.2.1 a h n, fun a h _ n => c.2.2.1 a h n, fun a h _ g n => c.2.2.2.1 a h g n, fun a h _ g n => c.2.2.2.2.1 a h g n⟩
theorem chx_ext {S S' : Mem} {X : Nat → Prop} (x : ext S S' X) : chx (fun a => ¬ X a) S S' [] [] [] [] := ⟨x.1, fun a h z _ => funext (fun i => (x.2 a h z).2.2.2.1 i), fun a h z _ => funext (fun i => (x.2 a h z).2.2.2.2.1 i), fun a h z g _ => (x.2 a h z).1 g, fun a h z g _ => (x.2 a h z).2.1 g⟩
/-- the codes of the class's cells: the company's, the traits', the characters' -/
def uC (T C i : Nat) : Prop := i < 12 ∨ (100 ≤ i ∧ i < 6 * T + 100) ∨ (300 ≤ i ∧ i < 10 * C + 300)
def injW (W : Nat → Nat) (T C : Nat) : Prop := ∀ i j, uC T C i → uC T C j → W i = W j → i = j
def wP (W : Nat → Nat) (q : Nat × Nat) : Nat × Nat := (q.1, W q.2)
def tch (W : Nat → Nat) (x T C : Nat) (Z : Nat → Prop) (S S' : Mem) (AR PR : List Nat) (FI : List (Nat × Nat)) (PI L : List Nat) : Prop := chx Z S S' (AR.map W) (PR.map W) (FI.map (wP W) ++ PI.map (Prod.mk 328)) (L.map (fun g => (g, x))) ∧ (∀ i, uC T C i → Z (W i)) ∧ injW W T C ∧ (∀ j ∈ AR, uC T C j) ∧ (∀ j ∈ PR, uC T C j) ∧ (∀ q ∈ FI, q.1 < 320 ∧ uC T C q.2) ∧ (∀ g ∈ L, g = 578) ∧ Z x
theorem nin_map {W : Nat → Nat} {T C i : Nat} {l : List Nat} (hj : injW W T C) (hl : ∀ j ∈ l, uC T C j) (hi : uC T C i) (h : i ∉ l) : W i ∉ l.map W := fun z => by
  obtain ⟨j, h1, h2⟩ := List.mem_map.mp z
  exact h (hj j i (hl j h1) hi h2 ▸ h1)
theorem nin_mapI {W : Nat → Nat} {T C i g : Nat} {l : List (Nat × Nat)} {P : List Nat} (hj : injW W T C) (hl : ∀ q ∈ l, q.1 < 320 ∧ uC T C q.2) (hi : uC T C i) (hg : g < 320) (h : (g, i) ∉ l) : (g, W i) ∉ l.map (wP W) ++ P.map (Prod.mk 328) := fun z => by
  rcases List.mem_append.mp z with z | z
  · obtain ⟨q, h1, h2⟩ := List.mem_map.mp z
    obtain ⟨q1, q2⟩ := q
    have e1 : q1 = g := congrArg Prod.fst h2
    have e2 : q2 = i := hj q2 i (hl _ h1).2 hi (congrArg Prod.snd h2)
    rw [e1, e2] at h1
    exact h h1
  · obtain ⟨q, h1, h2⟩ := List.mem_map.mp z
    have e1 : 328 = g := congrArg Prod.fst h2
    omega
theorem tch_is {W : Nat → Nat} {x T C a k : Nat} {Z : Nat → Prop} {S S' : Mem} {AR PR : List Nat} {FI : List (Nat × Nat)} {PI L : List Nat} (h : tch W x T C Z S S' AR PR FI PI L) (i : is S a k) : is S' a k := ⟨(h.1.1 a i.1).1, (h.1.1 a i.1).2.1.trans i.2⟩
theorem tch_isA {W : Nat → Nat} {x T C a k n : Nat} {Z : Nat → Prop} {S S' : Mem} {AR PR : List Nat} {FI : List (Nat × Nat)} {PI L : List Nat} (h : tch W x T C Z S S' AR PR FI PI L) (i : isA S a k n) : isA S' a k n := ⟨(h.1.1 a i.1).1, (h.1.1 a i.1).2.1.trans i.2.1, (h.1.1 a i.1).2.2.trans i.2.2⟩
theorem tch_ma {W : Nat → Nat} {x T C i k n : Nat} {Z : Nat → Prop} {S S' : Mem} {AR PR : List Nat} {FI : List (Nat × Nat)} {PI L : List Nat} (h : tch W x T C Z S S' AR PR FI PI L) (q : isA S (W i) k n) (u : uC T C i) (m : i ∉ AR) : mA S' (W i) = mA S (W i) := h.1.2.1 _ q.1 (h.2.1 i u) (nin_map h.2.2.1 h.2.2.2.1 u m)
theorem tch_mp {W : Nat → Nat} {x T C i k n : Nat} {Z : Nat → Prop} {S S' : Mem} {AR PR : List Nat} {FI : List (Nat × Nat)} {PI L : List Nat} (h : tch W x T C Z S S' AR PR FI PI L) (q : isA S (W i) k n) (u : uC T C i) (m : i ∉ PR) : mP S' (W i) = mP S (W i) := h.1.2.2.1 _ q.1 (h.2.1 i u) (nin_map h.2.2.1 h.2.2.2.2.1 u m)
theorem tch_mi {W : Nat → Nat} {x T C i k g : Nat} {Z : Nat → Prop} {S S' : Mem} {AR PR : List Nat} {FI : List (Nat × Nat)} {PI L : List Nat} {v : Int32} (h : tch W x T C Z S S' AR PR FI PI L) (q : is S (W i) k) (u : uC T C i) (hg : g < 320) (m : (g, i) ∉ FI) (e : mI S g (W i) = v) : mI S' g (W i) = v := (h.1.2.2.2.1 _ q.1 (h.2.1 i u) g (nin_mapI h.2.2.1 h.2.2.2.2.2.1 u hg m)).trans e
theorem tch_mo {W : Nat → Nat} {x T C i k g : Nat} {Z : Nat → Prop} {S S' : Mem} {AR PR : List Nat} {FI : List (Nat × Nat)} {PI L : List Nat} {v : Option Nat} (h : tch W x T C Z S S' AR PR FI PI L) (q : is S (W i) k) (u : uC T C i) (hg : g ≠ 578) (e : mO S g (W i) = v) : mO S' g (W i) = v := (h.1.2.2.2.2 _ q.1 (h.2.1 i u) g (fun z => by
  obtain ⟨j, h1, h2⟩ := List.mem_map.mp z
  exact hg ((congrArg Prod.fst h2).symm.trans (h.2.2.2.2.2.2.1 j h1)))).trans e
theorem tch_mox {W : Nat → Nat} {x T C k g : Nat} {Z : Nat → Prop} {S S' : Mem} {AR PR : List Nat} {FI : List (Nat × Nat)} {PI L : List Nat} {v : Option Nat} (h : tch W x T C Z S S' AR PR FI PI L) (q : is S x k) (hg : g ∉ L) (e : mO S g x = v) : mO S' g x = v := (h.1.2.2.2.2 _ q.1 h.2.2.2.2.2.2.2 g (fun z => by
  obtain ⟨j, h1, h2⟩ := List.mem_map.mp z
  have e1 : j = g := congrArg Prod.fst h2
  exact hg (e1 ▸ h1))).trans e
theorem tch_ln {W : Nat → Nat} {x T C i j k : Nat} {Z : Nat → Prop} {S S' : Mem} {AR PR : List Nat} {FI : List (Nat × Nat)} {PI L : List Nat} {N : List Nat} (h : tch W x T C Z S S' AR PR FI PI L) (l : lnV S (W i) (W j) (W k) N) (u : uC T C i ∧ uC T C j ∧ uC T C k) (m : (194, i) ∉ FI ∧ j ∉ AR ∧ k ∉ AR) : lnV S' (W i) (W j) (W k) N := by
  obtain ⟨h1, h2, h3, h4, h5, h6, h7, h8, h9, h10, h11⟩ := l
  refine ⟨tch_is h h1, tch_mo h h1 u.1 (by decide) h2, tch_mo h h1 u.1 (by decide) h3, tch_isA h h4, tch_isA h h5, h6, tch_mi h h1 u.1 (by decide) m.1 h7, h8, h9, fun i x hx => ?_, fun x hx hn => ?_⟩
  · rw [tch_ma h h4 u.2.1 m.2.1, tch_ma h h5 u.2.2 m.2.2]; exact h10 i x hx
  · rw [tch_ma h h5 u.2.2 m.2.2]; exact h11 x hx hn
/-! THE CLASS'S MEMORY REPRESENTS THE REFERENCE'S STATE -/
def aA (W : Nat → Nat) : CA := fun i t => if i = 0 then W 1 else if i = 1 then W 3 else W (6 * t + 98 + i)
def xA (W : Nat → Nat) : MA := fun i => W (4 + i)
def flist (K : RS) (c : Nat) : List Nat := (List.range (rN K 8 c)).map (fun i => rN K 7 (20 * c + i))
def bR1 (S : Mem) (W : Nat → Nat) (pt : Nat → Option Nat) (t : Nat) : Prop := mO S 513 (W (6 * t + 100)) = some (W (6 * t + 104)) ∧ mO S 514 (W (6 * t + 100)) = some (W (6 * t + 105)) ∧ isA S (W (6 * t + 104)) 16 12 ∧ isA S (W (6 * t + 105)) 16 12 ∧ ∀ n, n < 12 → mP S (W (6 * t + 104)) n = pt (12 * t + n) ∧ mP S (W (6 * t + 105)) n = pt (240 + 12 * t + n)
def fA0 (S : Mem) (W : Nat → Nat) (C : Nat) : Prop := mO S 66 (W 0) = some (W 2) ∧ isA S (W 2) 14 12 ∧ mI S 67 (W 0) = nI C ∧ C ≤ 12 ∧ ∀ i, i < 12 → mP S (W 2) i = if i < C then some (W (10 * i + 300)) else none
def fA1 (S : Mem) (W : Nat → Nat) (c : Nat) : Prop := is S (W (10 * c + 300)) 2 ∧ mO S 130 (W (10 * c + 300)) = some (W (10 * c + 301)) ∧ mO S 131 (W (10 * c + 300)) = some (W (10 * c + 304)) ∧ isA S (W (10 * c + 304)) 11 5 ∧ mO S 133 (W (10 * c + 300)) = some (W (10 * c + 305)) ∧ isA S (W (10 * c + 305)) 16 12 ∧ mO S 134 (W (10 * c + 300)) = some (W (10 * c + 306)) ∧ isA S (W (10 * c + 306)) 13 240 ∧ mO S 136 (W (10 * c + 300)) = some (W (10 * c + 307)) ∧ isA S (W (10 * c + 307)) 11 240 ∧ mO S 137 (W (10 * c + 300)) = some (W (10 * c + 308)) ∧ isA S (W (10 * c + 308)) 11 240 ∧ mO S 139 (W (10 * c + 300)) = some (W (10 * c + 309)) ∧ isA S (W (10 * c + 309)) 11 12
def fL1 (S : Mem) (W : Nat → Nat) (K : RS) (c : Nat) : Prop := lnV S (W (10 * c + 301)) (W (10 * c + 302)) (W (10 * c + 303)) (flist K c)
def fT1 (S : Mem) (W : Nat → Nat) (K : RS) (c : Nat) : Prop := mI S 132 (W (10 * c + 300)) = nI (rN K 6 c) ∧ ∀ i, i < rN K 6 c → mA S (W (10 * c + 304)) i = rA K 5 (5 * c + i)
def fB1 (S : Mem) (W : Nat → Nat) (pt : Nat → Option Nat) (c : Nat) : Prop := ∀ n, n < 12 → mP S (W (10 * c + 305)) n = pt (480 + 12 * c + n)
def fQ1 (S : Mem) (W : Nat → Nat) (K : RS) (c : Nat) : Prop := mI S 135 (W (10 * c + 300)) = nI (rN K 20 c) ∧ ∀ t n, t < 20 → n < 12 → mA S (W (10 * c + 306)) (12 * t + n) = bI (leavesF K c t n)
def fN1 (S : Mem) (W : Nat → Nat) (K : RS) (c : Nat) : Prop := mI S 138 (W (10 * c + 300)) = nI (rN K 23 c) ∧ ∀ t n, t < 20 → n < 12 → mA S (W (10 * c + 307)) (12 * t + n) = oI (renamedF K c t n) ∧ mA S (W (10 * c + 308)) (12 * t + n) = oI (namedF K c t n)
def fP1 (S : Mem) (W : Nat → Nat) (K : RS) (c : Nat) : Prop := ∀ n, n < 12 → mA S (W (10 * c + 309)) n = rA K 27 (12 * c + n)
def gvI (k : Nat) : Int32 := if k < 240 then nI (k / 12) else -1
def prtV (S : Mem) (a k : Nat) (K : RS) : Prop := is S a 5 ∧ mI S 328 a = nI (rN K 15 k) ∧ (k < 240 ∨ 480 ≤ k → mI S 320 a = gvI k ∧ mI S 322 a = rA K 12 k ∧ mI S 323 a = rA K 13 k ∧ mI S 324 a = rA K 11 k)
def prtS (S : Mem) (pt : Nat → Option Nat) (K : RS) : Prop := (∀ k, k < 624 → ((pt k).isSome = true ↔ ¬ rA K 10 k = 0)) ∧ (∀ k a, k < 624 → pt k = some a → prtV S a k K) ∧ ∀ k k' a, k < 624 → k' < 624 → pt k = some a → pt k' = some a → k = k'
def latS (S : Mem) (x : Nat) (pt : Nat → Option Nat) (K : RS) : Prop := mO S 578 x = (latO K).bind pt ∧ ∀ g, latO K = some g → (pt g).isSome = true
/-- of what isn't there yet, the reference holds nothing -/
def offK (K : RS) : Prop := (∀ t n, fN K 0 ≤ t → t < 20 → n < 12 → rA K 10 (12 * t + n) = 0 ∧ rA K 10 (240 + 12 * t + n) = 0) ∧ (∀ c n, fN K 3 ≤ c → c < 12 → n < 12 → rA K 10 (480 + 12 * c + n) = 0) ∧ (∀ c, fN K 3 ≤ c → c < 12 → rN K 6 c = 0 ∧ rN K 8 c = 0 ∧ rN K 20 c = 0 ∧ rN K 23 c = 0) ∧ ∀ c i j, c < 12 → i < j → j < rN K 6 c → rN K 5 (5 * c + i) ≠ rN K 5 (5 * c + j)
def all1 (f : Nat → Prop) (n : Nat) : Prop := ∀ c, c < n → f c
/-- the class's figures -/
def figs (S : Mem) (W : Nat → Nat) (pt : Nat → Option Nat) (K : RS) (C : Nat) : Prop := fA0 S W C ∧ all1 (fA1 S W) C ∧ all1 (fL1 S W K) C ∧ all1 (fT1 S W K) C ∧ all1 (fB1 S W pt) C ∧ all1 (fQ1 S W K) C ∧ all1 (fN1 S W K) C ∧ all1 (fP1 S W K) C
def rep (S : Mem) (x : Nat) (M : Nat → Prop) (W : Nat → Nat) (pt : Nat → Option Nat) (K : RS) : Prop := (is S x 9 ∧ mO S 576 x = some (W 0)) ∧ injW W (fN K 0) (fN K 3) ∧ (∀ i, uC (fN K 0) (fN K 3) i → ¬ M (W i)) ∧ trS S (W 0) (fN K 0) (aA W) (tlist K) ∧ mgZ S (W 3) (xA W) ∧ all1 (bR1 S W pt) (fN K 0) ∧ figs S W pt K (fN K 3) ∧ prtS S pt K ∧ latS S x pt K ∧ offK K
