/-! WHAT THE REFERENCE ANSWERS, as functions of its state -/
/-- the first from k on, of f -/
def sc (p : Nat → Bool) : Nat → Nat → Option Nat
  | 0, _ => none
  | f + 1, k => bif p k then some k else sc p f (k + 1)
theorem sc_hit {p : Nat → Bool} {n i : Nat} (h : i < n) (hp : p i = true) : sc p (n - i) i = some i := by
  obtain ⟨f, hf⟩ : ∃ f, n - i = f + 1 := ⟨n - i - 1, by omega⟩
  rw [hf, sc, hp]; rfl
theorem sc_step {p : Nat → Bool} {n i : Nat} (h : i < n) (hp : p i = false) : sc p (n - i) i = sc p (n - (i + 1)) (i + 1) := by
  obtain ⟨f, hf⟩ : ∃ f, n - i = f + 1 := ⟨n - i - 1, by omega⟩
  rw [hf, sc, hp, show n - (i + 1) = f by omega]; rfl
theorem sc_end {p : Nat → Bool} {n i : Nat} (h : n ≤ i) : sc p (n - i) i = none := by
  rw [show n - i = 0 by omega, sc]
theorem sc_some {p : Nat → Bool} : ∀ {f k j : Nat}, sc p f k = some j → k ≤ j ∧ j < k + f ∧ p j = true ∧ ∀ i, k ≤ i → i < j → p i = false := by
  intro f
  induction f with
  | zero => intro k j h; cases h
  | succ f ih =>
    intro k j h
    rw [sc] at h
    cases hp : p k with
    | true => rw [hp] at h; cases h; exact ⟨Nat.le_refl _, by omega, hp, fun i h1 h2 => by omega⟩
    | false =>
      rw [hp] at h
      obtain ⟨h1, h2, h3, h4⟩ := ih h
      refine ⟨by omega, by omega, h3, fun i g1 g2 => ?_⟩
      by_cases hi : i = k
      · rw [hi]; exact hp
      · exact h4 i (by omega) g2
theorem sc_none {p : Nat → Bool} : ∀ {f k : Nat}, sc p f k = none → ∀ i, k ≤ i → i < k + f → p i = false := by
  intro f
  induction f with
  | zero => intro k h i h1 h2; omega
  | succ f ih =>
    intro k h i h1 h2
    rw [sc] at h
    cases hp : p k with
    | true => rw [hp] at h; cases h
    | false =>
      rw [hp] at h
      by_cases hi : i = k
      · rw [hi]; exact hp
      · exact ih h i (by omega) (by omega)
theorem sc_eq_some {p : Nat → Bool} {f k j : Nat} (h1 : k ≤ j) (h2 : j < k + f) (h3 : p j = true) (h4 : ∀ i, k ≤ i → i < j → p i = false) : sc p f k = some j := by
  cases h : sc p f k with
  | none => rw [sc_none h j h1 h2] at h3; cases h3
  | some i =>
    obtain ⟨g1, g2, g3, g4⟩ := sc_some h
    rcases Nat.lt_trichotomy i j with z | z | z
    · rw [h4 i g1 z] at g3; cases g3
    · rw [z]
    · rw [g4 j h1 z] at h3; cases h3
theorem sc_eq_none {p : Nat → Bool} {f k : Nat} (h : ∀ i, k ≤ i → i < k + f → p i = false) : sc p f k = none := by
  cases e : sc p f k with
  | none => rfl
  | some j => obtain ⟨g1, g2, g3, g4⟩ := sc_some e; rw [h j g1 g2] at g3; cases g3
/-- how many of f from k on -/
def cn (p : Nat → Bool) : Nat → Nat → Nat
  | 0, _ => 0
  | f + 1, k => (bif p k then 1 else 0) + cn p f (k + 1)
theorem cn_step {p : Nat → Bool} {n i : Nat} (h : i < n) : cn p (n - i) i = (bif p i then 1 else 0) + cn p (n - (i + 1)) (i + 1) := by
  obtain ⟨f, hf⟩ : ∃ f, n - i = f + 1 := ⟨n - i - 1, by omega⟩
  rw [hf, cn, show n - (i + 1) = f by omega]
theorem cn_end {p : Nat → Bool} {n i : Nat} (h : n ≤ i) : cn p (n - i) i = 0 := by
  rw [show n - i = 0 by omega, cn]
theorem cn_le {p : Nat → Bool} : ∀ f k, cn p f k ≤ f := by
  intro f
  induction f with
  | zero => intro k; exact Nat.le_refl _
  | succ f ih => intro k; rw [cn]; have := ih (k + 1); cases p k <;> simp <;> omega
/-- the l-th (from 0) of f from k on -/
def nth (p : Nat → Bool) : Nat → Nat → Nat → Option Nat
  | 0, _, _ => none
  | f + 1, k, 0 => bif p k then some k else nth p f (k + 1) 0
  | f + 1, k, l + 1 => bif p k then nth p f (k + 1) l else nth p f (k + 1) (l + 1)
theorem nth_hit {p : Nat → Bool} {n i : Nat} (h : i < n) (hp : p i = true) : nth p (n - i) i 0 = some i := by
  obtain ⟨f, hf⟩ : ∃ f, n - i = f + 1 := ⟨n - i - 1, by omega⟩
  rw [hf, nth, hp]; rfl
theorem nth_pass {p : Nat → Bool} {n i l : Nat} (h : i < n) (hp : p i = true) (hl : 0 < l) : nth p (n - i) i l = nth p (n - (i + 1)) (i + 1) (l - 1) := by
  obtain ⟨f, hf⟩ : ∃ f, n - i = f + 1 := ⟨n - i - 1, by omega⟩
  obtain ⟨l', rfl⟩ : ∃ l', l = l' + 1 := ⟨l - 1, by omega⟩
  rw [hf, nth, hp, show n - (i + 1) = f by omega]; rfl
theorem nth_step {p : Nat → Bool} {n i l : Nat} (h : i < n) (hp : p i = false) : nth p (n - i) i l = nth p (n - (i + 1)) (i + 1) l := by
  obtain ⟨f, hf⟩ : ∃ f, n - i = f + 1 := ⟨n - i - 1, by omega⟩
  rw [hf, show n - (i + 1) = f by omega]
  cases l <;> (rw [nth, hp]; rfl)
theorem nth_end {p : Nat → Bool} {n i l : Nat} (h : n ≤ i) : nth p (n - i) i l = none := by
  rw [show n - i = 0 by omega, nth]
theorem nth_some {p : Nat → Bool} : ∀ {f k l j : Nat}, nth p f k l = some j → k + l ≤ j ∧ j < k + f ∧ p j = true := by
  intro f
  induction f with
  | zero => intro k l j h; cases h
  | succ f ih =>
    intro k l j h
    cases hp : p k with
    | true =>
      cases l with
      | zero => rw [nth, hp] at h; cases h; exact ⟨Nat.le_refl _, by omega, hp⟩
      | succ l => rw [nth, hp] at h; obtain ⟨a, b, c⟩ := ih h; exact ⟨by omega, by omega, c⟩
    | false =>
      cases l with
      | zero => rw [nth, hp] at h; obtain ⟨a, b, c⟩ := ih h; exact ⟨by omega, by omega, c⟩
      | succ l => rw [nth, hp] at h; obtain ⟨a, b, c⟩ := ih h; exact ⟨by omega, by omega, c⟩
def lvP (K : RS) (c t n i : Nat) : Bool := decide (rA K 21 (8 * c + i) = nI t) && decide (rA K 22 (8 * c + i) = nI n)
def leavesF (K : RS) (c t n : Nat) : Bool := (sc (lvP K c t n) (rN K 20 c) 0).isSome
def rnP (K : RS) (c t n i : Nat) : Bool := decide (rA K 24 (8 * c + i) = nI t) && decide (rA K 25 (8 * c + i) = nI n)
def nmP (K : RS) (c t n i : Nat) : Bool := decide (rA K 24 (8 * c + i) = nI t) && decide (rA K 26 (8 * c + i) = nI n)
def piP (K : RS) (c : Nat) (t : Int32) (i : Nat) : Bool := decide (rA K 7 (20 * c + i) = t)
def stP (K : RS) (t u i : Nat) : Bool := decide (rA K 1 (20 * t + i) = nI u)
def renamedF (K : RS) (c t n : Nat) : Option Nat := (sc (rnP K c t n) (rN K 23 c) 0).map (fun i => rN K 26 (8 * c + i))
def namedF (K : RS) (c t n : Nat) : Option Nat := (sc (nmP K c t n) (rN K 23 c) 0).map (fun i => rN K 25 (8 * c + i))
def placeInF (K : RS) (c : Nat) (t : Int32) : Nat := match sc (piP K c t) (rN K 8 c) 0 with
  | some i => i + 1
  | none => 0
/-- of which act a trait's body would be offered -/
def srcF (K : RS) (c t n : Nat) : Option Nat := match namedF K c t n with
  | some q => some q
  | none => bif leavesF K c t n || (renamedF K c t n).isSome then none else some n
def offersF (K : RS) (c p n : Nat) : Option Nat := match p with
  | 0 => if rA K 10 (480 + 12 * c + n) = 0 then none else some (480 + 12 * c + n)
  | p + 1 => match srcF K c (rN K 7 (20 * c + p)) n with
    | none => none
    | some q => if rA K 10 (12 * rN K 7 (20 * c + p) + q) = 0 then none else some (12 * rN K 7 (20 * c + p) + q)
/-- offers what is no need -/
def offP (K : RS) (c p n : Nat) : Bool := match offersF K c p n with
  | some k => decide (rA K 11 k = 0)
  | none => false
def offQ (K : RS) (c n p : Nat) : Bool := offP K c p n
def firstF (K : RS) (c p n : Nat) : Option Nat := sc (offQ K c n) (rN K 8 c + 1 - p) p
def prefF (K : RS) (c n : Nat) : Nat := if rA K 27 (12 * c + n) = -1 then 0 else placeInF K c (rA K 27 (12 * c + n))
def chooseF (K : RS) (c n : Nat) : Option Nat :=
  bif (offersF K c 0 n).isSome then some 0 else bif decide (0 < prefF K c n) && offP K c (prefF K c n) n then some (prefF K c n) else firstF K c 1 n
def standsF (K : RS) (t u : Nat) : Bool := (sc (stP K t u) (rN K 2 t) 0).isSome
def byLineF (K : RS) (c n p : Nat) : Bool := bif decide (p = 0) then false else !(decide (0 < prefF K c n) && offP K c (prefF K c n) n)
def wideF (K : RS) (c n k : Nat) (q : Nat) : Bool := match offersF K c q n with
  | some j => decide (rN K 13 k < rN K 13 j)
  | none => false
def rivF (K : RS) (c n p q : Nat) : Bool := offP K c q n && !standsF K (rN K 7 (20 * c + p - 1)) (rN K 7 (20 * c + q - 1))
def clashF (K : RS) (c n : Nat) : Nat := match chooseF K c n with
  | none => 0
  | some p => bif byLineF K c n p && (sc (rivF K c n p) (rN K 8 c + 1 - (p + 1)) (p + 1)).isSome then 1
    else match offersF K c p n with
      | none => 0
      | some k => bif (sc (wideF K c n k) (rN K 8 c + 1) 0).isSome then 2 else 0
def tellsF (K : RS) (c p : Nat) : Nat := match p with
  | 0 => 100
  | p + 1 => rN K 7 (20 * c + p)
def anyF (K : RS) (c n q : Nat) : Bool := (offersF K c q n).isSome
def chosenF (K : RS) (c n : Nat) : Int32 := match chooseF K c n with
  | some p => nI (tellsF K c p)
  | none => bif (sc (anyF K c n) (rN K 8 c + 1 - 1) 1).isSome then -5 else -6
def givesF (K : RS) (c n r q : Nat) : Bool := match offersF K c q n with
  | some j => decide (rN K 13 j = r)
  | none => false
def resF (K : RS) (c n r : Nat) : Bool := (sc (givesF K c n r) (rN K 8 c + 1) 0).isSome
def bridgesF (K : RS) (c n k : Nat) : Nat := cn (resF K c n) (rN K 13 k) 0
def hasG (K : RS) (c n p : Nat) : Bool := !decide (rA K 10 (240 + 12 * rN K 7 (20 * c + p - 1) + n) = 0)
def guardF (K : RS) (c n i : Nat) : Option Nat := nth (hasG K c n) (rN K 8 c + 1 - 1) 1 i
/-- what always holds of it -/
def P1 (K : RS) : Prop := rF K 0 = nI (fN K 0) ∧ fN K 0 ≤ 20
def P2 (K : RS) : Prop := rF K 3 = nI (fN K 3) ∧ fN K 3 ≤ 12
def P3 (K : RS) : Prop := ∀ t, t < 20 → rA K 2 t = nI (rN K 2 t) ∧ rN K 2 t ≤ 20
def P4 (K : RS) : Prop := ∀ t, t < 20 → ∀ i, i < rN K 2 t → rA K 1 (20 * t + i) = nI (rN K 1 (20 * t + i)) ∧ rN K 1 (20 * t + i) < fN K 0
def P5 (K : RS) : Prop := ∀ c, c < 12 → rA K 8 c = nI (rN K 8 c) ∧ rN K 8 c ≤ 20
def P6 (K : RS) : Prop := ∀ c, c < 12 → ∀ i, i < rN K 8 c → rA K 7 (20 * c + i) = nI (rN K 7 (20 * c + i)) ∧ rN K 7 (20 * c + i) < fN K 0
def P7 (K : RS) : Prop := ∀ c, c < 12 → rA K 6 c = nI (rN K 6 c) ∧ rN K 6 c ≤ 5
def P8 (K : RS) : Prop := ∀ c, c < 12 → ∀ i, i < rN K 6 c → rA K 5 (5 * c + i) = nI (rN K 5 (5 * c + i)) ∧ rN K 5 (5 * c + i) < fN K 0
def P9 (K : RS) : Prop := ∀ c, c < 12 → rA K 20 c = nI (rN K 20 c) ∧ rN K 20 c ≤ 8
def P10 (K : RS) : Prop := ∀ c, c < 12 → rA K 23 c = nI (rN K 23 c) ∧ rN K 23 c ≤ 8
def P11 (K : RS) : Prop := ∀ c, c < 12 → ∀ i, i < rN K 23 c → (rA K 25 (8 * c + i) = nI (rN K 25 (8 * c + i)) ∧ rN K 25 (8 * c + i) < 12) ∧ rA K 26 (8 * c + i) = nI (rN K 26 (8 * c + i)) ∧ rN K 26 (8 * c + i) < 12
def P12 (K : RS) : Prop := ∀ k, k < 624 → rA K 15 k = nI (rN K 15 k) ∧ rN K 15 k ≤ 8
def P13 (K : RS) : Prop := ∀ k, k < 624 → rA K 13 k = nI (rN K 13 k) ∧ rN K 13 k < 4
def P14 (K : RS) : Prop := ∃ o : Option Nat, rF K 19 = oI o ∧ ∀ k, o = some k → k < 624
def P15 (K : RS) : Prop := ∀ k, k < 4992 → ((rA K 16 k = 5 ∨ rA K 16 k = 10) → ∃ j, j < 12 ∧ rA K 17 k = nI j) ∧ (rA K 16 k = 8 → ∃ j, j < 12 ∧ rA K 18 k = nI j)
def P16 (K : RS) : Prop := rF K 49 = nI (fN K 49) ∧ fN K 49 ≤ 200
def RV (K : RS) : Prop := P1 K ∧ P2 K ∧ P3 K ∧ P4 K ∧ P5 K ∧ P6 K ∧ P7 K ∧ P8 K ∧ P9 K ∧ P10 K ∧ P11 K ∧ P12 K ∧ P13 K ∧ P14 K ∧ P15 K ∧ P16 K
theorem RV.p1 {K : RS} (h : RV K) : P1 K := h.1
theorem RV.p2 {K : RS} (h : RV K) : P2 K := h.2.1
theorem RV.p3 {K : RS} (h : RV K) : P3 K := h.2.2.1
theorem RV.p4 {K : RS} (h : RV K) : P4 K := h.2.2.2.1
theorem RV.p5 {K : RS} (h : RV K) : P5 K := h.2.2.2.2.1
theorem RV.p6 {K : RS} (h : RV K) : P6 K := h.2.2.2.2.2.1
theorem RV.p7 {K : RS} (h : RV K) : P7 K := h.2.2.2.2.2.2.1
theorem RV.p8 {K : RS} (h : RV K) : P8 K := h.2.2.2.2.2.2.2.1
theorem RV.p9 {K : RS} (h : RV K) : P9 K := h.2.2.2.2.2.2.2.2.1
theorem RV.p10 {K : RS} (h : RV K) : P10 K := h.2.2.2.2.2.2.2.2.2.1
theorem RV.p11 {K : RS} (h : RV K) : P11 K := h.2.2.2.2.2.2.2.2.2.2.1
theorem RV.p12 {K : RS} (h : RV K) : P12 K := h.2.2.2.2.2.2.2.2.2.2.2.1
theorem RV.p13 {K : RS} (h : RV K) : P13 K := h.2.2.2.2.2.2.2.2.2.2.2.2.1
theorem RV.p14 {K : RS} (h : RV K) : P14 K := h.2.2.2.2.2.2.2.2.2.2.2.2.2.1
theorem RV.p15 {K : RS} (h : RV K) : P15 K := h.2.2.2.2.2.2.2.2.2.2.2.2.2.2.1
theorem RV.p16 {K : RS} (h : RV K) : P16 K := h.2.2.2.2.2.2.2.2.2.2.2.2.2.2.2
theorem line_p {K : RS} (h : RV K) {c p : Nat} (hc : c < 12) (h1 : 1 ≤ p) (h2 : p ≤ rN K 8 c) : rA K 7 (20 * c + p - 1) = nI (rN K 7 (20 * c + p - 1)) ∧ rN K 7 (20 * c + p - 1) < fN K 0 := by
  obtain ⟨q, rfl⟩ : ∃ q, p = q + 1 := ⟨p - 1, by omega⟩
  exact h.p6 c hc q (by omega)
theorem offP_some {K : RS} {c p n : Nat} (h : offP K c p n = true) : ∃ k, offersF K c p n = some k ∧ rA K 11 k = 0 := by
  unfold offP at h
  cases e : offersF K c p n with
  | none => rw [e] at h; cases h
  | some k => rw [e] at h; exact ⟨k, rfl, of_decide_eq_true h⟩
theorem firstF_some {K : RS} {c p n k : Nat} (h : firstF K c p n = some k) : p ≤ k ∧ k ≤ rN K 8 c ∧ offP K c k n = true := by
  obtain ⟨h1, h2, h3, _⟩ := sc_some h
  exact ⟨h1, by omega, h3⟩
theorem placeInF_le (K : RS) (c : Nat) (t : Int32) : placeInF K c t ≤ rN K 8 c := by
  unfold placeInF
  cases e : sc (piP K c t) (rN K 8 c) 0 with
  | none => exact Nat.zero_le _
  | some i => have := (sc_some e).2.1; show i + 1 ≤ _; omega
theorem prefF_le (K : RS) (c n : Nat) : prefF K c n ≤ rN K 8 c := by
  unfold prefF
  split
  · exact Nat.zero_le _
  · exact placeInF_le ..
theorem choose_some {K : RS} {c n p : Nat} (h : chooseF K c n = some p) : p ≤ rN K 8 c ∧ ∃ k, offersF K c p n = some k := by
  unfold chooseF at h
  cases e : offersF K c 0 n with
  | some k => rw [e] at h; cases h; exact ⟨Nat.zero_le _, k, e⟩
  | none =>
    rw [e] at h
    cases e2 : (decide (0 < prefF K c n) && offP K c (prefF K c n) n) with
    | true =>
      rw [e2] at h; cases h
      rw [Bool.and_eq_true] at e2
      obtain ⟨k, hk, _⟩ := offP_some e2.2
      exact ⟨prefF_le .., k, hk⟩
    | false =>
      rw [e2] at h
      obtain ⟨h1, h2, h3⟩ := firstF_some h
      obtain ⟨k, hk, _⟩ := offP_some h3
      exact ⟨h2, k, hk⟩
theorem byLine_pos {K : RS} {c n p : Nat} (h : byLineF K c n p = true) : 0 < p := by
  cases p with
  | zero => cases h
  | succ p => omega
theorem clash_1 {K : RS} {c n p : Nat} (h1 : chooseF K c n = some p) (h2 : byLineF K c n p = true) (h3 : (sc (rivF K c n p) (rN K 8 c + 1 - (p + 1)) (p + 1)).isSome = true) : 1 = clashF K c n := by
  unfold clashF; rw [h1]; simp only [h2, h3]; rfl
theorem clash_2 {K : RS} {c n p k : Nat} (h1 : chooseF K c n = some p) (h2 : (byLineF K c n p && (sc (rivF K c n p) (rN K 8 c + 1 - (p + 1)) (p + 1)).isSome) = false) (h3 : offersF K c p n = some k) (h4 : (sc (wideF K c n k) (rN K 8 c + 1) 0).isSome = true) : 2 = clashF K c n := by
  unfold clashF; rw [h1]; simp only [h2, h3, h4]; rfl
theorem clash_0 {K : RS} {c n p k : Nat} (h1 : chooseF K c n = some p) (h2 : (byLineF K c n p && (sc (rivF K c n p) (rN K 8 c + 1 - (p + 1)) (p + 1)).isSome) = false) (h3 : offersF K c p n = some k) (h4 : (sc (wideF K c n k) (rN K 8 c + 1) 0).isSome = false) : 0 = clashF K c n := by
  unfold clashF; rw [h1]; simp only [h2, h3, h4]; rfl
def inB (v lo hi : Int32) : Bool := decide (lo ≤ v) && decide (v ≤ hi)
/-- one of n numbers from 0 on -/
def below (x : Int32) (n : Nat) : Bool := decide (0 ≤ x.toInt) && decide (x.toInt < (n : Int))
theorem below_some {x : Int32} {n : Nat} (h : below x n = true) : ∃ k, k < n ∧ x = nI k := by
  simp only [below, Bool.and_eq_true, decide_eq_true_eq] at h
  have h2 := i32_hi x
  refine ⟨x.toInt.toNat, by omega, Int32.toInt_inj.mp ?_⟩
  rw [nI_toInt (by omega)]; omega
theorem below_nI {k n : Nat} (h : k < n) (hn : n ≤ 2 ^ 31) : below (nI k) n = true := by
  simp only [below, Bool.and_eq_true, decide_eq_true_eq]
  rw [nI_toInt (by omega)]; omega
theorem inB_below (x : Int32) {hi : Int32} {n : Nat} (h : hi.toInt + 1 = (n : Int)) : inB x (nI 0) hi = below x n := by
  unfold inB below
  have e0 : (nI 0).toInt = 0 := rfl
  rw [decide_eq_decide.mpr (Int32.le_iff_toInt_le (x := nI 0) (y := x)), decide_eq_decide.mpr (Int32.le_iff_toInt_le (x := x) (y := hi))]
  rw [show decide ((nI 0).toInt ≤ x.toInt) = decide (0 ≤ x.toInt) from decide_eq_decide.mpr (by rw [e0]), show decide (x.toInt ≤ hi.toInt) = decide (x.toInt < (n : Int)) from decide_eq_decide.mpr (by omega)]
theorem nI_less {n : Nat} (h : n < 2 ^ 31) : (nI n - nI 1).toInt + 1 = (n : Int) := by
  rw [Int32.toInt_sub, nI_toInt h, show (nI 1).toInt = 1 from rfl, Int.bmod_def]
  split <;> omega
theorem inB_less (x : Int32) {n : Nat} (h : n < 2 ^ 31) : inB x (nI 0) (nI n - nI 1) = below x n := inB_below x (nI_less h)
