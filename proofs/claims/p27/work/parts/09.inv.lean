/-! WHAT ALWAYS HOLDS OF THE CLASS'S CELLS: each reference leads where its type says; M: the reference's own cells; E: objects that are being made -/
/-- the reference fields: field, kind it leads to, length (0: an object), may be null -/
def FT : List (Nat × Nat × Nat × Bool) := [(1, 5, 0, true), (4, 5, 0, true), (5, 5, 0, true), (6, 3, 0, true), (64, 17, 20, false), (66, 14, 12, false), (68, 4, 0, false), (69, 0, 0, false), (130, 3, 0, false), (131, 11, 5, false), (133, 16, 12, false), (134, 13, 240, false), (136, 11, 240, false), (137, 11, 240, false), (139, 11, 12, false), (140, 12, 4, false), (192, 11, 20, false), (193, 11, 20, false), (256, 15, 7, false), (257, 11, 7, false), (258, 3, 0, false), (259, 3, 0, false), (325, 11, 8, false), (326, 11, 8, false), (327, 11, 8, false), (384, 1, 0, false), (385, 7, 0, false), (448, 12, 1000, false), (512, 3, 0, false), (513, 16, 12, false), (514, 16, 12, false), (576, 1, 0, false), (577, 6, 0, false), (578, 5, 0, true)]
/-- the arrays of references: kind, kind of what they hold -/
def ET : List (Nat × Nat) := [(14, 2), (15, 3), (16, 5), (17, 8)]
def fOK (M : Nat → Prop) (S : Mem) (q : Nat × Nat × Nat × Bool) (o : Option Nat) : Prop := (q.2.2.2 = true ∧ o = none) ∨ ∃ b, o = some b ∧ ((q.2.2.1 = 0 ∧ is S b q.2.1) ∨ (0 < q.2.2.1 ∧ isA S b q.2.1 q.2.2.1 ∧ ¬ M b))
def nOK (S : Mem) (k : Nat) (o : Option Nat) : Prop := o = none ∨ ∃ b, o = some b ∧ is S b k
def INV (M : Nat → Prop) (E : List Nat) (S : Mem) : Prop :=
  (∀ a, M a → a ∈ mL S ∧ 10 ≤ mK S a ∧ mK S a ≤ 13) ∧ (∀ q ∈ FT, ∀ a, a ∈ mL S → a ∉ E → mK S a = q.1 / 64 → fOK M S q (mO S q.1 a)) ∧ (∀ q ∈ ET, ∀ a, a ∈ mL S → mK S a = q.1 → ∀ i, nOK S q.2 (mP S a i)) ∧ (∀ a, a ∈ mL S → a ∉ E → mK S a = 3 → ∃ n, n ≤ 20 ∧ mI S 194 a = nI n) ∧ ∀ a, a ∈ mL S → a ∉ E → mK S a = 7 → ∃ n, n ≤ 200 ∧ mI S 449 a = nI n
/-- kinds and lengths stay, addresses too -/
def mono (S S' : Mem) : Prop := ∀ a, a ∈ mL S → a ∈ mL S' ∧ mK S' a = mK S a ∧ mN S' a = mN S a
theorem is_mono {S S' : Mem} {a k : Nat} (h : mono S S') (x : is S a k) : is S' a k := ⟨(h a x.1).1, (h a x.1).2.1.trans x.2⟩
theorem isA_mono {S S' : Mem} {a k n : Nat} (h : mono S S') (x : isA S a k n) : isA S' a k n := ⟨(h a x.1).1, (h a x.1).2.1.trans x.2.1, (h a x.1).2.2.trans x.2.2⟩
theorem nOK_mono {S S' : Mem} {k : Nat} {o : Option Nat} (h : mono S S') (x : nOK S k o) : nOK S' k o := x.imp id (fun ⟨b, e, i⟩ => ⟨b, e, is_mono h i⟩)
theorem nOK_ext {S S' : Mem} {X : Nat → Prop} {k : Nat} {o : Option Nat} (h : ext S S' X) (x : nOK S k o) : nOK S' k o := nOK_mono h.1 x
theorem fOK_mono {M : Nat → Prop} {S S' : Mem} {q : Nat × Nat × Nat × Bool} {o : Option Nat} (h : mono S S') (x : fOK M S q o) : fOK M S' q o :=
  x.imp id (fun ⟨b, e, i⟩ => ⟨b, e, i.imp (fun ⟨z, i⟩ => ⟨z, is_mono h i⟩) (fun ⟨z, i, m⟩ => ⟨z, isA_mono h i, m⟩)⟩)
theorem nOK_some {S : Mem} {k : Nat} {o : Option Nat} {b : Nat} (h : nOK S k o) (e : o = some b) : is S b k := by
  rcases h with h | ⟨c, h, i⟩
  · rw [h] at e; cases e
  · rw [h] at e; cases e; exact i
theorem nOK_none {S : Mem} {k : Nat} : nOK S k none := Or.inl rfl
theorem nOK_is {S : Mem} {k b : Nat} (h : is S b k) : nOK S k (some b) := Or.inr ⟨b, rfl, h⟩
/-- a store that touches no reference, and none of the two counted ints -/
theorem inv_num {M : Nat → Prop} {E : List Nat} {S S' : Mem} (h : INV M E S) (e1 : mL S' = mL S) (e2 : mK S' = mK S) (e3 : mN S' = mN S) (e4 : mO S' = mO S) (e5 : mP S' = mP S) (e6 : ∀ a, mI S' 194 a = mI S 194 a) (e7 : ∀ a, mI S' 449 a = mI S 449 a) : INV M E S' := by
  have hm : mono S S' := fun a ha => ⟨by rw [e1]; exact ha, by rw [e2], by rw [e3]⟩
  obtain ⟨h1, h2, h3, h4, h5⟩ := h
  refine ⟨fun a ha => by rw [e1, e2]; exact h1 a ha, fun q hq a ha hE hk => ?_, fun q hq a ha hk i => ?_, fun a ha hE hk => ?_, fun a ha hE hk => ?_⟩
  · rw [e1] at ha; rw [e2] at hk; rw [e4]; exact fOK_mono hm (h2 q hq a ha hE hk)
  · rw [e1] at ha; rw [e2] at hk; rw [e5]; exact nOK_mono hm (h3 q hq a ha hk i)
  · rw [e1] at ha; rw [e2] at hk; rw [e6]; exact h4 a ha hE hk
  · rw [e1] at ha; rw [e2] at hk; rw [e7]; exact h5 a ha hE hk
theorem inv_sA {M : Nat → Prop} {E : List Nat} {S S' : Mem} {a i : Nat} {v : Int32} (e : S' = sA S a i v) (h : INV M E S) : INV M E S' := by subst e; exact inv_num h (mL_sA ..) (mK_sA ..) (mN_sA ..) (mO_sA ..) (mP_sA ..) (fun _ => by rw [mI_sA]) (fun _ => by rw [mI_sA])
theorem inv_sFill {M : Nat → Prop} {E : List Nat} {S S' : Mem} {a n : Nat} {v : Int32} (e : S' = sFill S a n v) (h : INV M E S) : INV M E S' := by subst e; exact inv_num h (mL_sFill ..) (mK_sFill ..) (mN_sFill ..) (mO_sFill ..) (mP_sFill ..) (fun _ => by rw [mI_sFill]) (fun _ => by rw [mI_sFill])
theorem inv_sQ {M : Nat → Prop} {E : List Nat} {S S' : Mem} {a i : Nat} {v : Int64} (e : S' = sQ S a i v) (h : INV M E S) : INV M E S' := by subst e; exact inv_num h (mL_sQ ..) (mK_sQ ..) (mN_sQ ..) (mO_sQ ..) (mP_sQ ..) (fun _ => by rw [mI_sQ]) (fun _ => by rw [mI_sQ])
theorem inv_sJ {M : Nat → Prop} {E : List Nat} {S S' : Mem} {g a : Nat} {v : Int64} (e : S' = sJ S g a v) (h : INV M E S) : INV M E S' := by subst e; exact inv_num h (mL_sJ ..) (mK_sJ ..) (mN_sJ ..) (mO_sJ ..) (mP_sJ ..) (fun _ => by rw [mI_sJ]) (fun _ => by rw [mI_sJ])
theorem inv_sI {M : Nat → Prop} {E : List Nat} {S S' : Mem} {g a : Nat} {v : Int32} (e : S' = sI S g a v) (h : INV M E S) (h1 : g ≠ 194) (h2 : g ≠ 449) : INV M E S' := by
  subst e
  exact inv_num h (mL_sI ..) (mK_sI ..) (mN_sI ..) (mO_sI ..) (mP_sI ..) (fun _ => by rw [mI_sI, if_neg (fun z => h1 z.1.symm)]) (fun _ => by rw [mI_sI, if_neg (fun z => h2 z.1.symm)])
theorem inv_sIn {M : Nat → Prop} {E : List Nat} {S S' : Mem} {g a n : Nat} {v : Int32} (e : S' = sI S g a v) (h : INV M E S) (hv : v = nI n) (hn : (g = 194 → n ≤ 20) ∧ (g = 449 → n ≤ 200)) : INV M E S' := by
  have hm : mono S S' := fun b hb => by rw [e, mL_sI, mK_sI, mN_sI]; exact ⟨hb, rfl, rfl⟩
  obtain ⟨h1, h2, h3, h4, h5⟩ := h
  refine ⟨fun b hb => by rw [e, mL_sI, mK_sI]; exact h1 b hb, fun q hq b hb hE hk => ?_, fun q hq b hb hk i => ?_, fun b hb hE hk => ?_, fun b hb hE hk => ?_⟩
  · rw [e, mL_sI] at hb; rw [e, mK_sI] at hk; have := fOK_mono hm (h2 q hq b hb hE hk); rw [e, mO_sI]; rw [e] at this; exact this
  · rw [e, mL_sI] at hb; rw [e, mK_sI] at hk; have := nOK_mono hm (h3 q hq b hb hk i); rw [e, mP_sI]; rw [e] at this; exact this
  · rw [e, mL_sI] at hb; rw [e, mK_sI] at hk; rw [e, mI_sI]
    split
    · rename_i z; exact ⟨n, hn.1 z.1.symm, hv⟩
    · exact h4 b hb hE hk
  · rw [e, mL_sI] at hb; rw [e, mK_sI] at hk; rw [e, mI_sI]
    split
    · rename_i z; exact ⟨n, hn.2 z.1.symm, hv⟩
    · exact h5 b hb hE hk
theorem FT_u : ∀ q ∈ FT, ∀ q' ∈ FT, q.1 = q'.1 → q = q' := by decide +kernel
theorem inv_sO {M : Nat → Prop} {E : List Nat} {S S' : Mem} {g a : Nat} {v : Option Nat} (e : S' = sO S g a v) (h : INV M E S) (hv : a ∈ E ∨ ∃ q ∈ FT, q.1 = g ∧ fOK M S q v) : INV M E S' := by
  have hm : mono S S' := fun b hb => by rw [e, mL_sO, mK_sO, mN_sO]; exact ⟨hb, rfl, rfl⟩
  obtain ⟨h1, h2, h3, h4, h5⟩ := h
  refine ⟨fun b hb => by rw [e, mL_sO, mK_sO]; exact h1 b hb, fun q hq b hb hE hk => ?_, fun q hq b hb hk i => ?_, fun b hb hE hk => ?_, fun b hb hE hk => ?_⟩
  · rw [e, mL_sO] at hb; rw [e, mK_sO] at hk
    have := fOK_mono hm (h2 q hq b hb hE hk)
    rw [e, mO_sO]; rw [e] at this
    split
    · rename_i z
      rcases hv with hv | ⟨q', hq', e', hv⟩
      · rw [z.2] at hE; exact absurd hv hE
      · have : q' = q := FT_u q' hq' q hq (e'.trans z.1.symm)
        subst this
        have := fOK_mono hm hv
        rw [e] at this; exact this
    · exact this
  · rw [e, mL_sO] at hb; rw [e, mK_sO] at hk; have := nOK_mono hm (h3 q hq b hb hk i); rw [e, mP_sO]; rw [e] at this; exact this
  · rw [e, mL_sO] at hb; rw [e, mK_sO] at hk; rw [e, mI_sO]; exact h4 b hb hE hk
  · rw [e, mL_sO] at hb; rw [e, mK_sO] at hk; rw [e, mI_sO]; exact h5 b hb hE hk
theorem ET_u : ∀ q ∈ ET, ∀ q' ∈ ET, q.1 = q'.1 → q = q' := by decide +kernel
theorem inv_sP {M : Nat → Prop} {E : List Nat} {S S' : Mem} {a i kd k : Nat} {v : Option Nat} (e : S' = sP S a i v) (h : INV M E S) (ha : mK S a = kd) (hq : (kd, k) ∈ ET) (hv : nOK S k v) : INV M E S' := by
  have hm : mono S S' := fun b hb => by rw [e, mL_sP, mK_sP, mN_sP]; exact ⟨hb, rfl, rfl⟩
  obtain ⟨h1, h2, h3, h4, h5⟩ := h
  refine ⟨fun b hb => by rw [e, mL_sP, mK_sP]; exact h1 b hb, fun q hq b hb hE hk => ?_, fun q hq2 b hb hk j => ?_, fun b hb hE hk => ?_, fun b hb hE hk => ?_⟩
  · rw [e, mL_sP] at hb; rw [e, mK_sP] at hk; have := fOK_mono hm (h2 q hq b hb hE hk); rw [e, mO_sP]; rw [e] at this; exact this
  · rw [e, mL_sP] at hb; rw [e, mK_sP] at hk
    have h6 := nOK_mono hm (h3 q hq2 b hb hk j)
    have h7 := nOK_mono hm hv
    rw [e, mP_sP]; rw [e] at h6 h7
    split
    · rename_i z
      have : (kd, k) = q := ET_u _ hq _ hq2 (by rw [← hk, z.1]; exact ha.symm)
      subst this; exact h7
    · exact h6
  · rw [e, mL_sP] at hb; rw [e, mK_sP] at hk; rw [e, mI_sP]; exact h4 b hb hE hk
  · rw [e, mL_sP] at hb; rw [e, mK_sP] at hk; rw [e, mI_sP]; exact h5 b hb hE hk
theorem inv_sNew {M : Nat → Prop} {E : List Nat} {S S' : Mem} {a ci : Nat} (e : S' = sNew S a ci) (h : INV M E S) (hn : a ∉ mL S) (hc : ci < 11) : INV M (a :: E) S' := by
  have x := x_sNew e hn
  have hm : mono S S' := x.1
  have old : ∀ b, b ∈ mL S' → b ∉ a :: E → b ∈ mL S ∧ b ∉ E ∧ b ≠ a := fun b hb hE => by
    have h1 : b ≠ a := fun z => hE (by rw [z]; exact List.mem_cons_self)
    rw [e, mL_sNew] at hb
    rcases List.mem_append.mp hb with hb | hb
    · exact ⟨hb, fun z => hE (List.mem_cons_of_mem _ z), h1⟩
    · exact absurd (List.mem_singleton.mp hb) h1
  obtain ⟨h1, h2, h3, h4, h5⟩ := h
  refine ⟨fun b hb => ?_, fun q hq b hb hE hk => ?_, fun q hq b hb hk i => ?_, fun b hb hE hk => ?_, fun b hb hE hk => ?_⟩
  · obtain ⟨g1, g2, g3⟩ := h1 b hb
    have g := hm b g1
    exact ⟨g.1, by rw [g.2.1]; exact g2, by rw [g.2.1]; exact g3⟩
  · obtain ⟨g1, g2, g3⟩ := old b hb hE
    have g := x.2 b g1 (fun z => z)
    rw [g.2.1]
    exact fOK_mono hm (h2 q hq b g1 g2 (by rw [← (hm b g1).2.1]; exact hk))
  · by_cases hb2 : b = a
    · exfalso
      rw [hb2, e, mK_sNew, if_pos rfl] at hk
      have : 13 < q.1 := by
        have := (show ∀ q ∈ ET, 13 < q.1 by decide +kernel) q hq
        exact this
      omega
    · have g1 : b ∈ mL S := by
        rw [e, mL_sNew] at hb
        rcases List.mem_append.mp hb with hb | hb
        · exact hb
        · exact absurd (List.mem_singleton.mp hb) hb2
      have g := x.2 b g1 (fun z => z)
      rw [g.2.2.2.2.1]
      exact nOK_mono hm (h3 q hq b g1 (by rw [← (hm b g1).2.1]; exact hk) i)
  · obtain ⟨g1, g2, g3⟩ := old b hb hE
    rw [(x.2 b g1 (fun z => z)).1]
    exact h4 b g1 g2 (by rw [← (hm b g1).2.1]; exact hk)
  · obtain ⟨g1, g2, g3⟩ := old b hb hE
    rw [(x.2 b g1 (fun z => z)).1]
    exact h5 b g1 g2 (by rw [← (hm b g1).2.1]; exact hk)
theorem inv_sArr {M : Nat → Prop} {E : List Nat} {S S' : Mem} {a kd n : Nat} (e : S' = sArr S a kd n) (h : INV M E S) (hn : a ∉ mL S) (hk0 : 10 < kd) : INV M E S' := by
  have x := x_sArr e hn
  have hm : mono S S' := x.1
  have old : ∀ b, b ∈ mL S' → mK S' b < 11 → b ∈ mL S := fun b hb hk => by
    rw [e, mL_sArr] at hb
    rcases List.mem_append.mp hb with hb | hb
    · exact hb
    · rw [List.mem_singleton.mp hb, e, mK_sArr, if_pos rfl] at hk; omega
  have lt : ∀ q ∈ FT, q.1 / 64 < 11 := by decide +kernel
  obtain ⟨h1, h2, h3, h4, h5⟩ := h
  refine ⟨fun b hb => ?_, fun q hq b hb hE hk => ?_, fun q hq b hb hk i => ?_, fun b hb hE hk => ?_, fun b hb hE hk => ?_⟩
  · obtain ⟨g1, g2, g3⟩ := h1 b hb
    have g := hm b g1
    exact ⟨g.1, by rw [g.2.1]; exact g2, by rw [g.2.1]; exact g3⟩
  · have g1 := old b hb (by rw [hk]; exact lt q hq)
    rw [(x.2 b g1 (fun z => z)).2.1]
    exact fOK_mono hm (h2 q hq b g1 hE (by rw [← (hm b g1).2.1]; exact hk))
  · by_cases hb2 : b = a
    · rw [e, mP_sArr, if_pos hb2]; exact nOK_none
    · have g1 : b ∈ mL S := by
        rw [e, mL_sArr] at hb
        rcases List.mem_append.mp hb with hb | hb
        · exact hb
        · exact absurd (List.mem_singleton.mp hb) hb2
      rw [(x.2 b g1 (fun z => z)).2.2.2.2.1]
      exact nOK_mono hm (h3 q hq b g1 (by rw [← (hm b g1).2.1]; exact hk) i)
  · have g1 := old b hb (by rw [hk]; decide)
    rw [(x.2 b g1 (fun z => z)).1]
    exact h4 b g1 hE (by rw [← (hm b g1).2.1]; exact hk)
  · have g1 := old b hb (by rw [hk]; decide)
    rw [(x.2 b g1 (fun z => z)).1]
    exact h5 b g1 hE (by rw [← (hm b g1).2.1]; exact hk)
/-- an object is done -/
theorem inv_done {M : Nat → Prop} {E : List Nat} {S : Mem} {a ci : Nat} (h : INV M (a :: E) S) (ha : mK S a = ci) (hf : ∀ q ∈ FT, q.1 / 64 = ci → fOK M S q (mO S q.1 a)) (h3 : ci = 3 → ∃ n, n ≤ 20 ∧ mI S 194 a = nI n) (h7 : ci = 7 → ∃ n, n ≤ 200 ∧ mI S 449 a = nI n) : INV M E S := by
  obtain ⟨g1, g2, g3, g4, g5⟩ := h
  have nm : ∀ b, b ≠ a → b ∉ E → b ∉ a :: E := fun b hb hE z => by rcases List.mem_cons.mp z with z | z <;> contradiction
  refine ⟨g1, fun q hq b hb hE hk => ?_, g3, fun b hb hE hk => ?_, fun b hb hE hk => ?_⟩
  · by_cases hba : b = a
    · subst hba; exact hf q hq (hk.symm.trans ha)
    · exact g2 q hq b hb (nm b hba hE) hk
  · by_cases hba : b = a
    · subst hba; exact h3 (ha.symm.trans hk)
    · exact g4 b hb (nm b hba hE) hk
  · by_cases hba : b = a
    · subst hba; exact h7 (ha.symm.trans hk)
    · exact g5 b hb (nm b hba hE) hk
theorem inv_nM {M : Nat → Prop} {E : List Nat} {S : Mem} {a k : Nat} (h : INV M E S) (ha : is S a k) (hk : k < 10 ∨ 13 < k) : ¬ M a := fun z => by
  have := h.1 a z
  rw [ha.2] at this
  omega
theorem inv_nMA {M : Nat → Prop} {E : List Nat} {S : Mem} {a k n : Nat} (h : INV M E S) (ha : isA S a k n) (hk : k < 10 ∨ 13 < k) : ¬ M a := inv_nM h ⟨ha.1, ha.2.1⟩ hk
theorem inv_new {M : Nat → Prop} {E : List Nat} {S : Mem} {a : Nat} (h : INV M E S) (ha : a ∉ mL S) : ¬ M a := fun z => ha (h.1 a z).1
theorem inv_el {M : Nat → Prop} {E : List Nat} {S : Mem} {a kd n k : Nat} (h : INV M E S) (ha : isA S a kd n) (hq : (kd, k) ∈ ET) (i : Nat) : nOK S k (mP S a i) := h.2.2.1 (kd, k) hq a ha.1 ha.2.1 i
theorem T1 {M : Nat → Prop} {E : List Nat} {S : Mem} {a : Nat} (h : INV M E S) (ha : is S a 0) (hE : a ∉ E) : nOK S 5 (mO S 1 a) := by
  have z := h.2.1 (1, 5, 0, true) (List.mem_of_getElem? (i := 0) rfl) a ha.1 hE ha.2
  rcases z with ⟨_, z⟩ | ⟨b, e, z | z⟩
  · exact Or.inl z
  · exact Or.inr ⟨b, e, z.2⟩
  · exact absurd z.1 (by decide)
theorem F1 {M : Nat → Prop} {S : Mem} {o : Option Nat} (h : nOK S 5 o) : ∃ q ∈ FT, q.1 = 1 ∧ fOK M S q o := ⟨(1, 5, 0, true), List.mem_of_getElem? (i := 0) rfl, rfl, by rcases h with h | ⟨b, e, z⟩; exact Or.inl ⟨rfl, h⟩; exact Or.inr ⟨b, e, Or.inl ⟨rfl, z⟩⟩⟩
theorem T4 {M : Nat → Prop} {E : List Nat} {S : Mem} {a : Nat} (h : INV M E S) (ha : is S a 0) (hE : a ∉ E) : nOK S 5 (mO S 4 a) := by
  have z := h.2.1 (4, 5, 0, true) (List.mem_of_getElem? (i := 1) rfl) a ha.1 hE ha.2
  rcases z with ⟨_, z⟩ | ⟨b, e, z | z⟩
  · exact Or.inl z
  · exact Or.inr ⟨b, e, z.2⟩
  · exact absurd z.1 (by decide)
theorem F4 {M : Nat → Prop} {S : Mem} {o : Option Nat} (h : nOK S 5 o) : ∃ q ∈ FT, q.1 = 4 ∧ fOK M S q o := ⟨(4, 5, 0, true), List.mem_of_getElem? (i := 1) rfl, rfl, by rcases h with h | ⟨b, e, z⟩; exact Or.inl ⟨rfl, h⟩; exact Or.inr ⟨b, e, Or.inl ⟨rfl, z⟩⟩⟩
theorem T5 {M : Nat → Prop} {E : List Nat} {S : Mem} {a : Nat} (h : INV M E S) (ha : is S a 0) (hE : a ∉ E) : nOK S 5 (mO S 5 a) := by
  have z := h.2.1 (5, 5, 0, true) (List.mem_of_getElem? (i := 2) rfl) a ha.1 hE ha.2
  rcases z with ⟨_, z⟩ | ⟨b, e, z | z⟩
  · exact Or.inl z
  · exact Or.inr ⟨b, e, z.2⟩
  · exact absurd z.1 (by decide)
theorem F5 {M : Nat → Prop} {S : Mem} {o : Option Nat} (h : nOK S 5 o) : ∃ q ∈ FT, q.1 = 5 ∧ fOK M S q o := ⟨(5, 5, 0, true), List.mem_of_getElem? (i := 2) rfl, rfl, by rcases h with h | ⟨b, e, z⟩; exact Or.inl ⟨rfl, h⟩; exact Or.inr ⟨b, e, Or.inl ⟨rfl, z⟩⟩⟩
theorem T6 {M : Nat → Prop} {E : List Nat} {S : Mem} {a : Nat} (h : INV M E S) (ha : is S a 0) (hE : a ∉ E) : nOK S 3 (mO S 6 a) := by
  have z := h.2.1 (6, 3, 0, true) (List.mem_of_getElem? (i := 3) rfl) a ha.1 hE ha.2
  rcases z with ⟨_, z⟩ | ⟨b, e, z | z⟩
  · exact Or.inl z
  · exact Or.inr ⟨b, e, z.2⟩
  · exact absurd z.1 (by decide)
theorem F6 {M : Nat → Prop} {S : Mem} {o : Option Nat} (h : nOK S 3 o) : ∃ q ∈ FT, q.1 = 6 ∧ fOK M S q o := ⟨(6, 3, 0, true), List.mem_of_getElem? (i := 3) rfl, rfl, by rcases h with h | ⟨b, e, z⟩; exact Or.inl ⟨rfl, h⟩; exact Or.inr ⟨b, e, Or.inl ⟨rfl, z⟩⟩⟩
theorem T64 {M : Nat → Prop} {E : List Nat} {S : Mem} {a : Nat} (h : INV M E S) (ha : is S a 1) (hE : a ∉ E) : ∃ b, mO S 64 a = some b ∧ isA S b 17 20 ∧ ¬ M b := by
  have z := h.2.1 (64, 17, 20, false) (List.mem_of_getElem? (i := 4) rfl) a ha.1 hE ha.2
  rcases z with ⟨z, _⟩ | ⟨b, e, z | z⟩
  · cases z
  · exact absurd z.1 (by decide)
  · exact ⟨b, e, z.2⟩
theorem T66 {M : Nat → Prop} {E : List Nat} {S : Mem} {a : Nat} (h : INV M E S) (ha : is S a 1) (hE : a ∉ E) : ∃ b, mO S 66 a = some b ∧ isA S b 14 12 ∧ ¬ M b := by
  have z := h.2.1 (66, 14, 12, false) (List.mem_of_getElem? (i := 5) rfl) a ha.1 hE ha.2
  rcases z with ⟨z, _⟩ | ⟨b, e, z | z⟩
  · cases z
  · exact absurd z.1 (by decide)
  · exact ⟨b, e, z.2⟩
theorem T68 {M : Nat → Prop} {E : List Nat} {S : Mem} {a : Nat} (h : INV M E S) (ha : is S a 1) (hE : a ∉ E) : ∃ b, mO S 68 a = some b ∧ is S b 4 := by
  have z := h.2.1 (68, 4, 0, false) (List.mem_of_getElem? (i := 6) rfl) a ha.1 hE ha.2
  rcases z with ⟨z, _⟩ | ⟨b, e, z | z⟩
  · cases z
  · exact ⟨b, e, z.2⟩
  · exact absurd z.1 (by decide)
theorem T69 {M : Nat → Prop} {E : List Nat} {S : Mem} {a : Nat} (h : INV M E S) (ha : is S a 1) (hE : a ∉ E) : ∃ b, mO S 69 a = some b ∧ is S b 0 := by
  have z := h.2.1 (69, 0, 0, false) (List.mem_of_getElem? (i := 7) rfl) a ha.1 hE ha.2
  rcases z with ⟨z, _⟩ | ⟨b, e, z | z⟩
  · cases z
  · exact ⟨b, e, z.2⟩
  · exact absurd z.1 (by decide)
theorem T130 {M : Nat → Prop} {E : List Nat} {S : Mem} {a : Nat} (h : INV M E S) (ha : is S a 2) (hE : a ∉ E) : ∃ b, mO S 130 a = some b ∧ is S b 3 := by
  have z := h.2.1 (130, 3, 0, false) (List.mem_of_getElem? (i := 8) rfl) a ha.1 hE ha.2
  rcases z with ⟨z, _⟩ | ⟨b, e, z | z⟩
  · cases z
  · exact ⟨b, e, z.2⟩
  · exact absurd z.1 (by decide)
theorem T131 {M : Nat → Prop} {E : List Nat} {S : Mem} {a : Nat} (h : INV M E S) (ha : is S a 2) (hE : a ∉ E) : ∃ b, mO S 131 a = some b ∧ isA S b 11 5 ∧ ¬ M b := by
  have z := h.2.1 (131, 11, 5, false) (List.mem_of_getElem? (i := 9) rfl) a ha.1 hE ha.2
  rcases z with ⟨z, _⟩ | ⟨b, e, z | z⟩
  · cases z
  · exact absurd z.1 (by decide)
  · exact ⟨b, e, z.2⟩
theorem T133 {M : Nat → Prop} {E : List Nat} {S : Mem} {a : Nat} (h : INV M E S) (ha : is S a 2) (hE : a ∉ E) : ∃ b, mO S 133 a = some b ∧ isA S b 16 12 ∧ ¬ M b := by
  have z := h.2.1 (133, 16, 12, false) (List.mem_of_getElem? (i := 10) rfl) a ha.1 hE ha.2
  rcases z with ⟨z, _⟩ | ⟨b, e, z | z⟩
  · cases z
  · exact absurd z.1 (by decide)
  · exact ⟨b, e, z.2⟩
theorem T134 {M : Nat → Prop} {E : List Nat} {S : Mem} {a : Nat} (h : INV M E S) (ha : is S a 2) (hE : a ∉ E) : ∃ b, mO S 134 a = some b ∧ isA S b 13 240 ∧ ¬ M b := by
  have z := h.2.1 (134, 13, 240, false) (List.mem_of_getElem? (i := 11) rfl) a ha.1 hE ha.2
  rcases z with ⟨z, _⟩ | ⟨b, e, z | z⟩
  · cases z
  · exact absurd z.1 (by decide)
  · exact ⟨b, e, z.2⟩
theorem T136 {M : Nat → Prop} {E : List Nat} {S : Mem} {a : Nat} (h : INV M E S) (ha : is S a 2) (hE : a ∉ E) : ∃ b, mO S 136 a = some b ∧ isA S b 11 240 ∧ ¬ M b := by
  have z := h.2.1 (136, 11, 240, false) (List.mem_of_getElem? (i := 12) rfl) a ha.1 hE ha.2
  rcases z with ⟨z, _⟩ | ⟨b, e, z | z⟩
  · cases z
  · exact absurd z.1 (by decide)
  · exact ⟨b, e, z.2⟩
theorem T137 {M : Nat → Prop} {E : List Nat} {S : Mem} {a : Nat} (h : INV M E S) (ha : is S a 2) (hE : a ∉ E) : ∃ b, mO S 137 a = some b ∧ isA S b 11 240 ∧ ¬ M b := by
  have z := h.2.1 (137, 11, 240, false) (List.mem_of_getElem? (i := 13) rfl) a ha.1 hE ha.2
  rcases z with ⟨z, _⟩ | ⟨b, e, z | z⟩
  · cases z
  · exact absurd z.1 (by decide)
  · exact ⟨b, e, z.2⟩
theorem T139 {M : Nat → Prop} {E : List Nat} {S : Mem} {a : Nat} (h : INV M E S) (ha : is S a 2) (hE : a ∉ E) : ∃ b, mO S 139 a = some b ∧ isA S b 11 12 ∧ ¬ M b := by
  have z := h.2.1 (139, 11, 12, false) (List.mem_of_getElem? (i := 14) rfl) a ha.1 hE ha.2
  rcases z with ⟨z, _⟩ | ⟨b, e, z | z⟩
  · cases z
  · exact absurd z.1 (by decide)
  · exact ⟨b, e, z.2⟩
theorem T140 {M : Nat → Prop} {E : List Nat} {S : Mem} {a : Nat} (h : INV M E S) (ha : is S a 2) (hE : a ∉ E) : ∃ b, mO S 140 a = some b ∧ isA S b 12 4 ∧ ¬ M b := by
  have z := h.2.1 (140, 12, 4, false) (List.mem_of_getElem? (i := 15) rfl) a ha.1 hE ha.2
  rcases z with ⟨z, _⟩ | ⟨b, e, z | z⟩
  · cases z
  · exact absurd z.1 (by decide)
  · exact ⟨b, e, z.2⟩
theorem T192 {M : Nat → Prop} {E : List Nat} {S : Mem} {a : Nat} (h : INV M E S) (ha : is S a 3) (hE : a ∉ E) : ∃ b, mO S 192 a = some b ∧ isA S b 11 20 ∧ ¬ M b := by
  have z := h.2.1 (192, 11, 20, false) (List.mem_of_getElem? (i := 16) rfl) a ha.1 hE ha.2
  rcases z with ⟨z, _⟩ | ⟨b, e, z | z⟩
  · cases z
  · exact absurd z.1 (by decide)
  · exact ⟨b, e, z.2⟩
theorem T193 {M : Nat → Prop} {E : List Nat} {S : Mem} {a : Nat} (h : INV M E S) (ha : is S a 3) (hE : a ∉ E) : ∃ b, mO S 193 a = some b ∧ isA S b 11 20 ∧ ¬ M b := by
  have z := h.2.1 (193, 11, 20, false) (List.mem_of_getElem? (i := 17) rfl) a ha.1 hE ha.2
  rcases z with ⟨z, _⟩ | ⟨b, e, z | z⟩
  · cases z
  · exact absurd z.1 (by decide)
  · exact ⟨b, e, z.2⟩
theorem T256 {M : Nat → Prop} {E : List Nat} {S : Mem} {a : Nat} (h : INV M E S) (ha : is S a 4) (hE : a ∉ E) : ∃ b, mO S 256 a = some b ∧ isA S b 15 7 ∧ ¬ M b := by
  have z := h.2.1 (256, 15, 7, false) (List.mem_of_getElem? (i := 18) rfl) a ha.1 hE ha.2
  rcases z with ⟨z, _⟩ | ⟨b, e, z | z⟩
  · cases z
  · exact absurd z.1 (by decide)
  · exact ⟨b, e, z.2⟩
theorem T257 {M : Nat → Prop} {E : List Nat} {S : Mem} {a : Nat} (h : INV M E S) (ha : is S a 4) (hE : a ∉ E) : ∃ b, mO S 257 a = some b ∧ isA S b 11 7 ∧ ¬ M b := by
  have z := h.2.1 (257, 11, 7, false) (List.mem_of_getElem? (i := 19) rfl) a ha.1 hE ha.2
  rcases z with ⟨z, _⟩ | ⟨b, e, z | z⟩
  · cases z
  · exact absurd z.1 (by decide)
  · exact ⟨b, e, z.2⟩
theorem T258 {M : Nat → Prop} {E : List Nat} {S : Mem} {a : Nat} (h : INV M E S) (ha : is S a 4) (hE : a ∉ E) : ∃ b, mO S 258 a = some b ∧ is S b 3 := by
  have z := h.2.1 (258, 3, 0, false) (List.mem_of_getElem? (i := 20) rfl) a ha.1 hE ha.2
  rcases z with ⟨z, _⟩ | ⟨b, e, z | z⟩
  · cases z
  · exact ⟨b, e, z.2⟩
  · exact absurd z.1 (by decide)
theorem T259 {M : Nat → Prop} {E : List Nat} {S : Mem} {a : Nat} (h : INV M E S) (ha : is S a 4) (hE : a ∉ E) : ∃ b, mO S 259 a = some b ∧ is S b 3 := by
  have z := h.2.1 (259, 3, 0, false) (List.mem_of_getElem? (i := 21) rfl) a ha.1 hE ha.2
  rcases z with ⟨z, _⟩ | ⟨b, e, z | z⟩
  · cases z
  · exact ⟨b, e, z.2⟩
  · exact absurd z.1 (by decide)
theorem T325 {M : Nat → Prop} {E : List Nat} {S : Mem} {a : Nat} (h : INV M E S) (ha : is S a 5) (hE : a ∉ E) : ∃ b, mO S 325 a = some b ∧ isA S b 11 8 ∧ ¬ M b := by
  have z := h.2.1 (325, 11, 8, false) (List.mem_of_getElem? (i := 22) rfl) a ha.1 hE ha.2
  rcases z with ⟨z, _⟩ | ⟨b, e, z | z⟩
  · cases z
  · exact absurd z.1 (by decide)
  · exact ⟨b, e, z.2⟩
theorem T326 {M : Nat → Prop} {E : List Nat} {S : Mem} {a : Nat} (h : INV M E S) (ha : is S a 5) (hE : a ∉ E) : ∃ b, mO S 326 a = some b ∧ isA S b 11 8 ∧ ¬ M b := by
  have z := h.2.1 (326, 11, 8, false) (List.mem_of_getElem? (i := 23) rfl) a ha.1 hE ha.2
  rcases z with ⟨z, _⟩ | ⟨b, e, z | z⟩
  · cases z
  · exact absurd z.1 (by decide)
  · exact ⟨b, e, z.2⟩
theorem T327 {M : Nat → Prop} {E : List Nat} {S : Mem} {a : Nat} (h : INV M E S) (ha : is S a 5) (hE : a ∉ E) : ∃ b, mO S 327 a = some b ∧ isA S b 11 8 ∧ ¬ M b := by
  have z := h.2.1 (327, 11, 8, false) (List.mem_of_getElem? (i := 24) rfl) a ha.1 hE ha.2
  rcases z with ⟨z, _⟩ | ⟨b, e, z | z⟩
  · cases z
  · exact absurd z.1 (by decide)
  · exact ⟨b, e, z.2⟩
theorem T384 {M : Nat → Prop} {E : List Nat} {S : Mem} {a : Nat} (h : INV M E S) (ha : is S a 6) (hE : a ∉ E) : ∃ b, mO S 384 a = some b ∧ is S b 1 := by
  have z := h.2.1 (384, 1, 0, false) (List.mem_of_getElem? (i := 25) rfl) a ha.1 hE ha.2
  rcases z with ⟨z, _⟩ | ⟨b, e, z | z⟩
  · cases z
  · exact ⟨b, e, z.2⟩
  · exact absurd z.1 (by decide)
theorem T385 {M : Nat → Prop} {E : List Nat} {S : Mem} {a : Nat} (h : INV M E S) (ha : is S a 6) (hE : a ∉ E) : ∃ b, mO S 385 a = some b ∧ is S b 7 := by
  have z := h.2.1 (385, 7, 0, false) (List.mem_of_getElem? (i := 26) rfl) a ha.1 hE ha.2
  rcases z with ⟨z, _⟩ | ⟨b, e, z | z⟩
  · cases z
  · exact ⟨b, e, z.2⟩
  · exact absurd z.1 (by decide)
theorem T448 {M : Nat → Prop} {E : List Nat} {S : Mem} {a : Nat} (h : INV M E S) (ha : is S a 7) (hE : a ∉ E) : ∃ b, mO S 448 a = some b ∧ isA S b 12 1000 ∧ ¬ M b := by
  have z := h.2.1 (448, 12, 1000, false) (List.mem_of_getElem? (i := 27) rfl) a ha.1 hE ha.2
  rcases z with ⟨z, _⟩ | ⟨b, e, z | z⟩
  · cases z
  · exact absurd z.1 (by decide)
  · exact ⟨b, e, z.2⟩
theorem T512 {M : Nat → Prop} {E : List Nat} {S : Mem} {a : Nat} (h : INV M E S) (ha : is S a 8) (hE : a ∉ E) : ∃ b, mO S 512 a = some b ∧ is S b 3 := by
  have z := h.2.1 (512, 3, 0, false) (List.mem_of_getElem? (i := 28) rfl) a ha.1 hE ha.2
  rcases z with ⟨z, _⟩ | ⟨b, e, z | z⟩
  · cases z
  · exact ⟨b, e, z.2⟩
  · exact absurd z.1 (by decide)
theorem T513 {M : Nat → Prop} {E : List Nat} {S : Mem} {a : Nat} (h : INV M E S) (ha : is S a 8) (hE : a ∉ E) : ∃ b, mO S 513 a = some b ∧ isA S b 16 12 ∧ ¬ M b := by
  have z := h.2.1 (513, 16, 12, false) (List.mem_of_getElem? (i := 29) rfl) a ha.1 hE ha.2
  rcases z with ⟨z, _⟩ | ⟨b, e, z | z⟩
  · cases z
  · exact absurd z.1 (by decide)
  · exact ⟨b, e, z.2⟩
theorem T514 {M : Nat → Prop} {E : List Nat} {S : Mem} {a : Nat} (h : INV M E S) (ha : is S a 8) (hE : a ∉ E) : ∃ b, mO S 514 a = some b ∧ isA S b 16 12 ∧ ¬ M b := by
  have z := h.2.1 (514, 16, 12, false) (List.mem_of_getElem? (i := 30) rfl) a ha.1 hE ha.2
  rcases z with ⟨z, _⟩ | ⟨b, e, z | z⟩
  · cases z
  · exact absurd z.1 (by decide)
  · exact ⟨b, e, z.2⟩
theorem T576 {M : Nat → Prop} {E : List Nat} {S : Mem} {a : Nat} (h : INV M E S) (ha : is S a 9) (hE : a ∉ E) : ∃ b, mO S 576 a = some b ∧ is S b 1 := by
  have z := h.2.1 (576, 1, 0, false) (List.mem_of_getElem? (i := 31) rfl) a ha.1 hE ha.2
  rcases z with ⟨z, _⟩ | ⟨b, e, z | z⟩
  · cases z
  · exact ⟨b, e, z.2⟩
  · exact absurd z.1 (by decide)
theorem T577 {M : Nat → Prop} {E : List Nat} {S : Mem} {a : Nat} (h : INV M E S) (ha : is S a 9) (hE : a ∉ E) : ∃ b, mO S 577 a = some b ∧ is S b 6 := by
  have z := h.2.1 (577, 6, 0, false) (List.mem_of_getElem? (i := 32) rfl) a ha.1 hE ha.2
  rcases z with ⟨z, _⟩ | ⟨b, e, z | z⟩
  · cases z
  · exact ⟨b, e, z.2⟩
  · exact absurd z.1 (by decide)
theorem T578 {M : Nat → Prop} {E : List Nat} {S : Mem} {a : Nat} (h : INV M E S) (ha : is S a 9) (hE : a ∉ E) : nOK S 5 (mO S 578 a) := by
  have z := h.2.1 (578, 5, 0, true) (List.mem_of_getElem? (i := 33) rfl) a ha.1 hE ha.2
  rcases z with ⟨_, z⟩ | ⟨b, e, z | z⟩
  · exact Or.inl z
  · exact Or.inr ⟨b, e, z.2⟩
  · exact absurd z.1 (by decide)
theorem F578 {M : Nat → Prop} {S : Mem} {o : Option Nat} (h : nOK S 5 o) : ∃ q ∈ FT, q.1 = 578 ∧ fOK M S q o := ⟨(578, 5, 0, true), List.mem_of_getElem? (i := 33) rfl, rfl, by rcases h with h | ⟨b, e, z⟩; exact Or.inl ⟨rfl, h⟩; exact Or.inr ⟨b, e, Or.inl ⟨rfl, z⟩⟩⟩
