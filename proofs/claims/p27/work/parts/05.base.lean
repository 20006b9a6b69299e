/-! small facts: the memory read behind its updates; kinds that stay; numbers -/
/-- the first n places of an int array get one value -/
def sFill (S : Mem) (a n : Nat) (v : Int32) : Mem := (mL S, mK S, mN S, mI S, mO S, mJ S, (fun a' i => if a' = a ∧ i < n then v else mA S a' i), mP S, mQ S)
theorem mL_sI (S : Mem) (g a : Nat) (v : Int32) : mL (sI S g a v) = mL S := Eq.mpr rfl rfl
theorem mL_sO (S : Mem) (g a : Nat) (v : Option Nat) : mL (sO S g a v) = mL S := Eq.mpr rfl rfl
theorem mL_sJ (S : Mem) (g a : Nat) (v : Int64) : mL (sJ S g a v) = mL S := Eq.mpr rfl rfl
theorem mL_sA (S : Mem) (a i : Nat) (v : Int32) : mL (sA S a i v) = mL S := Eq.mpr rfl rfl
theorem mL_sP (S : Mem) (a i : Nat) (v : Option Nat) : mL (sP S a i v) = mL S := Eq.mpr rfl rfl
theorem mL_sQ (S : Mem) (a i : Nat) (v : Int64) : mL (sQ S a i v) = mL S := Eq.mpr rfl rfl
theorem mL_sNew (S : Mem) (a ci : Nat) : mL (sNew S a ci) = mL S ++ [a] := Eq.mpr rfl rfl
theorem mL_sArr (S : Mem) (a kd n : Nat) : mL (sArr S a kd n) = mL S ++ [a] := Eq.mpr rfl rfl
theorem mL_sFill (S : Mem) (a n : Nat) (v : Int32) : mL (sFill S a n v) = mL S := Eq.mpr rfl rfl
theorem mK_sI (S : Mem) (g a : Nat) (v : Int32) : mK (sI S g a v) = mK S := Eq.mpr rfl rfl
theorem mK_sO (S : Mem) (g a : Nat) (v : Option Nat) : mK (sO S g a v) = mK S := Eq.mpr rfl rfl
theorem mK_sJ (S : Mem) (g a : Nat) (v : Int64) : mK (sJ S g a v) = mK S := Eq.mpr rfl rfl
theorem mK_sA (S : Mem) (a i : Nat) (v : Int32) : mK (sA S a i v) = mK S := Eq.mpr rfl rfl
theorem mK_sP (S : Mem) (a i : Nat) (v : Option Nat) : mK (sP S a i v) = mK S := Eq.mpr rfl rfl
theorem mK_sQ (S : Mem) (a i : Nat) (v : Int64) : mK (sQ S a i v) = mK S := Eq.mpr rfl rfl
theorem mK_sNew (S : Mem) (a ci : Nat) (b : Nat) : mK (sNew S a ci) b = if b = a then ci else mK S b := Eq.mpr rfl rfl
theorem mK_sArr (S : Mem) (a kd n : Nat) (b : Nat) : mK (sArr S a kd n) b = if b = a then kd else mK S b := Eq.mpr rfl rfl
theorem mK_sFill (S : Mem) (a n : Nat) (v : Int32) : mK (sFill S a n v) = mK S := Eq.mpr rfl rfl
theorem mN_sI (S : Mem) (g a : Nat) (v : Int32) : mN (sI S g a v) = mN S := Eq.mpr rfl rfl
theorem mN_sO (S : Mem) (g a : Nat) (v : Option Nat) : mN (sO S g a v) = mN S := Eq.mpr rfl rfl
theorem mN_sJ (S : Mem) (g a : Nat) (v : Int64) : mN (sJ S g a v) = mN S := Eq.mpr rfl rfl
theorem mN_sA (S : Mem) (a i : Nat) (v : Int32) : mN (sA S a i v) = mN S := Eq.mpr rfl rfl
theorem mN_sP (S : Mem) (a i : Nat) (v : Option Nat) : mN (sP S a i v) = mN S := Eq.mpr rfl rfl
theorem mN_sQ (S : Mem) (a i : Nat) (v : Int64) : mN (sQ S a i v) = mN S := Eq.mpr rfl rfl
theorem mN_sNew (S : Mem) (a ci : Nat) : mN (sNew S a ci) = mN S := Eq.mpr rfl rfl
theorem mN_sArr (S : Mem) (a kd n : Nat) (b : Nat) : mN (sArr S a kd n) b = if b = a then n else mN S b := Eq.mpr rfl rfl
theorem mN_sFill (S : Mem) (a n : Nat) (v : Int32) : mN (sFill S a n v) = mN S := Eq.mpr rfl rfl
theorem mI_sI (S : Mem) (g a : Nat) (v : Int32) (g' a' : Nat) : mI (sI S g a v) g' a' = if g' = g ∧ a' = a then v else mI S g' a' := Eq.mpr rfl rfl
theorem mI_sO (S : Mem) (g a : Nat) (v : Option Nat) : mI (sO S g a v) = mI S := Eq.mpr rfl rfl
theorem mI_sJ (S : Mem) (g a : Nat) (v : Int64) : mI (sJ S g a v) = mI S := Eq.mpr rfl rfl
theorem mI_sA (S : Mem) (a i : Nat) (v : Int32) : mI (sA S a i v) = mI S := Eq.mpr rfl rfl
theorem mI_sP (S : Mem) (a i : Nat) (v : Option Nat) : mI (sP S a i v) = mI S := Eq.mpr rfl rfl
theorem mI_sQ (S : Mem) (a i : Nat) (v : Int64) : mI (sQ S a i v) = mI S := Eq.mpr rfl rfl
theorem mI_sNew (S : Mem) (a ci : Nat) (g b : Nat) : mI (sNew S a ci) g b = if b = a then 0 else mI S g b := Eq.mpr rfl rfl
theorem mI_sArr (S : Mem) (a kd n : Nat) : mI (sArr S a kd n) = mI S := Eq.mpr rfl rfl
theorem mI_sFill (S : Mem) (a n : Nat) (v : Int32) : mI (sFill S a n v) = mI S := Eq.mpr rfl rfl
theorem mO_sI (S : Mem) (g a : Nat) (v : Int32) : mO (sI S g a v) = mO S := Eq.mpr rfl rfl
theorem mO_sO (S : Mem) (g a : Nat) (v : Option Nat) (g' a' : Nat) : mO (sO S g a v) g' a' = if g' = g ∧ a' = a then v else mO S g' a' := Eq.mpr rfl rfl
theorem mO_sJ (S : Mem) (g a : Nat) (v : Int64) : mO (sJ S g a v) = mO S := Eq.mpr rfl rfl
theorem mO_sA (S : Mem) (a i : Nat) (v : Int32) : mO (sA S a i v) = mO S := Eq.mpr rfl rfl
theorem mO_sP (S : Mem) (a i : Nat) (v : Option Nat) : mO (sP S a i v) = mO S := Eq.mpr rfl rfl
theorem mO_sQ (S : Mem) (a i : Nat) (v : Int64) : mO (sQ S a i v) = mO S := Eq.mpr rfl rfl
theorem mO_sNew (S : Mem) (a ci : Nat) (g b : Nat) : mO (sNew S a ci) g b = if b = a then none else mO S g b := Eq.mpr rfl rfl
theorem mO_sArr (S : Mem) (a kd n : Nat) : mO (sArr S a kd n) = mO S := Eq.mpr rfl rfl
theorem mO_sFill (S : Mem) (a n : Nat) (v : Int32) : mO (sFill S a n v) = mO S := Eq.mpr rfl rfl
theorem mJ_sI (S : Mem) (g a : Nat) (v : Int32) : mJ (sI S g a v) = mJ S := Eq.mpr rfl rfl
theorem mJ_sO (S : Mem) (g a : Nat) (v : Option Nat) : mJ (sO S g a v) = mJ S := Eq.mpr rfl rfl
theorem mJ_sJ (S : Mem) (g a : Nat) (v : Int64) (g' a' : Nat) : mJ (sJ S g a v) g' a' = if g' = g ∧ a' = a then v else mJ S g' a' := Eq.mpr rfl rfl
theorem mJ_sA (S : Mem) (a i : Nat) (v : Int32) : mJ (sA S a i v) = mJ S := Eq.mpr rfl rfl
theorem mJ_sP (S : Mem) (a i : Nat) (v : Option Nat) : mJ (sP S a i v) = mJ S := Eq.mpr rfl rfl
theorem mJ_sQ (S : Mem) (a i : Nat) (v : Int64) : mJ (sQ S a i v) = mJ S := Eq.mpr rfl rfl
theorem mJ_sNew (S : Mem) (a ci : Nat) (g b : Nat) : mJ (sNew S a ci) g b = if b = a then 0 else mJ S g b := Eq.mpr rfl rfl
theorem mJ_sArr (S : Mem) (a kd n : Nat) : mJ (sArr S a kd n) = mJ S := Eq.mpr rfl rfl
theorem mJ_sFill (S : Mem) (a n : Nat) (v : Int32) : mJ (sFill S a n v) = mJ S := Eq.mpr rfl rfl
theorem mA_sI (S : Mem) (g a : Nat) (v : Int32) : mA (sI S g a v) = mA S := Eq.mpr rfl rfl
theorem mA_sO (S : Mem) (g a : Nat) (v : Option Nat) : mA (sO S g a v) = mA S := Eq.mpr rfl rfl
theorem mA_sJ (S : Mem) (g a : Nat) (v : Int64) : mA (sJ S g a v) = mA S := Eq.mpr rfl rfl
theorem mA_sA (S : Mem) (a i : Nat) (v : Int32) (a' i' : Nat) : mA (sA S a i v) a' i' = if a' = a ∧ i' = i then v else mA S a' i' := Eq.mpr rfl rfl
theorem mA_sP (S : Mem) (a i : Nat) (v : Option Nat) : mA (sP S a i v) = mA S := Eq.mpr rfl rfl
theorem mA_sQ (S : Mem) (a i : Nat) (v : Int64) : mA (sQ S a i v) = mA S := Eq.mpr rfl rfl
theorem mA_sNew (S : Mem) (a ci : Nat) : mA (sNew S a ci) = mA S := Eq.mpr rfl rfl
theorem mA_sArr (S : Mem) (a kd n : Nat) (b i : Nat) : mA (sArr S a kd n) b i = if b = a then 0 else mA S b i := Eq.mpr rfl rfl
theorem mA_sFill (S : Mem) (a n : Nat) (v : Int32) (a' i' : Nat) : mA (sFill S a n v) a' i' = if a' = a ∧ i' < n then v else mA S a' i' := Eq.mpr rfl rfl
theorem mP_sI (S : Mem) (g a : Nat) (v : Int32) : mP (sI S g a v) = mP S := Eq.mpr rfl rfl
theorem mP_sO (S : Mem) (g a : Nat) (v : Option Nat) : mP (sO S g a v) = mP S := Eq.mpr rfl rfl
theorem mP_sJ (S : Mem) (g a : Nat) (v : Int64) : mP (sJ S g a v) = mP S := Eq.mpr rfl rfl
theorem mP_sA (S : Mem) (a i : Nat) (v : Int32) : mP (sA S a i v) = mP S := Eq.mpr rfl rfl
theorem mP_sP (S : Mem) (a i : Nat) (v : Option Nat) (a' i' : Nat) : mP (sP S a i v) a' i' = if a' = a ∧ i' = i then v else mP S a' i' := Eq.mpr rfl rfl
theorem mP_sQ (S : Mem) (a i : Nat) (v : Int64) : mP (sQ S a i v) = mP S := Eq.mpr rfl rfl
theorem mP_sNew (S : Mem) (a ci : Nat) : mP (sNew S a ci) = mP S := Eq.mpr rfl rfl
theorem mP_sArr (S : Mem) (a kd n : Nat) (b i : Nat) : mP (sArr S a kd n) b i = if b = a then none else mP S b i := Eq.mpr rfl rfl
theorem mP_sFill (S : Mem) (a n : Nat) (v : Int32) : mP (sFill S a n v) = mP S := Eq.mpr rfl rfl
theorem mQ_sI (S : Mem) (g a : Nat) (v : Int32) : mQ (sI S g a v) = mQ S := Eq.mpr rfl rfl
theorem mQ_sO (S : Mem) (g a : Nat) (v : Option Nat) : mQ (sO S g a v) = mQ S := Eq.mpr rfl rfl
theorem mQ_sJ (S : Mem) (g a : Nat) (v : Int64) : mQ (sJ S g a v) = mQ S := Eq.mpr rfl rfl
theorem mQ_sA (S : Mem) (a i : Nat) (v : Int32) : mQ (sA S a i v) = mQ S := Eq.mpr rfl rfl
theorem mQ_sP (S : Mem) (a i : Nat) (v : Option Nat) : mQ (sP S a i v) = mQ S := Eq.mpr rfl rfl
theorem mQ_sQ (S : Mem) (a i : Nat) (v : Int64) (a' i' : Nat) : mQ (sQ S a i v) a' i' = if a' = a ∧ i' = i then v else mQ S a' i' := Eq.mpr rfl rfl
theorem mQ_sNew (S : Mem) (a ci : Nat) : mQ (sNew S a ci) = mQ S := Eq.mpr rfl rfl
theorem mQ_sArr (S : Mem) (a kd n : Nat) (b i : Nat) : mQ (sArr S a kd n) b i = if b = a then 0 else mQ S b i := Eq.mpr rfl rfl
theorem mQ_sFill (S : Mem) (a n : Nat) (v : Int32) : mQ (sFill S a n v) = mQ S := Eq.mpr rfl rfl
/-- what stays at an address -/
def agr (S S' : Mem) (a : Nat) : Prop := (∀ g, mI S' g a = mI S g a) ∧ (∀ g, mO S' g a = mO S g a) ∧ (∀ g, mJ S' g a = mJ S g a) ∧ (∀ i, mA S' a i = mA S a i) ∧ (∀ i, mP S' a i = mP S a i) ∧ (∀ i, mQ S' a i = mQ S a i)
/-- cells came, and of the old ones only those of X changed -/
def ext (S S' : Mem) (X : Nat → Prop) : Prop := (∀ a, a ∈ mL S → a ∈ mL S' ∧ mK S' a = mK S a ∧ mN S' a = mN S a) ∧ ∀ a, a ∈ mL S → ¬ X a → agr S S' a
theorem ext_rfl {S : Mem} {X : Nat → Prop} : ext S S X := ⟨fun _ h => ⟨h, rfl, rfl⟩, fun _ _ _ => ⟨fun _ => rfl, fun _ => rfl, fun _ => rfl, fun _ => rfl, fun _ => rfl, fun _ => rfl⟩⟩
theorem agr_tr {S S1 S2 : Mem} {a : Nat} (h1 : agr S S1 a) (h2 : agr S1 S2 a) : agr S S2 a := ⟨fun g => (h2.1 g).trans (h1.1 g), fun g => (h2.2.1 g).trans (h1.2.1 g), fun g => (h2.2.2.1 g).trans (h1.2.2.1 g), fun g => (h2.2.2.2.1 g).trans (h1.2.2.2.1 g), fun g => (h2.2.2.2.2.1 g).trans (h1.2.2.2.2.1 g), fun g => (h2.2.2.2.2.2 g).trans (h1.2.2.2.2.2 g)⟩
theorem ext_tr {S S1 S2 : Mem} {X Y : Nat → Prop} (h1 : ext S S1 X) (h2 : ext S1 S2 Y) (hXY : ∀ a, a ∈ mL S → Y a → X a) : ext S S2 X :=
  ⟨fun a h => ⟨(h2.1 a (h1.1 a h).1).1, (h2.1 a (h1.1 a h).1).2.1.trans (h1.1 a h).2.1, (h2.1 a (h1.1 a h).1).2.2.trans (h1.1 a h).2.2⟩, fun a h hX => agr_tr (h1.2 a h hX) (h2.2 a (h1.1 a h).1 (fun z => hX (hXY a h z)))⟩
theorem nm_ext {S S' : Mem} {X : Nat → Prop} {b : Nat} (h : ext S S' X) (hb : b ∉ mL S') : b ∉ mL S := fun z => hb (h.1 b z).1
theorem is_ext {S S' : Mem} {X : Nat → Prop} {a k : Nat} (h : ext S S' X) (ha : is S a k) : is S' a k := ⟨(h.1 a ha.1).1, (h.1 a ha.1).2.1.trans ha.2⟩
theorem isA_ext {S S' : Mem} {X : Nat → Prop} {a k n : Nat} (h : ext S S' X) (ha : isA S a k n) : isA S' a k n := ⟨(h.1 a ha.1).1, (h.1 a ha.1).2.1.trans ha.2.1, (h.1 a ha.1).2.2.trans ha.2.2⟩
theorem ext_sI {S0 S : Mem} {X : Nat → Prop} {g a : Nat} {v : Int32} (h : ext S0 S X) (hx : X a ∨ a ∉ mL S0) : ext S0 (sI S g a v) X :=
  ⟨h.1, fun b hb hX => agr_tr (h.2 b hb hX) (by
    have hne : b ≠ a := by rintro rfl; rcases hx with z | z <;> contradiction
    exact ⟨(fun g' => by rw [mI_sI, if_neg (fun z => hne z.2)]), (fun _ => rfl), (fun _ => rfl), (fun _ => rfl), (fun _ => rfl), (fun _ => rfl)⟩)⟩
theorem ext_sO {S0 S : Mem} {X : Nat → Prop} {g a : Nat} {v : Option Nat} (h : ext S0 S X) (hx : X a ∨ a ∉ mL S0) : ext S0 (sO S g a v) X :=
  ⟨h.1, fun b hb hX => agr_tr (h.2 b hb hX) (by
    have hne : b ≠ a := by rintro rfl; rcases hx with z | z <;> contradiction
    exact ⟨(fun _ => rfl), (fun g' => by rw [mO_sO, if_neg (fun z => hne z.2)]), (fun _ => rfl), (fun _ => rfl), (fun _ => rfl), (fun _ => rfl)⟩)⟩
theorem ext_sJ {S0 S : Mem} {X : Nat → Prop} {g a : Nat} {v : Int64} (h : ext S0 S X) (hx : X a ∨ a ∉ mL S0) : ext S0 (sJ S g a v) X :=
  ⟨h.1, fun b hb hX => agr_tr (h.2 b hb hX) (by
    have hne : b ≠ a := by rintro rfl; rcases hx with z | z <;> contradiction
    exact ⟨(fun _ => rfl), (fun _ => rfl), (fun g' => by rw [mJ_sJ, if_neg (fun z => hne z.2)]), (fun _ => rfl), (fun _ => rfl), (fun _ => rfl)⟩)⟩
theorem ext_sA {S0 S : Mem} {X : Nat → Prop} {a i : Nat} {v : Int32} (h : ext S0 S X) (hx : X a ∨ a ∉ mL S0) : ext S0 (sA S a i v) X :=
  ⟨h.1, fun b hb hX => agr_tr (h.2 b hb hX) (by
    have hne : b ≠ a := by rintro rfl; rcases hx with z | z <;> contradiction
    exact ⟨(fun _ => rfl), (fun _ => rfl), (fun _ => rfl), (fun i' => by rw [mA_sA, if_neg (fun z => hne z.1)]), (fun _ => rfl), (fun _ => rfl)⟩)⟩
theorem ext_sP {S0 S : Mem} {X : Nat → Prop} {a i : Nat} {v : Option Nat} (h : ext S0 S X) (hx : X a ∨ a ∉ mL S0) : ext S0 (sP S a i v) X :=
  ⟨h.1, fun b hb hX => agr_tr (h.2 b hb hX) (by
    have hne : b ≠ a := by rintro rfl; rcases hx with z | z <;> contradiction
    exact ⟨(fun _ => rfl), (fun _ => rfl), (fun _ => rfl), (fun _ => rfl), (fun i' => by rw [mP_sP, if_neg (fun z => hne z.1)]), (fun _ => rfl)⟩)⟩
theorem ext_sQ {S0 S : Mem} {X : Nat → Prop} {a i : Nat} {v : Int64} (h : ext S0 S X) (hx : X a ∨ a ∉ mL S0) : ext S0 (sQ S a i v) X :=
  ⟨h.1, fun b hb hX => agr_tr (h.2 b hb hX) (by
    have hne : b ≠ a := by rintro rfl; rcases hx with z | z <;> contradiction
    exact ⟨(fun _ => rfl), (fun _ => rfl), (fun _ => rfl), (fun _ => rfl), (fun _ => rfl), (fun i' => by rw [mQ_sQ, if_neg (fun z => hne z.1)])⟩)⟩
theorem ext_sFill {S0 S : Mem} {X : Nat → Prop} {a n : Nat} {v : Int32} (h : ext S0 S X) (hx : X a ∨ a ∉ mL S0) : ext S0 (sFill S a n v) X :=
  ⟨h.1, fun b hb hX => agr_tr (h.2 b hb hX) (by
    have hne : b ≠ a := by rintro rfl; rcases hx with z | z <;> contradiction
    exact ⟨(fun _ => rfl), (fun _ => rfl), (fun _ => rfl), (fun i' => by rw [mA_sFill, if_neg (fun z => hne z.1)]), (fun _ => rfl), (fun _ => rfl)⟩)⟩
theorem ext_sNew {S0 S : Mem} {X : Nat → Prop} {b ci : Nat} (h : ext S0 S X) (hn : b ∉ mL S) : ext S0 (sNew S b ci) X := by
  have hne : ∀ a, a ∈ mL S0 → a ≠ b := fun a ha => by rintro rfl; exact hn (h.1 a ha).1
  refine ⟨fun a ha => ⟨List.mem_append_left _ (h.1 a ha).1, ?_, (h.1 a ha).2.2⟩, fun a ha hX => agr_tr (h.2 a ha hX) ⟨fun g => ?_, fun g => ?_, fun g => ?_, fun _ => rfl, fun _ => rfl, fun _ => rfl⟩⟩
  · rw [mK_sNew, if_neg (hne a ha)]; exact (h.1 a ha).2.1
  · rw [mI_sNew, if_neg (hne a ha)]
  · rw [mO_sNew, if_neg (hne a ha)]
  · rw [mJ_sNew, if_neg (hne a ha)]
theorem ext_sArr {S0 S : Mem} {X : Nat → Prop} {b kd n : Nat} (h : ext S0 S X) (hn : b ∉ mL S) : ext S0 (sArr S b kd n) X := by
  have hne : ∀ a, a ∈ mL S0 → a ≠ b := fun a ha => by rintro rfl; exact hn (h.1 a ha).1
  refine ⟨fun a ha => ⟨List.mem_append_left _ (h.1 a ha).1, ?_, ?_⟩, fun a ha hX => agr_tr (h.2 a ha hX) ⟨fun _ => rfl, fun _ => rfl, fun _ => rfl, fun i => ?_, fun i => ?_, fun i => ?_⟩⟩
  · rw [mK_sArr, if_neg (hne a ha)]; exact (h.1 a ha).2.1
  · rw [mN_sArr, if_neg (hne a ha)]; exact (h.1 a ha).2.2
  · rw [mA_sArr, if_neg (hne a ha)]
  · rw [mP_sArr, if_neg (hne a ha)]
  · rw [mQ_sArr, if_neg (hne a ha)]
theorem V.gen {p : Program} {l : Launch} {e : Env} {R : Room} {s : State} {m : MethodId} {args : Array Value} {below : List Frame} {meth : Method} {c : Code} {D : va_G} {G : Nat → ClassId} {bs nL : Nat} {Q : State → Prop} {cells slots : Nat} {S : Mem} {pc : Nat} {lv : List (Option Value)} {st : List Value} (k : ∀ S', S' = S → V p l e R s m args below meth c D G bs nL Q cells slots S' pc lv st) : V p l e R s m args below meth c D G bs nL Q cells slots S pc lv st := k S rfl
theorem is_new {S : Mem} {a b ci k : Nat} (hb : b ∉ mL S) (h : is S a k) : is (sNew S b ci) a k := ⟨List.mem_append_left _ h.1, by rw [mK_sNew, if_neg (by rintro rfl; exact hb h.1)]; exact h.2⟩
theorem is_arr {S : Mem} {a b kd n k : Nat} (hb : b ∉ mL S) (h : is S a k) : is (sArr S b kd n) a k := ⟨List.mem_append_left _ h.1, by rw [mK_sArr, if_neg (by rintro rfl; exact hb h.1)]; exact h.2⟩
theorem isA_new {S : Mem} {a b ci k n : Nat} (hb : b ∉ mL S) (h : isA S a k n) : isA (sNew S b ci) a k n := ⟨List.mem_append_left _ h.1, by rw [mK_sNew, if_neg (by rintro rfl; exact hb h.1)]; exact h.2.1, h.2.2⟩
theorem isA_arr {S : Mem} {a b kd n k n' : Nat} (hb : b ∉ mL S) (h : isA S a k n') : isA (sArr S b kd n) a k n' := ⟨List.mem_append_left _ h.1, by rw [mK_sArr, if_neg (by rintro rfl; exact hb h.1)]; exact h.2.1, by rw [mN_sArr, if_neg (by rintro rfl; exact hb h.1)]; exact h.2.2⟩
theorem is_newS {S : Mem} {b ci : Nat} (_ : b ∉ mL S) : is (sNew S b ci) b ci := ⟨List.mem_append_right _ (List.mem_singleton.mpr rfl), by rw [mK_sNew, if_pos rfl]⟩
theorem isA_arrS {S : Mem} {b kd n : Nat} (_ : b ∉ mL S) : isA (sArr S b kd n) b kd n := ⟨List.mem_append_right _ (List.mem_singleton.mpr rfl), by rw [mK_sArr, if_pos rfl], by rw [mN_sArr, if_pos rfl]⟩
theorem nm_new {S : Mem} {b c ci : Nat} (h : c ∉ mL (sNew S b ci)) : c ∉ mL S := fun z => h (List.mem_append_left _ z)
theorem nm_arr {S : Mem} {b c kd n : Nat} (h : c ∉ mL (sArr S b kd n)) : c ∉ mL S := fun z => h (List.mem_append_left _ z)
theorem ne_of_is {S : Mem} {a b k : Nat} (hb : b ∉ mL S) (h : is S a k) : a ≠ b := by rintro rfl; exact hb h.1
theorem ne_of_isA {S : Mem} {a b k n : Nat} (hb : b ∉ mL S) (h : isA S a k n) : a ≠ b := by rintro rfl; exact hb h.1
/-- a boolean as the machine has it -/
def bI (x : Bool) : Int32 := if x then 1 else 0
def isB (a b : Int32) : Bool := decide (0 ≤ a) && decide (a < b)
theorem bI_f {x : Bool} (h : bI x = 0) : x = false := by cases x <;> simp_all [bI]
theorem bI_t {x : Bool} (h : ¬ bI x = 0) : x = true := by cases x <;> simp_all [bI]
theorem isB_t {a b : Int32} (h : isB a b = true) : 0 ≤ a ∧ a < b := by simpa [isB] using h
theorem isB_f {a b : Int32} (h : isB a b = false) : ¬ (0 ≤ a ∧ a < b) := by simpa [isB] using h
theorem i0_le {a : Int32} : 0 ≤ a ↔ 0 ≤ a.toInt := Int32.le_iff_toInt_le
theorem vp_in_b {a b : Int32} {n : Nat} (h : 0 ≤ a ∧ a < b) (hb : b.toInt = n) : vp_in a n := vp_in_iff.mpr ⟨Int32.le_iff_toInt_le.mp h.1, by rw [← hb]; exact Int32.lt_iff_toInt_lt.mp h.2⟩

theorem x_sI {S S' : Mem} {g a : Nat} {v : Int32} (e : S' = sI S g a v) : ext S S' (fun b => b = a) := by subst e; exact ext_sI ext_rfl (Or.inl rfl)
theorem x_sO {S S' : Mem} {g a : Nat} {v : Option Nat} (e : S' = sO S g a v) : ext S S' (fun b => b = a) := by subst e; exact ext_sO ext_rfl (Or.inl rfl)
theorem x_sJ {S S' : Mem} {g a : Nat} {v : Int64} (e : S' = sJ S g a v) : ext S S' (fun b => b = a) := by subst e; exact ext_sJ ext_rfl (Or.inl rfl)
theorem x_sA {S S' : Mem} {a i : Nat} {v : Int32} (e : S' = sA S a i v) : ext S S' (fun b => b = a) := by subst e; exact ext_sA ext_rfl (Or.inl rfl)
theorem x_sP {S S' : Mem} {a i : Nat} {v : Option Nat} (e : S' = sP S a i v) : ext S S' (fun b => b = a) := by subst e; exact ext_sP ext_rfl (Or.inl rfl)
theorem x_sQ {S S' : Mem} {a i : Nat} {v : Int64} (e : S' = sQ S a i v) : ext S S' (fun b => b = a) := by subst e; exact ext_sQ ext_rfl (Or.inl rfl)
theorem x_sFill {S S' : Mem} {a n : Nat} {v : Int32} (e : S' = sFill S a n v) : ext S S' (fun b => b = a) := by subst e; exact ext_sFill ext_rfl (Or.inl rfl)
theorem x_sNew {S S' : Mem} {a ci : Nat} (e : S' = sNew S a ci) (h : a ∉ mL S) : ext S S' (fun _ => False) := by subst e; exact ext_sNew ext_rfl h
theorem x_sArr {S S' : Mem} {a kd n : Nat} (e : S' = sArr S a kd n) (h : a ∉ mL S) : ext S S' (fun _ => False) := by subst e; exact ext_sArr ext_rfl h
theorem is_sNewE {S S' : Mem} {a ci : Nat} (e : S' = sNew S a ci) (h : a ∉ mL S) : is S' a ci := by subst e; exact is_newS h
theorem isA_sArrE {S S' : Mem} {a kd n : Nat} (e : S' = sArr S a kd n) (h : a ∉ mL S) : isA S' a kd n := by subst e; exact isA_arrS h
theorem nfX0 : ∀ j, j < (lay 0).length → defaultValue (tyX0 j) = vp_V (fl0 (lay 0)) j := by decide +kernel
theorem nfX1 : ∀ j, j < (lay 1).length → defaultValue (tyX1 j) = vp_V (fl0 (lay 1)) j := by decide +kernel
theorem nfX2 : ∀ j, j < (lay 2).length → defaultValue (tyX2 j) = vp_V (fl0 (lay 2)) j := by decide +kernel
theorem nfX3 : ∀ j, j < (lay 3).length → defaultValue (tyX3 j) = vp_V (fl0 (lay 3)) j := by decide +kernel
theorem nfX4 : ∀ j, j < (lay 4).length → defaultValue (tyX4 j) = vp_V (fl0 (lay 4)) j := by decide +kernel
theorem nfX5 : ∀ j, j < (lay 5).length → defaultValue (tyX5 j) = vp_V (fl0 (lay 5)) j := by decide +kernel
theorem nfX6 : ∀ j, j < (lay 6).length → defaultValue (tyX6 j) = vp_V (fl0 (lay 6)) j := by decide +kernel
theorem nfX7 : ∀ j, j < (lay 7).length → defaultValue (tyX7 j) = vp_V (fl0 (lay 7)) j := by decide +kernel
theorem nfX8 : ∀ j, j < (lay 8).length → defaultValue (tyX8 j) = vp_V (fl0 (lay 8)) j := by decide +kernel
theorem nfX9 : ∀ j, j < (lay 9).length → defaultValue (tyX9 j) = vp_V (fl0 (lay 9)) j := by decide +kernel
theorem nfX10 : ∀ j, j < (lay 10).length → defaultValue (tyX10 j) = vp_V (fl0 (lay 10)) j := by decide +kernel
