/-! MERGING depends on the rows alone -/
theorem sc_cg {p q : Nat → Bool} : ∀ (n i : Nat), (∀ j, i ≤ j → j < i + n → p j = q j) → sc p n i = sc q n i := by
  intro n
  induction n with
  | zero => intro i _; rfl
  | succ n ih =>
    intro i h
    show (bif p i then some i else sc p n (i + 1)) = (bif q i then some i else sc q n (i + 1))
    rw [h i (Nat.le_refl i) (by omega), ih (i + 1) (fun j h1 h2 => h j (by omega) (by omega))]
theorem behR_cg {row row' : Nat → Nat → Option Nat} {fr fr' : Nat → Nat} {t r : Nat} (h : row r = row' r) (k : fr r = fr' r) : behR row fr t r = behR row' fr' t r := by
  unfold behR; rw [h, k]
theorem beh_cg {row row' : Nat → Nat → Option Nat} {fr fr' : Nat → Nat} {nr t : Nat} (h : ∀ r, r < nr → row r = row' r) (k : ∀ r, r < nr → fr r = fr' r) : beh row fr nr t = beh row' fr' nr t := by
  unfold beh
  rw [sc_cg _ _ (fun j h1 h2 => behR_cg (h j (by omega)) (k j (by omega)))]
theorem nxP_cg {row row' : Nat → Nat → Option Nat} {fr fr' : Nat → Nat} {nr r : Nat} (h : ∀ r, r < nr → row r = row' r) (k : ∀ r, r < nr → fr r = fr' r) (hr : r < nr) : nxP row fr nr r = nxP row' fr' nr r := by
  unfold nxP
  rw [h r hr, k r hr]
  cases row' r (fr' r) with
  | none => rfl
  | some t => show (!beh row fr nr t) = (!beh row' fr' nr t); rw [beh_cg h k]
theorem nx_cg {row row' : Nat → Nat → Option Nat} {fr fr' : Nat → Nat} {nr : Nat} (h : ∀ r, r < nr → row r = row' r) (k : ∀ r, r < nr → fr r = fr' r) : nx row fr nr = nx row' fr' nr := by
  unfold nx
  rw [sc_cg (q := nxP row' fr' nr) _ _ (fun j h1 h2 => nxP_cg h k (by omega))]
  cases e : sc (nxP row' fr' nr) (nr - 0) 0 with
  | none => rfl
  | some r =>
    obtain ⟨h1, h2, -, -⟩ := sc_some e
    show row r (fr r) = row' r (fr' r)
    rw [h r (by omega), k r (by omega)]
theorem any_cg {row row' : Nat → Nat → Option Nat} {fr fr' : Nat → Nat} {nr : Nat} (h : ∀ r, r < nr → row r = row' r) (k : ∀ r, r < nr → fr r = fr' r) : anyFr row fr nr = anyFr row' fr' nr := by
  unfold anyFr
  rw [sc_cg _ _ (fun j h1 h2 => by show (row j (fr j)).isSome = (row' j (fr' j)).isSome; rw [h j (by omega), k j (by omega)])]
theorem mg_cg {row row' : Nat → Nat → Option Nat} {nr : Nat} (h : ∀ r, r < nr → row r = row' r) : ∀ (f : Nat) (fr fr' : Nat → Nat) (acc : List Nat), (∀ r, r < nr → fr r = fr' r) → mg row nr f fr acc = mg row' nr f fr' acc := by
  intro f
  induction f with
  | zero => intro fr fr' acc k; rw [mg, mg, any_cg h k]
  | succ f ih =>
    intro fr fr' acc k
    rw [mg, mg, nx_cg h k]
    cases nx row' fr' nr with
    | none => show (bif anyFr row fr nr then none else some acc) = _; rw [any_cg h k]
    | some t => exact ih _ _ _ (fun r hr => by unfold adv; rw [h r hr, k r hr])
/-- a trait's line, as the reference keeps it -/
def tlist (K : RS) (t : Nat) : List Nat := (List.range (rN K 2 t)).map (fun i => rN K 1 (20 * t + i))
theorem tlist_get {K : RS} {t i : Nat} : (tlist K t)[i]? = if i < rN K 2 t then some (rN K 1 (20 * t + i)) else none := by
  unfold tlist
  rw [List.getElem?_map]
  split
  · rename_i h; rw [List.getElem?_range h]; rfl
  · rename_i h; rw [List.getElem?_eq_none (by rw [List.length_range]; omega)]; rfl
theorem tlist_len {K : RS} {t : Nat} : (tlist K t).length = rN K 2 t := by unfold tlist; rw [List.length_map, List.length_range]
