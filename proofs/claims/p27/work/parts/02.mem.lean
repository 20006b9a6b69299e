/-! THE MEMORY of class and reference: addresses, kinds, array lengths, int / reference / long fields by (64 * class + slot, address), arrays by (address, place) -/
abbrev Mem : Type := List Nat × (Nat → Nat) × (Nat → Nat) × (Nat → Nat → Int32) × (Nat → Nat → Option Nat) × (Nat → Nat → Int64) × (Nat → Nat → Int32) × (Nat → Nat → Option Nat) × (Nat → Nat → Int64)
def mL (S : Mem) : List Nat := S.1
def mK (S : Mem) : Nat → Nat := S.2.1
def mN (S : Mem) : Nat → Nat := S.2.2.1
def mI (S : Mem) : Nat → Nat → Int32 := S.2.2.2.1
def mO (S : Mem) : Nat → Nat → Option Nat := S.2.2.2.2.1
def mJ (S : Mem) : Nat → Nat → Int64 := S.2.2.2.2.2.1
def mA (S : Mem) : Nat → Nat → Int32 := S.2.2.2.2.2.2.1
def mP (S : Mem) : Nat → Nat → Option Nat := S.2.2.2.2.2.2.2.1
def mQ (S : Mem) : Nat → Nat → Int64 := S.2.2.2.2.2.2.2.2
/-- two-place update -/
def up2 {α : Type} (f : Nat → Nat → α) (i j : Nat) (v : α) : Nat → Nat → α := fun i' j' => if i' = i ∧ j' = j then v else f i' j'
/-- a new address: all of its row gets one value -/
def upc {α : Type} (f : Nat → Nat → α) (j : Nat) (v : α) : Nat → Nat → α := fun i' j' => if j' = j then v else f i' j'
def upr {α : Type} (f : Nat → Nat → α) (i : Nat) (v : α) : Nat → Nat → α := fun i' j' => if i' = i then v else f i' j'
def sI (S : Mem) (g a : Nat) (v : Int32) : Mem := (mL S, mK S, mN S, up2 (mI S) g a v, mO S, mJ S, mA S, mP S, mQ S)
def sO (S : Mem) (g a : Nat) (v : Option Nat) : Mem := (mL S, mK S, mN S, mI S, up2 (mO S) g a v, mJ S, mA S, mP S, mQ S)
def sJ (S : Mem) (g a : Nat) (v : Int64) : Mem := (mL S, mK S, mN S, mI S, mO S, up2 (mJ S) g a v, mA S, mP S, mQ S)
def sA (S : Mem) (a i : Nat) (v : Int32) : Mem := (mL S, mK S, mN S, mI S, mO S, mJ S, up2 (mA S) a i v, mP S, mQ S)
def sP (S : Mem) (a i : Nat) (v : Option Nat) : Mem := (mL S, mK S, mN S, mI S, mO S, mJ S, mA S, up2 (mP S) a i v, mQ S)
def sQ (S : Mem) (a i : Nat) (v : Int64) : Mem := (mL S, mK S, mN S, mI S, mO S, mJ S, mA S, mP S, up2 (mQ S) a i v)
/-- a new object of class ci at a -/
def sNew (S : Mem) (a ci : Nat) : Mem := (mL S ++ [a], va_up (mK S) a ci, mN S, upc (mI S) a 0, upc (mO S) a none, upc (mJ S) a 0, mA S, mP S, mQ S)
/-- a new array of kind kd and length n at a -/
def sArr (S : Mem) (a kd n : Nat) : Mem := (mL S ++ [a], va_up (mK S) a kd, va_up (mN S) a n, mI S, mO S, mJ S, upr (mA S) a 0, upr (mP S) a none, upr (mQ S) a 0)
/-- the slots of each class: 0 an int, 1 a reference, 2 a long -/
def lay (c : Nat) : List Nat := match c with
  | 0 => [0, 1, 0, 0, 1, 1, 1, 0, 0, 0]
  | 1 => [1, 0, 1, 0, 1, 1]
  | 2 => [0, 0, 1, 1, 0, 1, 1, 0, 1, 1, 0, 1, 1]
  | 3 => [1, 1, 0]
  | 4 => [1, 1, 1, 1, 0]
  | 5 => [0, 0, 0, 0, 0, 1, 1, 1, 0]
  | 6 => [1, 1, 0, 0, 0, 0, 2]
  | 7 => [1, 0]
  | 8 => [1, 1, 1]
  | 9 => [1, 1, 1]
  | _ => [0, 1, 1, 0, 1, 1, 1, 1, 1, 1, 1, 1, 1, 1, 1, 1, 1, 1, 1, 0, 1, 1, 1, 1, 1, 1, 1, 1, 1, 0, 1, 1, 1, 1, 1, 1, 1, 1, 1, 1, 1, 1, 0, 2, 2, 0, 0, 0, 0, 0, 1, 1, 1, 1, 1]
def fv (S : Mem) (a g t : Nat) : Value := match t with
  | 0 => .int (mI S g a)
  | 1 => va_rf (mO S g a)
  | _ => .long (mJ S g a)
def fl (S : Mem) (a : Nat) : Nat → List Nat → List Value
  | _, [] => []
  | g, t :: r => fv S a g t :: fl S a (g + 1) r
theorem fl_len (S : Mem) (a : Nat) : ∀ (ts : List Nat) (g : Nat), (fl S a g ts).length = ts.length := by
  intro ts
  induction ts with
  | nil => intro g; rfl
  | cons t r ih => intro g; simp [fl, ih]
theorem fl_get (S : Mem) (a : Nat) : ∀ (ts : List Nat) (g k t : Nat), ts[k]? = some t → (fl S a g ts)[k]? = some (fv S a (g + k) t) := by
  intro ts
  induction ts with
  | nil => intro g k t h; simp at h
  | cons t0 r ih =>
    intro g k t h
    cases k with
    | zero => simp at h; subst h; simp [fl]
    | succ k =>
      simp at h
      have := ih (g + 1) k t h
      simp only [fl, List.getElem?_cons_succ]
      rw [this, show g + 1 + k = g + (k + 1) by omega]
theorem fl_cong {S S' : Mem} {a : Nat} : ∀ (ts : List Nat) (g : Nat), (∀ g' t, g ≤ g' → fv S' a g' t = fv S a g' t) → fl S' a g ts = fl S a g ts := by
  intro ts
  induction ts with
  | nil => intro g h; rfl
  | cons t r ih => intro g h; simp only [fl]; rw [h g t (Nat.le_refl g), ih (g + 1) (fun g' t hg => h g' t (by omega))]
theorem fl_set {S S' : Mem} {a : Nat} {gg tt : Nat} (hne : ∀ g' t, g' ≠ gg → fv S' a g' t = fv S a g' t) : ∀ (ts : List Nat) (g k : Nat), ts[k]? = some tt → g + k = gg → fl S' a g ts = (fl S a g ts).set k (fv S' a gg tt) := by
  intro ts
  induction ts with
  | nil => intro g k h; simp at h
  | cons t0 r ih =>
    intro g k h e
    cases k with
    | zero =>
      simp at h e; subst h; subst e
      simp only [fl, List.set_cons_zero]
      rw [fl_cong r (g + 1) (fun g' t hg => hne g' t (by omega))]
    | succ k =>
      simp at h
      simp only [fl, List.set_cons_succ]
      rw [hne g t0 (by omega), ih (g + 1) k h (by omega)]
/-- what stands at an address -/
def cellF (G : Nat → ClassId) (S : Mem) (a : Nat) : va_E :=
  if mK S a < 11 then .inr (mK S a, fl S a (64 * mK S a) (lay (mK S a)))
  else if mK S a = 12 then .inl (G 12, mN S a, .inr (.inl (mQ S a)))
  else if mK S a < 14 then .inl (G (mK S a), mN S a, .inl (mA S a))
  else .inl (G (mK S a), mN S a, .inr (.inr (.inr (.inr (mP S a)))))
theorem cell_obj {G : Nat → ClassId} {S : Mem} {a ci : Nat} (h : mK S a = ci) (hc : ci < 11) : cellF G S a = .inr (ci, fl S a (64 * ci) (lay ci)) := by
  subst h; simp [cellF, hc]
theorem cell_I {G : Nat → ClassId} {S : Mem} {a : Nat} (h : mK S a = 11) : cellF G S a = .inl (G 11, mN S a, .inl (mA S a)) := by simp [cellF, h]
theorem cell_J {G : Nat → ClassId} {S : Mem} {a : Nat} (h : mK S a = 12) : cellF G S a = .inl (G 12, mN S a, .inr (.inl (mQ S a))) := by simp [cellF, h]
theorem cell_Z {G : Nat → ClassId} {S : Mem} {a : Nat} (h : mK S a = 13) : cellF G S a = .inl (G 13, mN S a, .inl (mA S a)) := by simp [cellF, h]
theorem cell_P {G : Nat → ClassId} {S : Mem} {a kd : Nat} (h : mK S a = kd) (hk : 13 < kd) : cellF G S a = .inl (G kd, mN S a, .inr (.inr (.inr (.inr (mP S a))))) := by
  subst h
  simp only [cellF]
  rw [if_neg (by omega), if_neg (by omega), if_neg (by omega)]
/-- a store into a field: what cellF says afterwards -/
theorem cell_set {G : Nat → ClassId} {S S' : Mem} {a ci k tt : Nat} (hK : mK S' = mK S) (hN : mN S' = mN S) (hA : mA S' = mA S) (hP : mP S' = mP S) (hQ : mQ S' = mQ S) (h : mK S a = ci) (hc : ci < 11) (hk : (lay ci)[k]? = some tt)
    (hne : ∀ g' t, g' ≠ 64 * ci + k → fv S' a g' t = fv S a g' t) (hoth : ∀ b g' t, b ≠ a → fv S' b g' t = fv S b g' t) (b : Nat) :
    va_up (cellF G S) a (.inr (ci, (fl S a (64 * ci) (lay ci)).set k (fv S' a (64 * ci + k) tt))) b = cellF G S' b := by
  by_cases hb : b = a
  · subst hb
    rw [va_up_self, cell_obj (S := S') (by rw [hK]; exact h) hc, fl_set hne (lay ci) (64 * ci) k hk rfl]
  · rw [va_up_ne _ _ hb]
    simp only [cellF, hK, hN, hA, hP, hQ]
    split
    · rw [fl_cong (S := S) (S' := S') _ _ (fun g' t _ => hoth b g' t hb)]
    · rfl
theorem cell_setA {G : Nat → ClassId} {S S' : Mem} {a : Nat} {e : va_E} (hK : mK S' = mK S) (hN : mN S' = mN S) (hI : mI S' = mI S) (hO : mO S' = mO S) (hJ : mJ S' = mJ S) (he : cellF G S' a = e)
    (hA : ∀ b, b ≠ a → mA S' b = mA S b) (hP : ∀ b, b ≠ a → mP S' b = mP S b) (hQ : ∀ b, b ≠ a → mQ S' b = mQ S b) (b : Nat) :
    va_up (cellF G S) a e b = cellF G S' b := by
  by_cases hb : b = a
  · subst hb; rw [va_up_self, he]
  · rw [va_up_ne _ _ hb]
    simp only [cellF, hK, hN, hA b hb, hP b hb, hQ b hb]
    split
    · rw [fl_cong (S := S) (S' := S') _ _ (fun g' t _ => by simp only [fv, hI, hO, hJ])]
    · rfl
theorem cell_new {G : Nat → ClassId} {S S' : Mem} {a : Nat} {e : va_E} (he : cellF G S' a = e) (h : ∀ b, b ≠ a → mK S' b = mK S b ∧ mN S' b = mN S b ∧ mA S' b = mA S b ∧ mP S' b = mP S b ∧ mQ S' b = mQ S b ∧ ∀ g t, fv S' b g t = fv S b g t) (b : Nat) :
    va_up (cellF G S) a e b = cellF G S' b := by
  by_cases hb : b = a
  · subst hb; rw [va_up_self, he]
  · obtain ⟨h1, h2, h3, h4, h5, h6⟩ := h b hb
    rw [va_up_ne _ _ hb]
    simp only [cellF, h1, h2, h3, h4, h5]
    split
    · rw [fl_cong (S := S) (S' := S') _ _ (fun g' t _ => h6 g' t)]
    · rfl
theorem fv_sI_ne {S : Mem} {g a b g' t : Nat} {v : Int32} (h : g' ≠ g ∨ b ≠ a) : fv (sI S g a v) b g' t = fv S b g' t := by
  simp only [fv, sI, mI, mO, mJ, up2]
  split <;> first | rfl | (rw [if_neg (by rintro ⟨h1, h2⟩; rcases h with h | h <;> contradiction)])
theorem fv_sO_ne {S : Mem} {g a b g' t : Nat} {v : Option Nat} (h : g' ≠ g ∨ b ≠ a) : fv (sO S g a v) b g' t = fv S b g' t := by
  simp only [fv, sO, mI, mO, mJ, up2]
  split <;> first | rfl | (rw [if_neg (by rintro ⟨h1, h2⟩; rcases h with h | h <;> contradiction)])
theorem fv_sJ_ne {S : Mem} {g a b g' t : Nat} {v : Int64} (h : g' ≠ g ∨ b ≠ a) : fv (sJ S g a v) b g' t = fv S b g' t := by
  simp only [fv, sJ, mI, mO, mJ, up2]
  split <;> first | rfl | (rw [if_neg (by rintro ⟨h1, h2⟩; rcases h with h | h <;> contradiction)])
theorem fv_sI {S : Mem} {g a : Nat} {v : Int32} : fv (sI S g a v) a g 0 = .int v := by simp [fv, sI, mI, up2]
theorem fv_sO {S : Mem} {g a : Nat} {v : Option Nat} : fv (sO S g a v) a g 1 = va_rf v := by simp [fv, sO, mO, up2]
theorem fv_sJ {S : Mem} {g a : Nat} {v : Int64} : fv (sJ S g a v) a g 2 = .long v := by simp [fv, sJ, mJ, up2]
theorem cell_sI {G : Nat → ClassId} {S : Mem} {a ci k : Nat} (v : Int32) (h : mK S a = ci) (hc : ci < 11) (hk : (lay ci)[k]? = some 0) (b : Nat) : va_up (cellF G S) a (.inr (ci, (fl S a (64 * ci) (lay ci)).set k (.int v))) b = cellF G (sI S (64 * ci + k) a v) b := by
  rw [← fv_sI (S := S) (g := 64 * ci + k) (a := a) (v := v)]
  exact cell_set (S := S) (S' := sI S (64 * ci + k) a v) rfl rfl rfl rfl rfl h hc hk (fun g' t hg => fv_sI_ne (Or.inl hg)) (fun b g' t hb => fv_sI_ne (Or.inr hb)) b
theorem cell_sO {G : Nat → ClassId} {S : Mem} {a ci k : Nat} (v : Option Nat) (h : mK S a = ci) (hc : ci < 11) (hk : (lay ci)[k]? = some 1) (b : Nat) : va_up (cellF G S) a (.inr (ci, (fl S a (64 * ci) (lay ci)).set k (va_rf v))) b = cellF G (sO S (64 * ci + k) a v) b := by
  rw [← fv_sO (S := S) (g := 64 * ci + k) (a := a) (v := v)]
  exact cell_set (S := S) (S' := sO S (64 * ci + k) a v) rfl rfl rfl rfl rfl h hc hk (fun g' t hg => fv_sO_ne (Or.inl hg)) (fun b g' t hb => fv_sO_ne (Or.inr hb)) b
theorem cell_sJ {G : Nat → ClassId} {S : Mem} {a ci k : Nat} (v : Int64) (h : mK S a = ci) (hc : ci < 11) (hk : (lay ci)[k]? = some 2) (b : Nat) : va_up (cellF G S) a (.inr (ci, (fl S a (64 * ci) (lay ci)).set k (.long v))) b = cellF G (sJ S (64 * ci + k) a v) b := by
  rw [← fv_sJ (S := S) (g := 64 * ci + k) (a := a) (v := v)]
  exact cell_set (S := S) (S' := sJ S (64 * ci + k) a v) rfl rfl rfl rfl rfl h hc hk (fun g' t hg => fv_sJ_ne (Or.inl hg)) (fun b g' t hb => fv_sJ_ne (Or.inr hb)) b
theorem up2_row {α : Type} (f : Nat → Nat → α) (a i : Nat) (v : α) : up2 f a i v a = fun j => if j = i then v else f a j := by funext j; simp [up2]
theorem up2_row_ne {α : Type} (f : Nat → Nat → α) {a b : Nat} (i : Nat) (v : α) (h : b ≠ a) : up2 f a i v b = f b := by funext j; simp [up2, h]
theorem cell_sA {G : Nat → ClassId} {S : Mem} {a kd : Nat} (i : Nat) (v : Int32) (h : mK S a = kd) (hk : kd = 11 ∨ kd = 13) (b : Nat) : va_up (cellF G S) a (.inl (G kd, mN S a, .inl (upd (mA S a) i v))) b = cellF G (sA S a i v) b := by
  refine cell_setA (S := S) (S' := sA S a i v) rfl rfl rfl rfl rfl ?_ (fun b hb => up2_row_ne _ _ _ hb) (fun b hb => rfl) (fun b hb => rfl) b
  have e : mA (sA S a i v) a = upd (mA S a) i v := by show up2 (mA S) a i v a = _; rw [up2_row]; rfl
  rcases hk with rfl | rfl
  · rw [cell_I (S := sA S a i v) h, e]; rfl
  · rw [cell_Z (S := sA S a i v) h, e]; rfl
theorem cell_sP {G : Nat → ClassId} {S : Mem} {a kd : Nat} (i : Nat) (v : Option Nat) (h : mK S a = kd) (hk : 13 < kd) (b : Nat) : va_up (cellF G S) a (.inl (G kd, mN S a, .inr (.inr (.inr (.inr (va_up (mP S a) i v)))))) b = cellF G (sP S a i v) b := by
  refine cell_setA (S := S) (S' := sP S a i v) rfl rfl rfl rfl rfl ?_ (fun b hb => rfl) (fun b hb => up2_row_ne _ _ _ hb) (fun b hb => rfl) b
  have e : mP (sP S a i v) a = va_up (mP S a) i v := by show up2 (mP S) a i v a = _; rw [up2_row]; rfl
  rw [cell_P (S := sP S a i v) h hk, e]; rfl
theorem cell_sQ {G : Nat → ClassId} {S : Mem} {a : Nat} (i : Nat) (v : Int64) (h : mK S a = 12) (b : Nat) : va_up (cellF G S) a (.inl (G 12, mN S a, .inr (.inl (vp_updL (mQ S a) i v)))) b = cellF G (sQ S a i v) b := by
  refine cell_setA (S := S) (S' := sQ S a i v) rfl rfl rfl rfl rfl ?_ (fun b hb => rfl) (fun b hb => rfl) (fun b hb => up2_row_ne _ _ _ hb) b
  have e : mQ (sQ S a i v) a = vp_updL (mQ S a) i v := by show up2 (mQ S) a i v a = _; rw [up2_row]; rfl
  rw [cell_J (S := sQ S a i v) h, e]; rfl
theorem fv_sNew_ne {S : Mem} {a ci b g t : Nat} (h : b ≠ a) : fv (sNew S a ci) b g t = fv S b g t := by
  simp only [fv, sNew, mI, mO, mJ, upc, if_neg h]
/-- the fields of a new object -/
def fl0 : List Nat → List Value
  | [] => []
  | t :: r => (match t with | 0 => .int 0 | 1 => .null | _ => .long 0) :: fl0 r
theorem fl_new {S : Mem} {a ci : Nat} : ∀ (ts : List Nat) (g : Nat), fl (sNew S a ci) a g ts = fl0 ts := by
  intro ts
  induction ts with
  | nil => intro g; rfl
  | cons t r ih =>
    intro g
    simp only [fl, fl0, ih]
    congr 1
    simp only [fv, sNew, mI, mO, mJ, upc, if_true]
    split <;> rfl
theorem cell_sNew {G : Nat → ClassId} {S : Mem} {a ci : Nat} (hc : ci < 11) (b : Nat) : va_up (cellF G S) a (.inr (ci, fl0 (lay ci))) b = cellF G (sNew S a ci) b := by
  refine cell_new (S := S) (S' := sNew S a ci) ?_ (fun b hb => ⟨va_up_ne _ _ hb, rfl, rfl, rfl, rfl, fun g t => fv_sNew_ne hb⟩) b
  rw [cell_obj (S := sNew S a ci) (va_up_self _ _ _) hc, fl_new]
theorem fv_sArr {S : Mem} {a kd n b g t : Nat} : fv (sArr S a kd n) b g t = fv S b g t := rfl
theorem upr_ne {α : Type} (f : Nat → Nat → α) {a b : Nat} (v : α) (h : b ≠ a) : upr f a v b = f b := by funext j; simp [upr, h]
theorem upr_self {α : Type} (f : Nat → Nat → α) {a : Nat} (v : α) : upr f a v a = fun _ => v := by funext j; simp [upr]
theorem cell_sArr {G : Nat → ClassId} {S : Mem} {a kd n : Nat} {e : va_E} (he : cellF G (sArr S a kd n) a = e) (b : Nat) : va_up (cellF G S) a e b = cellF G (sArr S a kd n) b :=
  cell_new (S := S) (S' := sArr S a kd n) he (fun b hb => ⟨va_up_ne _ _ hb, va_up_ne _ _ hb, upr_ne _ _ hb, upr_ne _ _ hb, upr_ne _ _ hb, fun g t => rfl⟩) b
theorem cell_newI {G : Nat → ClassId} {S : Mem} {a kd n : Nat} (h : kd = 11 ∨ kd = 13) : cellF G (sArr S a kd n) a = .inl (G kd, n, .inl (fun _ => 0)) := by
  have h1 : mA (sArr S a kd n) a = fun _ => 0 := upr_self _ _
  have h2 : mN (sArr S a kd n) a = n := va_up_self _ _ _
  have h3 : mK (sArr S a kd n) a = kd := va_up_self _ _ _
  rcases h with rfl | rfl
  · rw [cell_I h3, h1, h2]
  · rw [cell_Z h3, h1, h2]
theorem cell_newJ {G : Nat → ClassId} {S : Mem} {a n : Nat} : cellF G (sArr S a 12 n) a = .inl (G 12, n, .inr (.inl (fun _ => 0))) := by
  have h1 : mQ (sArr S a 12 n) a = fun _ => 0 := upr_self _ _
  have h2 : mN (sArr S a 12 n) a = n := va_up_self _ _ _
  have h3 : mK (sArr S a 12 n) a = 12 := va_up_self _ _ _
  rw [cell_J h3, h1, h2]
theorem cell_newP {G : Nat → ClassId} {S : Mem} {a kd n : Nat} (h : 13 < kd) : cellF G (sArr S a kd n) a = .inl (G kd, n, .inr (.inr (.inr (.inr (fun _ => none))))) := by
  have h1 : mP (sArr S a kd n) a = fun _ => none := upr_self _ _
  have h2 : mN (sArr S a kd n) a = n := va_up_self _ _ _
  have h3 : mK (sArr S a kd n) a = kd := va_up_self _ _ _
  rw [cell_P h3 h, h1, h2]
