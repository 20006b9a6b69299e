/-! MERGING, as a function of rows: row r i is what stands at place i of row r -/
def behR (row : Nat → Nat → Option Nat) (fr : Nat → Nat) (t r : Nat) : Bool := (row r (fr r)).isSome && (sc (fun i => decide (row r i = some t)) (20 - (fr r + 1)) (fr r + 1)).isSome
def beh (row : Nat → Nat → Option Nat) (fr : Nat → Nat) (nr t : Nat) : Bool := (sc (behR row fr t) (nr - 0) 0).isSome
def nxP (row : Nat → Nat → Option Nat) (fr : Nat → Nat) (nr r : Nat) : Bool := match row r (fr r) with
  | some t => !beh row fr nr t
  | none => false
def nxO (row : Nat → Nat → Option Nat) (fr : Nat → Nat) : Option Nat → Option Nat
  | none => none
  | some r => row r (fr r)
def nx (row : Nat → Nat → Option Nat) (fr : Nat → Nat) (nr : Nat) : Option Nat := nxO row fr (sc (nxP row fr nr) (nr - 0) 0)
def anyFr (row : Nat → Nat → Option Nat) (fr : Nat → Nat) (nr : Nat) : Bool := (sc (fun r => (row r (fr r)).isSome) nr 0).isSome
def adv (row : Nat → Nat → Option Nat) (fr : Nat → Nat) (t : Nat) : Nat → Nat := fun r => if row r (fr r) = some t then fr r + 1 else fr r
def mg (row : Nat → Nat → Option Nat) (nr : Nat) : Nat → (Nat → Nat) → List Nat → Option (List Nat)
  | 0, fr, acc => bif anyFr row fr nr then none else some acc
  | f + 1, fr, acc => match nx row fr nr with
    | some t => mg row nr f (adv row fr t) (acc ++ [t])
    | none => bif anyFr row fr nr then none else some acc
/-- a row ends where it first has nothing; none is longer than 20 -/
def shut (row : Nat → Nat → Option Nat) (nr : Nat) : Prop := ∀ r, r < nr → (∀ i j, i ≤ j → row r i = none → row r j = none) ∧ ∀ i t, row r i = some t → i < 20
theorem behR_true {row : Nat → Nat → Option Nat} {fr : Nat → Nat} {nr t r : Nat} (hs : shut row nr) (hr : r < nr) : behR row fr t r = true ↔ ∃ i, fr r < i ∧ row r i = some t := by
  unfold behR
  rw [Bool.and_eq_true]
  constructor
  · rintro ⟨-, h⟩
    rw [Option.isSome_iff_exists] at h
    obtain ⟨i, hi⟩ := h
    obtain ⟨h1, h2, h3, -⟩ := sc_some hi
    exact ⟨i, by omega, of_decide_eq_true h3⟩
  · rintro ⟨i, h1, h2⟩
    have h20 := (hs r hr).2 i t h2
    refine ⟨?_, ?_⟩
    · cases e : row r (fr r) with
      | some x => rfl
      | none => rw [(hs r hr).1 (fr r) i (by omega) e] at h2; cases h2
    · cases e : sc (fun i => decide (row r i = some t)) (20 - (fr r + 1)) (fr r + 1) with
      | some x => rfl
      | none =>
        have := sc_none e i (by omega) (by omega)
        rw [decide_eq_true h2] at this; cases this
theorem beh_true {row : Nat → Nat → Option Nat} {fr : Nat → Nat} {nr t : Nat} (hs : shut row nr) : beh row fr nr t = true ↔ ∃ r, r < nr ∧ ∃ i, fr r < i ∧ row r i = some t := by
  unfold beh
  constructor
  · intro h
    rw [Option.isSome_iff_exists] at h
    obtain ⟨r, hr⟩ := h
    obtain ⟨h1, h2, h3, -⟩ := sc_some hr
    exact ⟨r, by omega, (behR_true hs (by omega)).mp h3⟩
  · rintro ⟨r, hr, h⟩
    cases e : sc (behR row fr t) (nr - 0) 0 with
    | some x => rfl
    | none =>
      have := sc_none e r (Nat.zero_le _) (by omega)
      rw [(behR_true hs hr).mpr h] at this; cases this
theorem beh_false {row : Nat → Nat → Option Nat} {fr : Nat → Nat} {nr t : Nat} (hs : shut row nr) (h : beh row fr nr t = false) {r i : Nat} (hr : r < nr) (hi : fr r < i) : row r i ≠ some t := fun z => by
  rw [(beh_true hs).mpr ⟨r, hr, i, hi, z⟩] at h; cases h
theorem nx_some {row : Nat → Nat → Option Nat} {fr : Nat → Nat} {nr t : Nat} (h : nx row fr nr = some t) : ∃ r, r < nr ∧ row r (fr r) = some t ∧ beh row fr nr t = false := by
  unfold nx at h
  cases e : sc (nxP row fr nr) (nr - 0) 0 with
  | none => rw [e] at h; cases h
  | some r =>
    rw [e] at h
    obtain ⟨h1, h2, h3, -⟩ := sc_some e
    have h4 : row r (fr r) = some t := h
    refine ⟨r, by omega, h4, ?_⟩
    unfold nxP at h3
    rw [h4] at h3
    simpa using h3
/-- what has come stands in no row any more, each once -/
def DI (row : Nat → Nat → Option Nat) (nr : Nat) (fr : Nat → Nat) (acc : List Nat) (T : Nat) : Prop := acc.Nodup ∧ (∀ x ∈ acc, x < T) ∧ ∀ r, r < nr → ∀ i, fr r ≤ i → ∀ t, row r i = some t → t ∉ acc
theorem DI_0 {row : Nat → Nat → Option Nat} {nr T : Nat} {fr : Nat → Nat} : DI row nr fr [] T := ⟨List.nodup_nil, fun x h => absurd h List.not_mem_nil, fun _ _ _ _ _ _ => List.not_mem_nil⟩
theorem DI_step {row : Nat → Nat → Option Nat} {nr T t : Nat} {fr : Nat → Nat} {acc : List Nat} (hs : shut row nr) (hT : ∀ r, r < nr → ∀ i t, row r i = some t → t < T) (h : DI row nr fr acc T) (hn : nx row fr nr = some t) : DI row nr (adv row fr t) (acc ++ [t]) T := by
  obtain ⟨h1, h2, h3⟩ := h
  obtain ⟨r0, g1, g2, g3⟩ := nx_some hn
  have ht : t ∉ acc := h3 r0 g1 _ (Nat.le_refl _) t g2
  refine ⟨?_, ?_, ?_⟩
  · rw [List.nodup_append]
    refine ⟨h1, by simp, ?_⟩
    intro a ha b hb
    rw [List.mem_singleton] at hb
    subst hb
    rintro rfl
    exact ht ha
  · intro x hx
    rcases List.mem_append.mp hx with hx | hx
    · exact h2 x hx
    · rw [List.mem_singleton] at hx; subst hx; exact hT r0 g1 _ _ g2
  · intro r hr i hi x hx hm
    unfold adv at hi
    rcases List.mem_append.mp hm with hm | hm
    · refine h3 r hr i ?_ x hx hm
      split at hi <;> omega
    · rw [List.mem_singleton] at hm
      subst hm
      split at hi
      · exact beh_false hs g3 hr (show fr r < i by omega) hx
      · rename_i hne
        by_cases hf : i = fr r
        · subst hf; exact hne hx
        · exact beh_false hs g3 hr (show fr r < i by omega) hx
theorem nodup_lt : ∀ (T : Nat) (l : List Nat), l.Nodup → (∀ x ∈ l, x < T) → l.length ≤ T := by
  intro T
  induction T with
  | zero =>
    intro l _ h
    cases l with
    | nil => exact Nat.le_refl _
    | cons a l => have := h a List.mem_cons_self; omega
  | succ T ih =>
    intro l hn h
    by_cases hm : T ∈ l
    · have h1 := ih (l.erase T) (hn.erase T) (fun x hx => by
        have h2 := (hn.mem_erase_iff).mp hx
        have h3 := h x h2.2
        have h4 := h2.1
        omega)
      rw [List.length_erase_of_mem hm] at h1
      omega
    · have h1 := ih l hn (fun x hx => by
        have h3 := h x hx
        have : x ≠ T := fun z => hm (z ▸ hx)
        omega)
      omega
theorem DI_len {row : Nat → Nat → Option Nat} {nr T : Nat} {fr : Nat → Nat} {acc : List Nat} (h : DI row nr fr acc T) : acc.length ≤ T := nodup_lt T acc h.1 h.2.1
theorem mg_some {row : Nat → Nat → Option Nat} {nr T : Nat} (hs : shut row nr) (hT : ∀ r, r < nr → ∀ i t, row r i = some t → t < T) : ∀ (f : Nat) (fr : Nat → Nat) (acc L : List Nat), DI row nr fr acc T → mg row nr f fr acc = some L → L.Nodup ∧ ∀ x ∈ L, x < T := by
  intro f
  induction f with
  | zero =>
    intro fr acc L h e
    rw [mg] at e
    cases ha : anyFr row fr nr with
    | true => rw [ha] at e; cases e
    | false => rw [ha] at e; cases e; exact ⟨h.1, h.2.1⟩
  | succ f ih =>
    intro fr acc L h e
    rw [mg] at e
    cases hn : nx row fr nr with
    | some t => rw [hn] at e; exact ih _ _ _ (DI_step hs hT h hn) e
    | none =>
      rw [hn] at e
      cases ha : anyFr row fr nr with
      | true => simp only [ha] at e; cases e
      | false => simp only [ha] at e; cases e; exact ⟨h.1, h.2.1⟩
/-- the reference's rows -/
def rowF (K : RS) (r i : Nat) : Option Nat := if r = fN K 29 then (if i < fN K 29 then some (rN K 28 i) else none) else if i < rN K 2 (rN K 28 r) then some (rN K 1 (20 * rN K 28 r + i)) else none
def MPre (K : RS) : Prop := rF K 29 = nI (fN K 29) ∧ fN K 29 ≤ 6 ∧ ∀ r, r < fN K 29 → rA K 28 r = nI (rN K 28 r) ∧ rN K 28 r < fN K 0
theorem rowF_T {K : RS} (hv : RV K) (hm : MPre K) : ∀ r, r < fN K 29 + 1 → ∀ i t, rowF K r i = some t → t < fN K 0 := by
  intro r hr i t h
  unfold rowF at h
  have hT := hv.p1.2
  split at h
  · split at h
    · rename_i h2; cases h; exact (hm.2.2 i h2).2
    · cases h
  · rename_i h1
    split at h
    · rename_i h2
      cases h
      have h3 := hm.2.2 r (by omega)
      exact (hv.p4 _ (by omega) i h2).2
    · cases h
theorem rowF_shut {K : RS} (hv : RV K) (hm : MPre K) : shut (rowF K) (fN K 29 + 1) := by
  intro r hr
  have hT := hv.p1.2
  have h6 := hm.2.1
  refine ⟨fun i j hij h => ?_, fun i t h => ?_⟩
  · unfold rowF at h ⊢
    split at h
    · rename_i h1
      rw [if_pos h1]
      split at h
      · cases h
      · rw [if_neg (by omega)]
    · rename_i h1
      rw [if_neg h1]
      split at h
      · cases h
      · rw [if_neg (by omega)]
  · unfold rowF at h
    split at h
    · split at h
      · omega
      · cases h
    · rename_i h1
      split at h
      · rename_i h2
        have h3 := hm.2.2 r (by omega)
        have := (hv.p3 _ (show rN K 28 r < 20 by omega)).2
        omega
      · cases h
def mgF (K : RS) : Option (List Nat) := mg (rowF K) (fN K 29 + 1) 20 (fun _ => 0) []
theorem mgF_some {K : RS} (hv : RV K) (hm : MPre K) {L : List Nat} (h : mgF K = some L) : L.Nodup ∧ ∀ x ∈ L, x < fN K 0 := mg_some (rowF_shut hv hm) (rowF_T hv hm) _ _ _ _ DI_0 h
/-- of the state only these slots have changed -/
def keep (F A Q J : List Nat) (K K' : RS) : Prop := (∀ g, g ∉ F → rF K' g = rF K g) ∧ (∀ g, g ∉ A → ∀ i, rA K' g i = rA K g i) ∧ (∀ g, g ∉ Q → ∀ i, rQ K' g i = rQ K g i) ∧ ∀ g, g ∉ J → rJ K' g = rJ K g
theorem keep_rfl {F A Q J : List Nat} {K : RS} : keep F A Q J K K := ⟨fun _ _ => rfl, fun _ _ _ => rfl, fun _ _ _ => rfl, fun _ _ => rfl⟩
theorem keep_tr {F A Q J : List Nat} {K K1 K2 : RS} (h : keep F A Q J K K1) (k : keep F A Q J K1 K2) : keep F A Q J K K2 := ⟨fun g hg => (k.1 g hg).trans (h.1 g hg), fun g hg i => (k.2.1 g hg i).trans (h.2.1 g hg i), fun g hg i => (k.2.2.1 g hg i).trans (h.2.2.1 g hg i), fun g hg => (k.2.2.2 g hg).trans (h.2.2.2 g hg)⟩
theorem keep_mono {F A Q J F' A' Q' J' : List Nat} {K K1 : RS} (h : keep F A Q J K K1) (hF : ∀ g ∈ F, g ∈ F') (hA : ∀ g ∈ A, g ∈ A') (hQ : ∀ g ∈ Q, g ∈ Q') (hJ : ∀ g ∈ J, g ∈ J') : keep F' A' Q' J' K K1 := ⟨fun g hg => h.1 g (fun z => hg (hF g z)), fun g hg => h.2.1 g (fun z => hg (hA g z)), fun g hg => h.2.2.1 g (fun z => hg (hQ g z)), fun g hg => h.2.2.2 g (fun z => hg (hJ g z))⟩
theorem keep_wF {F A Q J : List Nat} {K K1 : RS} {g : Nat} {v : Int32} (h : keep F A Q J K K1) (hg : g ∈ F) : keep F A Q J K (wF K1 g v) := ⟨fun g' hg' => by rw [rF_wF, if_neg (fun z : g' = g => hg' (by rw [z]; exact hg))]; exact h.1 g' hg', h.2.1, h.2.2.1, h.2.2.2⟩
theorem keep_wJ {F A Q J : List Nat} {K K1 : RS} {g : Nat} {v : Int64} (h : keep F A Q J K K1) (hg : g ∈ J) : keep F A Q J K (wJ K1 g v) := ⟨h.1, h.2.1, h.2.2.1, fun g' hg' => by rw [rJ_wJ, if_neg (fun z : g' = g => hg' (by rw [z]; exact hg))]; exact h.2.2.2 g' hg'⟩
theorem keep_wA {F A Q J : List Nat} {K K1 : RS} {g i : Nat} {v : Int32} (h : keep F A Q J K K1) (hg : g ∈ A) : keep F A Q J K (wA K1 g i v) := ⟨h.1, fun g' hg' j => by rw [rA_wA, if_neg (fun z : g' = g ∧ j = i => hg' (by rw [z.1]; exact hg))]; exact h.2.1 g' hg' j, h.2.2.1, h.2.2.2⟩
theorem keep_wQ {F A Q J : List Nat} {K K1 : RS} {g i : Nat} {v : Int64} (h : keep F A Q J K K1) (hg : g ∈ Q) : keep F A Q J K (wQ K1 g i v) := ⟨h.1, h.2.1, fun g' hg' j => by rw [rQ_wQ, if_neg (fun z : g' = g ∧ j = i => hg' (by rw [z.1]; exact hg))]; exact h.2.2.1 g' hg' j, h.2.2.2⟩
theorem keep_rN {F A Q J : List Nat} {K K1 : RS} (h : keep F A Q J K K1) {g : Nat} (hg : g ∉ A) (i : Nat) : rN K1 g i = rN K g i := by unfold rN; rw [h.2.1 g hg i]
theorem keep_fN {F A Q J : List Nat} {K K1 : RS} (h : keep F A Q J K K1) {g : Nat} (hg : g ∉ F) : fN K1 g = fN K g := by unfold fN; rw [h.1 g hg]
def RVF : List Nat := [0, 3, 19, 49]
def RVA : List Nat := [1, 2, 5, 6, 7, 8, 13, 15, 16, 17, 18, 20, 23, 25, 26]
theorem RV_keep {F A Q J : List Nat} {K K1 : RS} (h : keep F A Q J K K1) (hF : ∀ g ∈ RVF, g ∉ F) (hA : ∀ g ∈ RVA, g ∉ A) (v : RV K) : RV K1 := by
  have f : ∀ g, g ∈ RVF → rF K1 g = rF K g := fun g hg => h.1 g (hF g hg)
  have fn : ∀ g, g ∈ RVF → fN K1 g = fN K g := fun g hg => keep_fN h (hF g hg)
  have a : ∀ g, g ∈ RVA → ∀ i, rA K1 g i = rA K g i := fun g hg => h.2.1 g (hA g hg)
  have an : ∀ g, g ∈ RVA → ∀ i, rN K1 g i = rN K g i := fun g hg => keep_rN h (hA g hg)
  have f0 := f 0 (by decide); have f3 := f 3 (by decide); have f19 := f 19 (by decide); have f49 := f 49 (by decide)
  have n0 := fn 0 (by decide); have n3 := fn 3 (by decide); have n49 := fn 49 (by decide)
  have a1 := a 1 (by decide); have a2 := a 2 (by decide); have a5 := a 5 (by decide); have a6 := a 6 (by decide); have a7 := a 7 (by decide); have a8 := a 8 (by decide); have a13 := a 13 (by decide); have a15 := a 15 (by decide); have a16 := a 16 (by decide); have a17 := a 17 (by decide); have a18 := a 18 (by decide); have a20 := a 20 (by decide); have a23 := a 23 (by decide); have a25 := a 25 (by decide); have a26 := a 26 (by decide)
  have b1 := an 1 (by decide); have b2 := an 2 (by decide); have b5 := an 5 (by decide); have b6 := an 6 (by decide); have b7 := an 7 (by decide); have b8 := an 8 (by decide); have b13 := an 13 (by decide); have b15 := an 15 (by decide); have b20 := an 20 (by decide); have b23 := an 23 (by decide); have b25 := an 25 (by decide); have b26 := an 26 (by decide)
  obtain ⟨p1, p2, p3, p4, p5, p6, p7, p8, p9, p10, p11, p12, p13, p14, p15, p16⟩ := v
  simp only [P1, P2, P3, P4, P5, P6, P7, P8, P9, P10, P11, P12, P13, P14, P15, P16] at p1 p2 p3 p4 p5 p6 p7 p8 p9 p10 p11 p12 p13 p14 p15 p16
  refine ⟨?_, ?_, ?_, ?_, ?_, ?_, ?_, ?_, ?_, ?_, ?_, ?_, ?_, ?_, ?_, ?_⟩
  · simp only [P1, f0, n0]; exact p1
  · simp only [P2, f3, n3]; exact p2
  · simp only [P3, a2, b2]; exact p3
  · simp only [P4, a1, b1, b2, n0]; exact p4
  · simp only [P5, a8, b8]; exact p5
  · simp only [P6, a7, b7, b8, n0]; exact p6
  · simp only [P7, a6, b6]; exact p7
  · simp only [P8, a5, b5, b6, n0]; exact p8
  · simp only [P9, a20, b20]; exact p9
  · simp only [P10, a23, b23]; exact p10
  · simp only [P11, a25, a26, b25, b26, b23]; exact p11
  · simp only [P12, a15, b15]; exact p12
  · simp only [P13, a13, b13]; exact p13
  · simp only [P14, f19]; exact p14
  · simp only [P15, a16, a17, a18]; exact p15
  · simp only [P16, f49, n49]; exact p16
theorem rowF_keep {F A Q J : List Nat} {K K1 : RS} (h : keep F A Q J K K1) (hF : 29 ∉ F) (h1 : 1 ∉ A) (h2 : 2 ∉ A) (h3 : 28 ∉ A) : rowF K1 = rowF K := by
  funext r i
  unfold rowF
  rw [keep_fN h hF, keep_rN h h3, keep_rN h h3, keep_rN h h2, keep_rN h h1]
theorem MPre_keep {F A Q J : List Nat} {K K1 : RS} (h : keep F A Q J K K1) (hF : 29 ∉ F) (hF0 : 0 ∉ F) (h3 : 28 ∉ A) (m : MPre K) : MPre K1 := by
  unfold MPre
  simp only [keep_fN h hF, keep_fN h hF0, h.1 29 hF, h.2.1 28 h3, keep_rN h h3]
  exact m
theorem oI_nI {v : Option Nat} {t : Nat} (hv : ∀ k, v = some k → k < 2 ^ 31) (ht : t < 2 ^ 31) : oI v = nI t ↔ v = some t := by
  cases v with
  | none => exact ⟨fun z => absurd z.symm (nI_nem1 ht), fun z => by cases z⟩
  | some k => exact (nI_eq (hv k rfl) ht).trans ⟨fun z => by rw [z], fun z => by cases z; rfl⟩
