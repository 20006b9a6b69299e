/-! PLAYS OF THE REFERENCE: only these slots change -/
def PF : List Nat := [42, 45, 46, 47, 48, 49]
def PA : List Nat := [32, 33, 34, 35, 36, 37, 38, 39, 40, 41, 50, 51, 52, 53]
def PQ : List Nat := [9, 54]
def PJ : List Nat := [43, 44]
def pkeep (K K' : RS) : Prop := keep PF PA PQ PJ K K' 
theorem leavesF_pk {K K1 : RS} (h : pkeep K K1) (u : Nat) (t : Nat) (n : Nat) : leavesF K1 u t n = leavesF K u t n := by
  have a21 : ∀ i, rA K1 21 i = rA K 21 i := fun i => h.2.1 21 (by decide) i
  have a22 : ∀ i, rA K1 22 i = rA K 22 i := fun i => h.2.1 22 (by decide) i
  have a20 : ∀ i, rA K1 20 i = rA K 20 i := fun i => h.2.1 20 (by decide) i
  have b21 : ∀ i, rN K1 21 i = rN K 21 i := fun i => keep_rN h (by decide) i
  have b22 : ∀ i, rN K1 22 i = rN K 22 i := fun i => keep_rN h (by decide) i
  have b20 : ∀ i, rN K1 20 i = rN K 20 i := fun i => keep_rN h (by decide) i
  have e : lvP K1 u t n = lvP K u t n := funext (fun i => by simp only [lvP, a21, a22, a20])
  simp only [leavesF, e, b21, b22, b20]
theorem renamedF_pk {K K1 : RS} (h : pkeep K K1) (u : Nat) (t : Nat) (n : Nat) : renamedF K1 u t n = renamedF K u t n := by
  have a24 : ∀ i, rA K1 24 i = rA K 24 i := fun i => h.2.1 24 (by decide) i
  have a25 : ∀ i, rA K1 25 i = rA K 25 i := fun i => h.2.1 25 (by decide) i
  have a26 : ∀ i, rA K1 26 i = rA K 26 i := fun i => h.2.1 26 (by decide) i
  have a23 : ∀ i, rA K1 23 i = rA K 23 i := fun i => h.2.1 23 (by decide) i
  have b24 : ∀ i, rN K1 24 i = rN K 24 i := fun i => keep_rN h (by decide) i
  have b25 : ∀ i, rN K1 25 i = rN K 25 i := fun i => keep_rN h (by decide) i
  have b26 : ∀ i, rN K1 26 i = rN K 26 i := fun i => keep_rN h (by decide) i
  have b23 : ∀ i, rN K1 23 i = rN K 23 i := fun i => keep_rN h (by decide) i
  have e : rnP K1 u t n = rnP K u t n := funext (fun i => by simp only [rnP, a24, a25, a26, a23])
  simp only [renamedF, e, b24, b25, b26, b23]
theorem namedF_pk {K K1 : RS} (h : pkeep K K1) (u : Nat) (t : Nat) (n : Nat) : namedF K1 u t n = namedF K u t n := by
  have a24 : ∀ i, rA K1 24 i = rA K 24 i := fun i => h.2.1 24 (by decide) i
  have a25 : ∀ i, rA K1 25 i = rA K 25 i := fun i => h.2.1 25 (by decide) i
  have a26 : ∀ i, rA K1 26 i = rA K 26 i := fun i => h.2.1 26 (by decide) i
  have a23 : ∀ i, rA K1 23 i = rA K 23 i := fun i => h.2.1 23 (by decide) i
  have b24 : ∀ i, rN K1 24 i = rN K 24 i := fun i => keep_rN h (by decide) i
  have b25 : ∀ i, rN K1 25 i = rN K 25 i := fun i => keep_rN h (by decide) i
  have b26 : ∀ i, rN K1 26 i = rN K 26 i := fun i => keep_rN h (by decide) i
  have b23 : ∀ i, rN K1 23 i = rN K 23 i := fun i => keep_rN h (by decide) i
  have e : nmP K1 u t n = nmP K u t n := funext (fun i => by simp only [nmP, a24, a25, a26, a23])
  simp only [namedF, e, b24, b25, b26, b23]
theorem placeInF_pk {K K1 : RS} (h : pkeep K K1) (u : Nat) (x : Int32) : placeInF K1 u x = placeInF K u x := by
  have a7 : ∀ i, rA K1 7 i = rA K 7 i := fun i => h.2.1 7 (by decide) i
  have a8 : ∀ i, rA K1 8 i = rA K 8 i := fun i => h.2.1 8 (by decide) i
  have b7 : ∀ i, rN K1 7 i = rN K 7 i := fun i => keep_rN h (by decide) i
  have b8 : ∀ i, rN K1 8 i = rN K 8 i := fun i => keep_rN h (by decide) i
  have e : piP K1 u x = piP K u x := funext (fun i => by simp only [piP, a7, a8])
  simp only [placeInF, e, b7, b8]
theorem srcF_pk {K K1 : RS} (h : pkeep K K1) (u : Nat) (t : Nat) (n : Nat) : srcF K1 u t n = srcF K u t n := by
  simp only [srcF, namedF_pk h, leavesF_pk h, renamedF_pk h]
theorem offersF_pk {K K1 : RS} (h : pkeep K K1) (u : Nat) (w : Nat) (n : Nat) : offersF K1 u w n = offersF K u w n := by
  have a10 : ∀ i, rA K1 10 i = rA K 10 i := fun i => h.2.1 10 (by decide) i
  have a7 : ∀ i, rA K1 7 i = rA K 7 i := fun i => h.2.1 7 (by decide) i
  have b10 : ∀ i, rN K1 10 i = rN K 10 i := fun i => keep_rN h (by decide) i
  have b7 : ∀ i, rN K1 7 i = rN K 7 i := fun i => keep_rN h (by decide) i
  simp only [offersF, a10, a7, b10, b7, srcF_pk h]
theorem offP_pk {K K1 : RS} (h : pkeep K K1) (u : Nat) (w : Nat) (n : Nat) : offP K1 u w n = offP K u w n := by
  have a11 : ∀ i, rA K1 11 i = rA K 11 i := fun i => h.2.1 11 (by decide) i
  have b11 : ∀ i, rN K1 11 i = rN K 11 i := fun i => keep_rN h (by decide) i
  simp only [offP, a11, b11, offersF_pk h]
theorem firstF_pk {K K1 : RS} (h : pkeep K K1) (u : Nat) (w : Nat) (n : Nat) : firstF K1 u w n = firstF K u w n := by
  have a8 : ∀ i, rA K1 8 i = rA K 8 i := fun i => h.2.1 8 (by decide) i
  have b8 : ∀ i, rN K1 8 i = rN K 8 i := fun i => keep_rN h (by decide) i
  have e : offQ K1 u n = offQ K u n := funext (fun p => by simp only [offQ, offP_pk h])
  simp only [firstF, e, b8]
theorem prefF_pk {K K1 : RS} (h : pkeep K K1) (u : Nat) (n : Nat) : prefF K1 u n = prefF K u n := by
  have a27 : ∀ i, rA K1 27 i = rA K 27 i := fun i => h.2.1 27 (by decide) i
  have b27 : ∀ i, rN K1 27 i = rN K 27 i := fun i => keep_rN h (by decide) i
  simp only [prefF, a27, b27, placeInF_pk h]
theorem chooseF_pk {K K1 : RS} (h : pkeep K K1) (u : Nat) (n : Nat) : chooseF K1 u n = chooseF K u n := by
  simp only [chooseF, offersF_pk h, prefF_pk h, offP_pk h, firstF_pk h]
theorem guardF_pk {K K1 : RS} (h : pkeep K K1) (u : Nat) (n : Nat) (i : Nat) : guardF K1 u n i = guardF K u n i := by
  have a8 : ∀ i, rA K1 8 i = rA K 8 i := fun i => h.2.1 8 (by decide) i
  have a10 : ∀ i, rA K1 10 i = rA K 10 i := fun i => h.2.1 10 (by decide) i
  have a7 : ∀ i, rA K1 7 i = rA K 7 i := fun i => h.2.1 7 (by decide) i
  have b8 : ∀ i, rN K1 8 i = rN K 8 i := fun i => keep_rN h (by decide) i
  have b10 : ∀ i, rN K1 10 i = rN K 10 i := fun i => keep_rN h (by decide) i
  have b7 : ∀ i, rN K1 7 i = rN K 7 i := fun i => keep_rN h (by decide) i
  have e : hasG K1 u n = hasG K u n := funext (fun p => by simp only [hasG, a10, b7])
  simp only [guardF, e, b8]
theorem RV_play {K K1 : RS} (v : RV K) (kp : pkeep K K1) (h : P16 K1) : RV K1 := ⟨P1_keep kp (by decide) v.p1, P2_keep kp (by decide) v.p2, P3_keep kp (by decide) v.p3, P4_keep kp (by decide) (by decide) (by decide) v.p4, P5_keep kp (by decide) v.p5, P6_keep kp (by decide) (by decide) (by decide) v.p6, P7_keep kp (by decide) v.p7, P8_keep kp (by decide) (by decide) (by decide) v.p8, P9_keep kp (by decide) v.p9, P10_keep kp (by decide) v.p10, P11_keep kp (by decide) (by decide) (by decide) v.p11, P12_keep kp (by decide) v.p12, P13_keep kp (by decide) v.p13, P14_keep kp (by decide) v.p14, P15_keep kp (by decide) (by decide) (by decide) v.p15, h⟩
/-- how many of the first d are opened ones -/
def opO (K : RS) : Nat → Nat
  | 0 => 0
  | d + 1 => opO K d + (if rA K 40 d = 0 then 0 else 1)
def potL (L s : Nat) : Nat := if s = 9 then 1 else if s = 2 then 5 else if s = 1 then 10 * (24 - L) + 2 else 10 * (25 - L)
def pot (K : RS) (k : Nat) : Nat := if rA K 32 k = 0 then potL (rN K 38 k) (rN K 39 k) else 1
def potS (K : RS) : Nat → Nat
  | 0 => 0
  | d + 1 => potS K d + pot K d
def room (K : RS) (k : Nat) : Nat := if rA K 32 k = 0 then rN K 38 k + 1 else 22
/-- a thing begun, in order -/
def okF (K0 K : RS) (k : Nat) : Prop := ∃ u n, u < fN K0 3 ∧ n < 12 ∧ rA K 33 k = nI u ∧ rA K 34 k = nI n ∧ (chooseF K0 u n).isSome = true ∧ (rA K 40 k = 0 ∨ rA K 40 k = 1) ∧ ((rA K 32 k = 0 ∧ ∃ L s, L ≤ 20 ∧ rA K 38 k = nI L ∧ rA K 39 k = nI s ∧ (s = 0 ∨ s = 9 ∨ ((s = 1 ∨ s = 2) ∧ (guardF K0 u n L).isSome = true))) ∨ (¬ rA K 32 k = 0 ∧ ∃ cd pl nx, cd < 624 ∧ pl ≤ rN K0 8 u ∧ nx ≤ 9 ∧ rA K 35 k = nI cd ∧ rA K 36 k = nI pl ∧ rA K 37 k = nI nx ∧ ∃ lo : Option Nat, rA K 38 k = oI lo ∧ ∀ L, lo = some L → (guardF K0 u n L).isSome = true))
def dpF (K : RS) (k : Nat) : Prop := 1 ≤ opO K (k + 1) ∧ k + 1 ≤ 22 * (opO K (k + 1) - 1) + room K k
def PI (K0 K : RS) (d o n : Nat) : Prop := pkeep K0 K ∧ rF K 42 = nI d ∧ rF K 46 = nI n ∧ n ≤ 600 ∧ P16 K ∧ (∀ k, k < d → okF K0 K k ∧ dpF K k) ∧ rF K 47 = nI o ∧ o ≤ 40
def FA : List Nat := [32, 33, 34, 35, 36, 37, 38, 39, 40]
/-- at places below d nothing has changed -/
def low (K K' : RS) (d : Nat) : Prop := ∀ g, g ∈ FA → ∀ k, k < d → rA K' g k = rA K g k
theorem low_rfl {K : RS} {d : Nat} : low K K d := fun _ _ _ _ => rfl
theorem low_wA {K K1 : RS} {d g i : Nat} {v : Int32} (h : low K K1 d) (hi : d ≤ i) : low K (wA K1 g i v) d := fun g' hg k hk => by rw [rA_wA, if_neg (fun z => by omega)]; exact h g' hg k hk
theorem low_w5 {K K1 : RS} {d g i : Nat} {v : Int32} (h : low K K1 d) (hg : g ∉ FA) : low K (wA K1 g i v) d := fun g' hg' k hk => by rw [rA_wA, if_neg (fun z : g' = g ∧ k = i => hg (z.1 ▸ hg'))]; exact h g' hg' k hk
theorem low_wF {K K1 : RS} {d g : Nat} {v : Int32} (h : low K K1 d) : low K (wF K1 g v) d := h
theorem low_wJ {K K1 : RS} {d g : Nat} {v : Int64} (h : low K K1 d) : low K (wJ K1 g v) d := h
theorem low_wQ {K K1 : RS} {d g i : Nat} {v : Int64} (h : low K K1 d) : low K (wQ K1 g i v) d := h
theorem low_mono {K K1 : RS} {d d' : Nat} (h : low K K1 d) (hd : d' ≤ d) : low K K1 d' := fun g hg k hk => h g hg k (by omega)
theorem okF_at {K0 K K' : RS} {k : Nat} (h : ∀ g, g ∈ FA → rA K' g k = rA K g k) (v : okF K0 K k) : okF K0 K' k := by
  unfold okF at *
  simp only [h 32 (by decide), h 33 (by decide), h 34 (by decide), h 35 (by decide), h 36 (by decide), h 37 (by decide), h 38 (by decide), h 39 (by decide), h 40 (by decide)]
  exact v
theorem opO_low {K K' : RS} : ∀ {d : Nat}, low K K' d → opO K' d = opO K d := by
  intro d
  induction d with
  | zero => intro _; rfl
  | succ d ih => intro h; rw [opO, opO, ih (low_mono h (Nat.le_succ d)), h 40 (by decide) d (Nat.lt_succ_self d)]
theorem pot_at {K K' : RS} {k : Nat} (h : ∀ g, g ∈ FA → rA K' g k = rA K g k) : pot K' k = pot K k := by
  unfold pot rN
  rw [h 32 (by decide), h 38 (by decide), h 39 (by decide)]
theorem potS_low {K K' : RS} : ∀ {d : Nat}, low K K' d → potS K' d = potS K d := by
  intro d
  induction d with
  | zero => intro _; rfl
  | succ d ih => intro h; rw [potS, potS, ih (low_mono h (Nat.le_succ d)), pot_at (fun g hg => h g hg d (Nat.lt_succ_self d))]
theorem dpF_at {K K' : RS} {k : Nat} (h : low K K' (k + 1)) (v : dpF K k) : dpF K' k := by
  unfold dpF room rN at *
  rw [opO_low h, h 32 (by decide) k (Nat.lt_succ_self k), h 38 (by decide) k (Nat.lt_succ_self k)]
  exact v
theorem all_low {K0 K K' : RS} {d : Nat} (h : low K K' d) (v : ∀ k, k < d → okF K0 K k ∧ dpF K k) : ∀ k, k < d → okF K0 K' k ∧ dpF K' k := fun k hk => ⟨okF_at (fun g hg => h g hg k hk) (v k hk).1, dpF_at (low_mono h hk) (v k hk).2⟩
theorem pot_pos {K0 K : RS} {k : Nat} (v : okF K0 K k) : 1 ≤ pot K k := by
  obtain ⟨u, n, _, _, _, _, _, _, ⟨h, L, s, hL, h38, h39, _⟩ | ⟨h, _⟩⟩ := v
  · unfold pot
    rw [if_pos h, rN_nI h38 (by omega)]
    unfold potL
    split
    · exact Nat.le_refl _
    · split
      · omega
      · split <;> omega
  · unfold pot; rw [if_neg h]; exact Nat.le_refl _
theorem room_le {K0 K : RS} {k : Nat} (v : okF K0 K k) : room K k ≤ 22 := by
  obtain ⟨u, n, _, _, _, _, _, _, ⟨h, L, s, hL, h38, h39, _⟩ | ⟨h, _⟩⟩ := v
  · unfold room; rw [if_pos h, rN_nI h38 (by omega)]; omega
  · unfold room; rw [if_neg h]; exact Nat.le_refl _
theorem PI_deep {K0 K : RS} {d o n : Nat} (h : PI K0 K d o n) : d ≤ 22 * opO K d := by
  cases d with
  | zero => exact Nat.zero_le _
  | succ d =>
    obtain ⟨h1, h2, h3⟩ := h.2.2.2.2.2.1 d (Nat.lt_succ_self d)
    have := room_le h1
    omega
/-- what is begun -/
def pushK (K : RS) (d : Nat) (b : Bool) (u n : Nat) (op : Bool) : RS := wF (wA (wA (wA (wA (wA (wA (wA (wA K 32 d (bI b)) 33 d (nI u)) 34 d (nI n)) 37 d (nI 0)) 39 d (nI 0)) 38 d (-1)) 40 d (bI op)) 41 d (nI 0)) 42 (nI (d + 1))
def pushO (K : RS) (d u n cd pl : Nat) (lo : Option Nat) (op : Bool) : RS := wA (wA (wA (pushK K d true u n op) 35 d (nI cd)) 36 d (nI pl)) 38 d (oI lo)
def pushL (K : RS) (d u n L : Nat) (op : Bool) : RS := wA (pushK K d false u n op) 38 d (nI L)
theorem pushK_keep {K0 K : RS} {d u n : Nat} {b op : Bool} (h : pkeep K0 K) : pkeep K0 (pushK K d b u n op) := keep_wF (keep_wA (keep_wA (keep_wA (keep_wA (keep_wA (keep_wA (keep_wA (keep_wA h (by decide)) (by decide)) (by decide)) (by decide)) (by decide)) (by decide)) (by decide)) (by decide)) (by decide)
theorem pushK_low {K : RS} {d u n : Nat} {b op : Bool} : low K (pushK K d b u n op) d := low_wF (low_wA (low_wA (low_wA (low_wA (low_wA (low_wA (low_wA (low_wA low_rfl (Nat.le_refl d)) (Nat.le_refl d)) (Nat.le_refl d)) (Nat.le_refl d)) (Nat.le_refl d)) (Nat.le_refl d)) (Nat.le_refl d)) (Nat.le_refl d))
theorem bI_z (b : Bool) : bI b = 0 ∨ bI b = 1 := by cases b; exact Or.inl rfl; exact Or.inr rfl
theorem if_bI (b : Bool) : (if bI b = 0 then 0 else 1 : Nat) = (bif b then 1 else 0) := by cases b <;> rfl
theorem pushK_A {K : RS} {d u n : Nat} {b op : Bool} : rA (pushK K d b u n op) 32 d = bI b ∧ rA (pushK K d b u n op) 33 d = nI u ∧ rA (pushK K d b u n op) 34 d = nI n ∧ rA (pushK K d b u n op) 37 d = nI 0 ∧ rA (pushK K d b u n op) 39 d = nI 0 ∧ rA (pushK K d b u n op) 40 d = bI op := by
  refine ⟨?_, ?_, ?_, ?_, ?_, ?_⟩ <;> (unfold pushK; simp [rA_wF, rA_wA])
theorem pushL_PI {K0 K : RS} {d o nn u n L : Nat} {op : Bool} (h : PI K0 K d o nn) (hO : opO K d + (bif op then 1 else 0) = o) (hu : u < fN K0 3) (hn : n < 12) (hc : (chooseF K0 u n).isSome = true) (hL : L ≤ 20) (h1 : 1 ≤ o) (hd : d + 1 ≤ 22 * (o - 1) + (L + 1)) : PI K0 (pushL K d u n L op) (d + 1) o nn ∧ opO (pushL K d u n L op) (d + 1) = o ∧ potS (pushL K d u n L op) (d + 1) = potS K d + 10 * (25 - L) := by
  obtain ⟨i1, i2, i3, i4, i5, i6, i7, i8⟩ := h
  have lw : low K (pushL K d u n L op) d := low_wA pushK_low (Nat.le_refl d)
  obtain ⟨a32, a33, a34, a37, a39, a40⟩ := pushK_A (K := K) (d := d) (u := u) (n := n) (b := false) (op := op)
  have e : ∀ g, g ≠ 38 → rA (pushL K d u n L op) g d = rA (pushK K d false u n op) g d := fun g hg => by unfold pushL; rw [rA_wA, if_neg (fun z => hg z.1)]
  have e38 : rA (pushL K d u n L op) 38 d = nI L := by unfold pushL; rw [rA_wA, if_pos ⟨rfl, rfl⟩]
  have e32 := (e 32 (by decide)).trans a32
  have e39 := (e 39 (by decide)).trans a39
  have e40 := (e 40 (by decide)).trans a40
  have eO : opO (pushL K d u n L op) (d + 1) = o := by rw [opO, opO_low lw, e40, if_bI]; exact hO
  have z32 : rA (pushL K d u n L op) 32 d = 0 := e32
  have er : room (pushL K d u n L op) d = L + 1 := by unfold room; rw [if_pos z32, rN_nI e38 (by omega)]
  have ep : pot (pushL K d u n L op) d = 10 * (25 - L) := by unfold pot; rw [if_pos z32, rN_nI e38 (by omega), rN_nI e39 (by omega)]; rfl
  refine ⟨⟨keep_wA (pushK_keep i1) (by decide), rfl, i3, i4, i5, ?_, i7, i8⟩, eO, by rw [potS, potS_low lw, ep]⟩
  intro k hk
  by_cases hkd : k = d
  · subst hkd
    refine ⟨⟨u, n, hu, hn, (e 33 (by decide)).trans a33, (e 34 (by decide)).trans a34, hc, by rw [e40]; exact bI_z op, Or.inl ⟨z32, L, 0, hL, e38, e39, Or.inl rfl⟩⟩, ?_⟩
    unfold dpF
    rw [eO, er]
    exact ⟨h1, hd⟩
  · exact all_low lw i6 k (by omega)
theorem pushO_PI {K0 K : RS} {d o nn u n cd pl : Nat} {lo : Option Nat} {op : Bool} (h : PI K0 K d o nn) (hO : opO K d + (bif op then 1 else 0) = o) (hu : u < fN K0 3) (hn : n < 12) (hc : (chooseF K0 u n).isSome = true) (hcd : cd < 624) (hpl : pl ≤ rN K0 8 u) (hlo : ∀ L, lo = some L → (guardF K0 u n L).isSome = true) (h1 : 1 ≤ o) (hd : d + 1 ≤ 22 * (o - 1) + 22) : PI K0 (pushO K d u n cd pl lo op) (d + 1) o nn ∧ opO (pushO K d u n cd pl lo op) (d + 1) = o ∧ potS (pushO K d u n cd pl lo op) (d + 1) = potS K d + 1 := by
  obtain ⟨i1, i2, i3, i4, i5, i6, i7, i8⟩ := h
  have lw : low K (pushO K d u n cd pl lo op) d := low_wA (low_wA (low_wA pushK_low (Nat.le_refl d)) (Nat.le_refl d)) (Nat.le_refl d)
  obtain ⟨a32, a33, a34, a37, a39, a40⟩ := pushK_A (K := K) (d := d) (u := u) (n := n) (b := true) (op := op)
  have e : ∀ g, g ≠ 38 → g ≠ 36 → g ≠ 35 → rA (pushO K d u n cd pl lo op) g d = rA (pushK K d true u n op) g d := fun g hg h2 h3 => by unfold pushO; rw [rA_wA, if_neg (fun z => hg z.1), rA_wA, if_neg (fun z => h2 z.1), rA_wA, if_neg (fun z => h3 z.1)]
  have e38 : rA (pushO K d u n cd pl lo op) 38 d = oI lo := by unfold pushO; rw [rA_wA, if_pos ⟨rfl, rfl⟩]
  have e36 : rA (pushO K d u n cd pl lo op) 36 d = nI pl := by unfold pushO; rw [rA_wA, if_neg (fun z => absurd z.1 (by decide)), rA_wA, if_pos ⟨rfl, rfl⟩]
  have e35 : rA (pushO K d u n cd pl lo op) 35 d = nI cd := by unfold pushO; rw [rA_wA, if_neg (fun z => absurd z.1 (by decide)), rA_wA, if_neg (fun z => absurd z.1 (by decide)), rA_wA, if_pos ⟨rfl, rfl⟩]
  have e32 := (e 32 (by decide) (by decide) (by decide)).trans a32
  have e37 := (e 37 (by decide) (by decide) (by decide)).trans a37
  have e40 := (e 40 (by decide) (by decide) (by decide)).trans a40
  have eO : opO (pushO K d u n cd pl lo op) (d + 1) = o := by rw [opO, opO_low lw, e40, if_bI]; exact hO
  have z32 : ¬ rA (pushO K d u n cd pl lo op) 32 d = 0 := by rw [e32]; decide
  have er : room (pushO K d u n cd pl lo op) d = 22 := by unfold room; rw [if_neg z32]
  have ep : pot (pushO K d u n cd pl lo op) d = 1 := by unfold pot; rw [if_neg z32]
  refine ⟨⟨keep_wA (keep_wA (keep_wA (pushK_keep i1) (by decide)) (by decide)) (by decide), rfl, i3, i4, i5, ?_, i7, i8⟩, eO, by rw [potS, potS_low lw, ep]⟩
  intro k hk
  by_cases hkd : k = d
  · subst hkd
    refine ⟨⟨u, n, hu, hn, (e 33 (by decide) (by decide) (by decide)).trans a33, (e 34 (by decide) (by decide) (by decide)).trans a34, hc, by rw [e40]; exact bI_z op, Or.inr ⟨z32, cd, pl, 0, hcd, hpl, by omega, e35, e36, e37, lo, e38, hlo⟩⟩, ?_⟩
    unfold dpF
    rw [eO, er]
    exact ⟨h1, hd⟩
  · exact all_low lw i6 k (by omega)
/-- the topmost goes -/
def popK (K : RS) (d o : Nat) : RS := wF (wF K 42 (nI d)) 47 (nI (o - (if rA K 40 d = 0 then 0 else 1)))
theorem popK_PI {K0 K : RS} {d o nn : Nat} (h : PI K0 K (d + 1) o nn) (hO : opO K (d + 1) = o) : PI K0 (popK K d o) d (o - (if rA K 40 d = 0 then 0 else 1)) nn ∧ opO (popK K d o) d = o - (if rA K 40 d = 0 then 0 else 1) ∧ potS (popK K d o) d < potS K (d + 1) := by
  obtain ⟨i1, i2, i3, i4, i5, i6, i7, i8⟩ := h
  have lw : low K (popK K d o) d := low_wF (low_wF low_rfl)
  refine ⟨⟨keep_wF (keep_wF i1 (by decide)) (by decide), rfl, i3, i4, i5, all_low lw (fun k hk => i6 k (by omega)), rfl, by omega⟩, ?_, ?_⟩
  · rw [opO_low lw]; rw [opO] at hO; omega
  · rw [potS_low lw, potS]
    have := pot_pos (i6 d (Nat.lt_succ_self d)).1
    omega
/-- other stores that leave what is begun as it is -/
theorem PI_same {K0 K K' : RS} {d o nn : Nat} (h : PI K0 K d o nn) (k1 : pkeep K0 K') (lw : low K K' d) (f42 : rF K' 42 = rF K 42) (f46 : rF K' 46 = rF K 46) (f47 : rF K' 47 = rF K 47) (f49 : P16 K') : PI K0 K' d o nn ∧ opO K' d = opO K d ∧ potS K' d = potS K d := by
  obtain ⟨i1, i2, i3, i4, i5, i6, i7, i8⟩ := h
  exact ⟨⟨k1, f42.trans i2, f46.trans i3, i4, f49, all_low lw i6, f47.trans i7, i8⟩, opO_low lw, potS_low lw⟩
/-- the topmost, a layer -/
theorem PI_topL {K0 K : RS} {f o nn : Nat} (h : PI K0 K (f + 1) o nn) (h32 : rA K 32 f = 0) : ∃ u n L s, u < fN K0 3 ∧ n < 12 ∧ rA K 33 f = nI u ∧ rA K 34 f = nI n ∧ (chooseF K0 u n).isSome = true ∧ L ≤ 20 ∧ rA K 38 f = nI L ∧ rA K 39 f = nI s ∧ (s = 0 ∨ s = 9 ∨ ((s = 1 ∨ s = 2) ∧ (guardF K0 u n L).isSome = true)) ∧ 1 ≤ opO K (f + 1) ∧ f + 1 ≤ 22 * (opO K (f + 1) - 1) + (L + 1) ∧ potS K (f + 1) = potS K f + potL L s := by
  obtain ⟨h1, h2, h3⟩ := h.2.2.2.2.2.1 f (Nat.lt_succ_self f)
  obtain ⟨u, n, hu, hn, a33, a34, hc, h40, ⟨hz, L, s, hL, h38, h39, hs⟩ | ⟨hz, _⟩⟩ := h1
  · refine ⟨u, n, L, s, hu, hn, a33, a34, hc, hL, h38, h39, hs, h2, ?_, ?_⟩
    · unfold room at h3; rw [if_pos h32, rN_nI h38 (by omega)] at h3; exact h3
    · rw [potS]; unfold pot; rw [if_pos h32, rN_nI h38 (by omega), rN_nI h39 (by omega)]
  · exact absurd h32 hz
theorem PI_topO {K0 K : RS} {f o nn : Nat} (h : PI K0 K (f + 1) o nn) (h32 : ¬ rA K 32 f = 0) : ∃ u n cd pl nx lo, u < fN K0 3 ∧ n < 12 ∧ rA K 33 f = nI u ∧ rA K 34 f = nI n ∧ (chooseF K0 u n).isSome = true ∧ cd < 624 ∧ pl ≤ rN K0 8 u ∧ nx ≤ 9 ∧ rA K 35 f = nI cd ∧ rA K 36 f = nI pl ∧ rA K 37 f = nI nx ∧ rA K 38 f = oI lo ∧ (∀ L, lo = some L → (guardF K0 u n L).isSome = true) ∧ 1 ≤ opO K (f + 1) := by
  obtain ⟨h1, h2, h3⟩ := h.2.2.2.2.2.1 f (Nat.lt_succ_self f)
  obtain ⟨u, n, hu, hn, a33, a34, hc, h40, ⟨hz, _⟩ | ⟨hz, cd, pl, nx, hcd, hpl, hnx, h35, h36, h37, lo, h38, hlo⟩⟩ := h1
  · exact absurd hz h32
  · exact ⟨u, n, cd, pl, nx, lo, hu, hn, a33, a34, hc, hcd, hpl, hnx, h35, h36, h37, h38, hlo, h2⟩
/-- a change of the topmost alone -/
theorem PI_upd {K0 K K' : RS} {f o nn : Nat} (h : PI K0 K (f + 1) o nn) (k1 : pkeep K0 K') (lw : low K K' f) (f42 : rF K' 42 = rF K 42) (f46 : rF K' 46 = rF K 46) (f47 : rF K' 47 = rF K 47) (f49 : P16 K') (a40 : rA K' 40 f = rA K 40 f) (hr : room K f ≤ room K' f) (hf : okF K0 K' f) : PI K0 K' (f + 1) o nn ∧ opO K' (f + 1) = opO K (f + 1) ∧ potS K' (f + 1) = potS K f + pot K' f := by
  obtain ⟨i1, i2, i3, i4, i5, i6, i7, i8⟩ := h
  have eO : opO K' (f + 1) = opO K (f + 1) := by rw [opO, opO, opO_low lw, a40]
  refine ⟨⟨k1, f42.trans i2, f46.trans i3, i4, f49, ?_, f47.trans i7, i8⟩, eO, by rw [potS, potS_low lw]⟩
  intro k hk
  by_cases hkf : k = f
  · subst hkf
    obtain ⟨h1, h2, h3⟩ := i6 k (Nat.lt_succ_self k)
    refine ⟨hf, ?_⟩
    unfold dpF
    rw [eO]
    exact ⟨h2, by omega⟩
  · exact all_low lw (fun k hk => i6 k (by omega)) k (by omega)
theorem okF_40 {K0 K : RS} {k : Nat} (h : okF K0 K k) : rA K 40 k = 0 ∨ rA K 40 k = 1 := by
  obtain ⟨_, _, _, _, _, _, _, h40, _⟩ := h
  exact h40
theorem PI_set {K0 K : RS} {f o nn u n L s' : Nat} (h : PI K0 K (f + 1) o nn) (h32 : rA K 32 f = 0) (a33 : rA K 33 f = nI u) (a34 : rA K 34 f = nI n) (hu : u < fN K0 3) (hn : n < 12) (hc : (chooseF K0 u n).isSome = true) (hL : L ≤ 20) (a38 : rA K 38 f = nI L) (hs : s' = 0 ∨ s' = 9 ∨ ((s' = 1 ∨ s' = 2) ∧ (guardF K0 u n L).isSome = true)) : PI K0 (wA K 39 f (nI s')) (f + 1) o nn ∧ opO (wA K 39 f (nI s')) (f + 1) = opO K (f + 1) ∧ potS (wA K 39 f (nI s')) (f + 1) = potS K f + potL L s' := by
  have e : ∀ g, g ≠ 39 → rA (wA K 39 f (nI s')) g f = rA K g f := fun g hg => by rw [rA_wA, if_neg (fun z => hg z.1)]
  have e39 : rA (wA K 39 f (nI s')) 39 f = nI s' := by rw [rA_wA, if_pos ⟨rfl, rfl⟩]
  have e32 : rA (wA K 39 f (nI s')) 32 f = 0 := (e 32 (by decide)).trans h32
  have e38 : rA (wA K 39 f (nI s')) 38 f = nI L := (e 38 (by decide)).trans a38
  have hs9 : s' < 2 ^ 31 := by omega
  obtain ⟨g1, g2, g3⟩ := PI_upd h (keep_wA h.1 (by decide)) (low_wA low_rfl (Nat.le_refl f)) rfl rfl rfl h.2.2.2.2.1 (e 40 (by decide)) (by unfold room; rw [if_pos e32, if_pos h32, rN_nI e38 (by omega), rN_nI a38 (by omega)]; exact Nat.le_refl _) ⟨u, n, hu, hn, (e 33 (by decide)).trans a33, (e 34 (by decide)).trans a34, hc, by rw [e 40 (by decide)]; exact okF_40 (h.2.2.2.2.2.1 f (Nat.lt_succ_self f)).1, Or.inl ⟨e32, L, s', hL, e38, e39, hs⟩⟩
  refine ⟨g1, g2, g3.trans ?_⟩
  unfold pot
  rw [if_pos e32, rN_nI e38 (by omega), rN_nI e39 hs9]
theorem PI_lay {K0 K : RS} {f o nn u n L : Nat} (h : PI K0 K (f + 1) o nn) (h32 : rA K 32 f = 0) (a33 : rA K 33 f = nI u) (a34 : rA K 34 f = nI n) (hu : u < fN K0 3) (hn : n < 12) (hc : (chooseF K0 u n).isSome = true) (hL : L + 1 ≤ 20) (a38 : rA K 38 f = nI L) : PI K0 (wA (wA K 38 f (nI (L + 1))) 39 f (nI 0)) (f + 1) o nn ∧ opO (wA (wA K 38 f (nI (L + 1))) 39 f (nI 0)) (f + 1) = opO K (f + 1) ∧ potS (wA (wA K 38 f (nI (L + 1))) 39 f (nI 0)) (f + 1) = potS K f + potL (L + 1) 0 := by
  have e : ∀ g, g ≠ 39 → g ≠ 38 → rA (wA (wA K 38 f (nI (L + 1))) 39 f (nI 0)) g f = rA K g f := fun g hg h2 => by rw [rA_wA, if_neg (fun z => hg z.1), rA_wA, if_neg (fun z => h2 z.1)]
  have e39 : rA (wA (wA K 38 f (nI (L + 1))) 39 f (nI 0)) 39 f = nI 0 := by rw [rA_wA, if_pos ⟨rfl, rfl⟩]
  have e38 : rA (wA (wA K 38 f (nI (L + 1))) 39 f (nI 0)) 38 f = nI (L + 1) := by rw [rA_wA, if_neg (fun z => absurd z.1 (by decide)), rA_wA, if_pos ⟨rfl, rfl⟩]
  have e32 := (e 32 (by decide) (by decide)).trans h32
  obtain ⟨g1, g2, g3⟩ := PI_upd h (keep_wA (keep_wA h.1 (by decide)) (by decide)) (low_wA (low_wA low_rfl (Nat.le_refl f)) (Nat.le_refl f)) rfl rfl rfl h.2.2.2.2.1 (e 40 (by decide) (by decide)) (by unfold room; rw [if_pos e32, if_pos h32, rN_nI e38 (by omega), rN_nI a38 (by omega)]; omega) ⟨u, n, hu, hn, (e 33 (by decide) (by decide)).trans a33, (e 34 (by decide) (by decide)).trans a34, hc, by rw [e 40 (by decide) (by decide)]; exact okF_40 (h.2.2.2.2.2.1 f (Nat.lt_succ_self f)).1, Or.inl ⟨e32, L + 1, 0, hL, e38, e39, Or.inl rfl⟩⟩
  refine ⟨g1, g2, g3.trans ?_⟩
  unfold pot
  rw [if_pos e32, rN_nI e38 (by omega), rN_nI e39 (by omega)]
theorem PI_next {K0 K : RS} {f o nn u n cd pl x : Nat} {lo : Option Nat} (h : PI K0 K (f + 1) o nn) (h32 : ¬ rA K 32 f = 0) (a33 : rA K 33 f = nI u) (a34 : rA K 34 f = nI n) (hu : u < fN K0 3) (hn : n < 12) (hc : (chooseF K0 u n).isSome = true) (hcd : cd < 624) (hpl : pl ≤ rN K0 8 u) (hx : x ≤ 9) (a35 : rA K 35 f = nI cd) (a36 : rA K 36 f = nI pl) (a38 : rA K 38 f = oI lo) (hlo : ∀ L, lo = some L → (guardF K0 u n L).isSome = true) : PI K0 (wA K 37 f (nI x)) (f + 1) o nn ∧ opO (wA K 37 f (nI x)) (f + 1) = opO K (f + 1) ∧ potS (wA K 37 f (nI x)) (f + 1) = potS K (f + 1) := by
  have e : ∀ g, g ≠ 37 → rA (wA K 37 f (nI x)) g f = rA K g f := fun g hg => by rw [rA_wA, if_neg (fun z => hg z.1)]
  have e37 : rA (wA K 37 f (nI x)) 37 f = nI x := by rw [rA_wA, if_pos ⟨rfl, rfl⟩]
  have e32 : ¬ rA (wA K 37 f (nI x)) 32 f = 0 := by rw [e 32 (by decide)]; exact h32
  obtain ⟨g1, g2, g3⟩ := PI_upd h (keep_wA h.1 (by decide)) (low_wA low_rfl (Nat.le_refl f)) rfl rfl rfl h.2.2.2.2.1 (e 40 (by decide)) (by unfold room; rw [if_neg e32, if_neg h32]; exact Nat.le_refl _) ⟨u, n, hu, hn, (e 33 (by decide)).trans a33, (e 34 (by decide)).trans a34, hc, by rw [e 40 (by decide)]; exact okF_40 (h.2.2.2.2.2.1 f (Nat.lt_succ_self f)).1, Or.inr ⟨e32, cd, pl, x, hcd, hpl, hx, (e 35 (by decide)).trans a35, (e 36 (by decide)).trans a36, e37, lo, (e 38 (by decide)).trans a38, hlo⟩⟩
  refine ⟨g1, g2, g3.trans ?_⟩
  rw [potS]
  unfold pot
  rw [if_neg e32, if_neg h32]
/-- an op more is done -/
theorem PI_did {K0 K : RS} {d o nn : Nat} (h : PI K0 K d o nn) (hn : nn + 1 ≤ 600) : PI K0 (wF K 46 (nI (nn + 1))) d o (nn + 1) ∧ opO (wF K 46 (nI (nn + 1))) d = opO K d ∧ potS (wF K 46 (nI (nn + 1))) d = potS K d := by
  obtain ⟨i1, i2, i3, i4, i5, i6, i7, i8⟩ := h
  have lw : low K (wF K 46 (nI (nn + 1))) d := low_wF low_rfl
  exact ⟨⟨keep_wF i1 (by decide), i2, rfl, hn, i5, all_low lw i6, i7, i8⟩, opO_low lw, potS_low lw⟩
/-- what is open -/
theorem PI_open {K0 K : RS} {d o o' nn : Nat} (h : PI K0 K d o nn) (ho : o' ≤ 40) : PI K0 (wF K 47 (nI o')) d o' nn ∧ opO (wF K 47 (nI o')) d = opO K d ∧ potS (wF K 47 (nI o')) d = potS K d := by
  obtain ⟨i1, i2, i3, i4, i5, i6, i7, i8⟩ := h
  have lw : low K (wF K 47 (nI o')) d := low_wF low_rfl
  exact ⟨⟨keep_wF i1 (by decide), i2, i3, i4, i5, all_low lw i6, rfl, ho⟩, opO_low lw, potS_low lw⟩
/-- what leaves all that is begun -/
def quiet (K K' : RS) : Prop := pkeep K K' ∧ (∀ d, low K K' d) ∧ rF K' 42 = rF K 42 ∧ rF K' 46 = rF K 46 ∧ rF K' 47 = rF K 47 ∧ (P16 K → P16 K')
theorem quiet_rfl {K : RS} : quiet K K := ⟨keep_rfl, fun _ => low_rfl, rfl, rfl, rfl, fun h => h⟩
theorem quiet_wA {K K1 : RS} {g i : Nat} {v : Int32} (h : quiet K K1) (h1 : g ∈ PA) (h2 : g ∉ FA) : quiet K (wA K1 g i v) := ⟨keep_wA h.1 h1, fun d => low_w5 (h.2.1 d) h2, h.2.2.1, h.2.2.2.1, h.2.2.2.2.1, h.2.2.2.2.2⟩
theorem quiet_wQ {K K1 : RS} {g i : Nat} {v : Int64} (h : quiet K K1) (h1 : g ∈ PQ) : quiet K (wQ K1 g i v) := ⟨keep_wQ h.1 h1, fun d => low_wQ (h.2.1 d), h.2.2.1, h.2.2.2.1, h.2.2.2.2.1, h.2.2.2.2.2⟩
theorem quiet_wJ {K K1 : RS} {g : Nat} {v : Int64} (h : quiet K K1) (h1 : g ∈ PJ) : quiet K (wJ K1 g v) := ⟨keep_wJ h.1 h1, fun d => low_wJ (h.2.1 d), h.2.2.1, h.2.2.2.1, h.2.2.2.2.1, h.2.2.2.2.2⟩
theorem quiet_wF {K K1 : RS} {g : Nat} {v : Int32} (h : quiet K K1) (h1 : g = 45 ∨ g = 48) : quiet K (wF K1 g v) := by
  rcases h1 with rfl | rfl <;> exact ⟨keep_wF h.1 (by decide), fun d => low_wF (h.2.1 d), h.2.2.1, h.2.2.2.1, h.2.2.2.2.1, h.2.2.2.2.2⟩
theorem quiet_49 {K K1 : RS} {n : Nat} (h : quiet K K1) (hn : n ≤ 200) : quiet K (wF K1 49 (nI n)) := ⟨keep_wF h.1 (by decide), fun d => low_wF (h.2.1 d), h.2.2.1, h.2.2.2.1, h.2.2.2.2.1, fun _ => by
  have e : rF (wF K1 49 (nI n)) 49 = nI n := rfl
  unfold P16
  rw [fN_nI e (by omega)]
  exact ⟨e, hn⟩⟩
theorem PI_quiet {K0 K K' : RS} {d o nn : Nat} (h : PI K0 K d o nn) (q : quiet K K') : PI K0 K' d o nn ∧ opO K' d = opO K d ∧ potS K' d = potS K d := PI_same h (keep_tr h.1 q.1) (q.2.1 d) q.2.2.1 q.2.2.2.1 q.2.2.2.2.1 (q.2.2.2.2.2 h.2.2.2.2.1)
def nxl : Option Nat → Nat
  | none => 0
  | some L => L + 1
theorem oI_inc (lo : Option Nat) : oI lo + nI 1 = nI (nxl lo) := by
  cases lo with
  | none => rfl
  | some L => exact nI_add L 1
theorem nxl_le {K0 : RS} {u n : Nat} {lo : Option Nat} (h : ∀ L, lo = some L → (guardF K0 u n L).isSome = true) (h20 : rN K0 8 u ≤ 20) : nxl lo ≤ 20 := by
  cases lo with
  | none => exact Nat.zero_le _
  | some L =>
    obtain ⟨j, hj⟩ := Option.isSome_iff_exists.mp (h L rfl)
    have := guardF_le hj
    show L + 1 ≤ 20
    omega
theorem PI_RV {K0 K : RS} {d o nn : Nat} (v : RV K0) (h : PI K0 K d o nn) : RV K := RV_play v h.1 h.2.2.2.2.1
theorem fails_end {K0 K K' : RS} {d d1 o1 nn P : Nat} (h : PI K0 K d1 o1 nn) (hO : opO K d1 = o1) (hS : potS K d1 < P) (q : quiet K K') : ∃ d' o', PI K0 K' d' o' nn ∧ opO K' d' = o' ∧ potS K' d' ≤ P ∧ (0 < d → potS K' d' < P) := by
  obtain ⟨e1, e2, e3⟩ := PI_quiet h q
  exact ⟨_, _, e1, e2.trans hO, by omega, fun _ => by omega⟩
