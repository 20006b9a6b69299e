theorem P1_keep {F A Q J : List Nat} {K K1 : RS} (h : keep F A Q J K K1) (f0 : 0 ∉ F) (v : P1 K) : P1 K1 := by
  unfold P1 at *
  simp only [h.1 0 f0, keep_fN h f0]
  exact v
theorem P2_keep {F A Q J : List Nat} {K K1 : RS} (h : keep F A Q J K K1) (f3 : 3 ∉ F) (v : P2 K) : P2 K1 := by
  unfold P2 at *
  simp only [h.1 3 f3, keep_fN h f3]
  exact v
theorem P3_keep {F A Q J : List Nat} {K K1 : RS} (h : keep F A Q J K K1) (a2 : 2 ∉ A) (v : P3 K) : P3 K1 := by
  unfold P3 at *
  simp only [h.2.1 2 a2, keep_rN h a2]
  exact v
theorem P4_keep {F A Q J : List Nat} {K K1 : RS} (h : keep F A Q J K K1) (f0 : 0 ∉ F) (a1 : 1 ∉ A) (a2 : 2 ∉ A) (v : P4 K) : P4 K1 := by
  unfold P4 at *
  simp only [h.1 0 f0, keep_fN h f0, h.2.1 1 a1, keep_rN h a1, h.2.1 2 a2, keep_rN h a2]
  exact v
theorem P5_keep {F A Q J : List Nat} {K K1 : RS} (h : keep F A Q J K K1) (a8 : 8 ∉ A) (v : P5 K) : P5 K1 := by
  unfold P5 at *
  simp only [h.2.1 8 a8, keep_rN h a8]
  exact v
theorem P6_keep {F A Q J : List Nat} {K K1 : RS} (h : keep F A Q J K K1) (f0 : 0 ∉ F) (a7 : 7 ∉ A) (a8 : 8 ∉ A) (v : P6 K) : P6 K1 := by
  unfold P6 at *
  simp only [h.1 0 f0, keep_fN h f0, h.2.1 7 a7, keep_rN h a7, h.2.1 8 a8, keep_rN h a8]
  exact v
theorem P7_keep {F A Q J : List Nat} {K K1 : RS} (h : keep F A Q J K K1) (a6 : 6 ∉ A) (v : P7 K) : P7 K1 := by
  unfold P7 at *
  simp only [h.2.1 6 a6, keep_rN h a6]
  exact v
theorem P8_keep {F A Q J : List Nat} {K K1 : RS} (h : keep F A Q J K K1) (f0 : 0 ∉ F) (a5 : 5 ∉ A) (a6 : 6 ∉ A) (v : P8 K) : P8 K1 := by
  unfold P8 at *
  simp only [h.1 0 f0, keep_fN h f0, h.2.1 5 a5, keep_rN h a5, h.2.1 6 a6, keep_rN h a6]
  exact v
theorem P9_keep {F A Q J : List Nat} {K K1 : RS} (h : keep F A Q J K K1) (a20 : 20 ∉ A) (v : P9 K) : P9 K1 := by
  unfold P9 at *
  simp only [h.2.1 20 a20, keep_rN h a20]
  exact v
theorem P10_keep {F A Q J : List Nat} {K K1 : RS} (h : keep F A Q J K K1) (a23 : 23 ∉ A) (v : P10 K) : P10 K1 := by
  unfold P10 at *
  simp only [h.2.1 23 a23, keep_rN h a23]
  exact v
theorem P11_keep {F A Q J : List Nat} {K K1 : RS} (h : keep F A Q J K K1) (a23 : 23 ∉ A) (a25 : 25 ∉ A) (a26 : 26 ∉ A) (v : P11 K) : P11 K1 := by
  unfold P11 at *
  simp only [h.2.1 23 a23, keep_rN h a23, h.2.1 25 a25, keep_rN h a25, h.2.1 26 a26, keep_rN h a26]
  exact v
theorem P12_keep {F A Q J : List Nat} {K K1 : RS} (h : keep F A Q J K K1) (a15 : 15 ∉ A) (v : P12 K) : P12 K1 := by
  unfold P12 at *
  simp only [h.2.1 15 a15, keep_rN h a15]
  exact v
theorem P13_keep {F A Q J : List Nat} {K K1 : RS} (h : keep F A Q J K K1) (a13 : 13 ∉ A) (v : P13 K) : P13 K1 := by
  unfold P13 at *
  simp only [h.2.1 13 a13, keep_rN h a13]
  exact v
theorem P14_keep {F A Q J : List Nat} {K K1 : RS} (h : keep F A Q J K K1) (f19 : 19 ∉ F) (v : P14 K) : P14 K1 := by
  unfold P14 at *
  simp only [h.1 19 f19, keep_fN h f19]
  exact v
theorem P15_keep {F A Q J : List Nat} {K K1 : RS} (h : keep F A Q J K K1) (a16 : 16 ∉ A) (a17 : 17 ∉ A) (a18 : 18 ∉ A) (v : P15 K) : P15 K1 := by
  unfold P15 at *
  simp only [h.2.1 16 a16, keep_rN h a16, h.2.1 17 a17, keep_rN h a17, h.2.1 18 a18, keep_rN h a18]
  exact v
theorem P16_keep {F A Q J : List Nat} {K K1 : RS} (h : keep F A Q J K K1) (f49 : 49 ∉ F) (v : P16 K) : P16 K1 := by
  unfold P16 at *
  simp only [h.1 49 f49, keep_fN h f49]
  exact v
def begK (K : RS) (k : Nat) : RS := wF (wA (wA (wA K 10 k (nI 1)) 11 k (nI 0)) 15 k (nI 0)) 19 (nI k)
def codeT (x y : Int32) : Nat := 12 * x.toNatClampNeg + y.toNatClampNeg
def bodyP (K : RS) (x0 x1 x2 x3 : Int32) : Int32 × RS := bif below x0 (fN K 0) && below x1 12 && below x2 3 && below x3 4 then (nI 1, begK (wA (wA K 12 (12 * x0.toNatClampNeg + x1.toNatClampNeg) x2) 13 (12 * x0.toNatClampNeg + x1.toNatClampNeg) x3) (12 * x0.toNatClampNeg + x1.toNatClampNeg)) else (-2, K)
def needP (K : RS) (x0 x1 x2 : Int32) : Int32 × RS := bif below x0 (fN K 0) && below x1 12 && below x2 4 then (nI 1, wF (wA (begK (wA (wA K 12 (12 * x0.toNatClampNeg + x1.toNatClampNeg) (nI 0)) 13 (12 * x0.toNatClampNeg + x1.toNatClampNeg) x2) (12 * x0.toNatClampNeg + x1.toNatClampNeg)) 11 (12 * x0.toNatClampNeg + x1.toNatClampNeg) (nI 1)) 19 (-1)) else (-2, K)
def guardP (K : RS) (x0 x1 x2 : Int32) : Int32 × RS := bif below x0 (fN K 0) && below x1 12 && below x2 3 then (nI 1, begK (wA K 14 (240 + 12 * x0.toNatClampNeg + x1.toNatClampNeg) x2) (240 + 12 * x0.toNatClampNeg + x1.toNatClampNeg)) else (-2, K)
def ownP (K : RS) (x0 x1 x2 x3 : Int32) : Int32 × RS := bif below x0 (fN K 3) && below x1 12 && below x2 3 && below x3 4 then (nI 1, begK (wA (wA K 12 (480 + 12 * x0.toNatClampNeg + x1.toNatClampNeg) x2) 13 (480 + 12 * x0.toNatClampNeg + x1.toNatClampNeg) x3) (480 + 12 * x0.toNatClampNeg + x1.toNatClampNeg)) else (-2, K)
def isOpF (k a b : Int32) : Bool := if k = 1 ∨ k = 2 ∨ k = 3 then below a 4 else if k = 5 ∨ k = 10 then below a 12 else if k = 7 then below a 20 else if k = 8 then below a 12 && below b 12 else below k 13
def latO (K : RS) : Option Nat := if rF K 19 = -1 then none else some (fN K 19)
theorem latO_eq {K : RS} {o : Option Nat} (h : rF K 19 = oI o) (b : ∀ k, o = some k → k < 624) : latO K = o := by
  unfold latO fN
  cases o with
  | none => exact if_pos h
  | some k =>
    have hk := b k rfl
    have h' : rF K 19 = nI k := h
    rw [if_neg (fun z => nI_nem1 (show k < 2 ^ 31 by omega) (h'.symm.trans z)), h', nI_clamp (by omega)]
def opK (K : RS) (g : Nat) (k a b : Int32) : RS := wA (wA (wA (wA K 16 (8 * g + rN K 15 g) k) 17 (8 * g + rN K 15 g) a) 18 (8 * g + rN K 15 g) b) 15 g (nI (rN K 15 g + 1))
def opP (K : RS) (k a b : Int32) : Int32 × RS := bif isOpF k a b then (match latO K with
    | none => (-3, K)
    | some g => if rN K 15 g = 8 then (-4, K) else (nI (rN K 15 g + 1), opK K g k a b)) else (-2, K)
def leaveP (K : RS) (x0 x1 x2 : Int32) : Int32 × RS := bif below x0 (fN K 3) && below x1 (fN K 0) && below x2 12 then (bif leavesF K x0.toNatClampNeg x1.toNatClampNeg x2.toNatClampNeg then (nI 0, K) else if rN K 20 x0.toNatClampNeg = 8 then (-4, K) else
    (nI 1, wA (wA (wA K 21 (8 * x0.toNatClampNeg + rN K 20 x0.toNatClampNeg) x1) 22 (8 * x0.toNatClampNeg + rN K 20 x0.toNatClampNeg) x2) 20 x0.toNatClampNeg (nI (rN K 20 x0.toNatClampNeg + 1)))) else (-2, K)
def renameK (K : RS) (u : Nat) (x1 x2 x3 : Int32) : RS := wA (wA (wA (wA K 24 (8 * u + rN K 23 u) x1) 25 (8 * u + rN K 23 u) x2) 26 (8 * u + rN K 23 u) x3) 23 u (nI (rN K 23 u + 1))
def renameP (K : RS) (x0 x1 x2 x3 : Int32) : Int32 × RS := bif below x0 (fN K 3) && below x1 (fN K 0) && below x2 12 && below x3 12 && !decide (x2 = x3) then (bif (renamedF K x0.toNatClampNeg x1.toNatClampNeg x2.toNatClampNeg).isSome || (namedF K x0.toNatClampNeg x1.toNatClampNeg x3.toNatClampNeg).isSome then (-3, K) else if rN K 23 x0.toNatClampNeg = 8 then (-4, K) else (nI 1, renameK K x0.toNatClampNeg x1 x2 x3)) else (-2, K)
def preferP (K : RS) (x0 x1 x2 : Int32) : Int32 × RS := bif below x0 (fN K 3) && below x1 12 && (decide (x2 = -1) || below x2 (fN K 0)) then (rA K 27 (12 * x0.toNatClampNeg + x1.toNatClampNeg), wA K 27 (12 * x0.toNatClampNeg + x1.toNatClampNeg) x2) else (-2, K)
def setMoodP (K : RS) (x0 x1 : Int32) (x2 : Int64) : Int32 × RS := bif below x0 (fN K 3) && below x1 4 then (nI 1, wQ K 9 (4 * x0.toNatClampNeg + x1.toNatClampNeg) x2) else (-2, K)
/-- a new character -/
def newChar (K : RS) (x : Int32) (K' : RS) : Prop := rF K' 3 = nI (fN K 3 + 1) ∧ rA K' 4 (fN K 3) = x ∧ (∀ n, n < 12 → rA K' 27 (12 * fN K 3 + n) = -1) ∧ (∀ c, c ≠ fN K 3 → rA K' 4 c = rA K 4 c) ∧ (∀ i, i < 12 * fN K 3 ∨ 12 * fN K 3 + 12 ≤ i → rA K' 27 i = rA K 27 i) ∧ keep [3] [4, 27] [] [] K K'
def charR (K : RS) (x : Int32) (v : Int32) (K' : RS) : Prop := (below x 4 = false ∧ v = -2 ∧ K' = K) ∨ (below x 4 = true ∧ fN K 3 = 12 ∧ v = -4 ∧ K' = K) ∨ (below x 4 = true ∧ fN K 3 < 12 ∧ v = nI (fN K 3) ∧ newChar K x K')
/-- a new trait -/
def trPre (K : RS) (np : Nat) (a b c : Int32) (K' : RS) : Prop := rF K' 29 = nI np ∧ np ≤ 3 ∧ rA K' 28 0 = a ∧ rA K' 28 1 = b ∧ rA K' 28 2 = c ∧ keep [29] [28] [] [] K K'
def newTrait (K : RS) (L : List Nat) (K' : RS) : Prop := rF K' 0 = nI (fN K 0 + 1) ∧ rA K' 1 (20 * fN K 0) = nI (fN K 0) ∧ (∀ i x, L[i]? = some x → rA K' 1 (20 * fN K 0 + 1 + i) = nI x) ∧ rA K' 2 (fN K 0) = nI (L.length + 1) ∧ (∀ i, i < 20 * fN K 0 ∨ 20 * fN K 0 + 20 ≤ i → rA K' 1 i = rA K 1 i) ∧ (∀ t, t ≠ fN K 0 → rA K' 2 t = rA K 2 t) ∧ keep [0, 29] [1, 2, 28, 30, 31] [] [] K K'
def underF (K : RS) (x : Int32) : Bool := decide (x = -1) || below x (fN K 0)
def canF (K : RS) (a b c : Int32) : Bool := underF K a && underF K b && underF K c && !(decide (a = -1) && !decide (b = -1)) && !(decide (b = -1) && !decide (c = -1)) && !(!decide (a = -1) && (decide (a = b) || decide (a = c))) && !(!decide (b = -1) && decide (b = c))
def npF (a b c : Int32) : Nat := if a = -1 then 0 else if b = -1 then 1 else if c = -1 then 2 else 3
def traitR (K : RS) (a b c : Int32) (v : Int32) (K' : RS) : Prop := (canF K a b c = false ∧ v = -2 ∧ K' = K) ∨ (canF K a b c = true ∧ ∃ K1, trPre K (npF a b c) a b c K1 ∧ ((mgF K1 = none ∧ v = -3 ∧ keep [29] [28, 30, 31] [] [] K K') ∨ ∃ L, mgF K1 = some L ∧ ((fN K 0 = 20 ∧ v = -4 ∧ keep [29] [28, 30, 31] [] [] K K') ∨ (fN K 0 < 20 ∧ v = nI (fN K 0) ∧ newTrait K L K'))))
/-- one more trait taken -/
def hasF (K : RS) (u t : Nat) : Bool := (sc (fun i => decide (rA K 5 (5 * u + i) = nI t)) (rN K 6 u - 0) 0).isSome
def tkPre (K : RS) (u t : Nat) (K' : RS) : Prop := rF K' 29 = nI (rN K 6 u + 1) ∧ (∀ j, j < rN K 6 u → rA K' 28 j = rA K 5 (5 * u + j)) ∧ rA K' 28 (rN K 6 u) = nI t ∧ keep [29] [28] [] [] K K'
def newTaken (K : RS) (u t : Nat) (L : List Nat) (K' : RS) : Prop := rA K' 5 (5 * u + rN K 6 u) = nI t ∧ rA K' 6 u = nI (rN K 6 u + 1) ∧ (∀ i x, L[i]? = some x → rA K' 7 (20 * u + i) = nI x) ∧ rA K' 8 u = nI L.length ∧ (∀ j, j ≠ 5 * u + rN K 6 u → rA K' 5 j = rA K 5 j) ∧ (∀ c, c ≠ u → rA K' 6 c = rA K 6 c) ∧ (∀ j, j < 20 * u ∨ 20 * u + 20 ≤ j → rA K' 7 j = rA K 7 j) ∧ (∀ c, c ≠ u → rA K' 8 c = rA K 8 c) ∧ keep [29] [5, 6, 7, 8, 28, 30, 31] [] [] K K'
def takesR (K : RS) (x y : Int32) (v : Int32) (K' : RS) : Prop := ((below x (fN K 3) && below y (fN K 0)) = false ∧ v = -2 ∧ K' = K) ∨ ∃ u t, u < fN K 3 ∧ t < fN K 0 ∧ x = nI u ∧ y = nI t ∧ ((hasF K u t = true ∧ v = -2 ∧ keep [29] [28] [] [] K K') ∨ (hasF K u t = false ∧ ∃ K1, tkPre K u t K1 ∧ ((mgF K1 = none ∧ v = -3 ∧ keep [29] [28, 30, 31] [] [] K K') ∨ ∃ L, mgF K1 = some L ∧ ((rN K 6 u = 5 ∧ v = -4 ∧ keep [29] [28, 30, 31] [] [] K K') ∨ (rN K 6 u < 5 ∧ v = nI (rN K 6 u + 1) ∧ newTaken K u t L K')))))
theorem rN_nI {K : RS} {g i n : Nat} (h : rA K g i = nI n) (hn : n < 2 ^ 31) : rN K g i = n := by unfold rN; rw [h, nI_clamp hn]
theorem fN_nI {K : RS} {g n : Nat} (h : rF K g = nI n) (hn : n < 2 ^ 31) : fN K g = n := by unfold fN; rw [h, nI_clamp hn]
theorem rN_wA (K : RS) (g i : Nat) (v : Int32) (g' i' : Nat) : rN (wA K g i v) g' i' = if g' = g ∧ i' = i then v.toNatClampNeg else rN K g' i' := by
  unfold rN; rw [rA_wA]; split <;> rfl
theorem RV_w13 {K : RS} {k : Nat} {x : Int32} (v : RV K) (hx : ∃ y, y < 4 ∧ x = nI y) : RV (wA K 13 k x) := by
  have kp := keep_wA (A := [13]) (F := []) (Q := []) (J := []) (K := K) (g := 13) (i := k) (v := x) keep_rfl (by decide)
  exact ⟨P1_keep kp (by decide) v.p1, P2_keep kp (by decide) v.p2, P3_keep kp (by decide) v.p3, P4_keep kp (by decide) (by decide) (by decide) v.p4, P5_keep kp (by decide) v.p5, P6_keep kp (by decide) (by decide) (by decide) v.p6, P7_keep kp (by decide) v.p7, P8_keep kp (by decide) (by decide) (by decide) v.p8, P9_keep kp (by decide) v.p9, P10_keep kp (by decide) v.p10, P11_keep kp (by decide) (by decide) (by decide) v.p11, P12_keep kp (by decide) v.p12, (fun j hj => by
    rw [rN_wA, rA_wA]
    split
    · obtain ⟨y, hy, rfl⟩ := hx
      rw [nI_clamp (by omega)]
      exact ⟨rfl, hy⟩
    · exact v.p13 j hj), P14_keep kp (by decide) v.p14, P15_keep kp (by decide) (by decide) (by decide) v.p15, P16_keep kp (by decide) v.p16⟩
theorem RV_w15 {K : RS} {k : Nat} {x : Int32} (v : RV K) (hx : ∃ y, y ≤ 8 ∧ x = nI y) : RV (wA K 15 k x) := by
  have kp := keep_wA (A := [15]) (F := []) (Q := []) (J := []) (K := K) (g := 15) (i := k) (v := x) keep_rfl (by decide)
  exact ⟨P1_keep kp (by decide) v.p1, P2_keep kp (by decide) v.p2, P3_keep kp (by decide) v.p3, P4_keep kp (by decide) (by decide) (by decide) v.p4, P5_keep kp (by decide) v.p5, P6_keep kp (by decide) (by decide) (by decide) v.p6, P7_keep kp (by decide) v.p7, P8_keep kp (by decide) (by decide) (by decide) v.p8, P9_keep kp (by decide) v.p9, P10_keep kp (by decide) v.p10, P11_keep kp (by decide) (by decide) (by decide) v.p11, (fun j hj => by
    rw [rN_wA, rA_wA]
    split
    · obtain ⟨y, hy, rfl⟩ := hx
      rw [nI_clamp (by omega)]
      exact ⟨rfl, hy⟩
    · exact v.p12 j hj), P13_keep kp (by decide) v.p13, P14_keep kp (by decide) v.p14, P15_keep kp (by decide) (by decide) (by decide) v.p15, P16_keep kp (by decide) v.p16⟩
theorem RV_w19 {K : RS} {x : Int32} (v : RV K) (hx : ∃ o : Option Nat, x = oI o ∧ ∀ k, o = some k → k < 624) : RV (wF K 19 x) := by
  have kp := keep_wF (A := []) (F := [19]) (Q := []) (J := []) (K := K) (g := 19) (v := x) keep_rfl (by decide)
  exact ⟨P1_keep kp (by decide) v.p1, P2_keep kp (by decide) v.p2, P3_keep kp (by decide) v.p3, P4_keep kp (by decide) (by decide) (by decide) v.p4, P5_keep kp (by decide) v.p5, P6_keep kp (by decide) (by decide) (by decide) v.p6, P7_keep kp (by decide) v.p7, P8_keep kp (by decide) (by decide) (by decide) v.p8, P9_keep kp (by decide) v.p9, P10_keep kp (by decide) v.p10, P11_keep kp (by decide) (by decide) (by decide) v.p11, P12_keep kp (by decide) v.p12, P13_keep kp (by decide) v.p13, hx, P15_keep kp (by decide) (by decide) (by decide) v.p15, P16_keep kp (by decide) v.p16⟩
theorem RV_beg {K : RS} {k : Nat} (v : RV K) (hk : k < 624) : RV (begK K k) := by
  have v1 : RV (wA (wA K 10 k (nI 1)) 11 k (nI 0)) := RV_keep (F := []) (A := [10, 11]) (Q := []) (J := []) (keep_wA (keep_wA keep_rfl (by decide)) (by decide)) (by decide) (by decide) v
  exact RV_w19 (RV_w15 v1 ⟨0, by decide, rfl⟩) ⟨some k, rfl, fun j z => by cases z; exact hk⟩
theorem RV_w12 {K : RS} {k : Nat} {x : Int32} (v : RV K) : RV (wA K 12 k x) := RV_keep (F := []) (A := [12]) (Q := []) (J := []) (keep_wA keep_rfl (by decide)) (by decide) (by decide) v
theorem RV_w14 {K : RS} {k : Nat} {x : Int32} (v : RV K) : RV (wA K 14 k x) := RV_keep (F := []) (A := [14]) (Q := []) (J := []) (keep_wA keep_rfl (by decide)) (by decide) (by decide) v
theorem RV_w11 {K : RS} {k : Nat} {x : Int32} (v : RV K) : RV (wA K 11 k x) := RV_keep (F := []) (A := [11]) (Q := []) (J := []) (keep_wA keep_rfl (by decide)) (by decide) (by decide) v
theorem RV_bodyP {K : RS} (v : RV K) (x0 x1 x2 x3 : Int32) : RV (bodyP K x0 x1 x2 x3).2 := by
  unfold bodyP
  cases h : (below x0 (fN K 0) && below x1 12 && below x2 3 && below x3 4) with
  | false => exact v
  | true =>
    simp only [Bool.and_eq_true] at h
    obtain ⟨t, ht, rfl⟩ := below_some h.1.1.1
    obtain ⟨n, hn, rfl⟩ := below_some h.1.1.2
    have h1 := v.p1.2
    exact RV_beg (RV_w13 (RV_w12 v) (below_some h.2)) (by rw [nI_clamp (by omega), nI_clamp (by omega)]; omega)
theorem RV_needP {K : RS} (v : RV K) (x0 x1 x2 : Int32) : RV (needP K x0 x1 x2).2 := by
  unfold needP
  cases h : (below x0 (fN K 0) && below x1 12 && below x2 4) with
  | false => exact v
  | true =>
    simp only [Bool.and_eq_true] at h
    obtain ⟨t, ht, rfl⟩ := below_some h.1.1
    obtain ⟨n, hn, rfl⟩ := below_some h.1.2
    have h1 := v.p1.2
    exact RV_w19 (RV_w11 (RV_beg (RV_w13 (RV_w12 v) (below_some h.2)) (by rw [nI_clamp (by omega), nI_clamp (by omega)]; omega))) ⟨none, rfl, fun j z => by cases z⟩
theorem RV_guardP {K : RS} (v : RV K) (x0 x1 x2 : Int32) : RV (guardP K x0 x1 x2).2 := by
  unfold guardP
  cases h : (below x0 (fN K 0) && below x1 12 && below x2 3) with
  | false => exact v
  | true =>
    simp only [Bool.and_eq_true] at h
    obtain ⟨t, ht, rfl⟩ := below_some h.1.1
    obtain ⟨n, hn, rfl⟩ := below_some h.1.2
    have h1 := v.p1.2
    exact RV_beg (RV_w14 v) (by rw [nI_clamp (by omega), nI_clamp (by omega)]; omega)
theorem RV_ownP {K : RS} (v : RV K) (x0 x1 x2 x3 : Int32) : RV (ownP K x0 x1 x2 x3).2 := by
  unfold ownP
  cases h : (below x0 (fN K 3) && below x1 12 && below x2 3 && below x3 4) with
  | false => exact v
  | true =>
    simp only [Bool.and_eq_true] at h
    obtain ⟨t, ht, rfl⟩ := below_some h.1.1.1
    obtain ⟨n, hn, rfl⟩ := below_some h.1.1.2
    have h1 := v.p2.2
    exact RV_beg (RV_w13 (RV_w12 v) (below_some h.2)) (by rw [nI_clamp (by omega), nI_clamp (by omega)]; omega)
theorem isOpF_a {k a b : Int32} (h : isOpF k a b = true) (hk : k = 5 ∨ k = 10) : ∃ j, j < 12 ∧ a = nI j := by
  rcases hk with rfl | rfl <;> exact below_some h
theorem isOpF_b {k a b : Int32} (h : isOpF k a b = true) (hk : k = 8) : ∃ j, j < 12 ∧ b = nI j := by
  subst hk
  have h2 : (below a 12 && below b 12) = true := h
  rw [Bool.and_eq_true] at h2
  exact below_some h2.2
theorem RV_opK {K : RS} (v : RV K) {g : Nat} {k a b : Int32} (hg : g < 624) (h8 : rN K 15 g < 8) (h : isOpF k a b = true) : RV (opK K g k a b) := by
  have kp : keep [] [16, 17, 18] [] [] K (wA (wA (wA K 16 (8 * g + rN K 15 g) k) 17 (8 * g + rN K 15 g) a) 18 (8 * g + rN K 15 g) b) := keep_wA (keep_wA (keep_wA keep_rfl (by decide)) (by decide)) (by decide)
  have v1 : RV (wA (wA (wA K 16 (8 * g + rN K 15 g) k) 17 (8 * g + rN K 15 g) a) 18 (8 * g + rN K 15 g) b) := ⟨P1_keep kp (by decide) v.p1, P2_keep kp (by decide) v.p2, P3_keep kp (by decide) v.p3, P4_keep kp (by decide) (by decide) (by decide) v.p4, P5_keep kp (by decide) v.p5, P6_keep kp (by decide) (by decide) (by decide) v.p6, P7_keep kp (by decide) v.p7, P8_keep kp (by decide) (by decide) (by decide) v.p8, P9_keep kp (by decide) v.p9, P10_keep kp (by decide) v.p10, P11_keep kp (by decide) (by decide) (by decide) v.p11, P12_keep kp (by decide) v.p12, P13_keep kp (by decide) v.p13, P14_keep kp (by decide) v.p14, ?_, P16_keep kp (by decide) v.p16⟩
  · exact RV_w15 v1 ⟨_, by omega, rfl⟩
  · intro j hj
    simp only [rA_wA]
    by_cases hjj : j = 8 * g + rN K 15 g
    · subst hjj
      simp only [true_and, and_true, if_true, show ¬ (16 = 18) by decide, show ¬ (16 = 17) by decide, show ¬ (17 = 18) by decide, false_and, if_false]
      exact ⟨fun z => isOpF_a h z, fun z => isOpF_b h z⟩
    · simp only [hjj, and_false, if_false]
      exact v.p15 j hj
theorem RV_opP {K : RS} (v : RV K) (k a b : Int32) : RV (opP K k a b).2 := by
  unfold opP
  cases h : isOpF k a b with
  | false => exact v
  | true =>
    obtain ⟨o, ho, bo⟩ := v.p14
    rw [latO_eq ho bo]
    cases o with
    | none => exact v
    | some g =>
      have hg := bo g rfl
      have h8 := (v.p12 g hg).2
      show RV (if rN K 15 g = 8 then (-4, K) else (nI (rN K 15 g + 1), opK K g k a b)).2
      split
      · exact v
      · exact RV_opK v hg (by omega) h
theorem RV_leaveP {K : RS} (v : RV K) (x0 x1 x2 : Int32) : RV (leaveP K x0 x1 x2).2 := by
  unfold leaveP
  cases h : (below x0 (fN K 3) && below x1 (fN K 0) && below x2 12) with
  | false => exact v
  | true =>
    simp only [Bool.and_eq_true] at h
    obtain ⟨u, hu, rfl⟩ := below_some h.1.1
    have h1 := v.p2.2
    rw [nI_clamp (show u < 2 ^ 31 by omega)]
    cases leavesF K u x1.toNatClampNeg x2.toNatClampNeg with
    | true => exact v
    | false =>
      simp only [cond_true, cond_false]
      split
      · exact v
      · rename_i h8
        have h9 := (v.p9 u (by omega)).2
        have kp : keep [] [21, 22, 20] [] [] K (wA (wA (wA K 21 (8 * u + rN K 20 u) x1) 22 (8 * u + rN K 20 u) x2) 20 u (nI (rN K 20 u + 1))) := keep_wA (keep_wA (keep_wA keep_rfl (by decide)) (by decide)) (by decide)
        refine ⟨P1_keep kp (by decide) v.p1, P2_keep kp (by decide) v.p2, P3_keep kp (by decide) v.p3, P4_keep kp (by decide) (by decide) (by decide) v.p4, P5_keep kp (by decide) v.p5, P6_keep kp (by decide) (by decide) (by decide) v.p6, P7_keep kp (by decide) v.p7, P8_keep kp (by decide) (by decide) (by decide) v.p8, ?_, P10_keep kp (by decide) v.p10, P11_keep kp (by decide) (by decide) (by decide) v.p11, P12_keep kp (by decide) v.p12, P13_keep kp (by decide) v.p13, P14_keep kp (by decide) v.p14, P15_keep kp (by decide) (by decide) (by decide) v.p15, P16_keep kp (by decide) v.p16⟩
        intro c hc
        rw [rN_wA, rA_wA]
        split
        · rw [nI_clamp (by omega)]; exact ⟨rfl, by omega⟩
        · exact v.p9 c hc
theorem RV_renameK {K : RS} (v : RV K) {u : Nat} {x1 x2 x3 : Int32} (hu : u < 12) (h8 : rN K 23 u < 8) (h2 : below x2 12 = true) (h3 : below x3 12 = true) : RV (renameK K u x1 x2 x3) := by
  unfold renameK
  have kp : keep [] [24, 25, 26, 23] [] [] K (wA (wA (wA (wA K 24 (8 * u + rN K 23 u) x1) 25 (8 * u + rN K 23 u) x2) 26 (8 * u + rN K 23 u) x3) 23 u (nI (rN K 23 u + 1))) := keep_wA (keep_wA (keep_wA (keep_wA keep_rfl (by decide)) (by decide)) (by decide)) (by decide)
  refine ⟨P1_keep kp (by decide) v.p1, P2_keep kp (by decide) v.p2, P3_keep kp (by decide) v.p3, P4_keep kp (by decide) (by decide) (by decide) v.p4, P5_keep kp (by decide) v.p5, P6_keep kp (by decide) (by decide) (by decide) v.p6, P7_keep kp (by decide) v.p7, P8_keep kp (by decide) (by decide) (by decide) v.p8, P9_keep kp (by decide) v.p9, ?_, ?_, P12_keep kp (by decide) v.p12, P13_keep kp (by decide) v.p13, P14_keep kp (by decide) v.p14, P15_keep kp (by decide) (by decide) (by decide) v.p15, P16_keep kp (by decide) v.p16⟩
  · intro c hc
    rw [rN_wA, rA_wA]
    split
    · rw [nI_clamp (by omega)]; exact ⟨rfl, by omega⟩
    · exact v.p10 c hc
  · intro c hc i hi
    obtain ⟨y2, g2, rfl⟩ := below_some h2
    obtain ⟨y3, g3, rfl⟩ := below_some h3
    have hcm := (v.p10 c hc).2
    simp only [rN_wA, rA_wA, true_and, show ¬ (25 = 23) by decide, show ¬ (25 = 24) by decide, show ¬ (25 = 26) by decide, show ¬ (26 = 23) by decide, show ¬ (26 = 24) by decide, show ¬ (26 = 25) by decide, show ¬ (23 = 26) by decide, show ¬ (23 = 25) by decide, show ¬ (23 = 24) by decide, false_and, if_false] at hi ⊢
    by_cases hj : 8 * c + i = 8 * u + rN K 23 u
    · rw [if_pos hj, if_pos hj, if_pos hj, if_pos hj, nI_clamp (by omega), nI_clamp (by omega)]
      exact ⟨⟨rfl, g2⟩, rfl, g3⟩
    · rw [if_neg hj, if_neg hj, if_neg hj, if_neg hj]
      refine v.p11 c hc i ?_
      by_cases hcu : c = u
      · rw [if_pos hcu, nI_clamp (by omega)] at hi
        subst hcu
        omega
      · rw [if_neg hcu] at hi; exact hi
theorem RV_renameP {K : RS} (v : RV K) (x0 x1 x2 x3 : Int32) : RV (renameP K x0 x1 x2 x3).2 := by
  unfold renameP
  cases h : (below x0 (fN K 3) && below x1 (fN K 0) && below x2 12 && below x3 12 && !decide (x2 = x3)) with
  | false => exact v
  | true =>
    simp only [Bool.and_eq_true] at h
    obtain ⟨u, hu, rfl⟩ := below_some h.1.1.1.1
    have h1 := v.p2.2
    rw [nI_clamp (show u < 2 ^ 31 by omega)]
    cases ((renamedF K u x1.toNatClampNeg x2.toNatClampNeg).isSome || (namedF K u x1.toNatClampNeg x3.toNatClampNeg).isSome) with
    | true => exact v
    | false =>
      simp only [cond_true, cond_false]
      split
      · exact v
      · rename_i h8
        have h9 := (v.p10 u (by omega)).2
        exact RV_renameK v (by omega) (by omega) h.1.1.2 h.1.2
theorem RV_preferP {K : RS} (v : RV K) (x0 x1 x2 : Int32) : RV (preferP K x0 x1 x2).2 := by
  unfold preferP
  cases (below x0 (fN K 3) && below x1 12 && (decide (x2 = -1) || below x2 (fN K 0))) with
  | false => exact v
  | true => exact RV_keep (F := []) (A := [27]) (Q := []) (J := []) (keep_wA keep_rfl (by decide)) (by decide) (by decide) v
theorem RV_setMoodP {K : RS} (v : RV K) (x0 x1 : Int32) (x2 : Int64) : RV (setMoodP K x0 x1 x2).2 := by
  unfold setMoodP
  cases (below x0 (fN K 3) && below x1 4) with
  | false => exact v
  | true => exact RV_keep (F := []) (A := []) (Q := [9]) (J := []) (keep_wQ keep_rfl (by decide)) (by decide) (by decide) v
theorem RV_charR {K K' : RS} {x r : Int32} (v : RV K) (h : charR K x r K') : RV K' := by
  rcases h with ⟨_, _, rfl⟩ | ⟨_, _, _, rfl⟩ | ⟨_, h12, _, h3, _, _, _, _, kp⟩
  · exact v
  · exact v
  · refine ⟨P1_keep kp (by decide) v.p1, ?_, P3_keep kp (by decide) v.p3, P4_keep kp (by decide) (by decide) (by decide) v.p4, P5_keep kp (by decide) v.p5, P6_keep kp (by decide) (by decide) (by decide) v.p6, P7_keep kp (by decide) v.p7, P8_keep kp (by decide) (by decide) (by decide) v.p8, P9_keep kp (by decide) v.p9, P10_keep kp (by decide) v.p10, P11_keep kp (by decide) (by decide) (by decide) v.p11, P12_keep kp (by decide) v.p12, P13_keep kp (by decide) v.p13, P14_keep kp (by decide) v.p14, P15_keep kp (by decide) (by decide) (by decide) v.p15, P16_keep kp (by decide) v.p16⟩
    unfold P2
    rw [fN_nI h3 (by omega)]
    exact ⟨h3, by omega⟩
theorem RV_newTrait {K K' : RS} {L : List Nat} (v : RV K) (hT : fN K 0 < 20) (hL : L.Nodup) (hx : ∀ x ∈ L, x < fN K 0) (h : newTrait K L K') : RV K' := by
  obtain ⟨h0, h1, h2, h3, h4, h5, kp⟩ := h
  have hl := nodup_lt _ L hL hx
  have f0 := fN_nI h0 (by omega)
  have l2 : ∀ t, rN K' 2 t = if t = fN K 0 then L.length + 1 else rN K 2 t := fun t => by
    split
    · rename_i z; rw [z]; exact rN_nI h3 (by omega)
    · rename_i z; unfold rN; rw [h5 t z]
  refine ⟨?_, P2_keep kp (by decide) v.p2, ?_, ?_, P5_keep kp (by decide) v.p5, ?_, P7_keep kp (by decide) v.p7, ?_, P9_keep kp (by decide) v.p9, P10_keep kp (by decide) v.p10, P11_keep kp (by decide) (by decide) (by decide) v.p11, P12_keep kp (by decide) v.p12, P13_keep kp (by decide) v.p13, P14_keep kp (by decide) v.p14, P15_keep kp (by decide) (by decide) (by decide) v.p15, P16_keep kp (by decide) v.p16⟩
  · unfold P1; rw [f0]; exact ⟨h0, by omega⟩
  · intro t ht
    rw [l2]
    by_cases hz : t = fN K 0
    · rw [if_pos hz, hz]; exact ⟨h3, by omega⟩
    · rw [if_neg hz, h5 t hz]; exact v.p3 t ht
  · intro t ht i hi
    rw [l2] at hi
    rw [f0]
    by_cases hz : t = fN K 0
    · rw [if_pos hz] at hi
      rw [hz]
      cases i with
      | zero => rw [Nat.add_zero, rN_nI h1 (by omega)]; exact ⟨h1, by omega⟩
      | succ i =>
        have hi2 : i < L.length := by omega
        have h6 := h2 i L[i] (List.getElem?_eq_getElem hi2)
        have h7 := hx _ (List.getElem_mem hi2)
        rw [show 20 * fN K 0 + (i + 1) = 20 * fN K 0 + 1 + i by omega, rN_nI h6 (by omega)]
        exact ⟨h6, by omega⟩
    · rw [if_neg hz] at hi
      have h20 := (v.p3 t ht).2
      have h6 := h4 (20 * t + i) (by omega)
      have h7 := v.p4 t ht i hi
      unfold rN
      rw [h6]
      exact ⟨h7.1, Nat.lt_succ_of_lt h7.2⟩
  · have q := P6_keep (F := [29]) (A := [1, 2, 28, 30, 31]) (Q := []) (J := []) (K1 := (fun g => if g = 0 then rF K 0 else rF K' g, K'.2)) ⟨fun g hg => by
        show (if g = 0 then rF K 0 else rF K' g) = rF K g
        split
        · rename_i z; rw [z]
        · rename_i z; exact kp.1 g (fun y => by rcases List.mem_cons.mp y with y | y; exact z y; exact hg y), kp.2.1, kp.2.2.1, kp.2.2.2⟩ (by decide) (by decide) (by decide) v.p6
    intro c hc i hi
    have q2 := q c hc i hi
    refine ⟨q2.1, ?_⟩
    have q3 : rN K' 7 (20 * c + i) < fN K 0 := q2.2
    rw [f0]; omega
  · have q := P8_keep (F := [29]) (A := [1, 2, 28, 30, 31]) (Q := []) (J := []) (K1 := (fun g => if g = 0 then rF K 0 else rF K' g, K'.2)) ⟨fun g hg => by
        show (if g = 0 then rF K 0 else rF K' g) = rF K g
        split
        · rename_i z; rw [z]
        · rename_i z; exact kp.1 g (fun y => by rcases List.mem_cons.mp y with y | y; exact z y; exact hg y), kp.2.1, kp.2.2.1, kp.2.2.2⟩ (by decide) (by decide) (by decide) v.p8
    intro c hc i hi
    have q2 := q c hc i hi
    refine ⟨q2.1, ?_⟩
    have q3 : rN K' 5 (5 * c + i) < fN K 0 := q2.2
    rw [f0]; omega
theorem RV_newTaken {K K' : RS} {u t : Nat} {L : List Nat} (v : RV K) (hu : u < 12) (ht : t < fN K 0) (h5 : rN K 6 u < 5) (hL : L.Nodup) (hx : ∀ x ∈ L, x < fN K 0) (h : newTaken K u t L K') : RV K' := by
  obtain ⟨g1, g2, g3, g4, g5, g6, g7, g8, kp⟩ := h
  have hl := nodup_lt _ L hL hx
  have hT := v.p1.2
  have f0 : fN K' 0 = fN K 0 := keep_fN kp (by decide)
  have l8 : ∀ c, rN K' 8 c = if c = u then L.length else rN K 8 c := fun c => by
    split
    · rename_i z; rw [z]; exact rN_nI g4 (by omega)
    · rename_i z; unfold rN; rw [g8 c z]
  have l6 : ∀ c, rN K' 6 c = if c = u then rN K 6 u + 1 else rN K 6 c := fun c => by
    split
    · rename_i z; rw [z]; exact rN_nI g2 (by omega)
    · rename_i z; unfold rN; rw [g6 c z]
  refine ⟨P1_keep kp (by decide) v.p1, P2_keep kp (by decide) v.p2, P3_keep kp (by decide) v.p3, P4_keep kp (by decide) (by decide) (by decide) v.p4, ?_, ?_, ?_, ?_, P9_keep kp (by decide) v.p9, P10_keep kp (by decide) v.p10, P11_keep kp (by decide) (by decide) (by decide) v.p11, P12_keep kp (by decide) v.p12, P13_keep kp (by decide) v.p13, P14_keep kp (by decide) v.p14, P15_keep kp (by decide) (by decide) (by decide) v.p15, P16_keep kp (by decide) v.p16⟩
  · intro c hc
    rw [l8]
    by_cases hz : c = u
    · rw [if_pos hz, hz]; exact ⟨g4, by omega⟩
    · rw [if_neg hz, g8 c hz]; exact v.p5 c hc
  · intro c hc i hi
    rw [l8] at hi
    rw [f0]
    by_cases hz : c = u
    · rw [if_pos hz] at hi
      rw [hz]
      have h6 := g3 i L[i] (List.getElem?_eq_getElem hi)
      have h7 := hx _ (List.getElem_mem hi)
      rw [rN_nI h6 (by omega)]
      exact ⟨h6, h7⟩
    · rw [if_neg hz] at hi
      have h20 := (v.p5 c hc).2
      have h6 := g7 (20 * c + i) (by omega)
      have h7 := v.p6 c hc i hi
      unfold rN
      rw [h6]
      exact h7
  · intro c hc
    rw [l6]
    by_cases hz : c = u
    · rw [if_pos hz, hz]; exact ⟨g2, by omega⟩
    · rw [if_neg hz, g6 c hz]; exact v.p7 c hc
  · intro c hc i hi
    rw [l6] at hi
    rw [f0]
    have h55 := (v.p7 c hc).2
    by_cases hj : 5 * c + i = 5 * u + rN K 6 u
    · rw [hj, rN_nI g1 (by omega)]; exact ⟨g1, ht⟩
    · have h7 : rA K 5 (5 * c + i) = nI (rN K 5 (5 * c + i)) ∧ rN K 5 (5 * c + i) < fN K 0 := by
        refine v.p8 c hc i ?_
        by_cases hz : c = u
        · rw [if_pos hz] at hi; subst hz; omega
        · rw [if_neg hz] at hi; exact hi
      unfold rN
      rw [g5 _ hj]
      exact h7
theorem npF_le (a b c : Int32) : npF a b c ≤ 3 := by unfold npF; split; decide; split; decide; split <;> decide
theorem und_some {K : RS} {x : Int32} (h : underF K x = true) (hx : x ≠ -1) : ∃ t, t < fN K 0 ∧ x = nI t := by
  unfold underF at h
  rw [decide_eq_false hx, Bool.false_or] at h
  exact below_some h
theorem tr_MPre {K K1 : RS} {a b c : Int32} (v : RV K) (hc : canF K a b c = true) (h : trPre K (npF a b c) a b c K1) : RV K1 ∧ MPre K1 := by
  obtain ⟨h1, h2, h3, h4, h5, kp⟩ := h
  have v1 : RV K1 := RV_keep kp (by decide) (by decide) v
  have hT := v.p1.2
  have f0 : fN K1 0 = fN K 0 := keep_fN kp (by decide)
  have f29 : fN K1 29 = npF a b c := fN_nI h1 (by omega)
  refine ⟨v1, by rw [f29]; exact h1, by omega, fun r hr => ?_⟩
  rw [f29] at hr
  rw [f0]
  simp only [canF, Bool.and_eq_true] at hc
  obtain ⟨⟨⟨⟨⟨⟨ca, cb⟩, cc⟩, _⟩, _⟩, _⟩, _⟩ := hc
  have fin : ∀ {x : Int32} {r : Nat}, underF K x = true → x ≠ -1 → rA K1 28 r = x → rA K1 28 r = nI (rN K1 28 r) ∧ rN K1 28 r < fN K 0 := fun hu hx e => by
    obtain ⟨t, ht, rfl⟩ := und_some hu hx
    rw [rN_nI e (by omega)]
    exact ⟨e, ht⟩
  have na : a ≠ -1 := fun z => by rw [npF, if_pos z] at hr; omega
  rw [npF, if_neg na] at hr
  have r0 : r = 0 ∨ (r = 1 ∧ b ≠ -1) ∨ (r = 2 ∧ c ≠ -1) := by
    split at hr
    · exact Or.inl (by omega)
    · rename_i nb
      split at hr
      · have : r = 0 ∨ r = 1 := by omega
        rcases this with z | z
        · exact Or.inl z
        · exact Or.inr (Or.inl ⟨z, nb⟩)
      · rename_i nc
        have : r = 0 ∨ r = 1 ∨ r = 2 := by omega
        rcases this with z | z | z
        · exact Or.inl z
        · exact Or.inr (Or.inl ⟨z, nb⟩)
        · exact Or.inr (Or.inr ⟨z, nc⟩)
  rcases r0 with rfl | ⟨rfl, nb⟩ | ⟨rfl, nc⟩
  · exact fin ca na h3
  · exact fin cb nb h4
  · exact fin cc nc h5
theorem tk_MPre {K K1 : RS} {u t : Nat} (v : RV K) (hu : u < 12) (ht : t < fN K 0) (h : tkPre K u t K1) : RV K1 ∧ MPre K1 := by
  obtain ⟨h1, h2, h3, kp⟩ := h
  have v1 : RV K1 := RV_keep kp (by decide) (by decide) v
  have hT := v.p1.2
  have f0 : fN K1 0 = fN K 0 := keep_fN kp (by decide)
  have h6 := (v.p7 u hu).2
  have f29 : fN K1 29 = rN K 6 u + 1 := fN_nI h1 (by omega)
  refine ⟨v1, by rw [f29]; exact h1, by omega, fun r hr => ?_⟩
  rw [f29] at hr
  rw [f0]
  by_cases hz : r = rN K 6 u
  · rw [hz, rN_nI h3 (by omega)]; exact ⟨h3, ht⟩
  · have e := h2 r (by omega)
    have h8 := v.p8 u hu r (by omega)
    unfold rN
    rw [e]
    exact h8
theorem RV_traitR {K K' : RS} {a b c r : Int32} (v : RV K) (h : traitR K a b c r K') : RV K' := by
  rcases h with ⟨_, _, rfl⟩ | ⟨hc, K1, hp, ⟨_, _, kp⟩ | ⟨L, hL, ⟨_, _, kp⟩ | ⟨hT, _, hn⟩⟩⟩
  · exact v
  · exact RV_keep kp (by decide) (by decide) v
  · exact RV_keep kp (by decide) (by decide) v
  · obtain ⟨v1, m1⟩ := tr_MPre v hc hp
    obtain ⟨g1, g2⟩ := mgF_some v1 m1 hL
    have f0 : fN K1 0 = fN K 0 := keep_fN hp.2.2.2.2.2 (by decide)
    rw [f0] at g2
    exact RV_newTrait v hT g1 g2 hn
theorem RV_takesR {K K' : RS} {x y r : Int32} (v : RV K) (h : takesR K x y r K') : RV K' := by
  rcases h with ⟨_, _, rfl⟩ | ⟨u, t, hu, ht, _, _, ⟨_, _, kp⟩ | ⟨_, K1, hp, ⟨_, _, kp⟩ | ⟨L, hL, ⟨_, _, kp⟩ | ⟨h5, _, hn⟩⟩⟩⟩
  · exact v
  · exact RV_keep kp (by decide) (by decide) v
  · exact RV_keep kp (by decide) (by decide) v
  · exact RV_keep kp (by decide) (by decide) v
  · have h12 := v.p2.2
    obtain ⟨v1, m1⟩ := tk_MPre v (by omega) ht hp
    obtain ⟨g1, g2⟩ := mgF_some v1 m1 hL
    have f0 : fN K1 0 = fN K 0 := keep_fN hp.2.2.2 (by decide)
    rw [f0] at g2
    exact RV_newTaken v (by omega) ht h5 g1 g2 hn
