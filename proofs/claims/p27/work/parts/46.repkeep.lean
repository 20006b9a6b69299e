/-! WHAT KEEPS IT: stores elsewhere -/
theorem trS_t {W : Nat → Nat} {x T C : Nat} {Z : Nat → Prop} {S S' : Mem} {AR PR : List Nat} {FI : List (Nat × Nat)} {PI L : List Nat} (h : tch W x T C Z S S' AR PR FI PI L) {LT : Nat → List Nat} (k : trS S (W 0) T (aA W) LT) (n1 : 1 ∉ PR) (n2 : (65, 0) ∉ FI) (n3 : ∀ t, t < T → 6 * t + 102 ∉ AR ∧ 6 * t + 103 ∉ AR ∧ (194, 6 * t + 101) ∉ FI) : trS S' (W 0) T (aA W) LT := by
  obtain ⟨h1, h2, h3, h4, h5, h6, h7, h8⟩ := k
  have u0 : uC T C 0 := Or.inl (by decide)
  refine ⟨tch_is h h1, tch_mo h h1 u0 (by decide) h2, tch_isA h h3, tch_mi h h1 u0 (by decide) n2 h4, h5, tch_mo h h1 u0 (by decide) h6, fun t ht => ?_, fun t ht => ?_⟩
  · have e : mP S' (W 1) = mP S (W 1) := tch_mp h h3 (Or.inl (by decide)) n1
    exact (congrFun e t).trans (h7 t ht)
  · obtain ⟨g1, g2, g3⟩ := h8 t ht
    obtain ⟨m1, m2, m3⟩ := n3 t ht
    exact ⟨tch_is h g1, tch_mo (i := 6 * t + 100) h g1 (by unfold uC; omega) (by decide) g2, tch_ln (i := 6 * t + 101) (j := 6 * t + 102) (k := 6 * t + 103) h g3 ⟨(by unfold uC; omega), (by unfold uC; omega), (by unfold uC; omega)⟩ ⟨m3, m1, m2⟩⟩
theorem mgZ_t {W : Nat → Nat} {x T C : Nat} {Z : Nat → Prop} {S S' : Mem} {AR PR : List Nat} {FI : List (Nat × Nat)} {PI L : List Nat} (h : tch W x T C Z S S' AR PR FI PI L) (k : mgZ S (W 3) (xA W)) (n : 7 ∉ AR ∧ 8 ∉ AR ∧ 10 ∉ AR ∧ 11 ∉ AR ∧ (194, 6) ∉ FI ∧ (194, 9) ∉ FI) : mgZ S' (W 3) (xA W) := by
  obtain ⟨h1, h2, h3, h4, h5, h6, h7, ⟨G, h8⟩, ⟨D, h9⟩⟩ := k
  obtain ⟨n1, n2, n3, n4, n5, n6⟩ := n
  have u3 : uC T C 3 := Or.inl (by decide)
  exact ⟨tch_is h h1, tch_mo h h1 u3 (by decide) h2, tch_mo h h1 u3 (by decide) h3, tch_isA h h4, tch_isA h h5, tch_mo h h1 u3 (by decide) h6, tch_mo h h1 u3 (by decide) h7, ⟨G, tch_ln (i := 6) (j := 7) (k := 8) h h8 ⟨Or.inl (by decide), Or.inl (by decide), Or.inl (by decide)⟩ ⟨n5, n1, n2⟩⟩, ⟨D, tch_ln (i := 9) (j := 10) (k := 11) h h9 ⟨Or.inl (by decide), Or.inl (by decide), Or.inl (by decide)⟩ ⟨n6, n3, n4⟩⟩⟩
theorem bR1_t {W : Nat → Nat} {x T C : Nat} {Z : Nat → Prop} {S S' : Mem} {AR PR : List Nat} {FI : List (Nat × Nat)} {PI L : List Nat} (h : tch W x T C Z S S' AR PR FI PI L) {pt : Nat → Option Nat} {t : Nat} (ht : t < T) (i : is S (W (6 * t + 100)) 8) (k : bR1 S W pt t) (n : 6 * t + 104 ∉ PR ∧ 6 * t + 105 ∉ PR) : bR1 S' W pt t := by
  obtain ⟨h1, h2, h3, h4, h5⟩ := k
  exact ⟨tch_mo h i (by unfold uC; omega) (by decide) h1, tch_mo h i (by unfold uC; omega) (by decide) h2, tch_isA h h3, tch_isA h h4, fun m hm => by rw [tch_mp h h3 (by unfold uC; omega) n.1, tch_mp h h4 (by unfold uC; omega) n.2]; exact h5 m hm⟩
theorem fA0_t {W : Nat → Nat} {x T C : Nat} {Z : Nat → Prop} {S S' : Mem} {AR PR : List Nat} {FI : List (Nat × Nat)} {PI L : List Nat} (h : tch W x T C Z S S' AR PR FI PI L) (i : is S (W 0) 1) (k : fA0 S W C) (n : 2 ∉ PR ∧ (67, 0) ∉ FI) : fA0 S' W C := by
  obtain ⟨h1, h2, h3, h4, h5⟩ := k
  have u0 : uC T C 0 := Or.inl (by decide)
  exact ⟨tch_mo h i u0 (by decide) h1, tch_isA h h2, tch_mi h i u0 (by decide) n.2 h3, h4, fun j hj => by rw [tch_mp h h2 (Or.inl (by decide)) n.1]; exact h5 j hj⟩
theorem fA1_t {W : Nat → Nat} {x T C : Nat} {Z : Nat → Prop} {S S' : Mem} {AR PR : List Nat} {FI : List (Nat × Nat)} {PI L : List Nat} (h : tch W x T C Z S S' AR PR FI PI L) {c : Nat} (hc : c < C) (k : fA1 S W c) : fA1 S' W c := by
  obtain ⟨h1, h2, h3, h4, h5, h6, h7, h8, h9, h10, h11, h12, h13, h14⟩ := k
  have u : uC T C (10 * c + 300) := (by unfold uC; omega)
  exact ⟨tch_is h h1, tch_mo h h1 u (by decide) h2, tch_mo h h1 u (by decide) h3, tch_isA h h4, tch_mo h h1 u (by decide) h5, tch_isA h h6, tch_mo h h1 u (by decide) h7, tch_isA h h8, tch_mo h h1 u (by decide) h9, tch_isA h h10, tch_mo h h1 u (by decide) h11, tch_isA h h12, tch_mo h h1 u (by decide) h13, tch_isA h h14⟩
theorem fL1_t {W : Nat → Nat} {x T C : Nat} {Z : Nat → Prop} {S S' : Mem} {AR PR : List Nat} {FI : List (Nat × Nat)} {PI L : List Nat} (h : tch W x T C Z S S' AR PR FI PI L) {c : Nat} {K : RS} (hc : c < C) (k : fL1 S W K c) (n : 10 * c + 302 ∉ AR ∧ 10 * c + 303 ∉ AR ∧ (194, 10 * c + 301) ∉ FI) : fL1 S' W K c := tch_ln h k ⟨(by unfold uC; omega), (by unfold uC; omega), (by unfold uC; omega)⟩ ⟨n.2.2, n.1, n.2.1⟩
theorem fT1_t {W : Nat → Nat} {x T C : Nat} {Z : Nat → Prop} {S S' : Mem} {AR PR : List Nat} {FI : List (Nat × Nat)} {PI L : List Nat} (h : tch W x T C Z S S' AR PR FI PI L) {c : Nat} {K : RS} (hc : c < C) (a : fA1 S W c) (k : fT1 S W K c) (n : 10 * c + 304 ∉ AR ∧ (132, 10 * c + 300) ∉ FI) : fT1 S' W K c := ⟨tch_mi h a.1 (by unfold uC; omega) (by decide) n.2 k.1, fun i hi => by rw [tch_ma h a.2.2.2.1 (by unfold uC; omega) n.1]; exact k.2 i hi⟩
theorem fB1_t {W : Nat → Nat} {x T C : Nat} {Z : Nat → Prop} {S S' : Mem} {AR PR : List Nat} {FI : List (Nat × Nat)} {PI L : List Nat} (h : tch W x T C Z S S' AR PR FI PI L) {c : Nat} {pt : Nat → Option Nat} (hc : c < C) (a : fA1 S W c) (k : fB1 S W pt c) (n : 10 * c + 305 ∉ PR) : fB1 S' W pt c := fun i hi => by rw [tch_mp h a.2.2.2.2.2.1 (by unfold uC; omega) n]; exact k i hi
theorem fQ1_t {W : Nat → Nat} {x T C : Nat} {Z : Nat → Prop} {S S' : Mem} {AR PR : List Nat} {FI : List (Nat × Nat)} {PI L : List Nat} (h : tch W x T C Z S S' AR PR FI PI L) {c : Nat} {K : RS} (hc : c < C) (a : fA1 S W c) (k : fQ1 S W K c) (n : 10 * c + 306 ∉ AR ∧ (135, 10 * c + 300) ∉ FI) : fQ1 S' W K c := ⟨tch_mi h a.1 (by unfold uC; omega) (by decide) n.2 k.1, fun t m ht hm => by rw [tch_ma h a.2.2.2.2.2.2.2.1 (by unfold uC; omega) n.1]; exact k.2 t m ht hm⟩
theorem fN1_t {W : Nat → Nat} {x T C : Nat} {Z : Nat → Prop} {S S' : Mem} {AR PR : List Nat} {FI : List (Nat × Nat)} {PI L : List Nat} (h : tch W x T C Z S S' AR PR FI PI L) {c : Nat} {K : RS} (hc : c < C) (a : fA1 S W c) (k : fN1 S W K c) (n : 10 * c + 307 ∉ AR ∧ 10 * c + 308 ∉ AR ∧ (138, 10 * c + 300) ∉ FI) : fN1 S' W K c := ⟨tch_mi h a.1 (by unfold uC; omega) (by decide) n.2.2 k.1, fun t m ht hm => by rw [tch_ma h a.2.2.2.2.2.2.2.2.2.1 (by unfold uC; omega) n.1, tch_ma h a.2.2.2.2.2.2.2.2.2.2.2.1 (by unfold uC; omega) n.2.1]; exact k.2 t m ht hm⟩
theorem fP1_t {W : Nat → Nat} {x T C : Nat} {Z : Nat → Prop} {S S' : Mem} {AR PR : List Nat} {FI : List (Nat × Nat)} {PI L : List Nat} (h : tch W x T C Z S S' AR PR FI PI L) {c : Nat} {K : RS} (hc : c < C) (a : fA1 S W c) (k : fP1 S W K c) (n : 10 * c + 309 ∉ AR) : fP1 S' W K c := fun m hm => by rw [tch_ma h a.2.2.2.2.2.2.2.2.2.2.2.2.2 (by unfold uC; omega) n]; exact k m hm
theorem tch_mip {W : Nat → Nat} {x T C : Nat} {Z : Nat → Prop} {S S' : Mem} {AR PR : List Nat} {FI : List (Nat × Nat)} {PI L : List Nat} (h : tch W x T C Z S S' AR PR FI PI L) {a g : Nat} {v : Int32} (i : is S a 5) (z : Z a) (hg : 320 ≤ g) (n : g = 328 → a ∉ PI) (e : mI S g a = v) : mI S' g a = v := (h.1.2.2.2.1 a i.1 z g (fun q => by
  rcases List.mem_append.mp q with q | q
  · obtain ⟨y, y1, y2⟩ := List.mem_map.mp q
    have e1 : y.1 = g := congrArg Prod.fst y2
    have := (h.2.2.2.2.2.1 y y1).1
    omega
  · obtain ⟨y, y1, y2⟩ := List.mem_map.mp q
    have e1 : 328 = g := congrArg Prod.fst y2
    have e2 : y = a := congrArg Prod.snd y2
    exact n e1.symm (e2 ▸ y1))).trans e
theorem prtV_t {W : Nat → Nat} {x T C : Nat} {Z : Nat → Prop} {S S' : Mem} {AR PR : List Nat} {FI : List (Nat × Nat)} {PI L : List Nat} (h : tch W x T C Z S S' AR PR FI PI L) {a k : Nat} {K : RS} (z : Z a) (n : a ∉ PI) (p : prtV S a k K) : prtV S' a k K := ⟨tch_is h p.1, tch_mip h p.1 z (by decide) (fun _ => n) p.2.1, fun hk => by
  obtain ⟨q1, q2, q3, q4⟩ := p.2.2 hk
  exact ⟨tch_mip h p.1 z (by decide) (fun e => by cases e) q1, tch_mip h p.1 z (by decide) (fun e => by cases e) q2, tch_mip h p.1 z (by decide) (fun e => by cases e) q3, tch_mip h p.1 z (by decide) (fun e => by cases e) q4⟩⟩
theorem prtS_t {W : Nat → Nat} {x T C : Nat} {Z : Nat → Prop} {S S' : Mem} {AR PR : List Nat} {FI : List (Nat × Nat)} {PI L : List Nat} (h : tch W x T C Z S S' AR PR FI PI L) {pt : Nat → Option Nat} {K : RS} (z : ∀ a, is S a 5 → Z a) (n : PI = []) (p : prtS S pt K) : prtS S' pt K := ⟨p.1, fun k a hk e => prtV_t h (z a (p.2.1 k a hk e).1) (by rw [n]; exact List.not_mem_nil) (p.2.1 k a hk e), p.2.2⟩
theorem latS_t {W : Nat → Nat} {x T C : Nat} {Z : Nat → Prop} {S S' : Mem} {AR PR : List Nat} {FI : List (Nat × Nat)} {PI L : List Nat} (h : tch W x T C Z S S' AR PR FI PI L) {pt : Nat → Option Nat} {K : RS} (i : is S x 9) (n : L = []) (p : latS S x pt K) : latS S' x pt K := ⟨tch_mox h i (by rw [n]; exact List.not_mem_nil) p.1, p.2⟩
/-! the reference's state changes elsewhere -/
theorem fL1_K {S : Mem} {W : Nat → Nat} {K K' : RS} {c : Nat} (e8 : rN K' 8 c = rN K 8 c) (e7 : ∀ i, i < rN K 8 c → rN K' 7 (20 * c + i) = rN K 7 (20 * c + i)) (k : fL1 S W K c) : fL1 S W K' c := by
  have e : flist K' c = flist K c := by
    unfold flist
    rw [e8]
    exact List.map_congr_left (fun i hi => e7 i (List.mem_range.mp hi))
  unfold fL1
  rw [e]; exact k
theorem fT1_K {S : Mem} {W : Nat → Nat} {K K' : RS} {c : Nat} (e6 : rN K' 6 c = rN K 6 c) (e5 : ∀ i, i < rN K 6 c → rA K' 5 (5 * c + i) = rA K 5 (5 * c + i)) (k : fT1 S W K c) : fT1 S W K' c := ⟨by rw [e6]; exact k.1, fun i hi => by rw [e6] at hi; rw [e5 i hi]; exact k.2 i hi⟩
theorem fQ1_K {S : Mem} {W : Nat → Nat} {K K' : RS} {c : Nat} (e : rN K' 20 c = rN K 20 c) (e2 : ∀ i, i < rN K 20 c → rA K' 21 (8 * c + i) = rA K 21 (8 * c + i) ∧ rA K' 22 (8 * c + i) = rA K 22 (8 * c + i)) (k : fQ1 S W K c) : fQ1 S W K' c := by
  have el : ∀ t n, leavesF K' c t n = leavesF K c t n := fun t n => by
    unfold leavesF
    rw [e]
    exact congrArg Option.isSome (sc_cg _ _ (fun j _ h2 => by unfold lvP; rw [(e2 j (by omega)).1, (e2 j (by omega)).2]))
  exact ⟨by rw [e]; exact k.1, fun t n ht hn => by rw [el]; exact k.2 t n ht hn⟩
theorem map_sc_cg {f g : Nat → Nat} {p q : Nat → Bool} {n : Nat} (h : ∀ j, j < n → p j = q j ∧ f j = g j) : (sc p n 0).map f = (sc q n 0).map g := by
  rw [sc_cg n 0 (fun j _ h2 => (h j (by omega)).1)]
  cases e : sc q n 0 with
  | none => rfl
  | some i => obtain ⟨_, h2, _⟩ := sc_some e; exact congrArg some (h i (by omega)).2
theorem rnm_K {K K' : RS} {c : Nat} (e : rN K' 23 c = rN K 23 c) (e2 : ∀ i, i < rN K 23 c → rA K' 24 (8 * c + i) = rA K 24 (8 * c + i) ∧ rA K' 25 (8 * c + i) = rA K 25 (8 * c + i) ∧ rA K' 26 (8 * c + i) = rA K 26 (8 * c + i)) (t n : Nat) : renamedF K' c t n = renamedF K c t n ∧ namedF K' c t n = namedF K c t n := by
  unfold renamedF namedF
  rw [e]
  refine ⟨map_sc_cg (fun j hj => ?_), map_sc_cg (fun j hj => ?_)⟩
  · obtain ⟨a1, a2, a3⟩ := e2 j hj
    exact ⟨by unfold rnP; rw [a1, a2], by unfold rN; rw [a3]⟩
  · obtain ⟨a1, a2, a3⟩ := e2 j hj
    exact ⟨by unfold nmP; rw [a1, a3], by unfold rN; rw [a2]⟩
theorem fN1_K {S : Mem} {W : Nat → Nat} {K K' : RS} {c : Nat} (e : rN K' 23 c = rN K 23 c) (e2 : ∀ i, i < rN K 23 c → rA K' 24 (8 * c + i) = rA K 24 (8 * c + i) ∧ rA K' 25 (8 * c + i) = rA K 25 (8 * c + i) ∧ rA K' 26 (8 * c + i) = rA K 26 (8 * c + i)) (k : fN1 S W K c) : fN1 S W K' c := ⟨by rw [e]; exact k.1, fun t n ht hn => by rw [(rnm_K e e2 t n).1, (rnm_K e e2 t n).2]; exact k.2 t n ht hn⟩
theorem fP1_K {S : Mem} {W : Nat → Nat} {K K' : RS} {c : Nat} (e : ∀ n, n < 12 → rA K' 27 (12 * c + n) = rA K 27 (12 * c + n)) (k : fP1 S W K c) : fP1 S W K' c := fun n hn => by rw [e n hn]; exact k n hn
theorem prtV_K {S : Mem} {K K' : RS} {a k : Nat} (e : rA K' 11 k = rA K 11 k ∧ rA K' 12 k = rA K 12 k ∧ rA K' 13 k = rA K 13 k ∧ rA K' 15 k = rA K 15 k) (p : prtV S a k K) : prtV S a k K' := by
  obtain ⟨e1, e2, e3, e4⟩ := e
  unfold prtV at *
  have e5 : rN K' 15 k = rN K 15 k := by unfold rN; rw [e4]
  rw [e1, e2, e3, e5]; exact p
theorem latO_K {K K' : RS} (e : rF K' 19 = rF K 19) : latO K' = latO K := by unfold latO fN; rw [e]
theorem prtS_K {S : Mem} {pt : Nat → Option Nat} {K K' : RS} (e0 : ∀ k, rA K' 10 k = rA K 10 k) (e : ∀ k, rA K' 11 k = rA K 11 k ∧ rA K' 12 k = rA K 12 k ∧ rA K' 13 k = rA K 13 k ∧ rA K' 15 k = rA K 15 k) (p : prtS S pt K) : prtS S pt K' := ⟨fun k hk => by rw [e0]; exact p.1 k hk, fun k a hk h => prtV_K (e k) (p.2.1 k a hk h), p.2.2⟩
theorem offK_K {K K' : RS} {F A Q J : List Nat} (h : keep F A Q J K K') (hF : 0 ∉ F ∧ 3 ∉ F) (hA : 6 ∉ A ∧ 8 ∉ A ∧ 10 ∉ A ∧ 20 ∉ A ∧ 23 ∉ A ∧ 5 ∉ A) (o : offK K) : offK K' := by
  unfold offK at *
  simp only [keep_fN h hF.1, keep_fN h hF.2, h.2.1 10 hA.2.2.1, keep_rN h hA.1, keep_rN h hA.2.1, keep_rN h hA.2.2.2.1, keep_rN h hA.2.2.2.2.1, keep_rN h hA.2.2.2.2.2]
  exact o
theorem trS_cg {S : Mem} {cm T : Nat} {A A' : CA} {LT LT' : Nat → List Nat} (h : trS S cm T A LT) (e0 : A'.ta = A.ta ∧ A'.mg = A.mg) (e : ∀ t, t < T → A'.tr t = A.tr t ∧ A'.ln t = A.ln t ∧ A'.rw t = A.rw t ∧ A'.pl t = A.pl t ∧ LT' t = LT t) : trS S cm T A' LT' := by
  obtain ⟨h1, h2, h3, h4, h5, h6, h7, h8⟩ := h
  refine ⟨h1, by rw [e0.1]; exact h2, by rw [e0.1]; exact h3, h4, h5, by rw [e0.2]; exact h6, fun t ht => ?_, fun t ht => ?_⟩
  · rw [e0.1, h7 t ht]
    split
    · rename_i z; rw [(e t z).1]
    · rfl
  · obtain ⟨k1, k2, k3, k4, k5⟩ := e t ht
    rw [k1, k2, k3, k4, k5]; exact h8 t ht
/-- the slots of the reference on which it rests -/
def repA : List Nat := [1, 2, 5, 6, 7, 8, 10, 11, 12, 13, 15, 20, 21, 22, 23, 24, 25, 26, 27]
theorem figs_K {S : Mem} {W : Nat → Nat} {pt : Nat → Option Nat} {K K' : RS} {C : Nat} {F A Q J : List Nat} (h : keep F A Q J K K') (hA : ∀ g ∈ repA, g ∉ A) (k : figs S W pt K C) : figs S W pt K' C := by
  obtain ⟨k1, k2, k3, k4, k5, k6, k7, k8⟩ := k
  have n : ∀ g, g ∈ repA → ∀ i, rN K' g i = rN K g i := fun g hg => keep_rN h (hA g hg)
  have a : ∀ g, g ∈ repA → ∀ i, rA K' g i = rA K g i := fun g hg => h.2.1 g (hA g hg)
  exact ⟨k1, k2, fun c hc => fL1_K (n 8 (by decide) c) (fun i _ => n 7 (by decide) _) (k3 c hc), fun c hc => fT1_K (n 6 (by decide) c) (fun i _ => a 5 (by decide) _) (k4 c hc), k5, fun c hc => fQ1_K (n 20 (by decide) c) (fun i _ => ⟨a 21 (by decide) _, a 22 (by decide) _⟩) (k6 c hc), fun c hc => fN1_K (n 23 (by decide) c) (fun i _ => ⟨a 24 (by decide) _, a 25 (by decide) _, a 26 (by decide) _⟩) (k7 c hc), fun c hc => fP1_K (fun n _ => a 27 (by decide) _) (k8 c hc)⟩
theorem rep_K {S : Mem} {x : Nat} {M : Nat → Prop} {W : Nat → Nat} {pt : Nat → Option Nat} {K K' : RS} {F A Q J : List Nat} (h : keep F A Q J K K') (hF : 0 ∉ F ∧ 3 ∉ F ∧ 19 ∉ F) (hA : ∀ g ∈ repA, g ∉ A) (r : rep S x M W pt K) : rep S x M W pt K' := by
  obtain ⟨r1, r2, r3, r4, r5, r6, r7, r8, r9, r10⟩ := r
  have a : ∀ g, g ∈ repA → ∀ i, rA K' g i = rA K g i := fun g hg => h.2.1 g (hA g hg)
  have e0 := keep_fN h hF.1
  have e3 := keep_fN h hF.2.1
  unfold rep
  rw [e0, e3]
  refine ⟨r1, r2, r3, trS_cg r4 ⟨rfl, rfl⟩ (fun t _ => ⟨rfl, rfl, rfl, rfl, tlist_keep h (hA 1 (by decide)) (hA 2 (by decide)) t⟩), r5, r6, figs_K h hA r7, prtS_K (a 10 (by decide)) (fun k => ⟨a 11 (by decide) k, a 12 (by decide) k, a 13 (by decide) k, a 15 (by decide) k⟩) r8, ?_, offK_K h ⟨hF.1, hF.2.1⟩ ⟨hA 6 (by decide), hA 8 (by decide), hA 10 (by decide), hA 20 (by decide), hA 23 (by decide), hA 5 (by decide)⟩ r10⟩
  unfold latS
  rw [latO_K (h.1 19 hF.2.2)]; exact r9
/-! nothing of it is touched -/
def quietT (T C : Nat) (AR PR : List Nat) (FI : List (Nat × Nat)) : Prop := (∀ i, uC T C i → i ≠ 5 → i ∉ AR) ∧ (∀ i, uC T C i → i ≠ 4 → i ∉ PR) ∧ ∀ g i, uC T C i → g < 260 → (g, i) ∉ FI
theorem figs_t {W : Nat → Nat} {x T C : Nat} {Z : Nat → Prop} {S S' : Mem} {AR PR : List Nat} {FI : List (Nat × Nat)} {PI L : List Nat} (h : tch W x T C Z S S' AR PR FI PI L) {pt : Nat → Option Nat} {K : RS} (i0 : is S (W 0) 1) (k : figs S W pt K C) (n0 : 2 ∉ PR ∧ (67, 0) ∉ FI) (n : ∀ c, c < C → (10 * c + 302 ∉ AR ∧ 10 * c + 303 ∉ AR ∧ (194, 10 * c + 301) ∉ FI) ∧ (10 * c + 304 ∉ AR ∧ (132, 10 * c + 300) ∉ FI) ∧ 10 * c + 305 ∉ PR ∧ (10 * c + 306 ∉ AR ∧ (135, 10 * c + 300) ∉ FI) ∧ (10 * c + 307 ∉ AR ∧ 10 * c + 308 ∉ AR ∧ (138, 10 * c + 300) ∉ FI) ∧ 10 * c + 309 ∉ AR) : figs S' W pt K C := by
  obtain ⟨k1, k2, k3, k4, k5, k6, k7, k8⟩ := k
  exact ⟨fA0_t h i0 k1 n0, fun c hc => fA1_t h hc (k2 c hc), fun c hc => fL1_t h hc (k3 c hc) (n c hc).1, fun c hc => fT1_t h hc (k2 c hc) (k4 c hc) (n c hc).2.1, fun c hc => fB1_t h hc (k2 c hc) (k5 c hc) (n c hc).2.2.1, fun c hc => fQ1_t h hc (k2 c hc) (k6 c hc) (n c hc).2.2.2.1, fun c hc => fN1_t h hc (k2 c hc) (k7 c hc) (n c hc).2.2.2.2.1, fun c hc => fP1_t h hc (k2 c hc) (k8 c hc) (n c hc).2.2.2.2.2⟩
theorem trs_is {S : Mem} {W : Nat → Nat} {T t : Nat} {LT : Nat → List Nat} (k : trS S (W 0) T (aA W) LT) (ht : t < T) : is S (W (6 * t + 100)) 8 := (k.2.2.2.2.2.2.2 t ht).1
/-- of what kind each is -/
def kdsO : List Nat := [1, 2, 3, 4, 8]
def kdsA : List (Nat × Nat) := [(17, 20), (14, 12), (15, 7), (11, 7), (11, 20), (16, 12), (11, 5), (13, 240), (11, 240), (11, 12)]
theorem rep_kd {S : Mem} {x : Nat} {M : Nat → Prop} {W : Nat → Nat} {pt : Nat → Option Nat} {K : RS} (r : rep S x M W pt K) (i : Nat) (u : uC (fN K 0) (fN K 3) i) : ∃ k n, (is S (W i) k ∧ k ∈ kdsO) ∨ (isA S (W i) k n ∧ (k, n) ∈ kdsA) := by
  obtain ⟨r1, r2, r3, r4, r5, r6, r7, r8, r9, r10⟩ := r
  obtain ⟨a1, a2, a3, a4, a5, a6, a7, ⟨G, a9⟩, ⟨D, a10⟩⟩ := r5
  obtain ⟨b1, b2, b3, b4, b5, b6, b7, b8⟩ := r4
  obtain ⟨c1, c2, c3, c4, c5, c6, c7, c8⟩ := r7
  rcases u with u | u | u
  · have q : i = 0 ∨ i = 1 ∨ i = 2 ∨ i = 3 ∨ i = 4 ∨ i = 5 ∨ i = 6 ∨ i = 7 ∨ i = 8 ∨ i = 9 ∨ i = 10 ∨ i = 11 := by omega
    rcases q with rfl | rfl | rfl | rfl | rfl | rfl | rfl | rfl | rfl | rfl | rfl | rfl
    · exact ⟨1, 0, Or.inl ⟨b1, by decide⟩⟩
    · exact ⟨_, _, Or.inr ⟨b3, by decide⟩⟩
    · exact ⟨_, _, Or.inr ⟨c1.2.1, by decide⟩⟩
    · exact ⟨4, 0, Or.inl ⟨a1, by decide⟩⟩
    · exact ⟨_, _, Or.inr ⟨a4, by decide⟩⟩
    · exact ⟨_, _, Or.inr ⟨a5, by decide⟩⟩
    · exact ⟨3, 0, Or.inl ⟨a9.1, by decide⟩⟩
    · exact ⟨_, _, Or.inr ⟨a9.2.2.2.1, by decide⟩⟩
    · exact ⟨_, _, Or.inr ⟨a9.2.2.2.2.1, by decide⟩⟩
    · exact ⟨3, 0, Or.inl ⟨a10.1, by decide⟩⟩
    · exact ⟨_, _, Or.inr ⟨a10.2.2.2.1, by decide⟩⟩
    · exact ⟨_, _, Or.inr ⟨a10.2.2.2.2.1, by decide⟩⟩
  · obtain ⟨t, ht, q⟩ : ∃ t, t < fN K 0 ∧ (i = 6 * t + 100 ∨ i = 6 * t + 101 ∨ i = 6 * t + 102 ∨ i = 6 * t + 103 ∨ i = 6 * t + 104 ∨ i = 6 * t + 105) := ⟨(i - 100) / 6, by omega, by omega⟩
    obtain ⟨d1, d2, d3⟩ := b8 t ht
    obtain ⟨f1, f2, f3, f4, f5⟩ := r6 t ht
    rcases q with rfl | rfl | rfl | rfl | rfl | rfl
    · exact ⟨8, 0, Or.inl ⟨d1, by decide⟩⟩
    · exact ⟨3, 0, Or.inl ⟨d3.1, by decide⟩⟩
    · exact ⟨_, _, Or.inr ⟨d3.2.2.2.1, by decide⟩⟩
    · exact ⟨_, _, Or.inr ⟨d3.2.2.2.2.1, by decide⟩⟩
    · exact ⟨_, _, Or.inr ⟨f3, by decide⟩⟩
    · exact ⟨_, _, Or.inr ⟨f4, by decide⟩⟩
  · obtain ⟨c, hc, q⟩ : ∃ c, c < fN K 3 ∧ (i = 10 * c + 300 ∨ i = 10 * c + 301 ∨ i = 10 * c + 302 ∨ i = 10 * c + 303 ∨ i = 10 * c + 304 ∨ i = 10 * c + 305 ∨ i = 10 * c + 306 ∨ i = 10 * c + 307 ∨ i = 10 * c + 308 ∨ i = 10 * c + 309) := ⟨(i - 300) / 10, by omega, by omega⟩
    obtain ⟨d1, d2, d3, d4, d5, d6, d7, d8, d9, d10, d11, d12, d13, d14⟩ := c2 c hc
    have l := c3 c hc
    rcases q with rfl | rfl | rfl | rfl | rfl | rfl | rfl | rfl | rfl | rfl
    · exact ⟨2, 0, Or.inl ⟨d1, by decide⟩⟩
    · exact ⟨3, 0, Or.inl ⟨l.1, by decide⟩⟩
    · exact ⟨_, _, Or.inr ⟨l.2.2.2.1, by decide⟩⟩
    · exact ⟨_, _, Or.inr ⟨l.2.2.2.2.1, by decide⟩⟩
    · exact ⟨_, _, Or.inr ⟨d4, by decide⟩⟩
    · exact ⟨_, _, Or.inr ⟨d6, by decide⟩⟩
    · exact ⟨_, _, Or.inr ⟨d8, by decide⟩⟩
    · exact ⟨_, _, Or.inr ⟨d10, by decide⟩⟩
    · exact ⟨_, _, Or.inr ⟨d12, by decide⟩⟩
    · exact ⟨_, _, Or.inr ⟨d14, by decide⟩⟩
theorem rep_live {S : Mem} {x : Nat} {M : Nat → Prop} {W : Nat → Nat} {pt : Nat → Option Nat} {K : RS} (r : rep S x M W pt K) (i : Nat) (u : uC (fN K 0) (fN K 3) i) : W i ∈ mL S := by
  obtain ⟨k, n, z | z⟩ := rep_kd r i u
  · exact z.1.1
  · exact z.1.1
theorem kdsO_ok : ∀ k ∈ kdsO, k ≠ 0 ∧ k ≠ 6 ∧ k ≠ 7 ∧ k ≠ 12 ∧ k ≠ 5 := by decide
theorem kdsA_ok : ∀ q ∈ kdsA, q.1 ≠ 0 ∧ q.1 ≠ 6 ∧ q.1 ≠ 7 ∧ q.1 ≠ 12 ∧ q.1 ≠ 5 ∧ q ≠ (11, 8) := by decide
/-- the whole of it, where nothing is touched (questions, plays) -/
theorem rep_ext {S S' : Mem} {X : Nat → Prop} {x : Nat} {M : Nat → Prop} {W : Nat → Nat} {pt : Nat → Option Nat} {K : RS} (e : ext S S' X) (hx : ∀ a, X a → M a ∨ mK S a = 0 ∨ mK S a = 6 ∨ mK S a = 7 ∨ mK S a = 12) (hM : ∀ a, X a → M a → 10 ≤ mK S a ∧ mK S a ≤ 13) (r : rep S x M W pt K) : rep S' x M W pt K := by
  have kd := rep_kd r
  obtain ⟨r1, r2, r3, r4, r5, r6, r7, r8, r9, r10⟩ := r
  have nm : ∀ a k, is S a k → (k < 10 ∨ 13 < k) → k ≠ 0 ∧ k ≠ 6 ∧ k ≠ 7 → ¬ X a := fun a k i hk n z => by
    have ik := i.2
    rcases hx a z with y | y
    · have := hM a z y; omega
    · omega
  have hk : ∀ i, uC (fN K 0) (fN K 3) i → ¬ X (W i) := fun i u z => by
    rcases hx (W i) z with y | y
    · exact r3 i u y
    · obtain ⟨k, n, ⟨f1, f2⟩ | ⟨f1, f2⟩⟩ := kd i u
      · have := kdsO_ok k f2; have := f1.2; omega
      · have := kdsA_ok _ f2; have := f1.2.1; simp only at *; omega
  have t : tch W x (fN K 0) (fN K 3) (fun a => ¬ X a) S S' [] [] [] [] [] := ⟨chx_ext e, hk, r2, fun j hj => absurd hj List.not_mem_nil, fun j hj => absurd hj List.not_mem_nil, fun j hj => absurd hj List.not_mem_nil, fun j hj => absurd hj List.not_mem_nil, nm x 9 r1.1 (by decide) (by decide)⟩
  refine ⟨⟨tch_is t r1.1, tch_mox t r1.1 List.not_mem_nil r1.2⟩, r2, r3, trS_t t r4 List.not_mem_nil List.not_mem_nil (fun _ _ => ⟨List.not_mem_nil, List.not_mem_nil, List.not_mem_nil⟩), mgZ_t t r5 ⟨List.not_mem_nil, List.not_mem_nil, List.not_mem_nil, List.not_mem_nil, List.not_mem_nil, List.not_mem_nil⟩, fun c hc => bR1_t t hc (trs_is r4 hc) (r6 c hc) ⟨List.not_mem_nil, List.not_mem_nil⟩, figs_t t r4.1 r7 ⟨List.not_mem_nil, List.not_mem_nil⟩ (fun _ _ => ⟨⟨List.not_mem_nil, List.not_mem_nil, List.not_mem_nil⟩, ⟨List.not_mem_nil, List.not_mem_nil⟩, List.not_mem_nil, ⟨List.not_mem_nil, List.not_mem_nil⟩, ⟨List.not_mem_nil, List.not_mem_nil, List.not_mem_nil⟩, List.not_mem_nil⟩), prtS_t t (fun a i => nm a 5 i (by decide) (by decide)) rfl r8, latS_t t r1.1 rfl r9, r10⟩
