/-! WHAT IS HEARD, place by place -/
def offU (K : RS) (c u n : Nat) : Option Nat := match srcF K c u n with
  | none => none
  | some q => if rA K 10 (12 * u + q) = 0 then none else some (12 * u + q)
theorem offU_eq {K : RS} {c p n : Nat} : offersF K c (p + 1) n = offU K c (rN K 7 (20 * c + p)) n := rfl
def nPf (K : RS) (c n i : Nat) : Bool := offP K c (i + 1) n
def ndPf (K : RS) (c n i : Nat) : Bool := match offersF K c (i + 1) n with
  | some k => !decide (rA K 11 k = 0)
  | none => false
def adF (K : RS) (pt : Nat → Option Nat) (c n i : Nat) : Option Nat := (offersF K c (i + 1) n).bind pt
def pfPf (K : RS) (c n i : Nat) : Bool := decide (rA K 27 (12 * c + n) = nI (rN K 7 (20 * c + i))) && offP K c (i + 1) n
def rvPf (K : RS) (c n i0 i : Nat) : Bool := offP K c (i + 1) n && !standsF K (rN K 7 (20 * c + i0)) (rN K 7 (20 * c + i))
def rsPf (K : RS) (c n r i : Nat) : Bool := givesF K c n r (i + 1)
def lnF (W : Nat → Nat) (K : RS) (c i : Nat) : Nat := W (6 * rN K 7 (20 * c + i) + 101)
def mskF (g : Nat → Bool) : Nat := (if g 0 then 1 else 0) + (if g 1 then 2 else 0) + (if g 2 then 4 else 0) + (if g 3 then 8 else 0)
def rvQ (K : RS) (c n p : Nat) : Bool := match sc (nPf K c n) p 0 with
  | none => false
  | some i0 => (sc (rvPf K c n i0) (p - (i0 + 1)) (i0 + 1)).isSome
def msP (K : RS) (c n p : Nat) : Nat := mskF (fun r => (sc (rsPf K c n r) p 0).isSome)
def chP (S : Mem) (ch : Nat) (W : Nat → Nat) (pt : Nat → Option Nat) (K : RS) (c n p : Nat) : Prop := chS S ch ((sc (pfPf K c n) p 0).bind (adF K pt c n)) ((sc (nPf K c n) p 0).bind (adF K pt c n)) ((sc (nPf K c n) p 0).map (lnF W K c)) (rvQ K c n p) ((sc (ndPf K c n) p 0).isSome) (msP K c n p)
theorem mskF_lt (g : Nat → Bool) : mskF g < 16 := by
  unfold mskF
  cases g 0 <;> cases g 1 <;> cases g 2 <;> cases g 3 <;> decide
theorem msk_or {g g' : Nat → Bool} {r : Nat} (hr : r < 4) (h : ∀ q, q < 4 → g' q = (g q || decide (r = q))) : mskF g ||| (1 <<< r) = mskF g' := by
  unfold mskF
  rw [h 0 (by decide), h 1 (by decide), h 2 (by decide), h 3 (by decide)]
  have : r = 0 ∨ r = 1 ∨ r = 2 ∨ r = 3 := by omega
  rcases this with rfl | rfl | rfl | rfl <;> cases g 0 <;> cases g 1 <;> cases g 2 <;> cases g 3 <;> decide
theorem msk_wide {g : Nat → Bool} {r : Nat} (hr : r < 4) : decide (1 < mskF g >>> r) = (decide (r < 1) && g 1 || decide (r < 2) && g 2 || decide (r < 3) && g 3) := by
  unfold mskF
  have : r = 0 ∨ r = 1 ∨ r = 2 ∨ r = 3 := by omega
  rcases this with rfl | rfl | rfl | rfl <;> cases g 0 <;> cases g 1 <;> cases g 2 <;> cases g 3 <;> decide
theorem msk_pc {g : Nat → Bool} {r : Nat} (hr : r < 4) : pc4 (mskF g &&& ((1 <<< r) - 1)) = cn g r 0 := by
  unfold mskF
  have : r = 0 ∨ r = 1 ∨ r = 2 ∨ r = 3 := by omega
  rcases this with rfl | rfl | rfl | rfl <;> simp only [cn] <;> cases g 0 <;> cases g 1 <;> cases g 2 <;> cases g 3 <;> decide
theorem sc_no {p : Nat → Bool} {n : Nat} (h : p n = false) : sc p (n + 1) 0 = sc p n 0 := by
  rw [sc_snoc, Nat.zero_add, h]
  cases sc p n 0 <;> rfl
theorem sc_yes {p : Nat → Bool} {n : Nat} (h : p n = true) : sc p (n + 1) 0 = match sc p n 0 with
    | some j => some j
    | none => some n := by
  rw [sc_snoc, Nat.zero_add, h]
  cases sc p n 0 <;> rfl
theorem sc_or {p : Nat → Bool} {n : Nat} : (sc p (n + 1) 0).isSome = ((sc p n 0).isSome || p n) := by
  rw [sc_snoc, Nat.zero_add]
  cases sc p n 0 with
  | some j => rfl
  | none => cases p n <;> rfl
theorem sc_orI {p : Nat → Bool} {n i : Nat} : (sc p (n + 1) i).isSome = ((sc p n i).isSome || p (i + n)) := by
  rw [sc_snoc]
  cases sc p n i with
  | some j => rfl
  | none => cases p (i + n) <;> rfl
theorem sc_shift {p : Nat → Bool} : ∀ (n i : Nat), sc p n (i + 1) = (sc (fun j => p (j + 1)) n i).map (· + 1) := by
  intro n
  induction n with
  | zero => intro i; rfl
  | succ n ih =>
    intro i
    rw [sc, sc]
    cases p (i + 1) with
    | true => rfl
    | false => exact ih (i + 1)
/-- nothing is offered there -/
theorem chP_none {S : Mem} {ch : Nat} {W : Nat → Nat} {pt : Nat → Option Nat} {K : RS} {c n p : Nat} (e : offersF K c (p + 1) n = none) (h : chP S ch W pt K c n p) : chP S ch W pt K c n (p + 1) := by
  have oN : offP K c (p + 1) n = false := by unfold offP; rw [e]
  have h1 : nPf K c n p = false := oN
  have h2 : ndPf K c n p = false := by unfold ndPf; rw [e]
  have h3 : pfPf K c n p = false := by unfold pfPf; rw [oN, Bool.and_false]
  have h4 : ∀ r, rsPf K c n r p = false := fun r => by unfold rsPf givesF; rw [e]
  have h5 : ∀ i0, rvPf K c n i0 p = false := fun i0 => by unfold rvPf; rw [oN, Bool.false_and]
  unfold chP at *
  rw [sc_no h1, sc_no h2, sc_no h3]
  have e5 : rvQ K c n (p + 1) = rvQ K c n p := by
    unfold rvQ
    rw [sc_no h1]
    cases e0 : sc (nPf K c n) p 0 with
    | none => rfl
    | some i0 =>
      obtain ⟨_, g2, _⟩ := sc_some e0
      show (sc (rvPf K c n i0) (p + 1 - (i0 + 1)) (i0 + 1)).isSome = (sc (rvPf K c n i0) (p - (i0 + 1)) (i0 + 1)).isSome
      rw [show p + 1 - (i0 + 1) = p - (i0 + 1) + 1 by omega, sc_orI, show i0 + 1 + (p - (i0 + 1)) = p by omega, h5, Bool.or_false]
  have e6 : msP K c n (p + 1) = msP K c n p := by
    unfold msP
    congr 1
    funext r
    rw [sc_no (h4 r)]
  rw [e5, e6]; exact h
theorem chP_0 {S : Mem} {ch : Nat} {W : Nat → Nat} {pt : Nat → Option Nat} {K : RS} {c n : Nat} (h : chS S ch none none none false false 0) : chP S ch W pt K c n 0 := h
theorem stands_mem {K : RS} {t u : Nat} (rv : RV K) (ht : t < 20) (hu : u < 2 ^ 31) : standsF K t u = decide (u ∈ tlist K t) := by
  have h20 := rv.p1.2
  unfold standsF
  cases e : sc (stP K t u) (rN K 2 t) 0 with
  | none =>
    refine (decide_eq_false (fun z => ?_)).symm
    unfold tlist at z
    obtain ⟨i, hi, rfl⟩ := List.mem_map.mp z
    have hi2 := List.mem_range.mp hi
    have := sc_none e i (Nat.zero_le _) (by omega)
    unfold stP at this
    rw [decide_eq_true (rv.p4 t ht i hi2).1] at this; cases this
  | some i =>
    obtain ⟨_, h2, h3, _⟩ := sc_some e
    refine (decide_eq_true ?_).symm
    have e2 := (rv.p4 t ht i (by omega))
    unfold stP at h3
    have e3 : nI (rN K 1 (20 * t + i)) = nI u := e2.1.symm.trans (of_decide_eq_true h3)
    have e4 := (nI_eq (by omega) hu).mp e3
    unfold tlist
    exact List.mem_map.mpr ⟨i, List.mem_range.mpr (by omega), e4⟩
theorem fll_at {K : RS} {c i u : Nat} (h : (flist K c)[i]? = some u) : i < rN K 8 c ∧ u = rN K 7 (20 * c + i) := by
  unfold flist at h
  rw [List.getElem?_map] at h
  by_cases z : i < rN K 8 c
  · rw [List.getElem?_range z] at h; exact ⟨z, (Option.some.inj h).symm⟩
  · rw [List.getElem?_eq_none (by rw [List.length_range]; omega)] at h; cases h
theorem fll_get {K : RS} {c i : Nat} (h : i < rN K 8 c) : (flist K c)[i]? = some (rN K 7 (20 * c + i)) := by
  unfold flist
  rw [List.getElem?_map, List.getElem?_range h]; rfl
theorem fll_len {K : RS} {c : Nat} : (flist K c).length = rN K 8 c := by unfold flist; rw [List.length_map, List.length_range]
theorem fll_inj {K : RS} {c i j : Nat} (hn : (flist K c).Nodup) (hi : i < rN K 8 c) (hj : j < rN K 8 c) (e : rN K 7 (20 * c + i) = rN K 7 (20 * c + j)) : i = j := nodup_inj hn (fll_get hi) (e ▸ fll_get hj)
/-- a part is heard -/
theorem chP_hear {S : Mem} {ch : Nat} {W : Nat → Nat} {pt : Nat → Option Nat} {K : RS} {c n p k pa : Nat} {need ip : Bool} {pf fs lf : Option Nat} {rw nd : Bool} {ms : Nat} {L0 : List Nat} (rv : RV K) (hc : c < 12) (hn : (flist K c).Nodup) (hp : p < rN K 8 c) (e : offersF K c (p + 1) n = some k) (ep : pt k = some pa) (en : need = !decide (rA K 11 k = 0)) (ei : ip = decide (rA K 27 (12 * c + n) = nI (rN K 7 (20 * c + p)))) (r4 : rN K 13 k < 4)
    (h1 : pf = (sc (pfPf K c n) p 0).bind (adF K pt c n)) (h2 : fs = (sc (nPf K c n) p 0).bind (adF K pt c n)) (h3 : lf = (sc (nPf K c n) p 0).map (lnF W K c)) (h4 : rw = rvQ K c n p) (h5 : nd = (sc (ndPf K c n) p 0).isSome) (h6 : ms = msP K c n p)
    (hL : ∀ i0, sc (nPf K c n) p 0 = some i0 → L0 = tlist K (rN K 7 (20 * c + i0)))
    (h : (need = true ∧ chS S ch pf fs lf rw true (ms ||| (1 <<< rN K 13 k))) ∨ (need = false ∧ lf = none ∧ chS S ch (bif ip then some pa else pf) (some pa) (some (W (6 * rN K 7 (20 * c + p) + 101))) rw nd (ms ||| (1 <<< rN K 13 k))) ∨ (need = false ∧ lf.isSome = true ∧ chS S ch (bif ip then some pa else pf) fs lf (rw || !decide (rN K 7 (20 * c + p) ∈ L0)) nd (ms ||| (1 <<< rN K 13 k)))) : chP S ch W pt K c n (p + 1) := by
  have h20 := rv.p1.2
  have l8 := (rv.p5 c hc).2
  have tr : ∀ i, i < rN K 8 c → rN K 7 (20 * c + i) < fN K 0 := fun i hi => (rv.p6 c hc i hi).2
  have oP : offP K c (p + 1) n = !need := by unfold offP; rw [e, en, Bool.not_not]
  have a1 : nPf K c n p = !need := oP
  have a2 : ndPf K c n p = need := by unfold ndPf; rw [e, en]
  have a3 : pfPf K c n p = (ip && !need) := by unfold pfPf; rw [oP, ei]
  have a4 : ∀ r, rsPf K c n r p = decide (rN K 13 k = r) := fun r => by unfold rsPf givesF; rw [e]
  have a5 : ∀ i0, rvPf K c n i0 p = (!need && !standsF K (rN K 7 (20 * c + i0)) (rN K 7 (20 * c + p))) := fun i0 => by unfold rvPf; rw [oP]
  have adp : adF K pt c n p = some pa := by unfold adF; rw [e]; exact ep
  have em : ms ||| (1 <<< rN K 13 k) = msP K c n (p + 1) := by
    rw [h6]
    exact msk_or r4 (fun q _ => by rw [sc_or, a4])
  have rvS : ∀ i0, sc (nPf K c n) p 0 = some i0 → rvQ K c n p = (sc (rvPf K c n i0) (p - (i0 + 1)) (i0 + 1)).isSome := fun i0 z => by unfold rvQ; rw [z]
  have rvN : ∀ i0, sc (nPf K c n) p 0 = some i0 → sc (nPf K c n) (p + 1) 0 = some i0 → rvQ K c n (p + 1) = (rvQ K c n p || rvPf K c n i0 p) := fun i0 z z1 => by
    obtain ⟨_, g2, _⟩ := sc_some z
    rw [rvS i0 z]
    unfold rvQ
    rw [z1]
    show (sc (rvPf K c n i0) (p + 1 - (i0 + 1)) (i0 + 1)).isSome = _
    rw [show p + 1 - (i0 + 1) = p - (i0 + 1) + 1 by omega, sc_orI, show i0 + 1 + (p - (i0 + 1)) = p by omega]
  unfold chP
  cases need with
  | true =>
    rcases h with ⟨_, h⟩ | ⟨z, _⟩ | ⟨z, _⟩
    · have b1 := sc_no (p := nPf K c n) (n := p) a1
      have b3 := sc_no (p := pfPf K c n) (n := p) (by rw [a3]; cases ip <;> rfl)
      have b2 : (sc (ndPf K c n) (p + 1) 0).isSome = true := by rw [sc_or, a2, Bool.or_true]
      rw [b1, b3, b2, ← em, ← h1, ← h2, ← h3]
      have : rvQ K c n (p + 1) = rw := by
        rw [h4]
        cases e0 : sc (nPf K c n) p 0 with
        | none => unfold rvQ; rw [b1, e0]
        | some i0 => rw [rvN i0 e0 (b1.trans e0), a5]; simp
      rw [this]; exact h
    · cases z
    · cases z
  | false =>
    have b2 : (sc (ndPf K c n) (p + 1) 0).isSome = nd := by rw [sc_or, a2, Bool.or_false, h5]
    have b3 : (sc (pfPf K c n) (p + 1) 0).bind (adF K pt c n) = bif ip then some pa else pf := by
      cases ip with
      | false =>
        rw [sc_no (p := pfPf K c n) (n := p) a3]; exact h1.symm
      | true =>
        rw [sc_yes (p := pfPf K c n) (n := p) a3]
        cases e0 : sc (pfPf K c n) p 0 with
        | none => exact adp
        | some j =>
          obtain ⟨_, g2, g3, _⟩ := sc_some e0
          unfold pfPf at g3
          rw [Bool.and_eq_true, decide_eq_true_eq] at g3
          have q := of_decide_eq_true ei.symm
          have q2 := (nI_eq (by have := tr j (by omega); omega) (by have := tr p hp; omega)).mp (g3.1.symm.trans q)
          have := fll_inj hn (by omega) hp q2
          omega
    rw [b2, b3, ← em]
    rcases h with ⟨z, _⟩ | ⟨_, hl, h⟩ | ⟨_, hl, h⟩
    · cases z
    · have e0 : sc (nPf K c n) p 0 = none := by
        cases e0 : sc (nPf K c n) p 0 with
        | none => rfl
        | some j => rw [h3, e0] at hl; cases hl
      have b1 : sc (nPf K c n) (p + 1) 0 = some p := by rw [sc_yes (p := nPf K c n) (n := p) a1, e0]
      have b4 : rvQ K c n (p + 1) = rw := by
        rw [h4]
        unfold rvQ
        rw [b1, e0]
        show (sc (rvPf K c n p) (p + 1 - (p + 1)) (p + 1)).isSome = false
        rw [Nat.sub_self, sc]; rfl
      rw [b1, b4]
      show chS S ch _ (adF K pt c n p) (some (lnF W K c p)) _ _ _
      rw [adp]; exact h
    · cases e0 : sc (nPf K c n) p 0 with
      | none => rw [h3, e0] at hl; cases hl
      | some i0 =>
        obtain ⟨_, g2, _⟩ := sc_some e0
        have b1 : sc (nPf K c n) (p + 1) 0 = some i0 := by rw [sc_yes (p := nPf K c n) (n := p) a1, e0]
        have t1 := tr p hp
        have t0 := tr i0 (by omega)
        have b4 : rvQ K c n (p + 1) = (rw || !decide (rN K 7 (20 * c + p) ∈ L0)) := by
          rw [rvN i0 e0 b1, a5, stands_mem rv (by omega) (by omega), hL i0 e0, h4]; simp
        rw [b1, b4, ← e0, ← h2, ← h3]; exact h
/-! CHOOSING: the class's way and the reference's -/
def brF (K : RS) (c n : Nat) : Int32 := match chooseF K c n with
  | none => -1
  | some p => match offersF K c p n with
    | none => -1
    | some k => nI (bridgesF K c n k)
def chR (S : Mem) (ch : Nat) (pt : Nat → Option Nat) (K : RS) (c n : Nat) : Prop := mI S 0 ch = chosenF K c n ∧ mI S 2 ch = nI (clashF K c n) ∧ mO S 1 ch = (chooseF K c n).bind (fun p => (offersF K c p n).bind pt) ∧ mI S 3 ch = brF K c n
theorem off0 {K : RS} {c n : Nat} : offersF K c 0 n = if rA K 10 (480 + 12 * c + n) = 0 then none else some (480 + 12 * c + n) := rfl
theorem iso {p : Nat → Bool} {n i : Nat} : (sc p n i).isSome = true ↔ ∃ j, i ≤ j ∧ j < i + n ∧ p j = true := by
  constructor
  · intro h
    obtain ⟨j, hj⟩ := Option.isSome_iff_exists.mp h
    obtain ⟨h1, h2, h3, _⟩ := sc_some hj
    exact ⟨j, h1, h2, h3⟩
  · rintro ⟨j, h1, h2, h3⟩
    cases e : sc p n i with
    | some q => rfl
    | none => rw [sc_none e j h1 h2] at h3; cases h3
/-- is something wider offered: by the bits -/
theorem wide_ms {K : RS} {c n k0 : Nat} (rv : RV K) (h6 : ∀ q k, q ≤ rN K 8 c → offersF K c q n = some k → rN K 13 k < 4) (r4 : rN K 13 k0 < 4) (h0 : wideF K c n k0 0 = false) : (sc (wideF K c n k0) (rN K 8 c + 1) 0).isSome = decide (1 < msP K c n (rN K 8 c) >>> rN K 13 k0) := by
  unfold msP
  rw [msk_wide r4, Bool.eq_iff_iff]
  have g : ∀ r, (sc (rsPf K c n r) (rN K 8 c) 0).isSome = true ↔ ∃ i, i < rN K 8 c ∧ ∃ k, offersF K c (i + 1) n = some k ∧ rN K 13 k = r := fun r => by
    rw [iso]
    constructor
    · rintro ⟨i, h1, h2, h3⟩
      unfold rsPf givesF at h3
      cases e : offersF K c (i + 1) n with
      | none => rw [e] at h3; cases h3
      | some k => rw [e] at h3; exact ⟨i, by omega, k, e, of_decide_eq_true h3⟩
    · rintro ⟨i, h1, k, h2, h3⟩
      refine ⟨i, Nat.zero_le _, by omega, ?_⟩
      unfold rsPf givesF
      rw [h2]; exact decide_eq_true h3
  constructor
  · intro h
    obtain ⟨q, _, h2, h3⟩ := iso.mp h
    cases q with
    | zero => rw [h0] at h3; cases h3
    | succ i =>
      unfold wideF at h3
      cases e : offersF K c (i + 1) n with
      | none => rw [e] at h3; cases h3
      | some k =>
        rw [e] at h3
        have h4 : rN K 13 k0 < rN K 13 k := of_decide_eq_true h3
        have h5 := h6 (i + 1) k (by omega) e
        have w := (g (rN K 13 k)).mpr ⟨i, by omega, k, e, rfl⟩
        have : rN K 13 k = 1 ∨ rN K 13 k = 2 ∨ rN K 13 k = 3 := by omega
        rcases this with z | z | z <;> rw [z] at w h4 <;> simp [w] <;> omega
  · intro h
    have key : ∀ r, rN K 13 k0 < r → (sc (rsPf K c n r) (rN K 8 c) 0).isSome = true → (sc (wideF K c n k0) (rN K 8 c + 1) 0).isSome = true := fun r hr w => by
      obtain ⟨i, h1, k, h2, h3⟩ := (g r).mp w
      refine iso.mpr ⟨i + 1, Nat.zero_le _, by omega, ?_⟩
      unfold wideF
      rw [h2]; exact decide_eq_true (by omega)
    rw [Bool.or_eq_true, Bool.or_eq_true, Bool.and_eq_true, Bool.and_eq_true, Bool.and_eq_true, decide_eq_true_eq, decide_eq_true_eq, decide_eq_true_eq] at h
    rcases h with (⟨a, b⟩ | ⟨a, b⟩) | ⟨a, b⟩
    · exact key 1 a b
    · exact key 2 a b
    · exact key 3 a b
theorem cn_cg {p q : Nat → Bool} : ∀ (n i : Nat), (∀ j, i ≤ j → j < i + n → p j = q j) → cn p n i = cn q n i := by
  intro n
  induction n with
  | zero => intro i _; rfl
  | succ n ih =>
    intro i h
    rw [cn, cn, h i (Nat.le_refl _) (by omega), ih (i + 1) (fun j h1 h2 => h j (by omega) (by omega))]
theorem brid_ms {K : RS} {c n k0 : Nat} (r4 : rN K 13 k0 < 4) (h0 : ∀ r, r < rN K 13 k0 → givesF K c n r 0 = false) : pc4 (msP K c n (rN K 8 c) &&& ((1 <<< rN K 13 k0) - 1)) = bridgesF K c n k0 := by
  unfold msP bridgesF
  rw [msk_pc r4]
  refine cn_cg _ _ (fun r _ hr => ?_)
  unfold resF
  rw [sc, h0 r (by omega)]
  show _ = (sc (givesF K c n r) (rN K 8 c) (0 + 1)).isSome
  rw [sc_shift, Option.isSome_map]; rfl
theorem nP_off {K : RS} {c n i : Nat} (h : nPf K c n i = true) : ∃ k, offersF K c (i + 1) n = some k ∧ rA K 11 k = 0 := offP_some h
theorem src_lt {K : RS} {c u n q : Nat} (rv : RV K) (hc : c < 12) (hn : n < 12) (h : srcF K c u n = some q) : q < 12 := by
  unfold srcF at h
  cases e : namedF K c u n with
  | some j =>
    rw [e] at h
    unfold namedF at e
    obtain ⟨i, h1, h2⟩ := Option.map_eq_some_iff.mp e
    obtain ⟨_, h3, _⟩ := sc_some h1
    have := (rv.p11 c hc i (by omega)).1.2
    cases h; omega
  | none =>
    rw [e] at h
    cases e2 : (leavesF K c u n || (renamedF K c u n).isSome) with
    | true => simp only [e2] at h; cases h
    | false => simp only [e2] at h; cases h; exact hn
theorem off_cd {K : RS} {c i n k : Nat} (rv : RV K) (hc : c < 12) (hn : n < 12) (hi : i < rN K 8 c) (h : offersF K c (i + 1) n = some k) : k < 240 ∧ k / 12 = rN K 7 (20 * c + i) ∧ ¬ rA K 10 k = 0 := by
  have h20 := rv.p1.2
  have tr := (rv.p6 c hc i hi).2
  rw [offU_eq] at h
  unfold offU at h
  cases e : srcF K c (rN K 7 (20 * c + i)) n with
  | none => rw [e] at h; cases h
  | some q =>
    have hq := src_lt rv hc hn e
    rw [e] at h
    simp only at h
    split at h
    · cases h
    · rename_i z
      cases h
      exact ⟨by omega, by omega, z⟩
theorem pf_tie {K : RS} {c n : Nat} (rv : RV K) (hc : c < 12) (hn : (flist K c).Nodup) : (∀ j, sc (pfPf K c n) (rN K 8 c) 0 = some j → prefF K c n = j + 1 ∧ offP K c (j + 1) n = true) ∧ (sc (pfPf K c n) (rN K 8 c) 0 = none → (decide (0 < prefF K c n) && offP K c (prefF K c n) n) = false) := by
  have h20 := rv.p1.2
  have l8 := (rv.p5 c hc).2
  have tr : ∀ i, i < rN K 8 c → rA K 7 (20 * c + i) = nI (rN K 7 (20 * c + i)) ∧ rN K 7 (20 * c + i) < fN K 0 := fun i hi => rv.p6 c hc i hi
  constructor
  · intro j h
    obtain ⟨_, h2, h3, _⟩ := sc_some h
    unfold pfPf at h3
    rw [Bool.and_eq_true, decide_eq_true_eq] at h3
    have hj := tr j (by omega)
    refine ⟨?_, h3.2⟩
    unfold prefF
    rw [if_neg (fun z => nI_m1 (by omega) (h3.1.symm.trans z))]
    unfold placeInF
    have : sc (piP K c (rA K 27 (12 * c + n))) (rN K 8 c) 0 = some j := by
      refine sc_eq_some (Nat.zero_le _) (by omega) ?_ (fun i _ hi => ?_)
      · unfold piP; rw [h3.1]; exact decide_eq_true hj.1
      · unfold piP
        refine decide_eq_false (fun z => ?_)
        have hi2 := tr i (by omega)
        have q := (nI_eq (by omega) (by omega)).mp (hi2.1.symm.trans (z.trans h3.1))
        have := fll_inj hn (by omega) (by omega) q
        omega
    rw [this]
  · intro h
    cases e : (decide (0 < prefF K c n) && offP K c (prefF K c n) n) with
    | false => rfl
    | true =>
      rw [Bool.and_eq_true, decide_eq_true_eq] at e
      obtain ⟨e1, e2⟩ := e
      unfold prefF at e1 e2
      split at e1
      · omega
      · rename_i hm
        rw [if_neg hm] at e2
        unfold placeInF at e1 e2
        cases ep : sc (piP K c (rA K 27 (12 * c + n))) (rN K 8 c) 0 with
        | none => rw [ep] at e1; exact absurd e1 (Nat.lt_irrefl 0)
        | some i =>
          rw [ep] at e2
          obtain ⟨_, h2, h3, _⟩ := sc_some ep
          have := sc_none h i (Nat.zero_le _) (by omega)
          unfold pfPf at this
          unfold piP at h3
          rw [show offP K c (i + 1) n = true from e2, Bool.and_true] at this
          have q := (tr i (by omega)).1
          rw [of_decide_eq_true h3] at q
          rw [decide_eq_true q] at this; cases this
theorem fs_tie {K : RS} {c n : Nat} : firstF K c 1 n = (sc (nPf K c n) (rN K 8 c) 0).map (· + 1) := by
  unfold firstF
  rw [Nat.add_sub_cancel, show (1 : Nat) = 0 + 1 from rfl, sc_shift]; rfl
/-- the choice, once all has been heard and settled -/
theorem settle_tie {S S' : Mem} {ch : Nat} {pt : Nat → Option Nat} {K : RS} {c n : Nat} {gvf : Nat → Int32} {rsf : Nat → Nat} (rv : RV K) (hc : c < 12) (hn : n < 12) (hd : (flist K c).Nodup) (ps : prtS S pt K) (hg : ∀ k a, (k < 240 ∨ 480 ≤ k) → k < 624 → pt k = some a → gvf a = gvI k ∧ rsf a = rN K 13 k)
    (h : stR S' ch (pt (480 + 12 * c + n)) ((sc (pfPf K c n) (rN K 8 c) 0).bind (adF K pt c n)) ((sc (nPf K c n) (rN K 8 c) 0).bind (adF K pt c n)) (rvQ K c n (rN K 8 c)) ((sc (ndPf K c n) (rN K 8 c) 0).isSome) (msP K c n (rN K 8 c)) gvf rsf) : chR S' ch pt K c n := by
  have h20 := rv.p1.2
  have l8 := (rv.p5 c hc).2
  obtain ⟨s1, s2, s3⟩ := h
  obtain ⟨pf1, pf2⟩ := pf_tie (n := n) rv hc hd
  have c0 : 480 + 12 * c + n < 624 := by omega
  have i0 := ps.1 _ c0
  have cd : ∀ q k, q ≤ rN K 8 c → offersF K c q n = some k → k < 624 ∧ (k < 240 ∨ 480 ≤ k) ∧ ¬ rA K 10 k = 0 := fun q k hq e => by
    cases q with
    | zero =>
      rw [off0] at e
      split at e
      · cases e
      · rename_i z; cases e; exact ⟨c0, Or.inr (by omega), z⟩
    | succ i =>
      obtain ⟨a1, a2, a3⟩ := off_cd rv hc hn (by omega) e
      exact ⟨by omega, Or.inl a1, a3⟩
  have r4 : ∀ q k, q ≤ rN K 8 c → offersF K c q n = some k → rN K 13 k < 4 := fun q k hq e => (rv.p13 k (cd q k hq e).1).2
  have ptS : ∀ q k, q ≤ rN K 8 c → offersF K c q n = some k → ∃ a, pt k = some a := fun q k hq e => by
    obtain ⟨a1, a2, a3⟩ := cd q k hq e
    exact Option.isSome_iff_exists.mp ((ps.1 k a1).mpr a3)
  -- what becomes of a chosen one
  have fin : ∀ q k a, q ≤ rN K 8 c → chooseF K c n = some q → offersF K c q n = some k → pt k = some a → wideF K c n k 0 = false → (∀ r, r < rN K 13 k → givesF K c n r 0 = false) → orO (pt (480 + 12 * c + n)) (orO ((sc (pfPf K c n) (rN K 8 c) 0).bind (adF K pt c n)) ((sc (nPf K c n) (rN K 8 c) 0).bind (adF K pt c n))) = some a → (if (pt (480 + 12 * c + n)).isSome then nI 100 else gvI k) = nI (tellsF K c q) → ((pt (480 + 12 * c + n) = none ∧ ((sc (pfPf K c n) (rN K 8 c) 0).bind (adF K pt c n)) = none ∧ rvQ K c n (rN K 8 c) = true) ↔ (byLineF K c n q && (sc (rivF K c n q) (rN K 8 c + 1 - (q + 1)) (q + 1)).isSome) = true) → chR S' ch pt K c n := fun q k a hq hch hof hpt hw hgv hor hgi hcl => by
    obtain ⟨a1, a2, a3⟩ := cd q k hq hof
    obtain ⟨g1, g2⟩ := hg k a a2 a1 hpt
    obtain ⟨t1, t2, t3⟩ := s3 a hor
    rw [g1] at t1
    rw [g2] at t2 t3
    refine ⟨?_, ?_, ?_, ?_⟩
    · rw [t1, hgi]; unfold chosenF; rw [hch]
    · rw [t2]
      unfold stC clashF
      rw [hch]
      simp only
      cases eb : (byLineF K c n q && (sc (rivF K c n q) (rN K 8 c + 1 - (q + 1)) (q + 1)).isSome) with
      | true => rw [if_pos (hcl.mpr eb)]; rfl
      | false =>
        rw [if_neg (fun z => by rw [hcl.mp z] at eb; cases eb), hof]
        show _ = nI (bif (sc (wideF K c n k) (rN K 8 c + 1) 0).isSome then 2 else 0)
        rw [wide_ms rv r4 (r4 q k hq hof) hw]
        by_cases z : 1 < msP K c n (rN K 8 c) >>> rN K 13 k
        · rw [if_pos z, decide_eq_true z]; rfl
        · rw [if_neg z, decide_eq_false z]; rfl
    · rw [s1, hor, hch]
      show some a = (offersF K c q n).bind pt
      rw [hof]; exact hpt.symm
    · rw [t3]; unfold brF; rw [hch]; simp only [hof]
      rw [brid_ms (r4 q k hq hof) hgv]
  cases eo : pt (480 + 12 * c + n) with
  | some a =>
    have z := i0.mp (by rw [eo]; rfl)
    have e0 : offersF K c 0 n = some (480 + 12 * c + n) := by rw [off0, if_neg z]
    have hch : chooseF K c n = some 0 := by unfold chooseF; rw [e0]; rfl
    refine fin 0 _ a (Nat.zero_le _) hch e0 eo ?_ ?_ (by rw [eo]; rfl) (by rw [eo]; rfl) ⟨fun z => (by rw [eo] at z; cases z.1), fun z => ?_⟩
    · unfold wideF; rw [e0]; exact decide_eq_false (Nat.lt_irrefl _)
    · intro r hr; unfold givesF; rw [e0]; exact decide_eq_false (by omega)
    · unfold byLineF at z; simp at z
  | none =>
    have e0 : offersF K c 0 n = none := by
      rw [off0]
      by_cases z : rA K 10 (480 + 12 * c + n) = 0
      · rw [if_pos z]
      · have := i0.mpr z; rw [eo] at this; cases this
    have w0 : ∀ k, wideF K c n k 0 = false := fun k => by unfold wideF; rw [e0]
    have g0 : ∀ r, givesF K c n r 0 = false := fun r => by unfold givesF; rw [e0]
    have gvT : ∀ i k, i < rN K 8 c → offersF K c (i + 1) n = some k → gvI k = nI (tellsF K c (i + 1)) := fun i k hi e => by
      obtain ⟨a1, a2, _⟩ := off_cd rv hc hn hi e
      unfold gvI; rw [if_pos a1, a2]; rfl
    cases ep : sc (pfPf K c n) (rN K 8 c) 0 with
    | some j =>
      obtain ⟨q1, q2⟩ := pf1 j ep
      obtain ⟨_, hj, _⟩ := sc_some ep
      obtain ⟨k, hk, _⟩ := offP_some q2
      obtain ⟨a, ha⟩ := ptS (j + 1) k (by omega) hk
      have hch : chooseF K c n = some (j + 1) := by
        unfold chooseF; rw [e0, q1, q2]; rfl
      have adj : adF K pt c n j = some a := by unfold adF; rw [hk]; exact ha
      refine fin (j + 1) k a (by omega) hch hk ha (w0 k) (fun r _ => g0 r) ?_ ?_ ⟨fun z => ?_, fun z => ?_⟩
      · rw [eo, ep]; show orO none (orO (adF K pt c n j) _) = _; rw [adj]; rfl
      · rw [eo]; exact gvT j k (by omega) hk
      · rw [ep] at z
        have := z.2.1
        rw [show (some j).bind (adF K pt c n) = adF K pt c n j from rfl, adj] at this; cases this
      · unfold byLineF at z; rw [q1, q2] at z; simp at z
    | none =>
      have q0 := pf2 ep
      have hch0 : chooseF K c n = firstF K c 1 n := by unfold chooseF; rw [e0, q0]; rfl
      rw [fs_tie] at hch0
      cases ef : sc (nPf K c n) (rN K 8 c) 0 with
      | some i =>
        rw [ef] at hch0
        obtain ⟨_, hi, h3, _⟩ := sc_some ef
        obtain ⟨k, hk, _⟩ := nP_off h3
        obtain ⟨a, ha⟩ := ptS (i + 1) k (by omega) hk
        have adj : adF K pt c n i = some a := by unfold adF; rw [hk]; exact ha
        have hby : byLineF K c n (i + 1) = true := by unfold byLineF; rw [q0]; rfl
        have hrv : rvQ K c n (rN K 8 c) = (sc (rivF K c n (i + 1)) (rN K 8 c + 1 - (i + 1 + 1)) (i + 1 + 1)).isSome := by
          unfold rvQ
          rw [ef]
          show (sc (rvPf K c n i) (rN K 8 c - (i + 1)) (i + 1)).isSome = _
          rw [show rN K 8 c + 1 - (i + 1 + 1) = rN K 8 c - (i + 1) by omega, sc_shift (p := rivF K c n (i + 1)), Option.isSome_map]
          refine congrArg Option.isSome (sc_cg _ _ (fun j _ _ => ?_))
          unfold rvPf rivF
          rw [show 20 * c + (i + 1) - 1 = 20 * c + i by omega, show 20 * c + (j + 1) - 1 = 20 * c + j by omega]
        refine fin (i + 1) k a (by omega) hch0 hk ha (w0 k) (fun r _ => g0 r) ?_ ?_ ⟨fun z => ?_, fun z => ?_⟩
        · rw [eo, ep, ef]; exact adj
        · rw [eo]; exact gvT i k (by omega) hk
        · rw [hby, ← hrv, z.2.2]; rfl
        · rw [hby, ← hrv] at z
          exact ⟨eo, by rw [ep]; rfl, z⟩
      | none =>
        rw [ef] at hch0
        have hch : chooseF K c n = none := hch0
        obtain ⟨t1, t2, t3⟩ := s2 (by rw [eo, ep, ef]; rfl)
        refine ⟨?_, ?_, ?_, ?_⟩
        · rw [t1]
          unfold chosenF
          rw [hch]
          show (bif (sc (ndPf K c n) (rN K 8 c) 0).isSome then (-5 : Int32) else -6) = bif (sc (anyF K c n) (rN K 8 c + 1 - 1) (0 + 1)).isSome then -5 else -6
          rw [Nat.add_sub_cancel, sc_shift, Option.isSome_map]
          have : sc (ndPf K c n) (rN K 8 c) 0 = sc (fun j => anyF K c n (j + 1)) (rN K 8 c) 0 := by
            refine sc_cg _ _ (fun j _ hj => ?_)
            have nj := sc_none ef j (Nat.zero_le _) (by omega)
            unfold ndPf anyF
            unfold nPf offP at nj
            cases e : offersF K c (j + 1) n with
            | none => rfl
            | some k =>
              rw [e] at nj
              simp only at nj ⊢
              rw [nj]; rfl
          rw [this]
        · rw [t2]; unfold clashF; rw [hch]
        · rw [s1, eo, ep, ef, hch]; rfl
        · rw [t3]; unfold brF; rw [hch]
