/-! MERGING depends on the rows alone -/
theorem sc_cg {p q : Nat → Bool} : ∀ (n i : Nat), (∀ j, i ≤ j → j < i + n → p j = q j) → sc p n i = sc q n i := by
  intro n
  induction n with
  | zero => intro i _; rfl
  | succ n ih =>
    intro i h
    show (bif p i then some i else sc p n (i + 1)) = (bif q i then some i else sc q n (i + 1))
    rw [h i (Nat.le_refl i) (by omega), ih (i + 1) (fun j h1 h2 => h j (by omega) (by omega))]
theorem behR_cg {row row' : Nat → Nat → Option Nat} {fr fr' : Nat → Nat} {t r : Nat} (h : row r = row' r) (k : fr r = fr' r) : behR row fr t r = behR row' fr' t r := by
  unfold behR; rw [h, k]
theorem beh_cg {row row' : Nat → Nat → Option Nat} {fr fr' : Nat → Nat} {nr t : Nat} (h : ∀ r, r < nr → row r = row' r) (k : ∀ r, r < nr → fr r = fr' r) : beh row fr nr t = beh row' fr' nr t := by
  unfold beh
  rw [sc_cg _ _ (fun j h1 h2 => behR_cg (h j (by omega)) (k j (by omega)))]
theorem nxP_cg {row row' : Nat → Nat → Option Nat} {fr fr' : Nat → Nat} {nr r : Nat} (h : ∀ r, r < nr → row r = row' r) (k : ∀ r, r < nr → fr r = fr' r) (hr : r < nr) : nxP row fr nr r = nxP row' fr' nr r := by
  unfold nxP
  rw [h r hr, k r hr]
  cases row' r (fr' r) with
  | none => rfl
  | some t => show (!beh row fr nr t) = (!beh row' fr' nr t); rw [beh_cg h k]
theorem nx_cg {row row' : Nat → Nat → Option Nat} {fr fr' : Nat → Nat} {nr : Nat} (h : ∀ r, r < nr → row r = row' r) (k : ∀ r, r < nr → fr r = fr' r) : nx row fr nr = nx row' fr' nr := by
  unfold nx
  rw [sc_cg (q := nxP row' fr' nr) _ _ (fun j h1 h2 => nxP_cg h k (by omega))]
  cases e : sc (nxP row' fr' nr) (nr - 0) 0 with
  | none => rfl
  | some r =>
    obtain ⟨h1, h2, -, -⟩ := sc_some e
    show row r (fr r) = row' r (fr' r)
    rw [h r (by omega), k r (by omega)]
theorem any_cg {row row' : Nat → Nat → Option Nat} {fr fr' : Nat → Nat} {nr : Nat} (h : ∀ r, r < nr → row r = row' r) (k : ∀ r, r < nr → fr r = fr' r) : anyFr row fr nr = anyFr row' fr' nr := by
  unfold anyFr
  rw [sc_cg _ _ (fun j h1 h2 => by show (row j (fr j)).isSome = (row' j (fr' j)).isSome; rw [h j (by omega), k j (by omega)])]
theorem mg_cg {row row' : Nat → Nat → Option Nat} {nr : Nat} (h : ∀ r, r < nr → row r = row' r) : ∀ (f : Nat) (fr fr' : Nat → Nat) (acc : List Nat), (∀ r, r < nr → fr r = fr' r) → mg row nr f fr acc = mg row' nr f fr' acc := by
  intro f
  induction f with
  | zero => intro fr fr' acc k; rw [mg, mg, any_cg h k]
  | succ f ih =>
    intro fr fr' acc k
    rw [mg, mg, nx_cg h k]
    cases nx row' fr' nr with
    | none => show (bif anyFr row fr nr then none else some acc) = _; rw [any_cg h k]
    | some t => exact ih _ _ _ (fun r hr => by unfold adv; rw [h r hr, k r hr])
/-- a trait's line, as the reference keeps it -/
def tlist (K : RS) (t : Nat) : List Nat := (List.range (rN K 2 t)).map (fun i => rN K 1 (20 * t + i))
theorem tlist_get {K : RS} {t i : Nat} : (tlist K t)[i]? = if i < rN K 2 t then some (rN K 1 (20 * t + i)) else none := by
  unfold tlist
  rw [List.getElem?_map]
  split
  · rename_i h; rw [List.getElem?_range h]; rfl
  · rename_i h; rw [List.getElem?_eq_none (by rw [List.length_range]; omega)]; rfl
theorem tlist_len {K : RS} {t : Nat} : (tlist K t).length = rN K 2 t := by unfold tlist; rw [List.length_map, List.length_range]
theorem al_mg {K K1 : RS} {LT : Nat → List Nat} {T : Nat} {gs : List Nat} (hLT : ∀ t, t < T → LT t = tlist K t) (hg : ∀ u ∈ gs, u < T) (hn : fN K1 29 = gs.length) (hr : ∀ r u, gs[r]? = some u → rN K1 28 r = u) (h1 : ∀ t, rN K1 2 t = rN K 2 t) (h2 : ∀ i, rN K1 1 i = rN K 1 i) : alF LT gs = mgF K1 := by
  unfold alF mgF
  rw [hn]
  refine mg_cg (fun r hr' => ?_) _ _ _ _ (fun _ _ => rfl)
  funext i
  unfold rowC rowF
  rw [hn]
  by_cases z : r = gs.length
  · rw [z, up_eq, if_pos rfl]
    by_cases y : i < gs.length
    · rw [if_pos y, List.getElem?_eq_getElem y, hr i gs[i] (List.getElem?_eq_getElem y)]
    · rw [if_neg y, List.getElem?_eq_none (by omega)]
  · rw [up_ne z, if_neg z]
    have hr2 : r < gs.length := by omega
    have e : rN K1 28 r = gs.getD r 0 := hr r _ (by rw [List.getD_eq_getElem?_getD, List.getElem?_eq_getElem hr2]; rfl)
    show (LT (gs.getD r 0))[i]? = _
    rw [hLT _ (hg _ (getD_mem hr2)), tlist_get, e, h1, h2]
theorem canT_cases {T : Nat} {a b c : Int32} (h : canT T a b c = true) : (a = -1 ∧ b = -1 ∧ c = -1) ∨ ∃ k0, k0 < T ∧ a = nI k0 ∧ ((b = -1 ∧ c = -1) ∨ ∃ k1, k1 < T ∧ b = nI k1 ∧ (c = -1 ∨ ∃ k2, k2 < T ∧ c = nI k2)) := by
  unfold canT underT at h
  by_cases ha : a = -1
  · by_cases hb : b = -1
    · by_cases hc : c = -1
      · exact Or.inl ⟨ha, hb, hc⟩
      · simp [ha, hb, hc] at h
    · simp [ha, hb] at h
  · cases ea : below a T with
    | false => simp [ha, ea] at h
    | true =>
      obtain ⟨k0, h0, e0⟩ := below_some ea
      refine Or.inr ⟨k0, h0, e0, ?_⟩
      by_cases hb : b = -1
      · by_cases hc : c = -1
        · exact Or.inl ⟨hb, hc⟩
        · simp [hb, hc] at h
      · cases eb : below b T with
        | false => simp [hb, eb] at h
        | true =>
          obtain ⟨k1, h1, e1⟩ := below_some eb
          refine Or.inr ⟨k1, h1, e1, ?_⟩
          by_cases hc : c = -1
          · exact Or.inl hc
          · cases ec : below c T with
            | false => simp [hc, ec] at h
            | true =>
              obtain ⟨k2, h2, e2⟩ := below_some ec
              exact Or.inr ⟨k2, h2, e2⟩
theorem tN_m1 {T : Nat} : tN T (-1) = [] := tN_no (by
  cases e : below (-1) T with
  | false => rfl
  | true => exact absurd rfl (below_ne e))
theorem nI_m1 {k : Nat} (h : k < 2 ^ 31) : nI k ≠ -1 := fun z => by
  have := congrArg Int32.toInt z
  rw [nI_toInt h] at this
  have e : (-1 : Int32).toInt = -1 := rfl
  omega
theorem aG_pre {K K1 : RS} {T : Nat} {a b c : Int32} (hT : T ≤ 20) (hc : canT T a b c = true) (h : trPre K (npF a b c) a b c K1) : fN K1 29 = (aG T a b c).length ∧ ∀ r u, (aG T a b c)[r]? = some u → rN K1 28 r = u := by
  obtain ⟨p1, p2, p3, p4, p5, -⟩ := h
  have q : fN K1 29 = npF a b c := fN_nI p1 (by omega)
  unfold aG
  rcases canT_cases hc with ⟨rfl, rfl, rfl⟩ | ⟨k0, h0, rfl, ⟨rfl, rfl⟩ | ⟨k1, h1, rfl, rfl | ⟨k2, h2, rfl⟩⟩⟩
  · rw [tN_m1]
    exact ⟨q, fun r u hu => by simp at hu⟩
  · rw [tN_m1, tN_nI h0 hT]
    refine ⟨by rw [q]; unfold npF; rw [if_neg (nI_m1 (by omega)), if_pos rfl]; rfl, fun r u hu => ?_⟩
    match r with
    | 0 => simp at hu; rw [← hu]; exact rN_nI p3 (by omega)
    | r + 1 => simp at hu
  · rw [tN_m1, tN_nI h0 hT, tN_nI h1 hT]
    refine ⟨by rw [q]; unfold npF; rw [if_neg (nI_m1 (by omega)), if_neg (nI_m1 (by omega)), if_pos rfl]; rfl, fun r u hu => ?_⟩
    match r with
    | 0 => simp at hu; rw [← hu]; exact rN_nI p3 (by omega)
    | 1 => simp at hu; rw [← hu]; exact rN_nI p4 (by omega)
    | r + 2 => simp at hu
  · rw [tN_nI h0 hT, tN_nI h1 hT, tN_nI h2 hT]
    refine ⟨by rw [q]; unfold npF; rw [if_neg (nI_m1 (by omega)), if_neg (nI_m1 (by omega)), if_neg (nI_m1 (by omega))]; rfl, fun r u hu => ?_⟩
    match r with
    | 0 => simp at hu; rw [← hu]; exact rN_nI p3 (by omega)
    | 1 => simp at hu; rw [← hu]; exact rN_nI p4 (by omega)
    | 2 => simp at hu; rw [← hu]; exact rN_nI p5 (by omega)
    | r + 3 => simp at hu
theorem tlist_keep {F A Q J : List Nat} {K K1 : RS} (h : keep F A Q J K K1) (h1 : 1 ∉ A) (h2 : 2 ∉ A) (t : Nat) : tlist K1 t = tlist K t := by
  unfold tlist
  rw [keep_rN h h2 t]
  exact List.map_congr_left (fun i _ => keep_rN h h1 _)
theorem tlist_new {K K' : RS} {L : List Nat} (hT : fN K 0 < 20) (hL : L.Nodup ∧ ∀ u ∈ L, u < fN K 0) (nt : newTrait K L K') : tlist K' (fN K 0) = [fN K 0] ++ L := by
  obtain ⟨n1, n2, n3, n4, n5, n6, n7⟩ := nt
  have hl := nodup_lt _ _ hL.1 hL.2
  have e2 : rN K' 2 (fN K 0) = L.length + 1 := rN_nI n4 (by omega)
  refine List.ext_getElem? (fun i => ?_)
  rw [tlist_get, e2]
  match i with
  | 0 =>
    rw [if_pos (by omega)]
    exact congrArg some (rN_nI n2 (by omega))
  | j + 1 =>
    show _ = L[j]?
    by_cases z : j < L.length
    · rw [if_pos (by omega), List.getElem?_eq_getElem z]
      have w := n3 j _ (List.getElem?_eq_getElem z)
      rw [show 20 * fN K 0 + 1 + j = 20 * fN K 0 + (j + 1) by omega] at w
      exact congrArg some (rN_nI w (by have := hL.2 _ (List.getElem_mem z); omega))
    · rw [if_neg (by omega), List.getElem?_eq_none (by omega)]
theorem tlist_old {K K' : RS} {L : List Nat} {t : Nat} (nt : newTrait K L K') (ht : t < fN K 0) (hl : rN K 2 t ≤ 20) : tlist K' t = tlist K t := by
  obtain ⟨n1, n2, n3, n4, n5, n6, n7⟩ := nt
  have e2 : rN K' 2 t = rN K 2 t := by unfold rN; rw [n6 t (by omega)]
  refine List.ext_getElem? (fun i => ?_)
  rw [tlist_get, tlist_get, e2]
  split
  · rename_i h
    have e1 : rN K' 1 (20 * t + i) = rN K 1 (20 * t + i) := by unfold rN; rw [n5 _ (Or.inl (by omega))]
    rw [e1]
  · rfl
/-- the class's trait and the reference's agree, and so do their traits afterwards -/
theorem tie_trait {S S' : Mem} {cm T : Nat} {A : CA} {LT : Nat → List Nat} {ta tb tc v v' : Int32} {K K' : RS} (hT : T = fN K 0) (h20 : T ≤ 20) (hLT : ∀ t, t < T → LT t = tlist K t) (hLb : ∀ t, t < T → (LT t).length ≤ 20 ∧ ∀ u ∈ LT t, u < T) (hc : ctR S S' cm T A LT ta tb tc v) (hr : traitR K ta tb tc v' K') : v = v' ∧ ((fN K' 0 = T ∧ trS S' cm T A LT ∧ ∀ t, t < T → LT t = tlist K' t) ∨ (T < 20 ∧ fN K' 0 = T + 1 ∧ ∃ L a ln rw pl bo gu, (L.Nodup ∧ ∀ u ∈ L, u < T) ∧ (a ∉ mL S ∧ ln ∉ mL S ∧ rw ∉ mL S ∧ pl ∉ mL S ∧ bo ∉ mL S ∧ gu ∉ mL S) ∧ newTB S' a bo gu ∧ trS S' cm (T + 1) (cup A T a ln rw pl) (up LT T ([T] ++ L)) ∧ ∀ t, t < T + 1 → up LT T ([T] ++ L) t = tlist K' t)) := by
  subst hT
  rcases hr with ⟨c0, rfl, rfl⟩ | ⟨c1, K1, hp, hr⟩
  · rcases hc with ⟨d0, d1, d2⟩ | ⟨d0, _⟩
    · exact ⟨d1, Or.inl ⟨rfl, d2, hLT⟩⟩
    · rw [canF_T, d0] at c0; cases c0
  · rcases hc with ⟨d0, _⟩ | ⟨d0, hc⟩
    · rw [canF_T, d0] at c1; cases c1
    · have kp := hp.2.2.2.2.2
      obtain ⟨g1, g2⟩ := aG_pre h20 d0 hp
      have e := al_mg (K := K) (LT := LT) hLT aG_ok.2 g1 g2 (fun t => keep_rN kp (by decide) t) (fun i => keep_rN kp (by decide) i)
      rcases hr with ⟨m0, rfl, kk⟩ | ⟨L, m0, hr⟩
      · rcases hc with ⟨_, d1, d2⟩ | ⟨L', m1, _⟩
        · exact ⟨d1, Or.inl ⟨keep_fN kk (by decide), d2, fun t ht => (hLT t ht).trans (tlist_keep kk (by decide) (by decide) t).symm⟩⟩
        · rw [e, m0] at m1; cases m1
      · rcases hc with ⟨m1, _⟩ | ⟨L', m1, hc⟩
        · rw [e, m0] at m1; cases m1
        · have hok := alF_some hLb aG_ok m1
          obtain rfl : L = L' := Option.some.inj (m0.symm.trans (e.symm.trans m1))
          rcases hr with ⟨t20, rfl, kk⟩ | ⟨t20, rfl, nt⟩
          · rcases hc with ⟨_, d1, d2⟩ | ⟨z, _⟩
            · exact ⟨d1, Or.inl ⟨keep_fN kk (by decide), d2, fun t ht => (hLT t ht).trans (tlist_keep kk (by decide) (by decide) t).symm⟩⟩
            · omega
          · rcases hc with ⟨z, _⟩ | ⟨_, d1, a, ln, rw, pl, bo, gu, ff, nb, d2⟩
            · omega
            · refine ⟨d1, Or.inr ⟨t20, fN_nI nt.1 (by omega), L, a, ln, rw, pl, bo, gu, hok, ff, nb, d2, fun t ht => ?_⟩⟩
              by_cases z : t = fN K 0
              · rw [z, up_eq]; exact (tlist_new t20 hok nt).symm
              · rw [up_ne z, hLT t (by omega)]
                refine (tlist_old nt (by omega) ?_).symm
                have := (hLb t (by omega)).1
                rw [hLT t (by omega), tlist_len] at this
                exact this
