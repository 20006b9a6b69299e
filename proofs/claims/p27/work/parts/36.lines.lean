/-! WHAT CHANGES, said by lists: rows of numbers, rows of references, int fields, reference fields -/
def chg (S S' : Mem) (AR PR : List Nat) (FI FO : List (Nat × Nat)) : Prop := (∀ a, a ∈ mL S → a ∈ mL S' ∧ mK S' a = mK S a ∧ mN S' a = mN S a) ∧ (∀ a, a ∈ mL S → a ∉ AR → mA S' a = mA S a) ∧ (∀ a, a ∈ mL S → a ∉ PR → mP S' a = mP S a) ∧ (∀ a, a ∈ mL S → ∀ g, (g, a) ∉ FI → mI S' g a = mI S g a) ∧ (∀ a, a ∈ mL S → ∀ g, (g, a) ∉ FO → mO S' g a = mO S g a) ∧ ∀ a, a ∈ mL S → mQ S' a = mQ S a ∧ ∀ g, mJ S' g a = mJ S g a
theorem ch_rfl {S : Mem} {AR PR : List Nat} {FI FO : List (Nat × Nat)} : chg S S AR PR FI FO := ⟨fun _ h => ⟨h, rfl, rfl⟩, fun _ _ _ => rfl, fun _ _ _ => rfl, fun _ _ _ _ => rfl, fun _ _ _ _ => rfl, fun _ _ => ⟨rfl, fun _ => rfl⟩⟩
theorem ch_tr {S S1 S2 : Mem} {AR PR AR' PR' : List Nat} {FI FO FI' FO' : List (Nat × Nat)} (h : chg S S1 AR PR FI FO) (k : chg S1 S2 AR' PR' FI' FO') (s : (∀ a ∈ AR', a ∈ AR) ∧ (∀ a ∈ PR', a ∈ PR) ∧ (∀ q ∈ FI', q ∈ FI) ∧ ∀ q ∈ FO', q ∈ FO) : chg S S2 AR PR FI FO :=
  ⟨fun a ha => ⟨(k.1 a (h.1 a ha).1).1, (k.1 a (h.1 a ha).1).2.1.trans (h.1 a ha).2.1, (k.1 a (h.1 a ha).1).2.2.trans (h.1 a ha).2.2⟩, fun a ha n => (k.2.1 a (h.1 a ha).1 (fun z => n (s.1 a z))).trans (h.2.1 a ha n), fun a ha n => (k.2.2.1 a (h.1 a ha).1 (fun z => n (s.2.1 a z))).trans (h.2.2.1 a ha n), fun a ha g n => (k.2.2.2.1 a (h.1 a ha).1 g (fun z => n (s.2.2.1 _ z))).trans (h.2.2.2.1 a ha g n), fun a ha g n => (k.2.2.2.2.1 a (h.1 a ha).1 g (fun z => n (s.2.2.2 _ z))).trans (h.2.2.2.2.1 a ha g n), fun a ha => ⟨(k.2.2.2.2.2 a (h.1 a ha).1).1.trans (h.2.2.2.2.2 a ha).1, fun g => ((k.2.2.2.2.2 a (h.1 a ha).1).2 g).trans ((h.2.2.2.2.2 a ha).2 g)⟩⟩
theorem is_ch {S S' : Mem} {AR PR : List Nat} {FI FO : List (Nat × Nat)} {a k : Nat} (h : chg S S' AR PR FI FO) (i : is S a k) : is S' a k := ⟨(h.1 a i.1).1, (h.1 a i.1).2.1.trans i.2⟩
theorem isA_ch {S S' : Mem} {AR PR : List Nat} {FI FO : List (Nat × Nat)} {a k n : Nat} (h : chg S S' AR PR FI FO) (i : isA S a k n) : isA S' a k n := ⟨(h.1 a i.1).1, (h.1 a i.1).2.1.trans i.2.1, (h.1 a i.1).2.2.trans i.2.2⟩
theorem mo_ch {S S' : Mem} {AR PR : List Nat} {FI FO : List (Nat × Nat)} {a k g : Nat} {o : Option Nat} (h : chg S S' AR PR FI FO) (i : is S a k) (n : (g, a) ∉ FO) (e : mO S g a = o) : mO S' g a = o := (h.2.2.2.2.1 a i.1 g n).trans e
theorem mi_ch {S S' : Mem} {AR PR : List Nat} {FI FO : List (Nat × Nat)} {a k g : Nat} {o : Int32} (h : chg S S' AR PR FI FO) (i : is S a k) (n : (g, a) ∉ FI) (e : mI S g a = o) : mI S' g a = o := (h.2.2.2.1 a i.1 g n).trans e
theorem ma_ch {S S' : Mem} {AR PR : List Nat} {FI FO : List (Nat × Nat)} {a k n : Nat} (h : chg S S' AR PR FI FO) (i : isA S a k n) (na : a ∉ AR) : mA S' a = mA S a := h.2.1 a i.1 na
theorem mp_ch {S S' : Mem} {AR PR : List Nat} {FI FO : List (Nat × Nat)} {a k n : Nat} (h : chg S S' AR PR FI FO) (i : isA S a k n) (na : a ∉ PR) : mP S' a = mP S a := h.2.2.1 a i.1 na
theorem ch_sA {S S1 S2 : Mem} {AR PR : List Nat} {FI FO : List (Nat × Nat)} {a i : Nat} {v : Int32} (e : S2 = sA S1 a i v) (h : chg S S1 AR PR FI FO) (m : a ∈ AR) : chg S S2 AR PR FI FO :=
  ⟨fun b hb => by rw [e, mL_sA, mK_sA, mN_sA]; exact h.1 b hb, fun b hb n => (funext (fun j => by rw [e, mA_sA]; split; (rename_i z; exact absurd (by rw [z.1]; exact m) n); rfl)).trans (h.2.1 b hb n), fun b hb n => (by rw [e, mP_sA] : mP S2 b = mP S1 b).trans (h.2.2.1 b hb n), fun b hb g' n => (by rw [e, mI_sA] : mI S2 g' b = mI S1 g' b).trans (h.2.2.2.1 b hb g' n), fun b hb g' n => (by rw [e, mO_sA] : mO S2 g' b = mO S1 g' b).trans (h.2.2.2.2.1 b hb g' n), fun b hb => by rw [e, mQ_sA, mJ_sA]; exact h.2.2.2.2.2 b hb⟩
theorem ch_sFill {S S1 S2 : Mem} {AR PR : List Nat} {FI FO : List (Nat × Nat)} {a n : Nat} {v : Int32} (e : S2 = sFill S1 a n v) (h : chg S S1 AR PR FI FO) (m : a ∈ AR) : chg S S2 AR PR FI FO :=
  ⟨fun b hb => by rw [e, mL_sFill, mK_sFill, mN_sFill]; exact h.1 b hb, fun b hb n => (funext (fun j => by rw [e, mA_sFill]; split; (rename_i z; exact absurd (by rw [z.1]; exact m) n); rfl)).trans (h.2.1 b hb n), fun b hb n => (by rw [e, mP_sFill] : mP S2 b = mP S1 b).trans (h.2.2.1 b hb n), fun b hb g' n => (by rw [e, mI_sFill] : mI S2 g' b = mI S1 g' b).trans (h.2.2.2.1 b hb g' n), fun b hb g' n => (by rw [e, mO_sFill] : mO S2 g' b = mO S1 g' b).trans (h.2.2.2.2.1 b hb g' n), fun b hb => by rw [e, mQ_sFill, mJ_sFill]; exact h.2.2.2.2.2 b hb⟩
theorem ch_sP {S S1 S2 : Mem} {AR PR : List Nat} {FI FO : List (Nat × Nat)} {a i : Nat} {v : Option Nat} (e : S2 = sP S1 a i v) (h : chg S S1 AR PR FI FO) (m : a ∈ PR) : chg S S2 AR PR FI FO :=
  ⟨fun b hb => by rw [e, mL_sP, mK_sP, mN_sP]; exact h.1 b hb, fun b hb n => (by rw [e, mA_sP] : mA S2 b = mA S1 b).trans (h.2.1 b hb n), fun b hb n => (funext (fun j => by rw [e, mP_sP]; split; (rename_i z; exact absurd (by rw [z.1]; exact m) n); rfl)).trans (h.2.2.1 b hb n), fun b hb g' n => (by rw [e, mI_sP] : mI S2 g' b = mI S1 g' b).trans (h.2.2.2.1 b hb g' n), fun b hb g' n => (by rw [e, mO_sP] : mO S2 g' b = mO S1 g' b).trans (h.2.2.2.2.1 b hb g' n), fun b hb => by rw [e, mQ_sP, mJ_sP]; exact h.2.2.2.2.2 b hb⟩
theorem ch_sI {S S1 S2 : Mem} {AR PR : List Nat} {FI FO : List (Nat × Nat)} {g a : Nat} {v : Int32} (e : S2 = sI S1 g a v) (h : chg S S1 AR PR FI FO) (m : (g, a) ∈ FI) : chg S S2 AR PR FI FO :=
  ⟨fun b hb => by rw [e, mL_sI, mK_sI, mN_sI]; exact h.1 b hb, fun b hb n => (by rw [e, mA_sI] : mA S2 b = mA S1 b).trans (h.2.1 b hb n), fun b hb n => (by rw [e, mP_sI] : mP S2 b = mP S1 b).trans (h.2.2.1 b hb n), fun b hb g' n => (by rw [e, mI_sI]; exact if_neg (fun z : _ ∧ _ => n (by rw [z.1, z.2]; exact m)) : mI S2 g' b = mI S1 g' b).trans (h.2.2.2.1 b hb g' n), fun b hb g' n => (by rw [e, mO_sI] : mO S2 g' b = mO S1 g' b).trans (h.2.2.2.2.1 b hb g' n), fun b hb => by rw [e, mQ_sI, mJ_sI]; exact h.2.2.2.2.2 b hb⟩
theorem ch_sO {S S1 S2 : Mem} {AR PR : List Nat} {FI FO : List (Nat × Nat)} {g a : Nat} {v : Option Nat} (e : S2 = sO S1 g a v) (h : chg S S1 AR PR FI FO) (m : (g, a) ∈ FO) : chg S S2 AR PR FI FO :=
  ⟨fun b hb => by rw [e, mL_sO, mK_sO, mN_sO]; exact h.1 b hb, fun b hb n => (by rw [e, mA_sO] : mA S2 b = mA S1 b).trans (h.2.1 b hb n), fun b hb n => (by rw [e, mP_sO] : mP S2 b = mP S1 b).trans (h.2.2.1 b hb n), fun b hb g' n => (by rw [e, mI_sO] : mI S2 g' b = mI S1 g' b).trans (h.2.2.2.1 b hb g' n), fun b hb g' n => (by rw [e, mO_sO]; exact if_neg (fun z : _ ∧ _ => n (by rw [z.1, z.2]; exact m)) : mO S2 g' b = mO S1 g' b).trans (h.2.2.2.2.1 b hb g' n), fun b hb => by rw [e, mQ_sO, mJ_sO]; exact h.2.2.2.2.2 b hb⟩
theorem v_valq {p : Program} {l : Launch} {e : Env} {R : Room} {s : State} {m : MethodId} {args : Array Value} {below : List Frame} {meth : Method} {c : Code} {D : va_G} {G : Nat → ClassId} {bs nL : Nat} {Q : State → Prop} {cells slots : Nat} {S : Mem} {pc : Nat} {lv : List (Option Value)} {st : List Value} {x : Option Nat} {b : Nat} (h : x = some b) (kk : V p l e R s m args below meth c D G bs nL Q cells slots S pc lv (.ref b :: st)) : V p l e R s m args below meth c D G bs nL Q cells slots S pc lv (va_rf x :: st) := h ▸ kk
/-! A LINE AS A LIST of numbers, each once -/
def lnV (S : Mem) (ln rw pl : Nat) (L : List Nat) : Prop := is S ln 3 ∧ mO S 192 ln = some rw ∧ mO S 193 ln = some pl ∧ isA S rw 11 20 ∧ isA S pl 11 20 ∧ rw ≠ pl ∧ mI S 194 ln = nI L.length ∧ L.Nodup ∧ (∀ x ∈ L, x < 20) ∧ (∀ (i x : Nat), L[i]? = some x → mA S rw i = nI x ∧ mA S pl x = nI i) ∧ ∀ x, x < 20 → x ∉ L → mA S pl x = -1
theorem lnV_len {S : Mem} {ln rw pl : Nat} {L : List Nat} (h : lnV S ln rw pl L) : L.length ≤ 20 := nodup_lt 20 L h.2.2.2.2.2.2.2.1 h.2.2.2.2.2.2.2.2.1
theorem lnV_ch {S S' : Mem} {AR PR : List Nat} {FI FO : List (Nat × Nat)} {ln rw pl : Nat} {L : List Nat} (c : chg S S' AR PR FI FO) (h : lnV S ln rw pl L) (n1 : rw ∉ AR) (n2 : pl ∉ AR) (n3 : (194, ln) ∉ FI) (n4 : (192, ln) ∉ FO) (n5 : (193, ln) ∉ FO) : lnV S' ln rw pl L := by
  obtain ⟨h1, h2, h3, h4, h5, h6, h7, h8, h9, h10, h11⟩ := h
  refine ⟨is_ch c h1, mo_ch c h1 n4 h2, mo_ch c h1 n5 h3, isA_ch c h4, isA_ch c h5, h6, mi_ch c h1 n3 h7, h8, h9, fun i x hx => ?_, fun x hx hn => ?_⟩
  · rw [ma_ch c h4 n1, ma_ch c h5 n2]; exact h10 i x hx
  · rw [ma_ch c h5 n2]; exact h11 x hx hn
/-- where a number stands in a line -/
def posO (L : List Nat) (t : Nat) : Option Nat := sc (fun i => decide (L[i]? = some t)) L.length 0
theorem posO_some {L : List Nat} {t i : Nat} (h : posO L t = some i) : L[i]? = some t := of_decide_eq_true (sc_some h).2.2.1
theorem posO_none {L : List Nat} {t : Nat} (h : posO L t = none) : t ∉ L := fun z => by
  obtain ⟨i, hi, e⟩ := List.getElem_of_mem z
  have := sc_none h i (Nat.zero_le _) (by omega)
  rw [decide_eq_true (by rw [List.getElem?_eq_getElem hi, e])] at this
  cases this
theorem nodup_inj {L : List Nat} (hn : L.Nodup) {i j x : Nat} (h1 : L[i]? = some x) (h2 : L[j]? = some x) : i = j := by
  have key : ∀ i j, i < j → L[i]? = some x → L[j]? = some x → False := fun i j hij e1 e2 => by
    obtain ⟨hi, ei⟩ := List.getElem?_eq_some_iff.mp e1
    obtain ⟨hj, ej⟩ := List.getElem?_eq_some_iff.mp e2
    exact (List.pairwise_iff_getElem.mp hn) i j hi hj hij (ei.trans ej.symm)
  rcases Nat.lt_trichotomy i j with h | h | h
  · exact (key i j h h1 h2).elim
  · exact h
  · exact (key j i h h2 h1).elim
theorem posO_of {L : List Nat} {t i : Nat} (hn : L.Nodup) (h : L[i]? = some t) : posO L t = some i := by
  cases e : posO L t with
  | none => exact absurd (List.mem_of_getElem? h) (posO_none e)
  | some j =>
    have h2 := posO_some e
    have := nodup_inj hn h2 h
    rw [this]
theorem lnV_pl {S : Mem} {ln rw pl t : Nat} {L : List Nat} (h : lnV S ln rw pl L) (ht : t < 20) : mA S pl t = oI (posO L t) := by
  obtain ⟨h1, h2, h3, h4, h5, h6, h7, h8, h9, h10, h11⟩ := h
  cases e : posO L t with
  | none => exact h11 t ht (posO_none e)
  | some i => exact (h10 i t (posO_some e)).2
theorem lnV_at {S : Mem} {ln rw pl i : Nat} {L : List Nat} (h : lnV S ln rw pl L) (hi : i < L.length) : mA S rw i = nI L[i] := (h.2.2.2.2.2.2.2.2.2.1 i L[i] (List.getElem?_eq_getElem hi)).1
theorem lnV_empty {S S1 S2 : Mem} {ln rw pl : Nat} {L : List Nat} (h : lnV S ln rw pl L) (e1 : S1 = sFill S pl 20 (-1)) (e2 : S2 = sI S1 194 ln (nI 0)) : lnV S2 ln rw pl [] := by
  obtain ⟨h1, h2, h3, h4, h5, h6, h7, h8, h9, h10, h11⟩ := h
  have c := ch_sI e2 (ch_sFill e1 (ch_rfl (S := S) (AR := [pl]) (PR := []) (FI := [(194, ln)]) (FO := [])) (by simp)) (by simp)
  refine ⟨is_ch c h1, mo_ch c h1 (by simp) h2, mo_ch c h1 (by simp) h3, isA_ch c h4, isA_ch c h5, h6, ?_, List.nodup_nil, fun x hx => absurd hx List.not_mem_nil, fun i x hx => by simp at hx, fun x hx _ => ?_⟩
  · rw [e2, mI_sI, if_pos ⟨rfl, rfl⟩]; rfl
  · rw [e2, mA_sI, e1, mA_sFill, if_pos ⟨rfl, hx⟩]
theorem lnV_add {S S1 S2 S3 : Mem} {ln rw pl t : Nat} {L : List Nat} (h : lnV S ln rw pl L) (ht : t < 20) (hn : t ∉ L) (e1 : S1 = sA S rw L.length (nI t)) (e2 : S2 = sA S1 pl t (nI L.length)) (e3 : S3 = sI S2 194 ln (nI (L.length + 1))) : lnV S3 ln rw pl (L ++ [t]) := by
  obtain ⟨h1, h2, h3, h4, h5, h6, h7, h8, h9, h10, h11⟩ := h
  have c := ch_sI e3 (ch_sA e2 (ch_sA e1 (ch_rfl (S := S) (AR := [rw, pl]) (PR := []) (FI := [(194, ln)]) (FO := [])) (by simp)) (by simp)) (by simp)
  have eR : ∀ i, mA S3 rw i = if i = L.length then nI t else mA S rw i := fun i => by
    rw [e3, mA_sI, e2, mA_sA, if_neg (fun z => h6 z.1), e1, mA_sA]; simp
  have eP : ∀ x, mA S3 pl x = if x = t then nI L.length else mA S pl x := fun x => by
    rw [e3, mA_sI, e2, mA_sA, e1, mA_sA, if_neg (c := pl = rw ∧ x = L.length) (fun z => h6 z.1.symm)]; simp
  refine ⟨is_ch c h1, mo_ch c h1 (by simp) h2, mo_ch c h1 (by simp) h3, isA_ch c h4, isA_ch c h5, h6, ?_, ?_, ?_, ?_, ?_⟩
  · rw [e3, mI_sI, if_pos ⟨rfl, rfl⟩, List.length_append]; rfl
  · rw [List.nodup_append]
    refine ⟨h8, by simp, fun a ha b hb => ?_⟩
    rw [List.mem_singleton] at hb
    subst hb
    exact fun z => hn (z ▸ ha)
  · intro x hx
    rcases List.mem_append.mp hx with hx | hx
    · exact h9 x hx
    · rw [List.mem_singleton] at hx; rw [hx]; exact ht
  · intro i x hx
    rw [eR, eP]
    rcases app_get hx with ⟨g1, g2⟩ | ⟨g1, g2⟩
    · rw [if_neg (by omega), if_neg (c := x = t) (fun z => hn (z ▸ List.mem_of_getElem? g2))]; exact h10 i x g2
    · rw [if_pos g1, if_pos g2, g1, g2]; exact ⟨rfl, rfl⟩
  · intro x hx hm
    rw [eP, if_neg (fun z => hm (by rw [z]; simp))]
    exact h11 x hx (fun z => hm (List.mem_append_left _ z))
set_option maxRecDepth 100000 in
set_option maxHeartbeats 4000000 in
theorem ft_X3_at (l : Launch) (h : Nat) (i : Nat) (rw pl : Nat) (L : List Nat) : Ct l yX3_at cX3_at 2 (some .int) 1 0 0 21 (fun S av => av = [.ref h, .int (nI i)] ∧ is S h 3 ∧ (lnV S h rw pl L) ∧ (i < 2 ^ 31)) (fun S _ r S' => ∃ v : Option Nat, r = some (.int (oI v)) ∧ v = L[i]? ∧ (∀ k, v = some k → k < 20) ∧ S' = S) := by
  refine ct_of (by decide) (fun S av h => by obtain ⟨rfl, i_h, hL, hi⟩ := h; exact Nat.le_of_ble_eq_true rfl) ?_
  intro p e s m args below meth c D G bs S av C hr hin hpre
  obtain ⟨rfl, i_h, hL, hi⟩ := hpre
  obtain ⟨_, o_rw, o_pl, i_rw, i_pl, npl, elen, hnd, h20, hat, hno⟩ := id hL
  have hl20 := lnV_len hL
  refine v_iload_n C dX3_at_0 rfl ?_
  refine v_aload_n C dX3_at_1 rfl ?_
  refine g3_24 C i_h dX3_at_2 ?_
  refine v_val elen ?_
  refine v_callSN (As := [_, _]) (n := 2) C (sb_isBelow l _ _) rfl ⟨(by decide +kernel), wd141, wd2, wd142⟩ hy_X9_isBelow rfl ⟨Nat.le_of_ble_eq_true rfl, Nat.le_of_ble_eq_true rfl⟩ (Nat.le_of_ble_eq_true rfl) ⟨Nat.le_of_ble_eq_true rfl, Nat.le_of_ble_eq_true rfl⟩ dX3_at_5 rfl (fun r_5 S2_5 h_5 => ?_)
  obtain ⟨v5, rfl, p_v5, q_v5⟩ := h_5
  obtain rfl := q_v5.symm
  rw [isB_nI hi (by omega)] at p_v5
  refine b_if_eq (tgt := 26) C dX3_at_8 (by decide) (fun c_8 => ?_) (fun c_8 => ?_)
  · skip
    have hge : ¬ i < L.length := of_decide_eq_false (p_v5.symm.trans c_8)
    refine v_iconst (v := -1) C dX3_at_26 (by decide) ?_
    refine v_iret C hr (Nat.le_of_ble_eq_true rfl) (Nat.le_of_ble_eq_true rfl) dX3_at_27 ?_
    exact ⟨none, rfl, (List.getElem?_eq_none (by omega)).symm, (fun k z => by cases z), rfl⟩
  · skip
    have hlt : i < L.length := of_decide_eq_true (p_v5.symm.trans c_8)
    refine v_iload_n C dX3_at_11 rfl ?_
    refine v_bipush (v := nI 20) C dX3_at_12 (by decide) ?_
    refine n_icmp_ge (tgt := 26) C (by omega) (by omega) dX3_at_14 (by decide) (fun c_14 => ?_) (fun c_14 => ?_)
    · skip
      omega
    · skip
      refine v_aload_n C dX3_at_17 rfl ?_
      refine r3_9 (b := rw) C i_h o_rw dX3_at_18 ?_
      refine v_iload_n C dX3_at_21 rfl ?_
      refine v_iald C i_rw (vp_in_nI (by omega) (by omega)) dX3_at_22 ?_
      rw [nI_clamp (by omega)]
      refine v_val (y := nI L[i]) (lnV_at hL hlt) ?_
      refine v_goto (tgt := 27) C dX3_at_23 (by decide) ?_
      refine v_iret C hr (Nat.le_of_ble_eq_true rfl) (Nat.le_of_ble_eq_true rfl) dX3_at_27 ?_
      exact ⟨some _, rfl, (List.getElem?_eq_getElem hlt).symm, (fun k z => by cases z; exact h20 _ (List.getElem_mem hlt)), rfl⟩
set_option maxRecDepth 100000 in
set_option maxHeartbeats 4000000 in
theorem ft_X3_placeOf (l : Launch) (h : Nat) (t : Nat) (rw pl : Nat) (L : List Nat) : Ct l yX3_placeOf cX3_placeOf 2 (some .int) 1 0 0 21 (fun S av => av = [.ref h, .int (nI t)] ∧ is S h 3 ∧ (lnV S h rw pl L) ∧ (t < 20)) (fun S _ r S' => ∃ v : Option Nat, r = some (.int (oI v)) ∧ v = posO L t ∧ (∀ k, v = some k → k < 20) ∧ S' = S) := by
  refine ct_of (by decide) (fun S av h => by obtain ⟨rfl, i_h, hL, ht⟩ := h; exact Nat.le_of_ble_eq_true rfl) ?_
  intro p e s m args below meth c D G bs S av C hr hin hpre
  obtain ⟨rfl, i_h, hL, ht⟩ := hpre
  obtain ⟨_, o_rw, o_pl, i_rw, i_pl, npl, elen, hnd, h20, hat, hno⟩ := id hL
  have hl20 := lnV_len hL
  refine v_iload_n C dX3_placeOf_0 rfl ?_
  refine v_bipush (v := nI 20) C dX3_placeOf_1 (by decide) ?_
  refine v_callSN (As := [_, _]) (n := 2) C (sb_isBelow l _ _) rfl ⟨(by decide +kernel), wd141, wd2, wd142⟩ hy_X9_isBelow rfl ⟨Nat.le_of_ble_eq_true rfl, Nat.le_of_ble_eq_true rfl⟩ (Nat.le_of_ble_eq_true rfl) ⟨Nat.le_of_ble_eq_true rfl, Nat.le_of_ble_eq_true rfl⟩ dX3_placeOf_3 rfl (fun r_3 S2_3 h_3 => ?_)
  obtain ⟨v3, rfl, p_v3, q_v3⟩ := h_3
  obtain rfl := q_v3.symm
  rw [show (nI 20 : Int32) = nI 20 from rfl, isB_nI (by omega) (by decide)] at p_v3
  refine b_if_eq (tgt := 18) C dX3_placeOf_6 (by decide) (fun c_6 => ?_) (fun c_6 => ?_)
  · skip
    exact absurd ht (of_decide_eq_false (p_v3.symm.trans c_6))
  · skip
    refine v_aload_n C dX3_placeOf_9 rfl ?_
    refine r3_15 (b := pl) C i_h o_pl dX3_placeOf_10 ?_
    refine v_iload_n C dX3_placeOf_13 rfl ?_
    refine v_iald C i_pl (vp_in_nI (by omega) (by omega)) dX3_placeOf_14 ?_
    rw [nI_clamp (by omega)]
    refine v_val (y := oI (posO L t)) (lnV_pl hL ht) ?_
    refine v_goto (tgt := 19) C dX3_placeOf_15 (by decide) ?_
    refine v_iret C hr (Nat.le_of_ble_eq_true rfl) (Nat.le_of_ble_eq_true rfl) dX3_placeOf_19 ?_
    exact ⟨_, rfl, (rfl), (fun k z => by have := (List.getElem?_eq_some_iff.mp (posO_some z)).1; omega), rfl⟩
set_option maxRecDepth 100000 in
set_option maxHeartbeats 4000000 in
theorem ft_X3_empty (l : Launch) (M : Nat → Prop) (h : Nat) (rw pl : Nat) (L : List Nat) : Ct l yX3_empty cX3_empty 1 none 1 0 0 23 (fun S av => av = [.ref h] ∧ INV M [] S ∧ is S h 3 ∧ (lnV S h rw pl L)) (fun S _ r S' => r = none ∧ INV M [] S' ∧ chg S S' [pl] [] [(194, h)] [] ∧ (lnV S' h rw pl [])) := by
  refine ct_of (by decide) (fun S av h => by obtain ⟨rfl, iv, i_h, hL⟩ := h; exact Nat.le_of_ble_eq_true rfl) ?_
  intro p e s m args below meth c D G bs S av C hr hin hpre
  obtain ⟨rfl, iv, i_h, hL⟩ := hpre
  have ch : chg S S [pl] [] [(194, h)] [] := ch_rfl
  obtain ⟨_, o_rw, o_pl, i_rw, i_pl, npl, elen, hnd, h20, hat, hno⟩ := id hL
  have hl20 := lnV_len hL
  refine v_aload_n C dX3_empty_0 rfl ?_
  refine r3_15 (b := pl) C i_h o_pl dX3_empty_1 ?_
  refine v_iconst (v := -1) C dX3_empty_4 (by decide) ?_
  refine v_callS (As := [_, _]) (n := 2) C (ct_J7_fill_53178 l _ _ _) rfl ⟨wd54, wd55, wd56, wd57⟩ hy_J7_fill_53178 rfl ⟨Nat.le_of_ble_eq_true rfl, Nat.le_of_ble_eq_true rfl⟩ (Nat.le_of_ble_eq_true rfl) ⟨Nat.le_of_ble_eq_true rfl, Nat.le_of_ble_eq_true rfl⟩ dX3_empty_5 ⟨rfl, i_pl, by decide⟩ (fun r_5 S2_5 h_5 => ?_)
  obtain ⟨rfl, e_5⟩ := h_5
  have x_5 := x_sFill e_5
  have iv := inv_sFill e_5 iv
  have ch := ch_sFill e_5 ch (by simp)
  have o_rw := mo_sFilly e_5 o_rw
  have o_pl := mo_sFilly e_5 o_pl
  have i_h := is_ext x_5 i_h
  have i_rw := isA_ext x_5 i_rw
  have i_pl := isA_ext x_5 i_pl
  refine v_aload_n C dX3_empty_8 rfl ?_
  refine v_iconst (v := nI 0) C dX3_empty_9 (by decide) ?_
  refine p3_24 C i_h dX3_empty_10 ?_
  refine V.gen (fun S2_10 e_10 => ?_)
  have x_10 := x_sI e_10
  have iv := inv_sIn e_10 iv (n := 0) rfl ⟨fun _ => by decide, fun _ => by decide⟩
  have ch := ch_sI e_10 ch (by simp)
  have o_rw := mo_sIy e_10 o_rw
  have o_pl := mo_sIy e_10 o_pl
  have i_h := is_ext x_10 i_h
  have i_rw := isA_ext x_10 i_rw
  have i_pl := isA_ext x_10 i_pl
  refine v_vret C hr (Nat.le_of_ble_eq_true rfl) (Nat.le_of_ble_eq_true rfl) dX3_empty_13 ?_
  exact ⟨rfl, iv, ch, (lnV_empty hL e_5 e_10)⟩
set_option maxRecDepth 100000 in
set_option maxHeartbeats 4000000 in
theorem ft_X3_add (l : Launch) (M : Nat → Prop) (h : Nat) (t : Nat) (rw pl : Nat) (L : List Nat) : Ct l yX3_add cX3_add 2 none 1 0 0 21 (fun S av => av = [.ref h, .int (nI t)] ∧ INV M [] S ∧ is S h 3 ∧ (lnV S h rw pl L) ∧ (t < 20) ∧ (t ∉ L)) (fun S _ r S' => r = none ∧ INV M [] S' ∧ chg S S' [rw, pl] [] [(194, h)] [] ∧ (lnV S' h rw pl (L ++ [t]))) := by
  refine ct_of (by decide) (fun S av h => by obtain ⟨rfl, iv, i_h, hL, ht, hn⟩ := h; exact Nat.le_of_ble_eq_true rfl) ?_
  intro p e s m args below meth c D G bs S av C hr hin hpre
  obtain ⟨rfl, iv, i_h, hL, ht, hn⟩ := hpre
  have ch : chg S S [rw, pl] [] [(194, h)] [] := ch_rfl
  obtain ⟨_, o_rw, o_pl, i_rw, i_pl, npl, elen, hnd, h20, hat, hno⟩ := id hL
  have hl20 := lnV_len hL
  have hl19 : L.length < 20 := by
    have := nodup_lt 20 (L ++ [t]) (by rw [List.nodup_append]; exact ⟨hnd, by simp, fun a ha b hb => by rw [List.mem_singleton] at hb; subst hb; exact fun z => hn (z ▸ ha)⟩) (fun x hx => by rcases List.mem_append.mp hx with hx | hx; exact h20 x hx; rw [List.mem_singleton] at hx; omega)
    rw [List.length_append] at this
    simp only [List.length_cons, List.length_nil] at this
    omega
  refine v_iload_n C dX3_add_0 rfl ?_
  refine v_bipush (v := nI 20) C dX3_add_1 (by decide) ?_
  refine v_callSN (As := [_, _]) (n := 2) C (sb_isBelow l _ _) rfl ⟨(by decide +kernel), wd141, wd2, wd142⟩ hy_X9_isBelow rfl ⟨Nat.le_of_ble_eq_true rfl, Nat.le_of_ble_eq_true rfl⟩ (Nat.le_of_ble_eq_true rfl) ⟨Nat.le_of_ble_eq_true rfl, Nat.le_of_ble_eq_true rfl⟩ dX3_add_3 rfl (fun r_3 S2_3 h_3 => ?_)
  obtain ⟨v3, rfl, p_v3, q_v3⟩ := h_3
  obtain rfl := q_v3.symm
  rw [isB_nI (by omega) (by decide)] at p_v3
  refine b_if_eq (tgt := 51) C dX3_add_6 (by decide) (fun c_6 => ?_) (fun c_6 => ?_)
  · skip
    exact absurd ht (of_decide_eq_false (p_v3.symm.trans c_6))
  · skip
    refine v_aload_n C dX3_add_9 rfl ?_
    refine g3_24 C i_h dX3_add_10 ?_
    refine v_val elen ?_
    refine v_bipush (v := nI 20) C dX3_add_13 (by decide) ?_
    refine v_callSN (As := [_, _]) (n := 2) C (sb_isBelow l _ _) rfl ⟨(by decide +kernel), wd141, wd2, wd142⟩ hy_X9_isBelow rfl ⟨Nat.le_of_ble_eq_true rfl, Nat.le_of_ble_eq_true rfl⟩ (Nat.le_of_ble_eq_true rfl) ⟨Nat.le_of_ble_eq_true rfl, Nat.le_of_ble_eq_true rfl⟩ dX3_add_15 rfl (fun r_15 S4_15 h_15 => ?_)
    obtain ⟨v15, rfl, p_v15, q_v15⟩ := h_15
    obtain rfl := q_v15.symm
    rw [isB_nI (by omega) (by decide)] at p_v15
    refine b_if_eq (tgt := 51) C dX3_add_18 (by decide) (fun c_18 => ?_) (fun c_18 => ?_)
    · skip
      exact absurd hl19 (of_decide_eq_false (p_v15.symm.trans c_18))
    · skip
      refine v_aload_n C dX3_add_21 rfl ?_
      refine r3_9 (b := rw) C i_h o_rw dX3_add_22 ?_
      refine v_aload_n C dX3_add_25 rfl ?_
      refine g3_24 C i_h dX3_add_26 ?_
      refine v_val elen ?_
      refine v_iload_n C dX3_add_29 rfl ?_
      refine v_iast C i_rw (vp_in_nI (by omega) (by omega)) dX3_add_30 ?_
      rw [nI_clamp (by omega)]
      refine V.gen (fun S6_30 e_30 => ?_)
      have x_30 := x_sA e_30
      have iv := inv_sA e_30 iv
      have ch := ch_sA e_30 ch (by simp)
      have o_rw := mo_sAy e_30 o_rw
      have o_pl := mo_sAy e_30 o_pl
      have i_h := is_ext x_30 i_h
      have i_rw := isA_ext x_30 i_rw
      have i_pl := isA_ext x_30 i_pl
      refine v_aload_n C dX3_add_31 rfl ?_
      refine r3_15 (b := pl) C i_h o_pl dX3_add_32 ?_
      refine v_iload_n C dX3_add_35 rfl ?_
      refine v_aload_n C dX3_add_36 rfl ?_
      refine g3_24 C i_h dX3_add_37 ?_
      refine v_val ((mi_sAy e_30 elen)) ?_
      refine v_iast C i_pl (vp_in_nI (by omega) (by omega)) dX3_add_40 ?_
      rw [nI_clamp (by omega)]
      refine V.gen (fun S6_40 e_40 => ?_)
      have x_40 := x_sA e_40
      have iv := inv_sA e_40 iv
      have ch := ch_sA e_40 ch (by simp)
      have o_rw := mo_sAy e_40 o_rw
      have o_pl := mo_sAy e_40 o_pl
      have i_h := is_ext x_40 i_h
      have i_rw := isA_ext x_40 i_rw
      have i_pl := isA_ext x_40 i_pl
      refine v_aload_n C dX3_add_41 rfl ?_
      refine v_dup C dX3_add_42 rfl ?_
      refine g3_24 C i_h dX3_add_43 ?_
      refine v_val (mi_sAy e_40 (mi_sAy e_30 elen)) ?_
      refine v_iconst (v := nI 1) C dX3_add_46 (by decide) ?_
      refine n_iadd C dX3_add_47 ?_
      refine p3_24 C i_h dX3_add_48 ?_
      refine V.gen (fun S6_48 e_48 => ?_)
      have x_48 := x_sI e_48
      have iv := inv_sIn e_48 iv (n := L.length + 1) rfl ⟨fun _ => by omega, fun z => by cases z⟩
      have ch := ch_sI e_48 ch (by simp)
      have o_rw := mo_sIy e_48 o_rw
      have o_pl := mo_sIy e_48 o_pl
      have i_h := is_ext x_48 i_h
      have i_rw := isA_ext x_48 i_rw
      have i_pl := isA_ext x_48 i_pl
      refine v_vret C hr (Nat.le_of_ble_eq_true rfl) (Nat.le_of_ble_eq_true rfl) dX3_add_51 ?_
      exact ⟨rfl, iv, ch, (lnV_add hL ht hn e_30 e_40 e_48)⟩
theorem add_new {L N : List Nat} {i t : Nat} (hd : (L ++ N).Nodup) (hi : i < N.length) (ht : t = N[i]) : t ∉ L ++ N.take i := fun z => by
  rw [List.nodup_append] at hd
  obtain ⟨_, h2, h3⟩ := hd
  have hm : t ∈ N := ht ▸ List.getElem_mem hi
  rcases List.mem_append.mp z with z | z
  · exact h3 t z t hm rfl
  · obtain ⟨j, hj, e⟩ := List.getElem_of_mem z
    rw [List.length_take] at hj
    rw [List.getElem_take] at e
    have := nodup_inj h2 (List.getElem?_eq_some_iff.mpr ⟨by omega, e⟩) (List.getElem?_eq_some_iff.mpr ⟨hi, ht.symm⟩)
    omega
set_option maxRecDepth 100000 in
set_option maxHeartbeats 4000000 in
theorem ft_X3_addAll (l : Launch) (M : Nat → Prop) (h : Nat) (ot : Nat) (rw pl : Nat) (L : List Nat) (rw2 pl2 : Nat) (N : List Nat) : Ct l yX3_addAll cX3_addAll 3 none 2 0 0 42 (fun S av => av = [.ref h, .ref ot] ∧ INV M [] S ∧ is S h 3 ∧ is S ot 3 ∧ (lnV S h rw pl L) ∧ (lnV S ot rw2 pl2 N) ∧ ((L ++ N).Nodup ∧ h ≠ ot ∧ rw ≠ rw2 ∧ rw ≠ pl2 ∧ pl ≠ rw2 ∧ pl ≠ pl2)) (fun S _ r S' => r = none ∧ INV M [] S' ∧ chg S S' [rw, pl] [] [(194, h)] [] ∧ (lnV S' h rw pl (L ++ N))) := by
  refine ct_of (by decide) (fun S av h => by obtain ⟨rfl, iv, i_h, i_ot, hL, hM, hd⟩ := h; exact Nat.le_of_ble_eq_true rfl) ?_
  intro p e s m args below meth c D G bs S av C hr hin hpre
  obtain ⟨rfl, iv, i_h, i_ot, hL, hM, hd⟩ := hpre
  have ch : chg S S [rw, pl] [] [(194, h)] [] := ch_rfl
  obtain ⟨hdn, d1, d2, d3, d4, d5⟩ := hd
  have hN20 := lnV_len hM
  refine v_iconst (v := nI 0) C dX3_addAll_0 (by decide) ?_
  refine v_istore_n C dX3_addAll_1 (by decide) (by first | rfl | exact cat_ok _ | simp [okS, cat_rf]) ?_
  refine V.lits (lv' := [_, _, _]) rfl ?_
  refine v_loop (fun (tt : (Nat)) lv0 => (lv0.set 2 (some (.int (nI tt))))) (fun (S1 : Mem) (tt : (Nat)) => INV M [] S1 ∧ chg S S1 [rw, pl] [] [(194, h)] [] ∧ is S1 h 3 ∧ is S1 ot 3 ∧ (tt ≤ N.length) ∧ (lnV S1 h rw pl (L ++ N.take tt)) ∧ (lnV S1 ot rw2 pl2 N)) (fun (S1 : Mem) (tt : (Nat)) => N.length - tt) (t := (0)) rfl ⟨iv, ch, i_h, i_ot, (Nat.zero_le _), (by rw [List.take_zero, List.append_nil]; exact hL), hM⟩ ?_
  intro L2 tt h_2 ih_2
  revert h_2 ih_2
  revert tt
  intro i h_2 ih_2
  obtain ⟨iv, ch, i_h, i_ot, hi, hL1, hM1⟩ := h_2
  try dsimp only at *
  refine v_iload_n C dX3_addAll_2 rfl ?_
  refine v_aload_n C dX3_addAll_3 rfl ?_
  refine g3_24 C i_ot dX3_addAll_4 ?_
  refine v_val (hM1.2.2.2.2.2.2.1) ?_
  refine n_icmp_ge (tgt := 25) C (by omega) (by omega) dX3_addAll_7 (by decide) (fun c_7 => ?_) (fun c_7 => ?_)
  · skip
    refine v_vret C hr (Nat.le_of_ble_eq_true rfl) (Nat.le_of_ble_eq_true rfl) dX3_addAll_25 ?_
    exact ⟨rfl, iv, ch, ((by have z : N.take i = N := List.take_of_length_le (by omega); rw [z] at hL1; exact hL1))⟩
  · skip
    refine v_aload_n C dX3_addAll_10 rfl ?_
    refine v_aload_n C dX3_addAll_11 rfl ?_
    refine v_iload_n C dX3_addAll_12 rfl ?_
    refine v_callV (As := [_]) (n := 1) C (ft_X3_at l _ _ _ _ _) rfl i_ot (by decide) rfl ⟨wd228, wd187, wd188, wd45, wd189⟩ ⟨rfl, hy_X3_at⟩ rfl ⟨Nat.le_of_ble_eq_true rfl, Nat.le_of_ble_eq_true rfl⟩ (Nat.le_of_ble_eq_true rfl) ⟨Nat.le_of_ble_eq_true rfl, Nat.le_of_ble_eq_true rfl⟩ dX3_addAll_13 ⟨rfl, i_ot, hM1, (by omega)⟩ (fun r_13 S2_13 h_13 => ?_)
    obtain ⟨v13, rfl, p_v13, b_v13, q_v13⟩ := h_13
    obtain rfl := q_v13.symm
    rw [List.getElem?_eq_getElem c_7] at p_v13
    obtain ⟨t13, ht13⟩ : ∃ t, t = N[i] := ⟨_, rfl⟩
    rw [← ht13] at p_v13
    obtain rfl : v13 = some t13 := p_v13
    have bt := b_v13 t13 rfl
    refine v_callV (As := [_]) (n := 1) C (ft_X3_add l M _ _ _ _ _) rfl i_h (by decide) rfl ⟨wd229, wd167, wd168, wd45, wd169⟩ ⟨rfl, hy_X3_add⟩ rfl ⟨Nat.le_of_ble_eq_true rfl, Nat.le_of_ble_eq_true rfl⟩ (Nat.le_of_ble_eq_true rfl) ⟨Nat.le_of_ble_eq_true rfl, Nat.le_of_ble_eq_true rfl⟩ dX3_addAll_16 ⟨rfl, iv, i_h, hL1, bt, (add_new hdn c_7 ht13)⟩ (fun r_16 S2_16 h_16 => ?_)
    obtain ⟨rfl, iv', ch_16, r_v16⟩ := h_16
    have hM2 : lnV S2_16 ot rw2 pl2 N := lnV_ch ch_16 hM1 (by simp; exact ⟨Ne.symm d2, Ne.symm d4⟩) (by simp; exact ⟨Ne.symm d3, Ne.symm d5⟩) (by simp; exact Ne.symm d1) (by simp) (by simp)
    rw [ht13] at r_v16
    have iv := iv'
    clear iv'
    have ch := ch_tr ch ch_16 (by simp)
    have i_h := is_ch ch_16 i_h
    have i_ot := is_ch ch_16 i_ot
    refine v_iinc C dX3_addAll_19 rfl (nI_inc _) (by decide) (by first | rfl | exact cat_ok _ | simp [okS, cat_rf]) ?_
    refine v_goto (tgt := 2) C dX3_addAll_22 (by decide) ?_
    refine V.lits (lv' := [_, _, _]) rfl ?_
    exact ih_2 _ ((i + 1)) (by first | omega | (dsimp only; omega)) ⟨iv, ch, i_h, i_ot, (by omega), (by rw [List.take_add_one, List.getElem?_eq_getElem c_7, ← List.append_assoc]; exact r_v16), hM2⟩
