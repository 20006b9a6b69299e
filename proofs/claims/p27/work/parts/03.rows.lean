/-! THE JUDGEMENT V over the memory, and its rows -/
def nests : List (String × Nat × MethodName) := [(RX9, 9, yX1_init), (RX1, 25, yX4_init), (RX1, 32, yX0_init), (RX6, 11, yX7_init), (RX1, 37, yX9_isBelow), (RX3, 28, yX9_isBelow), (RX4, 44, yX9_isBelow), (RX1, 79, yX8_init), (RX2, 61, yX9_isBelow), (RX8, 27, yX9_isBelow), (RX5, 41, yX9_isBelow), (RX7, 19, yX9_isBelow)]
def nestW (q : String × Nat × MethodName) : Cond := .methodLinkNest q.1 q.2.1 q.2.2 "PuppetCast"
def aoW : List String := [RX2, RX3, RX5, RX8]
def tysG (G : Nat → ClassId) : List (ClassId × FieldType) := [(G 11, .int), (G 12, .long), (G 13, .boolean), (G 14, .object RX2), (G 15, .object RX3), (G 16, .object RX5), (G 17, .object RX8)]
def hW (D : va_G) (G : Nat → ClassId) (bs : Nat) (S : Mem) (H : Heap) : Prop := va_P D vwCl (va_pl (mL S) (cellF G S)) H ∧ va_D (fun q => bs ≤ q) (va_pl (mL S) (cellF G S))
def tW (D : va_G) (G : Nat → ClassId) (U : State) : Prop := va_K D vwCl (tysG G) U ∧ (∀ q ∈ nests, va_Nw (nestW q) U) ∧ ∀ C ∈ aoW, va_AO C U
def wu (D : va_G) (G : Nat → ClassId) (bs : Nat) (S : Mem) (U : State) : Prop := hW D G bs S U.heap ∧ tW D G U ∧ bs ≤ U.heap.size
theorem tW.moved {D : va_G} {G : Nat → ClassId} {s U : State} (hW : s.WarmedH U.vm) (h : tW D G s) : tW D G U :=
  ⟨va_K.moved hW.alike h.1, fun q hq => va_Nw.warmM hW (h.2.1 q hq), fun C hC => va_AO.moved hW.alike (h.2.2 C hC)⟩
theorem tW.calling {D : va_G} {G : Nat → ClassId} {U : State} {g : JFrame} {mk : MethodId} {a : Array Value} (h : tW D G U) : tW D G (U.calling g mk a) :=
  ⟨va_K.moved (u := U) (U := U.calling g mk a) (Vm.Alike.refl U.vm) h.1, fun q hq => va_Nw.same (u := U) (U := U.calling g mk a) rfl rfl (h.2.1 q hq), fun C hC => va_AO.moved (u := U) (U := U.calling g mk a) (Vm.Alike.refl U.vm) (h.2.2 C hC)⟩
theorem wu.blind {D : va_G} {G : Nat → ClassId} {bs : Nat} {S : Mem} (av : List Value) : FrameBlind (va_Pc av (wu D G bs S)) := fun _ _ _ _ h => ⟨h.1, h.2.1, h.2.2.1.calling, h.2.2.2⟩
/-- a contract's end: the answer, the memory behind it; only what is from bs on may have changed -/
def QcT (D : va_G) (G : Nat → ClassId) (bs : Nat) (S : Mem) (av : List Value) (Post : Mem → List Value → Option Value → Mem → Prop) : Array Value → State → Outcome → State → Prop :=
  fun _ st oc t => (∃ (r : Option Value) (S' : Mem), oc = .returned r ∧ Post S av r S' ∧ hW D G bs S' t.heap) ∧ va_F (fun q => bs ≤ q) st t
/-- a contract: in any memory that meets Pre -/
def Ct (l : Launch) (y : MethodName) (cc : ByteArray) (maxL : Nat) (ret : Option FieldType) (f mc ms lo : Nat) (Pre : Mem → List Value → Prop) (Post : Mem → List Value → Option Value → Mem → Prop) : Prop :=
  ∀ (D : va_G) (G : Nat → ClassId) (bs : Nat) (S : Mem) (av : List Value), Pre S av → Met l y (.code y cc maxL ret :: wsL_law) ({ frames := f, cells := mc, slots := ms, locals := lo } : Room) (va_Pc av (wu D G bs S)) (QcT D G bs S av Post) mc ms (fun q => bs ≤ q)
def lvl : Nat → List (Option Value) → List (Nat × Value)
  | _, [] => []
  | i, none :: r => lvl (i + 1) r
  | i, some v :: r => (i, v) :: lvl (i + 1) r
theorem lvl_mem : ∀ (lv : List (Option Value)) (i j : Nat) (v : Value), lv[j]? = some (some v) → (i + j, v) ∈ lvl i lv := by
  intro lv
  induction lv with
  | nil => intro i j v h; simp at h
  | cons o r ih =>
    intro i j v h
    cases j with
    | zero => simp at h; subst h; simp [lvl]
    | succ j =>
      simp at h
      have h2 := ih (i + 1) j v h
      rw [show i + 1 + j = i + (j + 1) by omega] at h2
      cases o with
      | none => exact h2
      | some w => exact List.mem_cons_of_mem _ h2
theorem lvl_mem0 {lv : List (Option Value)} {j : Nat} {v : Value} (h : lv[j]? = some (some v)) : (j, v) ∈ lvl 0 lv := by
  have := lvl_mem lv 0 j v h
  rwa [Nat.zero_add] at this
theorem lvl_of : ∀ (lv : List (Option Value)) (i : Nat) (q : Nat × Value), q ∈ lvl i lv → ∃ j, q.1 = i + j ∧ lv[j]? = some (some q.2) := by
  intro lv
  induction lv with
  | nil => intro i q h; simp [lvl] at h
  | cons o r ih =>
    intro i q h
    cases o with
    | none =>
      obtain ⟨j, e, h2⟩ := ih (i + 1) q h
      exact ⟨j + 1, by omega, by simpa using h2⟩
    | some w =>
      rcases List.mem_cons.mp h with e | h
      · subst e; exact ⟨0, rfl, rfl⟩
      · obtain ⟨j, e, h2⟩ := ih (i + 1) q h
        exact ⟨j + 1, by omega, by simpa using h2⟩
theorem lvl_get {ls : Array Slot} {nL : Nat} {lv : List (Option Value)} (h : lv_has ls nL (lvl 0 lv)) {j : Nat} {v : Value} (hl : lv[j]? = some (some v)) : ls[j]? = some (.val v) := h.2.2 (j, v) (lvl_mem0 hl)
/-- what stands ahead of a place is no long -/
def okS (lv : List (Option Value)) : Nat → Bool
  | 0 => true
  | k + 1 => match lv[k]? with
    | some (some v) => v.category == 1
    | _ => true
theorem okS_of {lv : List (Option Value)} {i j : Nat} {v : Value} (h : okS lv i = true) (hj : lv[j]? = some (some v)) (e : j + 1 = i) : v.category = 1 := by
  subst e
  simpa [okS, hj] using h
theorem lvl_put {ls : Array Slot} {nL i : Nat} {lv : List (Option Value)} {v : Value} (h : lv_has ls nL ((i, v) :: (lvl 0 lv).filter (fun q => !(q.1 == i) && !(q.1 + 1 == i && q.2.category == 2)))) (ho : okS lv i = true) : lv_has ls nL (lvl 0 (lv.set i (some v))) := by
  refine ⟨h.1, h.2.1, fun q hq => ?_⟩
  obtain ⟨j, e, hj⟩ := lvl_of _ _ _ hq
  obtain ⟨q1, q2⟩ := q
  simp only [Nat.zero_add] at e
  subst e
  by_cases hji : q1 = i
  · subst hji
    have hlt : q1 < lv.length := by
      have := (List.getElem?_eq_some_iff.mp hj).1
      simpa using this
    rw [List.getElem?_set_self hlt] at hj
    cases hj
    exact h.2.2 _ List.mem_cons_self
  · rw [List.getElem?_set_ne (Ne.symm hji)] at hj
    refine h.2.2 (q1, q2) (List.mem_cons_of_mem _ (List.mem_filter.mpr ⟨lvl_mem0 hj, ?_⟩))
    simp only [Bool.and_eq_true, Bool.not_eq_true', beq_eq_false_iff_ne, ne_eq, Bool.and_eq_false_imp, beq_iff_eq]
    refine ⟨hji, fun z => ?_⟩
    rw [okS_of ho hj z]
    decide
theorem lvl_putL {ls : Array Slot} {nL i : Nat} {lv : List (Option Value)} {v : Value} (h : lv_has ls nL ((i, v) :: (lvl 0 lv).filter (fun q => !(q.1 == i) && (!(q.1 == i + 1) && !(q.1 + 1 == i && q.2.category == 2))))) (ho : okS lv i = true) : lv_has ls nL (lvl 0 ((lv.set i (some v)).set (i + 1) none)) := by
  refine ⟨h.1, h.2.1, fun q hq => ?_⟩
  obtain ⟨j, e, hj⟩ := lvl_of _ _ _ hq
  obtain ⟨q1, q2⟩ := q
  simp only [Nat.zero_add] at e
  subst e
  by_cases hj1 : q1 = i + 1
  · subst hj1
    have hlt : i + 1 < (lv.set i (some v)).length := by
      have := (List.getElem?_eq_some_iff.mp hj).1
      simpa using this
    rw [List.getElem?_set_self hlt] at hj
    cases hj
  · rw [List.getElem?_set_ne (Ne.symm hj1)] at hj
    by_cases hji : q1 = i
    · subst hji
      have hlt : q1 < lv.length := by
        have := (List.getElem?_eq_some_iff.mp hj).1
        simpa using this
      rw [List.getElem?_set_self hlt] at hj
      cases hj
      exact h.2.2 _ List.mem_cons_self
    · rw [List.getElem?_set_ne (Ne.symm hji)] at hj
      refine h.2.2 (q1, q2) (List.mem_cons_of_mem _ (List.mem_filter.mpr ⟨lvl_mem0 hj, ?_⟩))
      simp only [Bool.and_eq_true, Bool.not_eq_true', beq_eq_false_iff_ne, ne_eq, Bool.and_eq_false_imp, beq_iff_eq]
      refine ⟨hji, hj1, fun z => ?_⟩
      rw [okS_of ho hj z]
      decide
/-- the locals at a method's entry -/
def argl : Nat → List Value → List (Option Value)
  | n, [] => List.replicate n none
  | n, v :: r => some v :: (if v.category = 2 then none :: argl (n - 2) r else argl (n - 1) r)
theorem lvl_rep (n i : Nat) : lvl i (List.replicate n none) = [] := by
  induction n generalizing i with
  | zero => rfl
  | succ n ih => simp only [List.replicate_succ, lvl, ih]
theorem lvl_argl : ∀ (vs : List Value) (n i : Nat), lvl i (argl n vs) = lv_args i vs := by
  intro vs
  induction vs with
  | nil => intro n i; exact lvl_rep n i
  | cons v r ih =>
    intro n i
    simp only [argl, lvl, lv_args]
    by_cases h : v.category = 2
    · simp only [if_pos h, lvl, ih]
    · simp only [if_neg h, ih]
theorem cat_rf (o : Option Nat) : (va_rf o).category = 1 := by cases o <;> rfl
/-- a method's frame at its launch: what all rows ask -/
def Cx (p : Program) (s : State) (m : MethodId) (args : Array Value) (meth : Method) (c : Code) (D : va_G) (G : Nat → ClassId) (bs : Nat) (cc : ByteArray) (nL : Nat) (own : String) : Prop :=
  p.tables.exec = Jvm.exec ∧ c.code = cc ∧ c.maxLocals = nL ∧ s.vm.findClass own = some m.cls ∧ (∀ w ∈ wsL_law, w.before args s = true) ∧ tW D G s ∧ bs ≤ s.heap.size ∧ meth.locks = false
def V (p : Program) (l : Launch) (e : Env) (R : Room) (s : State) (m : MethodId) (args : Array Value) (below : List Frame) (meth : Method) (c : Code) (D : va_G) (G : Nat → ClassId) (bs nL : Nat) (Q : State → Prop) (cells slots : Nat) (S : Mem) (pc : Nat) (lv : List (Option Value)) (st : List Value) : Prop :=
  ∀ (H : Heap) (locs : List Loc) (ls : Array Slot), va_P D vwCl (va_pl (mL S) (cellF G S)) H → va_D (fun q => bs ≤ q) (va_pl (mL S) (cellF G S)) → va_S (fun q => bs ≤ q) s.heap H locs → lv_has ls nL (lvl 0 lv) → W p l e R s m args below meth c H locs cells slots Q (F0 m pc ls st)
/-- an address of a kind -/
def is (S : Mem) (a k : Nat) : Prop := a ∈ mL S ∧ mK S a = k
/-- an array of a kind and a length -/
def isA (S : Mem) (a k n : Nat) : Prop := a ∈ mL S ∧ mK S a = k ∧ mN S a = n
section ROWS
variable {p : Program} {l : Launch} {e : Env} {R : Room} {s : State} {m : MethodId} {args : Array Value} {below : List Frame} {meth : Method} {c : Code} {D : va_G} {G : Nat → ClassId} {bs nL cells slots pc : Nat} {cc : ByteArray} {own : String} {Q : State → Prop} {S : Mem} {lv : List (Option Value)} {st : List Value}

theorem v_iconst (C : Cx p s m args meth c D G bs cc nL own) {n : Int} {v : Int32} (hd : decode cc pc = .ok (.iconst n, 1)) (hv : Int32.ofInt n = v) (k : V p l e R s m args below meth c D G bs nL Q cells slots S (pc + 1) lv (.int v :: st)) : V p l e R s m args below meth c D G bs nL Q cells slots S (pc) lv (st) :=
  fun H locs ls h1 h2 h3 h4 => lv_iconst C.1 C.2.1 hd hv (k H locs ls h1 h2 h3 h4)
theorem v_bipush (C : Cx p s m args meth c D G bs cc nL own) {n : Int} {v : Int32} (hd : decode cc pc = .ok (.bipush n, 2)) (hv : (Int8.ofInt n).toInt32 = v) (k : V p l e R s m args below meth c D G bs nL Q cells slots S (pc + 2) lv (.int v :: st)) : V p l e R s m args below meth c D G bs nL Q cells slots S (pc) lv (st) :=
  fun H locs ls h1 h2 h3 h4 => lv_bipush C.1 C.2.1 hd hv (k H locs ls h1 h2 h3 h4)
theorem v_sipush (C : Cx p s m args meth c D G bs cc nL own) {n : Int} {v : Int32} (hd : decode cc pc = .ok (.sipush n, 3)) (hv : (Int16.ofInt n).toInt32 = v) (k : V p l e R s m args below meth c D G bs nL Q cells slots S (pc + 3) lv (.int v :: st)) : V p l e R s m args below meth c D G bs nL Q cells slots S (pc) lv (st) :=
  fun H locs ls h1 h2 h3 h4 => lv_sipush C.1 C.2.1 hd hv (k H locs ls h1 h2 h3 h4)
theorem v_lconst (C : Cx p s m args meth c D G bs cc nL own) {n : Fin 2} {v : Int64} (hd : decode cc pc = .ok (.lconst n, 1)) (hv : Int64.ofNat (n : Nat) = v) (k : V p l e R s m args below meth c D G bs nL Q cells slots S (pc + 1) lv (.long v :: st)) : V p l e R s m args below meth c D G bs nL Q cells slots S (pc) lv (st) :=
  fun H locs ls h1 h2 h3 h4 => lv_lconst C.1 C.2.1 hd hv (k H locs ls h1 h2 h3 h4)
theorem v_null (C : Cx p s m args meth c D G bs cc nL own) (hd : decode cc pc = .ok (.aconst_null, 1)) (k : V p l e R s m args below meth c D G bs nL Q cells slots S (pc + 1) lv (va_rf none :: st)) : V p l e R s m args below meth c D G bs nL Q cells slots S (pc) lv (st) :=
  fun H locs ls h1 h2 h3 h4 => lv_null C.1 C.2.1 hd (k H locs ls h1 h2 h3 h4)
theorem v_ldc (C : Cx p s m args meth c D G bs cc nL own) {i : Nat} {v : Int32} (hw : Cond.constant own i v ∈ wsL_law) (hd : decode cc pc = .ok (.ldc i, 2)) (k : V p l e R s m args below meth c D G bs nL Q cells slots S (pc + 2) lv (.int v :: st)) : V p l e R s m args below meth c D G bs nL Q cells slots S (pc) lv (st) :=
  fun H locs ls h1 h2 h3 h4 => lv_ldc C.1 C.2.1 C.2.2.2.1 (C.2.2.2.2.1 _ hw) hd (k H locs ls h1 h2 h3 h4)
theorem v_ldcw (C : Cx p s m args meth c D G bs cc nL own) {i : Nat} {v : Int32} (hw : Cond.constant own i v ∈ wsL_law) (hd : decode cc pc = .ok (.ldc_w i, 3)) (k : V p l e R s m args below meth c D G bs nL Q cells slots S (pc + 3) lv (.int v :: st)) : V p l e R s m args below meth c D G bs nL Q cells slots S (pc) lv (st) :=
  fun H locs ls h1 h2 h3 h4 => lv_ldcw C.1 C.2.1 C.2.2.2.1 (C.2.2.2.2.1 _ hw) hd (k H locs ls h1 h2 h3 h4)
theorem v_ldc2 (C : Cx p s m args meth c D G bs cc nL own) {i : Nat} {v : Int64} (hw : Cond.constantLong own i v ∈ wsL_law) (hd : decode cc pc = .ok (.ldc2_w i, 3)) (k : V p l e R s m args below meth c D G bs nL Q cells slots S (pc + 3) lv (.long v :: st)) : V p l e R s m args below meth c D G bs nL Q cells slots S (pc) lv (st) :=
  fun H locs ls h1 h2 h3 h4 => lv_ldc2 C.1 C.2.1 C.2.2.2.1 (C.2.2.2.2.1 _ hw) hd (k H locs ls h1 h2 h3 h4)
theorem v_iload_n (C : Cx p s m args meth c D G bs cc nL own) {i : Fin 4} {x : Int32} (hd : decode cc pc = .ok (.iload_n i, 1)) (hl : lv[(i : Nat)]? = some (some (.int x))) (k : V p l e R s m args below meth c D G bs nL Q cells slots S (pc + 1) lv (.int x :: st)) : V p l e R s m args below meth c D G bs nL Q cells slots S (pc) lv (st) :=
  fun H locs ls h1 h2 h3 h4 => lv_iload_n C.1 C.2.1 hd rfl (lvl_get h4 hl) (k H locs ls h1 h2 h3 h4)
theorem v_iload (C : Cx p s m args meth c D G bs cc nL own) {i : Nat} {x : Int32} (hd : decode cc pc = .ok (.iload i, 2)) (hl : lv[i]? = some (some (.int x))) (k : V p l e R s m args below meth c D G bs nL Q cells slots S (pc + 2) lv (.int x :: st)) : V p l e R s m args below meth c D G bs nL Q cells slots S (pc) lv (st) :=
  fun H locs ls h1 h2 h3 h4 => lv_iload C.1 C.2.1 hd (lvl_get h4 hl) (k H locs ls h1 h2 h3 h4)
theorem v_lload_n (C : Cx p s m args meth c D G bs cc nL own) {i : Fin 4} {x : Int64} (hd : decode cc pc = .ok (.lload_n i, 1)) (hl : lv[(i : Nat)]? = some (some (.long x))) (k : V p l e R s m args below meth c D G bs nL Q cells slots S (pc + 1) lv (.long x :: st)) : V p l e R s m args below meth c D G bs nL Q cells slots S (pc) lv (st) :=
  fun H locs ls h1 h2 h3 h4 => lv_lload_n C.1 C.2.1 hd rfl (lvl_get h4 hl) (k H locs ls h1 h2 h3 h4)
theorem v_lload (C : Cx p s m args meth c D G bs cc nL own) {i : Nat} {x : Int64} (hd : decode cc pc = .ok (.lload i, 2)) (hl : lv[i]? = some (some (.long x))) (k : V p l e R s m args below meth c D G bs nL Q cells slots S (pc + 2) lv (.long x :: st)) : V p l e R s m args below meth c D G bs nL Q cells slots S (pc) lv (st) :=
  fun H locs ls h1 h2 h3 h4 => lv_lload C.1 C.2.1 hd (lvl_get h4 hl) (k H locs ls h1 h2 h3 h4)
theorem v_aload_n (C : Cx p s m args meth c D G bs cc nL own) {i : Fin 4} {x : Nat} (hd : decode cc pc = .ok (.aload_n i, 1)) (hl : lv[(i : Nat)]? = some (some (.ref x))) (k : V p l e R s m args below meth c D G bs nL Q cells slots S (pc + 1) lv (.ref x :: st)) : V p l e R s m args below meth c D G bs nL Q cells slots S (pc) lv (st) :=
  fun H locs ls h1 h2 h3 h4 => lv_aload_n C.1 C.2.1 hd rfl (lvl_get h4 hl) (k H locs ls h1 h2 h3 h4)
theorem v_aload (C : Cx p s m args meth c D G bs cc nL own) {i : Nat} {x : Nat} (hd : decode cc pc = .ok (.aload i, 2)) (hl : lv[i]? = some (some (.ref x))) (k : V p l e R s m args below meth c D G bs nL Q cells slots S (pc + 2) lv (.ref x :: st)) : V p l e R s m args below meth c D G bs nL Q cells slots S (pc) lv (st) :=
  fun H locs ls h1 h2 h3 h4 => lv_aload C.1 C.2.1 hd (lvl_get h4 hl) (k H locs ls h1 h2 h3 h4)
theorem v_qload_n (C : Cx p s m args meth c D G bs cc nL own) {i : Fin 4} {o : Option Nat} (hd : decode cc pc = .ok (.aload_n i, 1)) (hl : lv[(i : Nat)]? = some (some (va_rf o))) (k : V p l e R s m args below meth c D G bs nL Q cells slots S (pc + 1) lv (va_rf o :: st)) : V p l e R s m args below meth c D G bs nL Q cells slots S (pc) lv (st) := by
  intro H locs ls h1 h2 h3 h4
  cases o with
  | none => exact lv_aload_nN C.1 C.2.1 hd rfl (lvl_get h4 hl) (k H locs ls h1 h2 h3 h4)
  | some x => exact lv_aload_n C.1 C.2.1 hd rfl (lvl_get h4 hl) (k H locs ls h1 h2 h3 h4)
theorem v_qload (C : Cx p s m args meth c D G bs cc nL own) {i : Nat} {o : Option Nat} (hd : decode cc pc = .ok (.aload i, 2)) (hl : lv[i]? = some (some (va_rf o))) (k : V p l e R s m args below meth c D G bs nL Q cells slots S (pc + 2) lv (va_rf o :: st)) : V p l e R s m args below meth c D G bs nL Q cells slots S (pc) lv (st) := by
  intro H locs ls h1 h2 h3 h4
  cases o with
  | none => exact lv_aloadN C.1 C.2.1 hd (lvl_get h4 hl) (k H locs ls h1 h2 h3 h4)
  | some x => exact lv_aload C.1 C.2.1 hd (lvl_get h4 hl) (k H locs ls h1 h2 h3 h4)
theorem v_istore_n (C : Cx p s m args meth c D G bs cc nL own) {i : Fin 4} {x : Int32} (hd : decode cc pc = .ok (.istore_n i, 1)) (hn : (i : Nat) < nL) (ho : okS lv i = true) (k : V p l e R s m args below meth c D G bs nL Q cells slots S (pc + 1) (lv.set (i : Nat) (some (.int x))) (st)) : V p l e R s m args below meth c D G bs nL Q cells slots S (pc) lv (.int x :: st) :=
  fun H locs ls h1 h2 h3 h4 => lv_istore_n C.1 C.2.1 hd rfl h4 hn rfl (fun ls' h => k H locs ls' h1 h2 h3 (lvl_put h ho))
theorem v_istore (C : Cx p s m args meth c D G bs cc nL own) {i : Nat} {x : Int32} (hd : decode cc pc = .ok (.istore i, 2)) (hn : i < nL) (ho : okS lv i = true) (k : V p l e R s m args below meth c D G bs nL Q cells slots S (pc + 2) (lv.set i (some (.int x))) (st)) : V p l e R s m args below meth c D G bs nL Q cells slots S (pc) lv (.int x :: st) :=
  fun H locs ls h1 h2 h3 h4 => lv_istore C.1 C.2.1 hd h4 hn rfl (fun ls' h => k H locs ls' h1 h2 h3 (lvl_put h ho))
theorem v_astore_n (C : Cx p s m args meth c D G bs cc nL own) {i : Fin 4} {x : Nat} (hd : decode cc pc = .ok (.astore_n i, 1)) (hn : (i : Nat) < nL) (ho : okS lv i = true) (k : V p l e R s m args below meth c D G bs nL Q cells slots S (pc + 1) (lv.set (i : Nat) (some (.ref x))) (st)) : V p l e R s m args below meth c D G bs nL Q cells slots S (pc) lv (.ref x :: st) :=
  fun H locs ls h1 h2 h3 h4 => lv_astore_n C.1 C.2.1 hd rfl h4 hn rfl (fun ls' h => k H locs ls' h1 h2 h3 (lvl_put h ho))
theorem v_astore (C : Cx p s m args meth c D G bs cc nL own) {i : Nat} {x : Nat} (hd : decode cc pc = .ok (.astore i, 2)) (hn : i < nL) (ho : okS lv i = true) (k : V p l e R s m args below meth c D G bs nL Q cells slots S (pc + 2) (lv.set i (some (.ref x))) (st)) : V p l e R s m args below meth c D G bs nL Q cells slots S (pc) lv (.ref x :: st) :=
  fun H locs ls h1 h2 h3 h4 => lv_astore C.1 C.2.1 hd h4 hn rfl (fun ls' h => k H locs ls' h1 h2 h3 (lvl_put h ho))
theorem v_qstore_n (C : Cx p s m args meth c D G bs cc nL own) {i : Fin 4} {o : Option Nat} (hd : decode cc pc = .ok (.astore_n i, 1)) (hn : (i : Nat) < nL) (ho : okS lv i = true) (k : V p l e R s m args below meth c D G bs nL Q cells slots S (pc + 1) (lv.set (i : Nat) (some (va_rf o))) (st)) : V p l e R s m args below meth c D G bs nL Q cells slots S (pc) lv (va_rf o :: st) := by
  intro H locs ls h1 h2 h3 h4
  cases o with
  | none => exact lv_astore_nN C.1 C.2.1 hd rfl h4 hn rfl (fun ls' h => k H locs ls' h1 h2 h3 (lvl_put h ho))
  | some x => exact lv_astore_n C.1 C.2.1 hd rfl h4 hn rfl (fun ls' h => k H locs ls' h1 h2 h3 (lvl_put h ho))
theorem v_qstore (C : Cx p s m args meth c D G bs cc nL own) {i : Nat} {o : Option Nat} (hd : decode cc pc = .ok (.astore i, 2)) (hn : i < nL) (ho : okS lv i = true) (k : V p l e R s m args below meth c D G bs nL Q cells slots S (pc + 2) (lv.set i (some (va_rf o))) (st)) : V p l e R s m args below meth c D G bs nL Q cells slots S (pc) lv (va_rf o :: st) := by
  intro H locs ls h1 h2 h3 h4
  cases o with
  | none => exact lv_astoreN C.1 C.2.1 hd h4 hn rfl (fun ls' h => k H locs ls' h1 h2 h3 (lvl_put h ho))
  | some x => exact lv_astore C.1 C.2.1 hd h4 hn rfl (fun ls' h => k H locs ls' h1 h2 h3 (lvl_put h ho))
theorem v_lstore_n (C : Cx p s m args meth c D G bs cc nL own) {i : Fin 4} {x : Int64} (hd : decode cc pc = .ok (.lstore_n i, 1)) (hn : (i : Nat) + 1 < nL) (ho : okS lv i = true) (k : V p l e R s m args below meth c D G bs nL Q cells slots S (pc + 1) ((lv.set (i : Nat) (some (.long x))).set ((i : Nat) + 1) none) (st)) : V p l e R s m args below meth c D G bs nL Q cells slots S (pc) lv (.long x :: st) :=
  fun H locs ls h1 h2 h3 h4 => lv_lstore_n C.1 C.2.1 hd rfl h4 hn rfl (fun ls' h => k H locs ls' h1 h2 h3 (lvl_putL h ho))
theorem v_lstore (C : Cx p s m args meth c D G bs cc nL own) {i : Nat} {x : Int64} (hd : decode cc pc = .ok (.lstore i, 2)) (hn : i + 1 < nL) (ho : okS lv i = true) (k : V p l e R s m args below meth c D G bs nL Q cells slots S (pc + 2) ((lv.set i (some (.long x))).set (i + 1) none) (st)) : V p l e R s m args below meth c D G bs nL Q cells slots S (pc) lv (.long x :: st) :=
  fun H locs ls h1 h2 h3 h4 => lv_lstore C.1 C.2.1 hd h4 hn rfl (fun ls' h => k H locs ls' h1 h2 h3 (lvl_putL h ho))
theorem v_iinc (C : Cx p s m args meth c D G bs cc nL own) {i : Nat} {n : Int} {x v : Int32} (hd : decode cc pc = .ok (.iinc i n, 3)) (hl : lv[i]? = some (some (.int x))) (hv : x + Int32.ofInt n = v) (hn : i < nL) (ho : okS lv i = true) (k : V p l e R s m args below meth c D G bs nL Q cells slots S (pc + 3) (lv.set i (some (.int v))) (st)) : V p l e R s m args below meth c D G bs nL Q cells slots S (pc) lv (st) := by
  intro H locs ls h1 h2 h3 h4
  obtain ⟨q, hq⟩ := List.getElem?_of_mem (lvl_mem0 hl)
  exact lv_iinc C.1 C.2.1 hd h4 hq hv hn rfl (fun ls' h => k H locs ls' h1 h2 h3 (lvl_put h ho))
theorem v_iadd (C : Cx p s m args meth c D G bs cc nL own) {x y : Int32} (hd : decode cc pc = .ok (.iadd, 1)) (k : V p l e R s m args below meth c D G bs nL Q cells slots S (pc + 1) lv (.int (x + y) :: st)) : V p l e R s m args below meth c D G bs nL Q cells slots S (pc) lv (.int y :: .int x :: st) :=
  fun H locs ls h1 h2 h3 h4 => lv_iadd C.1 C.2.1 hd (k H locs ls h1 h2 h3 h4)
theorem v_isub (C : Cx p s m args meth c D G bs cc nL own) {x y : Int32} (hd : decode cc pc = .ok (.isub, 1)) (k : V p l e R s m args below meth c D G bs nL Q cells slots S (pc + 1) lv (.int (x - y) :: st)) : V p l e R s m args below meth c D G bs nL Q cells slots S (pc) lv (.int y :: .int x :: st) :=
  fun H locs ls h1 h2 h3 h4 => lv_isub C.1 C.2.1 hd (k H locs ls h1 h2 h3 h4)
theorem v_imul (C : Cx p s m args meth c D G bs cc nL own) {x y : Int32} (hd : decode cc pc = .ok (.imul, 1)) (k : V p l e R s m args below meth c D G bs nL Q cells slots S (pc + 1) lv (.int (x * y) :: st)) : V p l e R s m args below meth c D G bs nL Q cells slots S (pc) lv (.int y :: .int x :: st) :=
  fun H locs ls h1 h2 h3 h4 => lv_imul C.1 C.2.1 hd (k H locs ls h1 h2 h3 h4)
theorem v_iand (C : Cx p s m args meth c D G bs cc nL own) {x y : Int32} (hd : decode cc pc = .ok (.iand, 1)) (k : V p l e R s m args below meth c D G bs nL Q cells slots S (pc + 1) lv (.int (x &&& y) :: st)) : V p l e R s m args below meth c D G bs nL Q cells slots S (pc) lv (.int y :: .int x :: st) :=
  fun H locs ls h1 h2 h3 h4 => lv_iand C.1 C.2.1 hd (k H locs ls h1 h2 h3 h4)
theorem v_ior (C : Cx p s m args meth c D G bs cc nL own) {x y : Int32} (hd : decode cc pc = .ok (.ior, 1)) (k : V p l e R s m args below meth c D G bs nL Q cells slots S (pc + 1) lv (.int (x ||| y) :: st)) : V p l e R s m args below meth c D G bs nL Q cells slots S (pc) lv (.int y :: .int x :: st) :=
  fun H locs ls h1 h2 h3 h4 => lv_ior C.1 C.2.1 hd (k H locs ls h1 h2 h3 h4)
theorem v_ishl (C : Cx p s m args meth c D G bs cc nL own) {x y : Int32} (hd : decode cc pc = .ok (.ishl, 1)) (k : V p l e R s m args below meth c D G bs nL Q cells slots S (pc + 1) lv (.int (x <<< (y &&& 31)) :: st)) : V p l e R s m args below meth c D G bs nL Q cells slots S (pc) lv (.int y :: .int x :: st) :=
  fun H locs ls h1 h2 h3 h4 => lv_ishl C.1 C.2.1 hd (k H locs ls h1 h2 h3 h4)
theorem v_ishr (C : Cx p s m args meth c D G bs cc nL own) {x y : Int32} (hd : decode cc pc = .ok (.ishr, 1)) (k : V p l e R s m args below meth c D G bs nL Q cells slots S (pc + 1) lv (.int (x >>> (y &&& 31)) :: st)) : V p l e R s m args below meth c D G bs nL Q cells slots S (pc) lv (.int y :: .int x :: st) :=
  fun H locs ls h1 h2 h3 h4 => lv_ishr C.1 C.2.1 hd (k H locs ls h1 h2 h3 h4)
theorem v_idiv (C : Cx p s m args meth c D G bs cc nL own) {x y : Int32} (hd : decode cc pc = .ok (.idiv, 1)) (hy : ¬ y = 0) (k : V p l e R s m args below meth c D G bs nL Q cells slots S (pc + 1) lv (.int (x / y) :: st)) : V p l e R s m args below meth c D G bs nL Q cells slots S (pc) lv (.int y :: .int x :: st) :=
  fun H locs ls h1 h2 h3 h4 => lv_idiv C.1 C.2.1 hd hy (k H locs ls h1 h2 h3 h4)
theorem v_irem (C : Cx p s m args meth c D G bs cc nL own) {x y : Int32} (hd : decode cc pc = .ok (.irem, 1)) (hy : ¬ y = 0) (k : V p l e R s m args below meth c D G bs nL Q cells slots S (pc + 1) lv (.int (x - x / y * y) :: st)) : V p l e R s m args below meth c D G bs nL Q cells slots S (pc) lv (.int y :: .int x :: st) :=
  fun H locs ls h1 h2 h3 h4 => lv_irem C.1 C.2.1 hd hy (k H locs ls h1 h2 h3 h4)
theorem v_ladd (C : Cx p s m args meth c D G bs cc nL own) {x y : Int64} (hd : decode cc pc = .ok (.ladd, 1)) (k : V p l e R s m args below meth c D G bs nL Q cells slots S (pc + 1) lv (.long (x + y) :: st)) : V p l e R s m args below meth c D G bs nL Q cells slots S (pc) lv (.long y :: .long x :: st) :=
  fun H locs ls h1 h2 h3 h4 => lv_ladd C.1 C.2.1 hd (k H locs ls h1 h2 h3 h4)
theorem v_lsub (C : Cx p s m args meth c D G bs cc nL own) {x y : Int64} (hd : decode cc pc = .ok (.lsub, 1)) (k : V p l e R s m args below meth c D G bs nL Q cells slots S (pc + 1) lv (.long (x - y) :: st)) : V p l e R s m args below meth c D G bs nL Q cells slots S (pc) lv (.long y :: .long x :: st) :=
  fun H locs ls h1 h2 h3 h4 => lv_lsub C.1 C.2.1 hd (k H locs ls h1 h2 h3 h4)
theorem v_lmul (C : Cx p s m args meth c D G bs cc nL own) {x y : Int64} (hd : decode cc pc = .ok (.lmul, 1)) (k : V p l e R s m args below meth c D G bs nL Q cells slots S (pc + 1) lv (.long (x * y) :: st)) : V p l e R s m args below meth c D G bs nL Q cells slots S (pc) lv (.long y :: .long x :: st) :=
  fun H locs ls h1 h2 h3 h4 => lv_lmul C.1 C.2.1 hd (k H locs ls h1 h2 h3 h4)
theorem v_land (C : Cx p s m args meth c D G bs cc nL own) {x y : Int64} (hd : decode cc pc = .ok (.land, 1)) (k : V p l e R s m args below meth c D G bs nL Q cells slots S (pc + 1) lv (.long (x &&& y) :: st)) : V p l e R s m args below meth c D G bs nL Q cells slots S (pc) lv (.long y :: .long x :: st) :=
  fun H locs ls h1 h2 h3 h4 => lv_land C.1 C.2.1 hd (k H locs ls h1 h2 h3 h4)
theorem v_lor (C : Cx p s m args meth c D G bs cc nL own) {x y : Int64} (hd : decode cc pc = .ok (.lor, 1)) (k : V p l e R s m args below meth c D G bs nL Q cells slots S (pc + 1) lv (.long (x ||| y) :: st)) : V p l e R s m args below meth c D G bs nL Q cells slots S (pc) lv (.long y :: .long x :: st) :=
  fun H locs ls h1 h2 h3 h4 => lv_lor C.1 C.2.1 hd (k H locs ls h1 h2 h3 h4)
theorem v_lshl (C : Cx p s m args meth c D G bs cc nL own) {x : Int64} {y : Int32} (hd : decode cc pc = .ok (.lshl, 1)) (k : V p l e R s m args below meth c D G bs nL Q cells slots S (pc + 1) lv (.long (x <<< (y.toInt64 &&& 63)) :: st)) : V p l e R s m args below meth c D G bs nL Q cells slots S (pc) lv (.int y :: .long x :: st) :=
  fun H locs ls h1 h2 h3 h4 => lv_lshl C.1 C.2.1 hd rfl (k H locs ls h1 h2 h3 h4)
theorem v_lcmp (C : Cx p s m args meth c D G bs cc nL own) {x y : Int64} (hd : decode cc pc = .ok (.lcmp, 1)) (k : V p l e R s m args below meth c D G bs nL Q cells slots S (pc + 1) lv (.int (lg_cmp x y) :: st)) : V p l e R s m args below meth c D G bs nL Q cells slots S (pc) lv (.long y :: .long x :: st) :=
  fun H locs ls h1 h2 h3 h4 => W.lcmp C.1 C.2.1 hd (k H locs ls h1 h2 h3 h4)
theorem v_i2l (C : Cx p s m args meth c D G bs cc nL own) {x : Int32} (hd : decode cc pc = .ok (.i2l, 1)) (k : V p l e R s m args below meth c D G bs nL Q cells slots S (pc + 1) lv (.long x.toInt64 :: st)) : V p l e R s m args below meth c D G bs nL Q cells slots S (pc) lv (.int x :: st) :=
  fun H locs ls h1 h2 h3 h4 => lv_i2l C.1 C.2.1 hd rfl (k H locs ls h1 h2 h3 h4)
theorem v_dup (C : Cx p s m args meth c D G bs cc nL own) {x : Value} (hd : decode cc pc = .ok (.dup, 1)) (hc : x.category = 1) (k : V p l e R s m args below meth c D G bs nL Q cells slots S (pc + 1) lv (x :: x :: st)) : V p l e R s m args below meth c D G bs nL Q cells slots S (pc) lv (x :: st) :=
  fun H locs ls h1 h2 h3 h4 => lv_dup C.1 C.2.1 hd hc (k H locs ls h1 h2 h3 h4)
theorem v_dup2 (C : Cx p s m args meth c D G bs cc nL own) {x y : Value} (hd : decode cc pc = .ok (.dup2, 1)) (hc : x.category = 1) (hc2 : y.category = 1) (k : V p l e R s m args below meth c D G bs nL Q cells slots S (pc + 1) lv (x :: y :: x :: y :: st)) : V p l e R s m args below meth c D G bs nL Q cells slots S (pc) lv (x :: y :: st) :=
  fun H locs ls h1 h2 h3 h4 => lv_dup2_11 C.1 C.2.1 hd hc hc2 (k H locs ls h1 h2 h3 h4)
theorem v_pop (C : Cx p s m args meth c D G bs cc nL own) {x : Value} (hd : decode cc pc = .ok (.pop, 1)) (hc : x.category = 1) (k : V p l e R s m args below meth c D G bs nL Q cells slots S (pc + 1) lv (st)) : V p l e R s m args below meth c D G bs nL Q cells slots S (pc) lv (x :: st) :=
  fun H locs ls h1 h2 h3 h4 => lv_pop C.1 C.2.1 hd hc (k H locs ls h1 h2 h3 h4)
theorem v_goto (C : Cx p s m args meth c D G bs cc nL own) {off : Int} {tgt : Nat} (hd : decode cc pc = .ok (.goto off, 3)) (ht : (pc : Int) + off = (tgt : Int)) (k : V p l e R s m args below meth c D G bs nL Q cells slots S (tgt) lv (st)) : V p l e R s m args below meth c D G bs nL Q cells slots S (pc) lv (st) :=
  fun H locs ls h1 h2 h3 h4 => lv_goto C.1 C.2.1 hd ht (k H locs ls h1 h2 h3 h4)
theorem v_if_eq (C : Cx p s m args meth c D G bs cc nL own) {x : Int32} {off : Int} {tgt : Nat} (hd : decode cc pc = .ok (.ifCond .eq off, 3)) (ht : (pc : Int) + off = (tgt : Int)) (kt : x = 0 → V p l e R s m args below meth c D G bs nL Q cells slots S (tgt) lv (st)) (kf : ¬ x = 0 → V p l e R s m args below meth c D G bs nL Q cells slots S (pc + 3) lv (st)) : V p l e R s m args below meth c D G bs nL Q cells slots S (pc) lv (.int x :: st) :=
  fun H locs ls h1 h2 h3 h4 => lv_if_eq C.1 C.2.1 hd ht (fun q => kt q H locs ls h1 h2 h3 h4) (fun q => kf q H locs ls h1 h2 h3 h4)
theorem v_icmp_eq (C : Cx p s m args meth c D G bs cc nL own) {x y : Int32} {off : Int} {tgt : Nat} (hd : decode cc pc = .ok (.if_icmp .eq off, 3)) (ht : (pc : Int) + off = (tgt : Int)) (kt : x = y → V p l e R s m args below meth c D G bs nL Q cells slots S (tgt) lv (st)) (kf : ¬ x = y → V p l e R s m args below meth c D G bs nL Q cells slots S (pc + 3) lv (st)) : V p l e R s m args below meth c D G bs nL Q cells slots S (pc) lv (.int y :: .int x :: st) :=
  fun H locs ls h1 h2 h3 h4 => lv_icmp_eq C.1 C.2.1 hd ht (fun q => kt q H locs ls h1 h2 h3 h4) (fun q => kf q H locs ls h1 h2 h3 h4)
theorem v_if_ne (C : Cx p s m args meth c D G bs cc nL own) {x : Int32} {off : Int} {tgt : Nat} (hd : decode cc pc = .ok (.ifCond .ne off, 3)) (ht : (pc : Int) + off = (tgt : Int)) (kt : ¬ x = 0 → V p l e R s m args below meth c D G bs nL Q cells slots S (tgt) lv (st)) (kf : x = 0 → V p l e R s m args below meth c D G bs nL Q cells slots S (pc + 3) lv (st)) : V p l e R s m args below meth c D G bs nL Q cells slots S (pc) lv (.int x :: st) :=
  fun H locs ls h1 h2 h3 h4 => lv_if_ne C.1 C.2.1 hd ht (fun q => kt q H locs ls h1 h2 h3 h4) (fun q => kf q H locs ls h1 h2 h3 h4)
theorem v_icmp_ne (C : Cx p s m args meth c D G bs cc nL own) {x y : Int32} {off : Int} {tgt : Nat} (hd : decode cc pc = .ok (.if_icmp .ne off, 3)) (ht : (pc : Int) + off = (tgt : Int)) (kt : ¬ x = y → V p l e R s m args below meth c D G bs nL Q cells slots S (tgt) lv (st)) (kf : x = y → V p l e R s m args below meth c D G bs nL Q cells slots S (pc + 3) lv (st)) : V p l e R s m args below meth c D G bs nL Q cells slots S (pc) lv (.int y :: .int x :: st) :=
  fun H locs ls h1 h2 h3 h4 => lv_icmp_ne C.1 C.2.1 hd ht (fun q => kt q H locs ls h1 h2 h3 h4) (fun q => kf q H locs ls h1 h2 h3 h4)
theorem v_if_lt (C : Cx p s m args meth c D G bs cc nL own) {x : Int32} {off : Int} {tgt : Nat} (hd : decode cc pc = .ok (.ifCond .lt off, 3)) (ht : (pc : Int) + off = (tgt : Int)) (kt : x < 0 → V p l e R s m args below meth c D G bs nL Q cells slots S (tgt) lv (st)) (kf : ¬ x < 0 → V p l e R s m args below meth c D G bs nL Q cells slots S (pc + 3) lv (st)) : V p l e R s m args below meth c D G bs nL Q cells slots S (pc) lv (.int x :: st) :=
  fun H locs ls h1 h2 h3 h4 => lv_if_lt C.1 C.2.1 hd ht (fun q => kt q H locs ls h1 h2 h3 h4) (fun q => kf q H locs ls h1 h2 h3 h4)
theorem v_icmp_lt (C : Cx p s m args meth c D G bs cc nL own) {x y : Int32} {off : Int} {tgt : Nat} (hd : decode cc pc = .ok (.if_icmp .lt off, 3)) (ht : (pc : Int) + off = (tgt : Int)) (kt : x < y → V p l e R s m args below meth c D G bs nL Q cells slots S (tgt) lv (st)) (kf : ¬ x < y → V p l e R s m args below meth c D G bs nL Q cells slots S (pc + 3) lv (st)) : V p l e R s m args below meth c D G bs nL Q cells slots S (pc) lv (.int y :: .int x :: st) :=
  fun H locs ls h1 h2 h3 h4 => lv_icmp_lt C.1 C.2.1 hd ht (fun q => kt q H locs ls h1 h2 h3 h4) (fun q => kf q H locs ls h1 h2 h3 h4)
theorem v_if_ge (C : Cx p s m args meth c D G bs cc nL own) {x : Int32} {off : Int} {tgt : Nat} (hd : decode cc pc = .ok (.ifCond .ge off, 3)) (ht : (pc : Int) + off = (tgt : Int)) (kt : 0 ≤ x → V p l e R s m args below meth c D G bs nL Q cells slots S (tgt) lv (st)) (kf : ¬ 0 ≤ x → V p l e R s m args below meth c D G bs nL Q cells slots S (pc + 3) lv (st)) : V p l e R s m args below meth c D G bs nL Q cells slots S (pc) lv (.int x :: st) :=
  fun H locs ls h1 h2 h3 h4 => lv_if_ge C.1 C.2.1 hd ht (fun q => kt q H locs ls h1 h2 h3 h4) (fun q => kf q H locs ls h1 h2 h3 h4)
theorem v_icmp_ge (C : Cx p s m args meth c D G bs cc nL own) {x y : Int32} {off : Int} {tgt : Nat} (hd : decode cc pc = .ok (.if_icmp .ge off, 3)) (ht : (pc : Int) + off = (tgt : Int)) (kt : y ≤ x → V p l e R s m args below meth c D G bs nL Q cells slots S (tgt) lv (st)) (kf : ¬ y ≤ x → V p l e R s m args below meth c D G bs nL Q cells slots S (pc + 3) lv (st)) : V p l e R s m args below meth c D G bs nL Q cells slots S (pc) lv (.int y :: .int x :: st) :=
  fun H locs ls h1 h2 h3 h4 => lv_icmp_ge C.1 C.2.1 hd ht (fun q => kt q H locs ls h1 h2 h3 h4) (fun q => kf q H locs ls h1 h2 h3 h4)
theorem v_if_gt (C : Cx p s m args meth c D G bs cc nL own) {x : Int32} {off : Int} {tgt : Nat} (hd : decode cc pc = .ok (.ifCond .gt off, 3)) (ht : (pc : Int) + off = (tgt : Int)) (kt : 0 < x → V p l e R s m args below meth c D G bs nL Q cells slots S (tgt) lv (st)) (kf : ¬ 0 < x → V p l e R s m args below meth c D G bs nL Q cells slots S (pc + 3) lv (st)) : V p l e R s m args below meth c D G bs nL Q cells slots S (pc) lv (.int x :: st) :=
  fun H locs ls h1 h2 h3 h4 => lv_if_gt C.1 C.2.1 hd ht (fun q => kt q H locs ls h1 h2 h3 h4) (fun q => kf q H locs ls h1 h2 h3 h4)
theorem v_icmp_gt (C : Cx p s m args meth c D G bs cc nL own) {x y : Int32} {off : Int} {tgt : Nat} (hd : decode cc pc = .ok (.if_icmp .gt off, 3)) (ht : (pc : Int) + off = (tgt : Int)) (kt : y < x → V p l e R s m args below meth c D G bs nL Q cells slots S (tgt) lv (st)) (kf : ¬ y < x → V p l e R s m args below meth c D G bs nL Q cells slots S (pc + 3) lv (st)) : V p l e R s m args below meth c D G bs nL Q cells slots S (pc) lv (.int y :: .int x :: st) :=
  fun H locs ls h1 h2 h3 h4 => lv_icmp_gt C.1 C.2.1 hd ht (fun q => kt q H locs ls h1 h2 h3 h4) (fun q => kf q H locs ls h1 h2 h3 h4)
theorem v_if_le (C : Cx p s m args meth c D G bs cc nL own) {x : Int32} {off : Int} {tgt : Nat} (hd : decode cc pc = .ok (.ifCond .le off, 3)) (ht : (pc : Int) + off = (tgt : Int)) (kt : x ≤ 0 → V p l e R s m args below meth c D G bs nL Q cells slots S (tgt) lv (st)) (kf : ¬ x ≤ 0 → V p l e R s m args below meth c D G bs nL Q cells slots S (pc + 3) lv (st)) : V p l e R s m args below meth c D G bs nL Q cells slots S (pc) lv (.int x :: st) :=
  fun H locs ls h1 h2 h3 h4 => lv_if_le C.1 C.2.1 hd ht (fun q => kt q H locs ls h1 h2 h3 h4) (fun q => kf q H locs ls h1 h2 h3 h4)
theorem v_icmp_le (C : Cx p s m args meth c D G bs cc nL own) {x y : Int32} {off : Int} {tgt : Nat} (hd : decode cc pc = .ok (.if_icmp .le off, 3)) (ht : (pc : Int) + off = (tgt : Int)) (kt : x ≤ y → V p l e R s m args below meth c D G bs nL Q cells slots S (tgt) lv (st)) (kf : ¬ x ≤ y → V p l e R s m args below meth c D G bs nL Q cells slots S (pc + 3) lv (st)) : V p l e R s m args below meth c D G bs nL Q cells slots S (pc) lv (.int y :: .int x :: st) :=
  fun H locs ls h1 h2 h3 h4 => lv_icmp_le C.1 C.2.1 hd ht (fun q => kt q H locs ls h1 h2 h3 h4) (fun q => kf q H locs ls h1 h2 h3 h4)
theorem v_ifnull (C : Cx p s m args meth c D G bs cc nL own) {o : Option Nat} {off : Int} {tgt : Nat} (hd : decode cc pc = .ok (.ifnull off, 3)) (ht : (pc : Int) + off = (tgt : Int)) (kt : o = none → V p l e R s m args below meth c D G bs nL Q cells slots S (tgt) lv (st)) (kf : ∀ x, o = some x → V p l e R s m args below meth c D G bs nL Q cells slots S (pc + 3) lv (st)) : V p l e R s m args below meth c D G bs nL Q cells slots S (pc) lv (va_rf o :: st) := by
  intro H locs ls h1 h2 h3 h4
  cases o with
  | none => exact lv_ifnullN C.1 C.2.1 hd ht (kt rfl H locs ls h1 h2 h3 h4)
  | some x => exact lv_ifnull C.1 C.2.1 hd (kf x rfl H locs ls h1 h2 h3 h4)
theorem v_ifnonnull (C : Cx p s m args meth c D G bs cc nL own) {o : Option Nat} {off : Int} {tgt : Nat} (hd : decode cc pc = .ok (.ifnonnull off, 3)) (ht : (pc : Int) + off = (tgt : Int)) (kt : ∀ x, o = some x → V p l e R s m args below meth c D G bs nL Q cells slots S (tgt) lv (st)) (kf : o = none → V p l e R s m args below meth c D G bs nL Q cells slots S (pc + 3) lv (st)) : V p l e R s m args below meth c D G bs nL Q cells slots S (pc) lv (va_rf o :: st) := by
  intro H locs ls h1 h2 h3 h4
  cases o with
  | none => exact lv_ifnonnullN C.1 C.2.1 hd (kf rfl H locs ls h1 h2 h3 h4)
  | some x => exact lv_ifnonnull C.1 C.2.1 hd ht (kt x rfl H locs ls h1 h2 h3 h4)
theorem v_tableIn (C : Cx p s m args meth c D G bs cc nL own) {dflt lo hi : Int} {offs : Array Int} {len : Nat} {x : Int32} {off : Int} {tgt : Nat} (hd : decode cc pc = .ok (.tableswitch dflt lo hi offs, len)) (h1 : ¬ x.toInt < lo) (h2 : ¬ hi < x.toInt) (ho : offs[(x.toInt - lo).toNat]? = some off) (ht : (pc : Int) + off = (tgt : Int)) (k : V p l e R s m args below meth c D G bs nL Q cells slots S (tgt) lv (st)) : V p l e R s m args below meth c D G bs nL Q cells slots S (pc) lv (.int x :: st) :=
  fun H locs ls g1 g2 g3 g4 => lv_tableIn C.1 C.2.1 hd h1 h2 ho ht (k H locs ls g1 g2 g3 g4)
theorem v_tableOut (C : Cx p s m args meth c D G bs cc nL own) {dflt lo hi : Int} {offs : Array Int} {len : Nat} {x : Int32} {tgt : Nat} (hd : decode cc pc = .ok (.tableswitch dflt lo hi offs, len)) (h : x.toInt < lo ∨ hi < x.toInt) (ht : (pc : Int) + dflt = (tgt : Int)) (k : V p l e R s m args below meth c D G bs nL Q cells slots S (tgt) lv (st)) : V p l e R s m args below meth c D G bs nL Q cells slots S (pc) lv (.int x :: st) :=
  fun H locs ls g1 g2 g3 g4 => lv_tableOut C.1 C.2.1 hd h ht (k H locs ls g1 g2 g3 g4)
theorem v_topi {x : Int32} (k : ∀ y : Int32, y = x → V p l e R s m args below meth c D G bs nL Q cells slots S (pc) lv (.int y :: st)) : V p l e R s m args below meth c D G bs nL Q cells slots S (pc) lv (.int x :: st) := k x rfl
theorem V.widen {c2 s2 : Nat} (hc : cells ≤ c2) (hs : slots ≤ s2) (k : V p l e R s m args below meth c D G bs nL Q c2 s2 S (pc) lv (st)) : V p l e R s m args below meth c D G bs nL Q cells slots S (pc) lv (st) :=
  fun H locs ls h1 h2 h3 h4 => W.widen hc hs (k H locs ls h1 h2 h3 h4)
-- fields
theorem v_get (C : Cx p s m args meth c D G bs cc nL own) {a ci k i N tt : Nat} {ref Cn : String} {T : u_T} (ha : is S a ci) (hc : ci < 11) (hcl : vwCl[ci]? = some (Cn, T, N)) (hin : ∀ w ∈ u_ws Cn T N, w ∈ wsL_law) (hkN : k < N) (hw : Cond.fieldLink own i ref (T k).2.1 (T k).2.2.1 ∈ wsL_law) (hsame : (T k).1 = ref) (ht : (lay ci)[k]? = some tt) (hd : decode cc pc = .ok (.getfield i, 3)) (kk : V p l e R s m args below meth c D G bs nL Q cells slots S (pc + 3) lv (fv S a (64 * ci + k) tt :: st)) : V p l e R s m args below meth c D G bs nL Q cells slots S (pc) lv (.ref a :: st) := by
  intro H locs ls h1 h2 h3 h4
  obtain ⟨q, hq⟩ := va_pl_get (X := []) (f := cellF G S) ha.1
  rw [cell_obj ha.2 hc] at hq
  exact va_get C.1 C.2.1 C.2.2.2.2.1 hin C.2.2.2.1 C.2.2.2.2.2.1.1 h1 q hq hcl k hkN (C.2.2.2.2.1 _ hw) (fun x hx => by rw [← hsame]; exact hx) (fl_get S a _ _ _ _ ht) hd (kk H locs ls h1 h2 h3 h4)
theorem v_put (C : Cx p s m args meth c D G bs cc nL own) {a ci k i N : Nat} {ref Cn : String} {T : u_T} {ty0 : Nat → FieldType} {ty : FieldType} {v : Value} {S' : Mem} (ha : is S a ci) (hc : ci < 11) (hcl : vwCl[ci]? = some (Cn, T, N)) (hin : ∀ w ∈ u_ws Cn T N, w ∈ wsL_law) (hty : ∀ k, k < N → parseFieldDescriptor (T k).2.2.1 = some (ty0 k)) (hnm : ∀ a, a < N → ∀ b, b < N → a ≠ b → (T a).2.1 ≠ (T b).2.1) (hkN : k < N) (hw : Cond.fieldLink own i ref (T k).2.1 (T k).2.2.1 ∈ wsL_law) (hsame : (T k).1 = ref) (hfin : (T k).2.2.2 = false ∨ ((T k).2.2.2 = true ∧ meth.name = "<init>" ∧ (T k).1 = own)) (hpd : parseFieldDescriptor (T k).2.2.1 = some ty) (hnr : narrow ty v = v) (hft : fits ty v = true) (hl : k < (lay ci).length) (hS' : mL S' = mL S) (hcell : ∀ b, va_up (cellF G S) a (.inr (ci, (fl S a (64 * ci) (lay ci)).set k v)) b = cellF G S' b) (hd : decode cc pc = .ok (.putfield i, 3)) (kk : V p l e R s m args below meth c D G bs nL Q cells slots S' (pc + 3) lv (st)) : V p l e R s m args below meth c D G bs nL Q cells slots S (pc) lv (v :: .ref a :: st) := by
  intro H locs ls h1 h2 h3 h4
  obtain ⟨q, hq0⟩ := va_pl_get (X := []) (f := cellF G S) ha.1
  have hq := hq0
  rw [cell_obj ha.2 hc] at hq
  have hset : (va_pl (mL S) (cellF G S)).set q (a, .inr (ci, (fl S a (64 * ci) (lay ci)).set k v)) = va_pl (mL S') (cellF G S') := by
    have := va_pl_set (X := []) (f := cellF G S) (e := .inr (ci, (fl S a (64 * ci) (lay ci)).set k v)) (A := fun q => bs ≤ q) h2 ha.1 hq0
    simp only [List.nil_append] at this
    rw [this, va_pl_congr hcell, hS']
  rcases hfin with hf | ⟨hf, hin2, hdecl⟩
  · exact va_put C.1 C.2.1 C.2.2.2.2.1 hin ty0 hty hnm C.2.2.2.1 C.2.2.2.2.2.1.1 h1 h2 h3 q hq hcl k hkN (C.2.2.2.2.1 _ hw) (fun x hx => by rw [← hsame]; exact hx) hf hpd hnr hft (by rw [fl_len]; exact hl) hd (fun H1 locs1 g1 g2 g3 => by rw [hset] at g1 g2; exact kk H1 locs1 ls g1 g2 g3 h4)
  · exact va_putF C.1 C.2.1 C.2.2.2.2.1 hin ty0 hty hnm C.2.2.2.1 C.2.2.2.2.2.1.1 h1 h2 h3 q hq hcl k hkN (C.2.2.2.2.1 _ hw) (fun x hx => by rw [← hsame]; exact hx) hf hin2 hdecl hpd hnr hft (by rw [fl_len]; exact hl) hd (fun H1 locs1 g1 g2 g3 => by rw [hset] at g1 g2; exact kk H1 locs1 ls g1 g2 g3 h4)
-- arrays
theorem v_iald (C : Cx p s m args meth c D G bs cc nL own) {a n : Nat} {i : Int32} (ha : isA S a 11 n) (hi : vp_in i n) (hd : decode cc pc = .ok (.iaload, 1)) (kk : V p l e R s m args below meth c D G bs nL Q cells slots S (pc + 1) lv (.int (mA S a i.toNatClampNeg) :: st)) : V p l e R s m args below meth c D G bs nL Q cells slots S (pc) lv (.int i :: .ref a :: st) := by
  intro H locs ls h1 h2 h3 h4
  obtain ⟨q, hq⟩ := va_pl_get (X := []) (f := cellF G S) ha.1
  rw [cell_I ha.2.1, ha.2.2] at hq
  exact va_iald C.1 C.2.1 C.2.2.2.2.2.1.1 h1 q 0 hq rfl hi hd (kk H locs ls h1 h2 h3 h4)
theorem v_zald (C : Cx p s m args meth c D G bs cc nL own) {a n : Nat} {i : Int32} (ha : isA S a 13 n) (hi : vp_in i n) (hd : decode cc pc = .ok (.baload, 1)) (kk : V p l e R s m args below meth c D G bs nL Q cells slots S (pc + 1) lv (.int (mA S a i.toNatClampNeg) :: st)) : V p l e R s m args below meth c D G bs nL Q cells slots S (pc) lv (.int i :: .ref a :: st) := by
  intro H locs ls h1 h2 h3 h4
  obtain ⟨q, hq⟩ := va_pl_get (X := []) (f := cellF G S) ha.1
  rw [cell_Z ha.2.1, ha.2.2] at hq
  exact va_zald C.1 C.2.1 C.2.2.2.2.2.1.1 h1 q 2 hq rfl hi hd (kk H locs ls h1 h2 h3 h4)
theorem v_lald (C : Cx p s m args meth c D G bs cc nL own) {a n : Nat} {i : Int32} (ha : isA S a 12 n) (hi : vp_in i n) (hd : decode cc pc = .ok (.laload, 1)) (kk : V p l e R s m args below meth c D G bs nL Q cells slots S (pc + 1) lv (.long (mQ S a i.toNatClampNeg) :: st)) : V p l e R s m args below meth c D G bs nL Q cells slots S (pc) lv (.int i :: .ref a :: st) := by
  intro H locs ls h1 h2 h3 h4
  obtain ⟨q, hq⟩ := va_pl_get (X := []) (f := cellF G S) ha.1
  rw [cell_J ha.2.1, ha.2.2] at hq
  exact va_lald C.1 C.2.1 C.2.2.2.2.2.1.1 h1 q 1 hq rfl hi hd (kk H locs ls h1 h2 h3 h4)
theorem v_aald (C : Cx p s m args meth c D G bs cc nL own) {a n kd t0 : Nat} {Cn : String} {i : Int32} (ha : isA S a kd n) (hkd : 13 < kd) (ht : (tysG G)[t0]? = some (G kd, .object Cn)) (hi : vp_in i n) (hd : decode cc pc = .ok (.aaload, 1)) (kk : V p l e R s m args below meth c D G bs nL Q cells slots S (pc + 1) lv (va_rf (mP S a i.toNatClampNeg) :: st)) : V p l e R s m args below meth c D G bs nL Q cells slots S (pc) lv (.int i :: .ref a :: st) := by
  intro H locs ls h1 h2 h3 h4
  obtain ⟨q, hq⟩ := va_pl_get (X := []) (f := cellF G S) ha.1
  rw [cell_P ha.2.1 hkd, ha.2.2] at hq
  exact va_aldq C.1 C.2.1 C.2.2.2.2.2.1.1 h1 q t0 hq ht hi hd (kk H locs ls h1 h2 h3 h4)
theorem set_eq {a q : Nat} {e : va_E} {S' : Mem} {A : Nat → Prop} (h2 : va_D A (va_pl (mL S) (cellF G S))) (ha : a ∈ mL S) (hq0 : (va_pl (mL S) (cellF G S))[q]? = some (a, cellF G S a)) (hS' : mL S' = mL S) (hcell : ∀ b, va_up (cellF G S) a e b = cellF G S' b) : (va_pl (mL S) (cellF G S)).set q (a, e) = va_pl (mL S') (cellF G S') := by
  have := va_pl_set (X := []) (f := cellF G S) (e := e) (A := A) h2 ha hq0
  simp only [List.nil_append] at this
  rw [this, va_pl_congr hcell, hS']
theorem v_iast (C : Cx p s m args meth c D G bs cc nL own) {a n : Nat} {i x : Int32} (ha : isA S a 11 n) (hi : vp_in i n) (hd : decode cc pc = .ok (.iastore, 1)) (kk : V p l e R s m args below meth c D G bs nL Q cells slots (sA S a i.toNatClampNeg x) (pc + 1) lv (st)) : V p l e R s m args below meth c D G bs nL Q cells slots S (pc) lv (.int x :: .int i :: .ref a :: st) := by
  intro H locs ls h1 h2 h3 h4
  obtain ⟨q, hq0⟩ := va_pl_get (X := []) (f := cellF G S) ha.1
  have hq := hq0
  rw [cell_I ha.2.1] at hq
  have hset := set_eq (S' := sA S a i.toNatClampNeg x) h2 ha.1 hq0 rfl (cell_sA (G := G) (S := S) i.toNatClampNeg x ha.2.1 (Or.inl rfl))
  exact va_iast C.1 C.2.1 C.2.2.2.2.2.1.1 h1 h2 h3 q 0 hq rfl (by rw [ha.2.2]; exact hi) hd (fun H1 locs1 g1 g2 g3 => by rw [hset] at g1 g2; exact kk H1 locs1 ls g1 g2 g3 h4)
theorem v_zast (C : Cx p s m args meth c D G bs cc nL own) {a n : Nat} {i x : Int32} (ha : isA S a 13 n) (hi : vp_in i n) (hx : vp_nar .boolean x = x) (hd : decode cc pc = .ok (.bastore, 1)) (kk : V p l e R s m args below meth c D G bs nL Q cells slots (sA S a i.toNatClampNeg x) (pc + 1) lv (st)) : V p l e R s m args below meth c D G bs nL Q cells slots S (pc) lv (.int x :: .int i :: .ref a :: st) := by
  intro H locs ls h1 h2 h3 h4
  obtain ⟨q, hq0⟩ := va_pl_get (X := []) (f := cellF G S) ha.1
  have hq := hq0
  rw [cell_Z ha.2.1] at hq
  have hset := set_eq (S' := sA S a i.toNatClampNeg x) h2 ha.1 hq0 rfl (cell_sA (G := G) (S := S) i.toNatClampNeg x ha.2.1 (Or.inr rfl))
  exact va_zast C.1 C.2.1 C.2.2.2.2.2.1.1 h1 h2 h3 q 2 hq rfl (by rw [ha.2.2]; exact hi) hd (fun H1 locs1 g1 g2 g3 => by rw [hx, hset] at g1 g2; exact kk H1 locs1 ls g1 g2 g3 h4)
theorem v_last (C : Cx p s m args meth c D G bs cc nL own) {a n : Nat} {i : Int32} {x : Int64} (ha : isA S a 12 n) (hi : vp_in i n) (hd : decode cc pc = .ok (.lastore, 1)) (kk : V p l e R s m args below meth c D G bs nL Q cells slots (sQ S a i.toNatClampNeg x) (pc + 1) lv (st)) : V p l e R s m args below meth c D G bs nL Q cells slots S (pc) lv (.long x :: .int i :: .ref a :: st) := by
  intro H locs ls h1 h2 h3 h4
  obtain ⟨q, hq0⟩ := va_pl_get (X := []) (f := cellF G S) ha.1
  have hq := hq0
  rw [cell_J ha.2.1] at hq
  have hset := set_eq (S' := sQ S a i.toNatClampNeg x) h2 ha.1 hq0 rfl (cell_sQ (G := G) (S := S) i.toNatClampNeg x ha.2.1)
  exact va_last C.1 C.2.1 C.2.2.2.2.2.1.1 h1 h2 h3 q 1 hq rfl (by rw [ha.2.2]; exact hi) hd (fun H1 locs1 g1 g2 g3 => by rw [hset] at g1 g2; exact kk H1 locs1 ls g1 g2 g3 h4)
theorem v_aast (C : Cx p s m args meth c D G bs cc nL own) {a n kd t0 v cv : Nat} {r : vw_C} {i : Int32} (ha : isA S a kd n) (hkd : 13 < kd) (hv : is S v cv) (hcv : cv < 11) (hr : vwCl[cv]? = some r) (ht : (tysG G)[t0]? = some (G kd, .object r.1)) (hi : vp_in i n) (hd : decode cc pc = .ok (.aastore, 1)) (kk : V p l e R s m args below meth c D G bs nL Q cells slots (sP S a i.toNatClampNeg (some v)) (pc + 1) lv (st)) : V p l e R s m args below meth c D G bs nL Q cells slots S (pc) lv (.ref v :: .int i :: .ref a :: st) := by
  intro H locs ls h1 h2 h3 h4
  obtain ⟨q, hq0⟩ := va_pl_get (X := []) (f := cellF G S) ha.1
  obtain ⟨q2, hq2⟩ := va_pl_get (X := []) (f := cellF G S) hv.1
  rw [cell_obj hv.2 hcv] at hq2
  have hq := hq0
  rw [cell_P ha.2.1 hkd] at hq
  have hset := set_eq (S' := sP S a i.toNatClampNeg (some v)) h2 ha.1 hq0 rfl (cell_sP (G := G) (S := S) i.toNatClampNeg (some v) ha.2.1 hkd)
  exact va_astq C.1 C.2.1 C.2.2.2.2.2.1.1 h1 h2 h3 q t0 q2 cv hq ht hq2 hr (by rw [ha.2.2]; exact hi) hd (fun H1 locs1 g1 g2 g3 => by rw [hset] at g1 g2; exact kk H1 locs1 ls g1 g2 g3 h4)
-- new cells
theorem push_eq {a : Nat} {e : va_E} {S' : Mem} (hn : a ∉ mL S) (hS' : mL S' = mL S ++ [a]) (hcell : ∀ b, va_up (cellF G S) a e b = cellF G S' b) : va_pl (mL S) (cellF G S) ++ [(a, e)] = va_pl (mL S') (cellF G S') := by
  rw [va_pl_push hn, va_pl_congr hcell, hS']
theorem v_new (C : Cx p s m args meth c D G bs cc nL own) {ci i N : Nat} {Cn : String} {T : u_T} {ty : Nat → FieldType} (hc : ci < 11) (hcl : vwCl[ci]? = some (Cn, T, N)) (hin : ∀ w ∈ u_ws Cn T N, w ∈ wsL_law) (hty : ∀ k, k < N → parseFieldDescriptor (T k).2.2.1 = some (ty k)) (hw1 : Cond.classLink own i Cn ∈ wsL_law) (hw2 : Cond.instantiable Cn N ∈ wsL_law) (hw3 : Cond.initialized Cn ∈ wsL_law) (hfs : ∀ j, j < N → defaultValue (ty j) = vp_V (fl0 (lay ci)) j) (hcells : cells + 1 ≤ R.cells) (hslots : slots + N ≤ R.slots) (hd : decode cc pc = .ok (.new i, 3)) (kk : ∀ a, a ∉ mL S → V p l e R s m args below meth c D G bs nL Q (cells + 1) (slots + N) (sNew S a ci) (pc + 3) lv (.ref a :: st)) : V p l e R s m args below meth c D G bs nL Q cells slots S (pc) lv (st) := by
  intro H locs ls h1 h2 h3 h4
  refine va_new C.1 C.2.1 C.2.2.2.2.1 hin ty hty C.2.2.2.1 (C.2.2.2.2.1 _ hw1) (C.2.2.2.2.1 _ hw2) (C.2.2.2.2.1 _ hw3) C.2.2.2.2.2.1.1 h1 h2 h3 (fun q hq => Nat.le_trans C.2.2.2.2.2.2.1 hq) hcl hfs hcells hslots hd (fun q H1 g1 g2 g3 => ?_)
  have hn : q ∉ mL S := va_pl_fresh2 (X := []) g2
  rw [push_eq (S' := sNew S q ci) hn rfl (cell_sNew (G := G) (S := S) (ci := ci) hc)] at g1 g2
  exact kk q hn H1 locs ls g1 g2 g3 h4
theorem G_of {ty : FieldType} {cA cB : ClassId} (h1 : va_RA s cA ty) (h2 : va_RA s cB ty) : cA = cB := by
  cases ty with
  | object C =>
    obtain ⟨_, _, _, _, _, e1⟩ := h1
    obtain ⟨_, _, _, _, _, e2⟩ := h2
    exact Option.some.inj (e1.symm.trans e2)
  | _ => exact Option.some.inj (h1.symm.trans h2)
theorem v_newarr (C : Cx p s m args meth c D G bs cc nL own) {atype : ArrayType} {ty : FieldType} {kd t0 N : Nat} {a0 : vp_A} {n : Int32} (hw : Cond.arrayClass ty ∈ wsL_law) (hty : newarray.typeOf atype = ty) (ht : (tysG G)[t0]? = some (G kd, ty)) (ht7 : t0 < 7) (ha0 : ∀ a, cellF G (sArr S a kd N) a = .inl (G kd, a0)) (ha : ∀ cA : ClassId, vp_cell cA a0 = arrV cA N (fun _ => defaultValue ty)) (hn : ¬ n < 0) (hN : n.toNatClampNeg = N) (hb : N * componentBytes ty ≤ 536870912) (hcells : cells + 1 ≤ R.cells) (hslots : slots + N ≤ R.slots) (hd : decode cc pc = .ok (.newarray atype, 2)) (kk : ∀ a, a ∉ mL S → V p l e R s m args below meth c D G bs nL Q (cells + 1) (slots + N) (sArr S a kd N) (pc + 2) lv (.ref a :: st)) : V p l e R s m args below meth c D G bs nL Q cells slots S (pc) lv (.int n :: st) := by
  intro H locs ls h1 h2 h3 h4
  refine va_newa C.1 C.2.1 (by rw [hty]; exact C.2.2.2.2.1 _ hw) hty C.2.2.2.2.2.1.1 h1 h2 h3 (fun q hq => Nat.le_trans C.2.2.2.2.2.2.1 hq) (a0 := a0) ha hn hN hb hcells hslots hd (fun q cA H1 g0 g1 g2 g3 => ?_)
  have hcA : cA = G kd := G_of (g0.2 7 (cA, ty) rfl).2 (C.2.2.2.2.2.1.1.2 t0 _ ht).2
  subst hcA
  have hn' : q ∉ mL S := va_pl_fresh2 (X := []) g2
  rw [push_eq (S' := sArr S q kd N) hn' rfl (cell_sArr (ha0 q))] at g1 g2
  exact kk q hn' H1 locs ls g1 g2 g3 h4
theorem v_newrefs (C : Cx p s m args meth c D G bs cc nL own) {kd t0 N i : Nat} {Cn : String} {n : Int32} (hkd : 13 < kd) (hao : Cn ∈ aoW) (hw : Cond.classLink own i Cn ∈ wsL_law) (ht : (tysG G)[t0]? = some (G kd, .object Cn)) (hn : ¬ n < 0) (hN : n.toNatClampNeg = N) (hb : N * 4 ≤ 536870912) (hcells : cells + 1 ≤ R.cells) (hslots : slots + N ≤ R.slots) (hd : decode cc pc = .ok (.anewarray i, 3)) (kk : ∀ a, a ∉ mL S → V p l e R s m args below meth c D G bs nL Q (cells + 1) (slots + N) (sArr S a kd N) (pc + 3) lv (.ref a :: st)) : V p l e R s m args below meth c D G bs nL Q cells slots S (pc) lv (.int n :: st) := by
  intro H locs ls h1 h2 h3 h4
  refine va_newq C.1 C.2.1 C.2.2.2.1 (C.2.2.2.2.1 _ hw) (C.2.2.2.2.2.1.2.2 _ hao) C.2.2.2.2.2.1.1 h1 h2 h3 (fun q hq => Nat.le_trans C.2.2.2.2.2.2.1 hq) hn hN hb hcells hslots hd (fun q cA H1 g0 g1 g2 g3 => ?_)
  have hcA : cA = G kd := G_of (g0.2 7 (cA, .object Cn) rfl).2 (C.2.2.2.2.2.1.1.2 t0 _ ht).2
  subst hcA
  have hn' : q ∉ mL S := va_pl_fresh2 (X := []) g2
  rw [push_eq (S' := sArr S q kd N) hn' rfl (cell_sArr (cell_newP hkd))] at g1 g2
  exact kk q hn' H1 locs ls g1 g2 g3 h4
theorem v_objInit (C : Cx p s m args meth c D G bs cc nL own) {i a : Nat} (hw1 : Cond.methodLink own i objectInit ∈ wsL_law) (hw2 : Cond.instanceMethod objectInit ∈ wsL_law) (hw3 : Cond.code objectInit ⟨#[0xb1]⟩ 1 none ∈ wsL_law) (hd : decode cc pc = .ok (.invokespecial i, 3)) (hfr : 1 ≤ R.frames) (hlo : (st.map fun v => v.category).sum + 12 ≤ R.locals) (kk : V p l e R s m args below meth c D G bs nL Q cells slots S (pc + 3) lv (st)) : V p l e R s m args below meth c D G bs nL Q cells slots S (pc) lv (.ref a :: st) := by
  intro H locs ls h1 h2 h3 h4
  refine W.objInit C.1 C.2.1 C.2.2.2.1 (C.2.2.2.2.1 _ hw1) (C.2.2.2.2.1 _ hw2) (C.2.2.2.2.1 _ hw3) rfl (h4.1.trans C.2.2.1.symm) rfl hd hfr (by show 2 * 0 + _ + 12 ≤ _; omega) ?_
  exact kk H locs ls h1 h2 h3 h4
theorem v_max (C : Cx p s m args meth c D G bs cc nL own) {i : Nat} {x y : Int32} (hw1 : Cond.methodLink own i Lib.Math.max.name ∈ wsL_law) (hw2 : Cond.static Lib.Math.max.name ∈ wsL_law) (hw3 : Cond.initialized "java/lang/Math" ∈ wsL_law) (hw4 : Cond.code Lib.Math.max.name Lib.Math.max.code 2 (some .int) ∈ wsL_law) (hd : decode cc pc = .ok (.invokestatic i, 3)) (hfr : 1 ≤ R.frames) (hlo : (st.map fun v => v.category).sum + 13 ≤ R.locals) (hc : cells ≤ R.cells) (hs : slots ≤ R.slots) (kk : V p l e R s m args below meth c D G bs nL Q cells slots S (pc + 3) lv (.int (if x < y then y else x) :: st)) : V p l e R s m args below meth c D G bs nL Q cells slots S (pc) lv (.int y :: .int x :: st) := by
  intro H locs ls h1 h2 h3 h4
  exact va_mmax C.1 C.2.1 (C.2.2.1.trans h4.1.symm) C.2.2.2.1 (C.2.2.2.2.1 _ hw1) (C.2.2.2.2.1 _ hw2) (C.2.2.2.2.1 _ hw3) (C.2.2.2.2.1 _ hw4) hfr hlo hc hs hd (kk H locs ls h1 h2 h3 h4)
-- calls
theorem v_run (C : Cx p s m args meth c D G bs cc nL own) {mc ms : Nat} {st0 rest av : List Value} {a : Array Value} {Post : Mem → List Value → Option Value → Mem → Prop}
    (hr : ∀ (H : Heap) (locs : List Loc) (ls : Array Slot), hW D G bs S H → bs ≤ H.size → lv_has ls nL (lvl 0 lv) → va_Run p l e R s m args below meth c H locs cells slots mc ms (F0 m pc ls st0) rest (QcT D G bs S av Post a) (fun q => bs ≤ q))
    (kk : ∀ (r : Option Value) (S' : Mem), Post S av r S' → V p l e R s m args below meth c D G bs nL Q (cells + mc) (slots + ms) S' (pc + 3) lv (r.toList ++ rest)) : V p l e R s m args below meth c D G bs nL Q cells slots S (pc) lv (st0) := by
  intro H locs ls h1 h2 hS h4 T hT X
  obtain ⟨v, st₀, t, T', L, h0, X', hL, e1, e2, ⟨⟨r, S', hv, hp, hb⟩, hz, hk⟩, stp⟩ := hr H locs ls ⟨h1, h2⟩ (Nat.le_trans C.2.2.2.2.2.2.1 hS.1) h4 T hT X
  cases hv
  rw [h0] at hz hk
  rw [← e1] at hb hz hk
  obtain ⟨t2, a1, b1⟩ := kk v S' hp T'.heap (locs ++ L) ls hb.1 hb.2 ⟨Nat.le_trans hS.1 hz, fun q g1 g2 => by rw [hk q (Nat.lt_of_lt_of_le g1 hS.1) g2]; exact hS.2.1 q g1 g2, fun q hq => by
      rcases List.mem_append.mp hq with h | h
      · exact hS.2.2 q h
      · exact hL q h⟩ h4 T' rfl X'
  exact ⟨t2, stp t2 a1, b1⟩
theorem allGood : ∀ w ∈ wsL_law, (w.onTables && w.keeps) = true ∨ ∃ ty, w = .arrayClass ty := by
  have h : wsL_law.all goodWord = true := by decide +kernel
  exact fun w hw => good_of_word (List.all_eq_true.mp h w hw)
theorem good_code {y : MethodName} {bytes : ByteArray} {maxL : Nat} {ret : Option FieldType} (h5 : Cond.code y bytes maxL ret ∈ wsL_law) : GoodIn wsL_law (.code y bytes maxL ret :: wsL_law) := fun w hw => by
  rcases List.mem_cons.mp hw with rfl | hw
  · exact ⟨h5, allGood _ h5⟩
  · exact ⟨hw, allGood _ hw⟩
theorem good_V {y : MethodName} {bytes : ByteArray} {maxL i : Nat} {ret : Option FieldType} {Cn : String} (h1 : Cond.methodLink own i y ∈ wsL_law) (h2 : Cond.instanceMethod y ∈ wsL_law) (h3 : Cond.selects Cn y y ∈ wsL_law) (h4 : Cond.initialized Cn ∈ wsL_law) (h5 : Cond.code y bytes maxL ret ∈ wsL_law) : GoodIn wsL_law (wsV own i Cn y (.code y bytes maxL ret :: wsL_law)) := fun w hw => by
  rcases List.mem_append.mp hw with hw | hw
  · simp only [List.mem_cons, List.not_mem_nil, or_false] at hw
    rcases hw with rfl | rfl | rfl | rfl
    · exact ⟨h1, allGood _ h1⟩
    · exact ⟨h2, allGood _ h2⟩
    · exact ⟨h3, allGood _ h3⟩
    · exact ⟨h4, allGood _ h4⟩
  · exact good_code h5 w hw
theorem good_S {y : MethodName} {bytes : ByteArray} {maxL i : Nat} {ret : Option FieldType} (h1 : Cond.methodLink own i y ∈ wsL_law) (h2 : Cond.static y ∈ wsL_law) (h4 : Cond.initialized y.cls ∈ wsL_law) (h5 : Cond.code y bytes maxL ret ∈ wsL_law) : GoodIn wsL_law (va_wsS own i y (.code y bytes maxL ret :: wsL_law)) := fun w hw => by
  rcases List.mem_append.mp hw with hw | hw
  · simp only [List.mem_cons, List.not_mem_nil, or_false] at hw
    rcases hw with rfl | rfl | rfl
    · exact ⟨h1, allGood _ h1⟩
    · exact ⟨h2, allGood _ h2⟩
    · exact ⟨h4, allGood _ h4⟩
  · exact good_code h5 w hw
theorem v_callV (C : Cx p s m args meth c D G bs cc nL own) {y : MethodName} {bytes : ByteArray} {maxL i f mc ms lo n b ci N : Nat} {ret : Option FieldType} {Pre : Mem → List Value → Prop} {Post : Mem → List Value → Option Value → Mem → Prop} {As rest st0 : List Value} {Cn : String} {T : u_T}
    (hM : Ct l y bytes maxL ret f mc ms lo Pre Post) (hst : st0 = As.reverse ++ .ref b :: rest) (hb : is S b ci) (hc : ci < 11) (hcl : vwCl[ci]? = some (Cn, T, N))
    (hw : Cond.methodLink own i y ∈ wsL_law ∧ Cond.instanceMethod y ∈ wsL_law ∧ Cond.selects Cn y y ∈ wsL_law ∧ Cond.initialized Cn ∈ wsL_law ∧ Cond.code y bytes maxL ret ∈ wsL_law)
    (hy : y.cls = Cn ∧ y.cls ≠ "java/lang/invoke/MethodHandle" ∧ y.cls ≠ "java/lang/invoke/VarHandle" ∧ (parseMethodDescriptor y.desc).map (fun d => d.parameters.length) = some n) (hn : As.length = n)
    (hR : f + 1 ≤ R.frames ∧ 8 + (maxL + 11) + lo ≤ R.locals) (hrest : (rest.map fun v => v.category).sum ≤ 8) (hcs : cells + mc ≤ R.cells ∧ slots + ms ≤ R.slots) (hd : decode cc pc = .ok (.invokevirtual i, 3))
    (hpre : Pre S (.ref b :: As)) (kk : ∀ (r : Option Value) (S' : Mem), Post S (.ref b :: As) r S' → V p l e R s m args below meth c D G bs nL Q (cells + mc) (slots + ms) S' (pc + 3) lv (r.toList ++ rest)) : V p l e R s m args below meth c D G bs nL Q cells slots S (pc) lv (st0) := by
  subst hst
  refine v_run (a := (Value.ref b :: As).toArray) C (fun H locs ls hw1 hbs h4 => ?_) kk
  obtain ⟨q, hq⟩ := va_pl_get (X := []) (f := cellF G S) hb.1
  rw [cell_obj hb.2 hc] at hq
  exact va_runV ⟨C.1, C.2.1, C.2.2.1, C.2.2.2.1, C.2.2.2.2.1⟩ (hM D G bs S (.ref b :: As) hpre) (cwV n C.2.2.2.2.1 (good_V hw.1 hw.2.1 hw.2.2.1 hw.2.2.2.1 hw.2.2.2.2) rfl rfl rfl hy hR) ⟨wu.blind _, va_recv C.2.2.2.2.2.1.1 hw1.1 hcl hq, fun U hU hW => ⟨rfl, by rw [hU]; exact hw1, C.2.2.2.2.2.1.moved hW, by rw [hU]; exact hbs⟩⟩ rfl hn h4.1 rfl (lv_room hrest) hd hcs
theorem v_callS (C : Cx p s m args meth c D G bs cc nL own) {y : MethodName} {bytes : ByteArray} {maxL i f mc ms lo n : Nat} {ret : Option FieldType} {Pre : Mem → List Value → Prop} {Post : Mem → List Value → Option Value → Mem → Prop} {As rest st0 : List Value}
    (hM : Ct l y bytes maxL ret f mc ms lo Pre Post) (hst : st0 = As.reverse ++ rest)
    (hw : Cond.methodLink own i y ∈ wsL_law ∧ Cond.static y ∈ wsL_law ∧ Cond.initialized y.cls ∈ wsL_law ∧ Cond.code y bytes maxL ret ∈ wsL_law)
    (hy : y.cls ≠ "java/lang/invoke/MethodHandle" ∧ y.cls ≠ "java/lang/invoke/VarHandle" ∧ (parseMethodDescriptor y.desc).map (fun d => d.parameters.length) = some n) (hn : As.length = n)
    (hR : f + 1 ≤ R.frames ∧ 8 + (maxL + 11) + lo ≤ R.locals) (hrest : (rest.map fun v => v.category).sum ≤ 8) (hcs : cells + mc ≤ R.cells ∧ slots + ms ≤ R.slots) (hd : decode cc pc = .ok (.invokestatic i, 3))
    (hpre : Pre S As) (kk : ∀ (r : Option Value) (S' : Mem), Post S As r S' → V p l e R s m args below meth c D G bs nL Q (cells + mc) (slots + ms) S' (pc + 3) lv (r.toList ++ rest)) : V p l e R s m args below meth c D G bs nL Q cells slots S (pc) lv (st0) := by
  subst hst
  refine v_run (a := As.toArray) C (fun H locs ls hw1 hbs h4 => ?_) kk
  exact va_runS ⟨C.1, C.2.1, C.2.2.1, C.2.2.2.1, C.2.2.2.2.1⟩ (hM D G bs S As hpre) (va_cwS n C.2.2.2.2.1 (good_S hw.1 hw.2.1 hw.2.2.1 hw.2.2.2) rfl rfl rfl hy hR) ⟨wu.blind _, fun U hU hW => ⟨rfl, by rw [hU]; exact hw1, C.2.2.2.2.2.1.moved hW, by rw [hU]; exact hbs⟩⟩ rfl hn h4.1 rfl (lv_room hrest) hd hcs
/-- a private static of a nest mate -/
theorem v_callSN (C : Cx p s m args meth c D G bs cc nL own) {y : MethodName} {bytes : ByteArray} {maxL i f mc ms lo n : Nat} {ret : Option FieldType} {Pre : Mem → List Value → Prop} {Post : Mem → List Value → Option Value → Mem → Prop} {As rest st0 : List Value}
    (hM : Ct l y bytes maxL ret f mc ms lo Pre Post) (hst : st0 = As.reverse ++ rest)
    (hw : (own, i, y) ∈ nests ∧ Cond.static y ∈ wsL_law ∧ Cond.initialized y.cls ∈ wsL_law ∧ Cond.code y bytes maxL ret ∈ wsL_law)
    (hy : y.cls ≠ "java/lang/invoke/MethodHandle" ∧ y.cls ≠ "java/lang/invoke/VarHandle" ∧ (parseMethodDescriptor y.desc).map (fun d => d.parameters.length) = some n) (hn : As.length = n)
    (hR : f + 1 ≤ R.frames ∧ 8 + (maxL + 11) + lo ≤ R.locals) (hrest : (rest.map fun v => v.category).sum ≤ 8) (hcs : cells + mc ≤ R.cells ∧ slots + ms ≤ R.slots) (hd : decode cc pc = .ok (.invokestatic i, 3))
    (hpre : Pre S As) (kk : ∀ (r : Option Value) (S' : Mem), Post S As r S' → V p l e R s m args below meth c D G bs nL Q (cells + mc) (slots + ms) S' (pc + 3) lv (r.toList ++ rest)) : V p l e R s m args below meth c D G bs nL Q cells slots S (pc) lv (st0) := by
  subst hst
  refine v_run (a := As.toArray) C (fun H locs ls hw1 hbs h4 => ?_) kk
  exact va_runSN ⟨C.1, C.2.1, C.2.2.1, C.2.2.2.1, C.2.2.2.2.1⟩ (hM D G bs S As hpre) ⟨va_cnB n C.2.2.2.2.1 (good_code hw.2.2.2) rfl rfl rfl (C.2.2.2.2.2.1.2.1 _ hw.1) (C.2.2.2.2.1 _ hw.2.2.1) hy hR, C.2.2.2.2.1 _ hw.2.1, trivial⟩ ⟨wu.blind _, fun U hU hW => ⟨rfl, by rw [hU]; exact hw1, C.2.2.2.2.2.1.moved hW, by rw [hU]; exact hbs⟩⟩ rfl hn h4.1 rfl (lv_room hrest) hd hcs
/-- a constructor -/
theorem v_callI (C : Cx p s m args meth c D G bs cc nL own) {y : MethodName} {bytes : ByteArray} {maxL i f mc ms lo n b : Nat} {Pre : Mem → List Value → Prop} {Post : Mem → List Value → Option Value → Mem → Prop} {As rest st0 : List Value}
    (hM : Ct l y bytes maxL none f mc ms lo Pre Post) (hst : st0 = As.reverse ++ .ref b :: rest)
    (hw : Cond.methodLink own i y ∈ wsL_law ∧ Cond.instanceMethod y ∈ wsL_law ∧ Cond.initialized y.cls ∈ wsL_law ∧ Cond.code y bytes maxL none ∈ wsL_law) (hy1 : y.name = "<init>")
    (hy : y.cls ≠ "java/lang/invoke/MethodHandle" ∧ y.cls ≠ "java/lang/invoke/VarHandle" ∧ (parseMethodDescriptor y.desc).map (fun d => d.parameters.length) = some n) (hn : As.length = n)
    (hR : f + 1 ≤ R.frames ∧ 8 + (maxL + 11) + lo ≤ R.locals) (hrest : (rest.map fun v => v.category).sum ≤ 8) (hcs : cells + mc ≤ R.cells ∧ slots + ms ≤ R.slots) (hd : decode cc pc = .ok (.invokespecial i, 3))
    (hpre : Pre S (.ref b :: As)) (kk : ∀ (r : Option Value) (S' : Mem), Post S (.ref b :: As) r S' → V p l e R s m args below meth c D G bs nL Q (cells + mc) (slots + ms) S' (pc + 3) lv (r.toList ++ rest)) : V p l e R s m args below meth c D G bs nL Q cells slots S (pc) lv (st0) := by
  subst hst
  refine v_run (a := (Value.ref b :: As).toArray) C (fun H locs ls hw1 hbs h4 => ?_) kk
  exact va_runI ⟨C.1, C.2.1, C.2.2.1, C.2.2.2.1, C.2.2.2.2.1⟩ (hM D G bs S (.ref b :: As) hpre) (cwI n C.2.2.2.2.1 (good_code hw.2.2.2) rfl rfl rfl (C.2.2.2.2.1 _ hw.2.2.1) (C.2.2.2.2.1 _ hw.1) (C.2.2.2.2.1 _ hw.2.1) hy1 hy hR) ⟨wu.blind _, fun U hU hW => ⟨rfl, by rw [hU]; exact hw1, C.2.2.2.2.2.1.moved hW, by rw [hU]; exact hbs⟩⟩ rfl hn h4.1 rfl (lv_room hrest) hd hcs
/-- a private constructor of a nest mate -/
theorem v_callIN (C : Cx p s m args meth c D G bs cc nL own) {y : MethodName} {bytes : ByteArray} {maxL i f mc ms lo n b : Nat} {Pre : Mem → List Value → Prop} {Post : Mem → List Value → Option Value → Mem → Prop} {As rest st0 : List Value}
    (hM : Ct l y bytes maxL none f mc ms lo Pre Post) (hst : st0 = As.reverse ++ .ref b :: rest)
    (hw : (own, i, y) ∈ nests ∧ Cond.instanceMethod y ∈ wsL_law ∧ Cond.initialized y.cls ∈ wsL_law ∧ Cond.code y bytes maxL none ∈ wsL_law) (hy1 : y.name = "<init>")
    (hy : y.cls ≠ "java/lang/invoke/MethodHandle" ∧ y.cls ≠ "java/lang/invoke/VarHandle" ∧ (parseMethodDescriptor y.desc).map (fun d => d.parameters.length) = some n) (hn : As.length = n)
    (hR : f + 1 ≤ R.frames ∧ 8 + (maxL + 11) + lo ≤ R.locals) (hrest : (rest.map fun v => v.category).sum ≤ 8) (hcs : cells + mc ≤ R.cells ∧ slots + ms ≤ R.slots) (hd : decode cc pc = .ok (.invokespecial i, 3))
    (hpre : Pre S (.ref b :: As)) (kk : ∀ (r : Option Value) (S' : Mem), Post S (.ref b :: As) r S' → V p l e R s m args below meth c D G bs nL Q (cells + mc) (slots + ms) S' (pc + 3) lv (r.toList ++ rest)) : V p l e R s m args below meth c D G bs nL Q cells slots S (pc) lv (st0) := by
  subst hst
  refine v_run (a := (Value.ref b :: As).toArray) C (fun H locs ls hw1 hbs h4 => ?_) kk
  exact va_runIN ⟨C.1, C.2.1, C.2.2.1, C.2.2.2.1, C.2.2.2.2.1⟩ (hM D G bs S (.ref b :: As) hpre) ⟨va_cnB n C.2.2.2.2.1 (good_code hw.2.2.2) rfl rfl rfl (C.2.2.2.2.2.1.2.1 _ hw.1) (C.2.2.2.2.1 _ hw.2.2.1) hy hR, hy1, C.2.2.2.2.1 _ hw.2.1⟩ ⟨wu.blind _, fun U hU hW => ⟨rfl, by rw [hU]; exact hw1, C.2.2.2.2.2.1.moved hW, by rw [hU]; exact hbs⟩⟩ rfl hn h4.1 rfl (lv_room hrest) hd hcs
-- a method's end
theorem v_iret (C : Cx p s m args meth c D G bs cc nL own) {S0 : Mem} {av : List Value} {Post : Mem → List Value → Option Value → Mem → Prop} {mc ms : Nat} {v : Int32} (hr : meth.sig.returnType = some .int) (hc : cells ≤ mc) (hs : slots ≤ ms) (hd : decode cc pc = .ok (.ireturn, 1)) (hp : Post S0 av (some (.int v)) S) : V p l e R s m args below meth c D G bs nL (MQ below (QcT D G bs S0 av Post) args s mc ms (fun q => bs ≤ q)) cells slots S pc lv [.int v] := by
  intro H locs ls h1 h2 h3 h4
  refine W.widen hc hs ?_
  exact W.iret (hlocks := C.2.2.2.2.2.2.2) C.1 C.2.1 hr (fun t ht hW => ⟨⟨_, S, rfl, hp, by rw [ht]; exact ⟨h1, h2⟩⟩, h3.F ht⟩) h3.2.2 hd
theorem v_zret (C : Cx p s m args meth c D G bs cc nL own) {S0 : Mem} {av : List Value} {Post : Mem → List Value → Option Value → Mem → Prop} {mc ms : Nat} {v : Int32} (hr : meth.sig.returnType = some .boolean) (hn : narrow .boolean (.int v) = .int v) (hc : cells ≤ mc) (hs : slots ≤ ms) (hd : decode cc pc = .ok (.ireturn, 1)) (hp : Post S0 av (some (.int v)) S) : V p l e R s m args below meth c D G bs nL (MQ below (QcT D G bs S0 av Post) args s mc ms (fun q => bs ≤ q)) cells slots S pc lv [.int v] := by
  intro H locs ls h1 h2 h3 h4
  refine W.widen hc hs ?_
  exact W.zret (hlocks := C.2.2.2.2.2.2.2) C.1 C.2.1 hr hn (fun t ht hW => ⟨⟨_, S, rfl, hp, by rw [ht]; exact ⟨h1, h2⟩⟩, h3.F ht⟩) h3.2.2 hd
theorem v_lret (C : Cx p s m args meth c D G bs cc nL own) {S0 : Mem} {av : List Value} {Post : Mem → List Value → Option Value → Mem → Prop} {mc ms : Nat} {v : Int64} (hr : meth.sig.returnType = some .long) (hc : cells ≤ mc) (hs : slots ≤ ms) (hd : decode cc pc = .ok (.lreturn, 1)) (hp : Post S0 av (some (.long v)) S) : V p l e R s m args below meth c D G bs nL (MQ below (QcT D G bs S0 av Post) args s mc ms (fun q => bs ≤ q)) cells slots S pc lv [.long v] := by
  intro H locs ls h1 h2 h3 h4
  refine W.widen hc hs ?_
  exact W.lret (hlocks := C.2.2.2.2.2.2.2) C.1 C.2.1 hr (fun t ht hW => ⟨⟨_, S, rfl, hp, by rw [ht]; exact ⟨h1, h2⟩⟩, h3.F ht⟩) h3.2.2 hd
theorem v_vret (C : Cx p s m args meth c D G bs cc nL own) {S0 : Mem} {av : List Value} {Post : Mem → List Value → Option Value → Mem → Prop} {mc ms : Nat} (hr : meth.sig.returnType = none) (hc : cells ≤ mc) (hs : slots ≤ ms) (hd : decode cc pc = .ok (.return_, 1)) (hp : Post S0 av none S) : V p l e R s m args below meth c D G bs nL (MQ below (QcT D G bs S0 av Post) args s mc ms (fun q => bs ≤ q)) cells slots S pc lv [] := by
  intro H locs ls h1 h2 h3 h4
  refine W.widen hc hs ?_
  exact W.vret (hlocks := C.2.2.2.2.2.2.2) C.1 C.2.1 hr (fun t ht hW => ⟨⟨_, S, rfl, hp, by rw [ht]; exact ⟨h1, h2⟩⟩, h3.F ht⟩) h3.2.2 hd
theorem v_aret (C : Cx p s m args meth c D G bs cc nL own) {S0 : Mem} {av : List Value} {Post : Mem → List Value → Option Value → Mem → Prop} {mc ms : Nat} {o : Option Nat} {Cn : String} (hr : meth.sig.returnType = some (.object Cn)) (hc : cells ≤ mc) (hs : slots ≤ ms) (hd : decode cc pc = .ok (.areturn, 1)) (hp : Post S0 av (some (va_rf o)) S) : V p l e R s m args below meth c D G bs nL (MQ below (QcT D G bs S0 av Post) args s mc ms (fun q => bs ≤ q)) cells slots S pc lv [va_rf o] := by
  intro H locs ls h1 h2 h3 h4
  refine W.widen hc hs ?_
  exact W.aret (hlocks := C.2.2.2.2.2.2.2) C.1 C.2.1 hr (Or.inl ⟨_, rfl⟩) (va_rf_or o) (fun t ht hW => ⟨⟨_, S, rfl, hp, by rw [ht]; exact ⟨h1, h2⟩⟩, h3.F ht⟩) h3.2.2 hd
/-- a contract out of the walk of the body -/
theorem ct_of {y : MethodName} {maxL f mc ms lo : Nat} {ret : Option FieldType} {Pre : Mem → List Value → Prop} {Post : Mem → List Value → Option Value → Mem → Prop} (hy : plainName y.cls = true) (hlen : ∀ S av, Pre S av → (lg_sl av).length ≤ maxL)
    (body : ∀ (p : Program) (e : Env) (s : State) (m : MethodId) (args : Array Value) (below : List Frame) (meth : Method) (c : Code) (D : va_G) (G : Nat → ClassId) (bs : Nat) (S : Mem) (av : List Value), Cx p s m args meth c D G bs cc maxL y.cls → meth.sig.returnType = ret → (y.name = "<init>" → meth.name = "<init>") → Pre S av →
      V p l e ({ frames := f, cells := mc, slots := ms, locals := lo } : Room) s m args below meth c D G bs maxL (MQ below (QcT D G bs S av Post) args s mc ms (fun q => bs ≤ q)) 0 0 S 0 (argl maxL av) []) :
    Ct l y cc maxL ret f mc ms lo Pre Post := by
  intro D G bs S av hpre
  refine Met.ofW (cc := cc) (maxL := maxL) (ret := ret) hy rfl ?_
  intro p e s m args below meth c s₁ B hml hv
  obtain ⟨rfl, hwu⟩ := hv
  have hts := atoms_spec (ws := .code y cc maxL ret :: wsL_law) B.pre
  have hown : s.vm.findClass y.cls = some m.cls := findClass_of_methodNamed B.named
  have hl := lv_entry av (n := maxL) (hlen S av hpre)
  rw [lg_entry_eq]
  refine body p e s m av.toArray below meth c D G bs S av ⟨B.exec, B.bytes, hml, hown, fun w hw => hts w (List.mem_cons_of_mem _ hw), hwu.2.1, hwu.2.2, B.notSynchronized⟩ B.returns (fun h => ((name_of_methodNamed B.named B.method).1).trans h) hpre s.heap [] _ hwu.1.1 hwu.1.2 va_S.rf ?_
  rw [lvl_argl]
  exact hl

end ROWS
