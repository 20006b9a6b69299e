/-! small facts: the memory read behind its updates; kinds that stay; numbers -/
/-- the first n places of an int array get one value -/
def sFill (S : Mem) (a n : Nat) (v : Int32) : Mem := (mL S, mK S, mN S, mI S, mO S, mJ S, (fun a' i => if a' = a ∧ i < n then v else mA S a' i), mP S, mQ S)
theorem mL_sI (S : Mem) (g a : Nat) (v : Int32) : mL (sI S g a v) = mL S := rfl
theorem mL_sO (S : Mem) (g a : Nat) (v : Option Nat) : mL (sO S g a v) = mL S := rfl
theorem mL_sJ (S : Mem) (g a : Nat) (v : Int64) : mL (sJ S g a v) = mL S := rfl
theorem mL_sA (S : Mem) (a i : Nat) (v : Int32) : mL (sA S a i v) = mL S := rfl
theorem mL_sP (S : Mem) (a i : Nat) (v : Option Nat) : mL (sP S a i v) = mL S := rfl
theorem mL_sQ (S : Mem) (a i : Nat) (v : Int64) : mL (sQ S a i v) = mL S := rfl
theorem mL_sNew (S : Mem) (a ci : Nat) : mL (sNew S a ci) = mL S ++ [a] := rfl
theorem mL_sArr (S : Mem) (a kd n : Nat) : mL (sArr S a kd n) = mL S ++ [a] := rfl
theorem mL_sFill (S : Mem) (a n : Nat) (v : Int32) : mL (sFill S a n v) = mL S := rfl
theorem mK_sI (S : Mem) (g a : Nat) (v : Int32) : mK (sI S g a v) = mK S := rfl
theorem mK_sO (S : Mem) (g a : Nat) (v : Option Nat) : mK (sO S g a v) = mK S := rfl
theorem mK_sJ (S : Mem) (g a : Nat) (v : Int64) : mK (sJ S g a v) = mK S := rfl
theorem mK_sA (S : Mem) (a i : Nat) (v : Int32) : mK (sA S a i v) = mK S := rfl
theorem mK_sP (S : Mem) (a i : Nat) (v : Option Nat) : mK (sP S a i v) = mK S := rfl
theorem mK_sQ (S : Mem) (a i : Nat) (v : Int64) : mK (sQ S a i v) = mK S := rfl
theorem mK_sNew (S : Mem) (a ci : Nat) (b : Nat) : mK (sNew S a ci) b = if b = a then ci else mK S b := rfl
theorem mK_sArr (S : Mem) (a kd n : Nat) (b : Nat) : mK (sArr S a kd n) b = if b = a then kd else mK S b := rfl
theorem mK_sFill (S : Mem) (a n : Nat) (v : Int32) : mK (sFill S a n v) = mK S := rfl
theorem mN_sI (S : Mem) (g a : Nat) (v : Int32) : mN (sI S g a v) = mN S := rfl
theorem mN_sO (S : Mem) (g a : Nat) (v : Option Nat) : mN (sO S g a v) = mN S := rfl
theorem mN_sJ (S : Mem) (g a : Nat) (v : Int64) : mN (sJ S g a v) = mN S := rfl
theorem mN_sA (S : Mem) (a i : Nat) (v : Int32) : mN (sA S a i v) = mN S := rfl
theorem mN_sP (S : Mem) (a i : Nat) (v : Option Nat) : mN (sP S a i v) = mN S := rfl
theorem mN_sQ (S : Mem) (a i : Nat) (v : Int64) : mN (sQ S a i v) = mN S := rfl
theorem mN_sNew (S : Mem) (a ci : Nat) : mN (sNew S a ci) = mN S := rfl
theorem mN_sArr (S : Mem) (a kd n : Nat) (b : Nat) : mN (sArr S a kd n) b = if b = a then n else mN S b := rfl
theorem mN_sFill (S : Mem) (a n : Nat) (v : Int32) : mN (sFill S a n v) = mN S := rfl
theorem mI_sI (S : Mem) (g a : Nat) (v : Int32) (g' a' : Nat) : mI (sI S g a v) g' a' = if g' = g ∧ a' = a then v else mI S g' a' := rfl
theorem mI_sO (S : Mem) (g a : Nat) (v : Option Nat) : mI (sO S g a v) = mI S := rfl
theorem mI_sJ (S : Mem) (g a : Nat) (v : Int64) : mI (sJ S g a v) = mI S := rfl
theorem mI_sA (S : Mem) (a i : Nat) (v : Int32) : mI (sA S a i v) = mI S := rfl
theorem mI_sP (S : Mem) (a i : Nat) (v : Option Nat) : mI (sP S a i v) = mI S := rfl
theorem mI_sQ (S : Mem) (a i : Nat) (v : Int64) : mI (sQ S a i v) = mI S := rfl
theorem mI_sNew (S : Mem) (a ci : Nat) (g b : Nat) : mI (sNew S a ci) g b = if b = a then 0 else mI S g b := rfl
theorem mI_sArr (S : Mem) (a kd n : Nat) : mI (sArr S a kd n) = mI S := rfl
theorem mI_sFill (S : Mem) (a n : Nat) (v : Int32) : mI (sFill S a n v) = mI S := rfl
theorem mO_sI (S : Mem) (g a : Nat) (v : Int32) : mO (sI S g a v) = mO S := rfl
theorem mO_sO (S : Mem) (g a : Nat) (v : Option Nat) (g' a' : Nat) : mO (sO S g a v) g' a' = if g' = g ∧ a' = a then v else mO S g' a' := rfl
theorem mO_sJ (S : Mem) (g a : Nat) (v : Int64) : mO (sJ S g a v) = mO S := rfl
theorem mO_sA (S : Mem) (a i : Nat) (v : Int32) : mO (sA S a i v) = mO S := rfl
theorem mO_sP (S : Mem) (a i : Nat) (v : Option Nat) : mO (sP S a i v) = mO S := rfl
theorem mO_sQ (S : Mem) (a i : Nat) (v : Int64) : mO (sQ S a i v) = mO S := rfl
theorem mO_sNew (S : Mem) (a ci : Nat) (g b : Nat) : mO (sNew S a ci) g b = if b = a then none else mO S g b := rfl
theorem mO_sArr (S : Mem) (a kd n : Nat) : mO (sArr S a kd n) = mO S := rfl
theorem mO_sFill (S : Mem) (a n : Nat) (v : Int32) : mO (sFill S a n v) = mO S := rfl
theorem mJ_sI (S : Mem) (g a : Nat) (v : Int32) : mJ (sI S g a v) = mJ S := rfl
theorem mJ_sO (S : Mem) (g a : Nat) (v : Option Nat) : mJ (sO S g a v) = mJ S := rfl
theorem mJ_sJ (S : Mem) (g a : Nat) (v : Int64) (g' a' : Nat) : mJ (sJ S g a v) g' a' = if g' = g ∧ a' = a then v else mJ S g' a' := rfl
theorem mJ_sA (S : Mem) (a i : Nat) (v : Int32) : mJ (sA S a i v) = mJ S := rfl
theorem mJ_sP (S : Mem) (a i : Nat) (v : Option Nat) : mJ (sP S a i v) = mJ S := rfl
theorem mJ_sQ (S : Mem) (a i : Nat) (v : Int64) : mJ (sQ S a i v) = mJ S := rfl
theorem mJ_sNew (S : Mem) (a ci : Nat) (g b : Nat) : mJ (sNew S a ci) g b = if b = a then 0 else mJ S g b := rfl
theorem mJ_sArr (S : Mem) (a kd n : Nat) : mJ (sArr S a kd n) = mJ S := rfl
theorem mJ_sFill (S : Mem) (a n : Nat) (v : Int32) : mJ (sFill S a n v) = mJ S := rfl
theorem mA_sI (S : Mem) (g a : Nat) (v : Int32) : mA (sI S g a v) = mA S := rfl
theorem mA_sO (S : Mem) (g a : Nat) (v : Option Nat) : mA (sO S g a v) = mA S := rfl
theorem mA_sJ (S : Mem) (g a : Nat) (v : Int64) : mA (sJ S g a v) = mA S := rfl
theorem mA_sA (S : Mem) (a i : Nat) (v : Int32) (a' i' : Nat) : mA (sA S a i v) a' i' = if a' = a ∧ i' = i then v else mA S a' i' := rfl
theorem mA_sP (S : Mem) (a i : Nat) (v : Option Nat) : mA (sP S a i v) = mA S := rfl
theorem mA_sQ (S : Mem) (a i : Nat) (v : Int64) : mA (sQ S a i v) = mA S := rfl
theorem mA_sNew (S : Mem) (a ci : Nat) : mA (sNew S a ci) = mA S := rfl
theorem mA_sArr (S : Mem) (a kd n : Nat) (b i : Nat) : mA (sArr S a kd n) b i = if b = a then 0 else mA S b i := rfl
theorem mA_sFill (S : Mem) (a n : Nat) (v : Int32) (a' i' : Nat) : mA (sFill S a n v) a' i' = if a' = a ∧ i' < n then v else mA S a' i' := rfl
theorem mP_sI (S : Mem) (g a : Nat) (v : Int32) : mP (sI S g a v) = mP S := rfl
theorem mP_sO (S : Mem) (g a : Nat) (v : Option Nat) : mP (sO S g a v) = mP S := rfl
theorem mP_sJ (S : Mem) (g a : Nat) (v : Int64) : mP (sJ S g a v) = mP S := rfl
theorem mP_sA (S : Mem) (a i : Nat) (v : Int32) : mP (sA S a i v) = mP S := rfl
theorem mP_sP (S : Mem) (a i : Nat) (v : Option Nat) (a' i' : Nat) : mP (sP S a i v) a' i' = if a' = a ∧ i' = i then v else mP S a' i' := rfl
theorem mP_sQ (S : Mem) (a i : Nat) (v : Int64) : mP (sQ S a i v) = mP S := rfl
theorem mP_sNew (S : Mem) (a ci : Nat) : mP (sNew S a ci) = mP S := rfl
theorem mP_sArr (S : Mem) (a kd n : Nat) (b i : Nat) : mP (sArr S a kd n) b i = if b = a then none else mP S b i := rfl
theorem mP_sFill (S : Mem) (a n : Nat) (v : Int32) : mP (sFill S a n v) = mP S := rfl
theorem mQ_sI (S : Mem) (g a : Nat) (v : Int32) : mQ (sI S g a v) = mQ S := rfl
theorem mQ_sO (S : Mem) (g a : Nat) (v : Option Nat) : mQ (sO S g a v) = mQ S := rfl
theorem mQ_sJ (S : Mem) (g a : Nat) (v : Int64) : mQ (sJ S g a v) = mQ S := rfl
theorem mQ_sA (S : Mem) (a i : Nat) (v : Int32) : mQ (sA S a i v) = mQ S := rfl
theorem mQ_sP (S : Mem) (a i : Nat) (v : Option Nat) : mQ (sP S a i v) = mQ S := rfl
theorem mQ_sQ (S : Mem) (a i : Nat) (v : Int64) (a' i' : Nat) : mQ (sQ S a i v) a' i' = if a' = a ∧ i' = i then v else mQ S a' i' := rfl
theorem mQ_sNew (S : Mem) (a ci : Nat) : mQ (sNew S a ci) = mQ S := rfl
theorem mQ_sArr (S : Mem) (a kd n : Nat) (b i : Nat) : mQ (sArr S a kd n) b i = if b = a then 0 else mQ S b i := rfl
theorem mQ_sFill (S : Mem) (a n : Nat) (v : Int32) : mQ (sFill S a n v) = mQ S := rfl
theorem is_new {S : Mem} {a b ci k : Nat} (hb : b ∉ mL S) (h : is S a k) : is (sNew S b ci) a k := ⟨List.mem_append_left _ h.1, by rw [mK_sNew, if_neg (by rintro rfl; exact hb h.1)]; exact h.2⟩
theorem is_arr {S : Mem} {a b kd n k : Nat} (hb : b ∉ mL S) (h : is S a k) : is (sArr S b kd n) a k := ⟨List.mem_append_left _ h.1, by rw [mK_sArr, if_neg (by rintro rfl; exact hb h.1)]; exact h.2⟩
theorem isA_new {S : Mem} {a b ci k n : Nat} (hb : b ∉ mL S) (h : isA S a k n) : isA (sNew S b ci) a k n := ⟨List.mem_append_left _ h.1, by rw [mK_sNew, if_neg (by rintro rfl; exact hb h.1)]; exact h.2.1, h.2.2⟩
theorem isA_arr {S : Mem} {a b kd n k n' : Nat} (hb : b ∉ mL S) (h : isA S a k n') : isA (sArr S b kd n) a k n' := ⟨List.mem_append_left _ h.1, by rw [mK_sArr, if_neg (by rintro rfl; exact hb h.1)]; exact h.2.1, by rw [mN_sArr, if_neg (by rintro rfl; exact hb h.1)]; exact h.2.2⟩
theorem is_newS {S : Mem} {b ci : Nat} (_ : b ∉ mL S) : is (sNew S b ci) b ci := ⟨List.mem_append_right _ (List.mem_singleton.mpr rfl), by rw [mK_sNew, if_pos rfl]⟩
theorem isA_arrS {S : Mem} {b kd n : Nat} (_ : b ∉ mL S) : isA (sArr S b kd n) b kd n := ⟨List.mem_append_right _ (List.mem_singleton.mpr rfl), by rw [mK_sArr, if_pos rfl], by rw [mN_sArr, if_pos rfl]⟩
theorem nm_new {S : Mem} {b c ci : Nat} (h : c ∉ mL (sNew S b ci)) : c ∉ mL S := fun z => h (List.mem_append_left _ z)
theorem nm_arr {S : Mem} {b c kd n : Nat} (h : c ∉ mL (sArr S b kd n)) : c ∉ mL S := fun z => h (List.mem_append_left _ z)
theorem ne_of_is {S : Mem} {a b k : Nat} (hb : b ∉ mL S) (h : is S a k) : a ≠ b := by rintro rfl; exact hb h.1
theorem ne_of_isA {S : Mem} {a b k n : Nat} (hb : b ∉ mL S) (h : isA S a k n) : a ≠ b := by rintro rfl; exact hb h.1
/-- a boolean as the machine has it -/
def bI (x : Bool) : Int32 := if x then 1 else 0
def isB (a b : Int32) : Bool := decide (0 ≤ a) && decide (a < b)
theorem bI_f {x : Bool} (h : bI x = 0) : x = false := by cases x <;> simp_all [bI]
theorem bI_t {x : Bool} (h : ¬ bI x = 0) : x = true := by cases x <;> simp_all [bI]
theorem isB_t {a b : Int32} (h : isB a b = true) : 0 ≤ a ∧ a < b := by simpa [isB] using h
theorem isB_f {a b : Int32} (h : isB a b = false) : ¬ (0 ≤ a ∧ a < b) := by simpa [isB] using h
theorem i0_le {a : Int32} : 0 ≤ a ↔ 0 ≤ a.toInt := Int32.le_iff_toInt_le
theorem vp_in_b {a b : Int32} {n : Nat} (h : 0 ≤ a ∧ a < b) (hb : b.toInt = n) : vp_in a n := vp_in_iff.mpr ⟨Int32.le_iff_toInt_le.mp h.1, by rw [← hb]; exact Int32.lt_iff_toInt_lt.mp h.2⟩

theorem nfX0 : ∀ j, j < (lay 0).length → defaultValue (tyX0 j) = vp_V (fl0 (lay 0)) j := by decide +kernel
theorem nfX1 : ∀ j, j < (lay 1).length → defaultValue (tyX1 j) = vp_V (fl0 (lay 1)) j := by decide +kernel
theorem nfX2 : ∀ j, j < (lay 2).length → defaultValue (tyX2 j) = vp_V (fl0 (lay 2)) j := by decide +kernel
theorem nfX3 : ∀ j, j < (lay 3).length → defaultValue (tyX3 j) = vp_V (fl0 (lay 3)) j := by decide +kernel
theorem nfX4 : ∀ j, j < (lay 4).length → defaultValue (tyX4 j) = vp_V (fl0 (lay 4)) j := by decide +kernel
theorem nfX5 : ∀ j, j < (lay 5).length → defaultValue (tyX5 j) = vp_V (fl0 (lay 5)) j := by decide +kernel
theorem nfX6 : ∀ j, j < (lay 6).length → defaultValue (tyX6 j) = vp_V (fl0 (lay 6)) j := by decide +kernel
theorem nfX7 : ∀ j, j < (lay 7).length → defaultValue (tyX7 j) = vp_V (fl0 (lay 7)) j := by decide +kernel
theorem nfX8 : ∀ j, j < (lay 8).length → defaultValue (tyX8 j) = vp_V (fl0 (lay 8)) j := by decide +kernel
theorem nfX9 : ∀ j, j < (lay 9).length → defaultValue (tyX9 j) = vp_V (fl0 (lay 9)) j := by decide +kernel
theorem nfX10 : ∀ j, j < (lay 10).length → defaultValue (tyX10 j) = vp_V (fl0 (lay 10)) j := by decide +kernel
