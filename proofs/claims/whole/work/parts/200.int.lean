/-! INTEGERS behind Int32 and Int64 -/
def iI (z : Int) : Int32 := Int32.ofInt z
def lI (z : Int) : Int64 := Int64.ofInt z
theorem iI_add (a b : Int) : iI a + iI b = iI (a + b) := (Int32.ofInt_add a b).symm
theorem iI_sub (a b : Int) : iI a - iI b = iI (a - b) := (Int32.ofInt_sub a b).symm
theorem iI_mul (a b : Int) : iI a * iI b = iI (a * b) := (Int32.ofInt_mul a b).symm
theorem iI_neg (a : Int) : - iI a = iI (-a) := (Int32.ofInt_neg a).symm
theorem lI_add (a b : Int) : lI a + lI b = lI (a + b) := (Int64.ofInt_add a b).symm
theorem lI_sub (a b : Int) : lI a - lI b = lI (a - b) := (Int64.ofInt_sub a b).symm
theorem lI_mul (a b : Int) : lI a * lI b = lI (a * b) := (Int64.ofInt_mul a b).symm
theorem lI_neg (a : Int) : - lI a = lI (-a) := (Int64.ofInt_neg a).symm
theorem nI_iI (n : Nat) : nI n = iI n := by
  unfold nI iI
  exact (Int32.ofInt_eq_ofNat).symm
def r32 (z : Int) : Prop := -2147483648 ≤ z ∧ z ≤ 2147483647
def r64 (z : Int) : Prop := -9223372036854775808 ≤ z ∧ z ≤ 9223372036854775807
theorem iI_toInt {z : Int} (h : r32 z) : (iI z).toInt = z := by
  unfold iI
  exact Int32.toInt_ofInt_of_le (by have := h.1; omega) (by have := h.2; omega)
theorem lI_toInt {z : Int} (h : r64 z) : (lI z).toInt = z := by
  unfold lI
  exact Int64.toInt_ofInt_of_le (by have := h.1; omega) (by have := h.2; omega)
theorem iI_le {a b : Int} (ha : r32 a) (hb : r32 b) : iI a ≤ iI b ↔ a ≤ b := by rw [Int32.le_iff_toInt_le, iI_toInt ha, iI_toInt hb]
theorem iI_lt {a b : Int} (ha : r32 a) (hb : r32 b) : iI a < iI b ↔ a < b := by rw [Int32.lt_iff_toInt_lt, iI_toInt ha, iI_toInt hb]
theorem iI_eq {a b : Int} (ha : r32 a) (hb : r32 b) : iI a = iI b ↔ a = b := by rw [← Int32.toInt_inj, iI_toInt ha, iI_toInt hb]
theorem lI_le {a b : Int} (ha : r64 a) (hb : r64 b) : lI a ≤ lI b ↔ a ≤ b := by rw [Int64.le_iff_toInt_le, lI_toInt ha, lI_toInt hb]
theorem lI_lt {a b : Int} (ha : r64 a) (hb : r64 b) : lI a < lI b ↔ a < b := by rw [Int64.lt_iff_toInt_lt, lI_toInt ha, lI_toInt hb]
theorem lI_eq {a b : Int} (ha : r64 a) (hb : r64 b) : lI a = lI b ↔ a = b := by rw [← Int64.toInt_inj, lI_toInt ha, lI_toInt hb]
theorem iI_l {a : Int} (ha : r32 a) : (iI a).toInt64 = lI a := by
  have h2 : r64 a := ⟨by have := ha.1; omega, by have := ha.2; omega⟩
  rw [← Int64.toInt_inj, Int32.toInt_toInt64, iI_toInt ha, lI_toInt h2]
theorem lI_i (a : Int) : (lI a).toInt32 = iI a := by
  unfold lI iI
  exact Int64.toInt32_ofInt
theorem lI_cmp {a b : Int} (ha : r64 a) (hb : r64 b) : lg_cmp (lI a) (lI b) = (if b < a then 1 else if a = b then 0 else -1) := by
  unfold lg_cmp
  by_cases h1 : b < a
  · rw [if_pos (show lI a > lI b from (lI_lt hb ha).mpr h1), if_pos h1]
  · rw [if_neg (show ¬ lI a > lI b from fun q => h1 ((lI_lt hb ha).mp q)), if_neg h1]
    by_cases h2 : a = b
    · rw [if_pos (by rw [h2]), if_pos h2]
    · rw [if_neg (fun q => h2 ((lI_eq ha hb).mp q)), if_neg h2]
theorem iI_nat {z : Int} {n : Nat} (h : z = n) : iI z = nI n := by rw [h, nI_iI]
theorem r32_nat {n : Nat} (h : n < 2147483648) : r32 (n : Int) := ⟨by omega, by omega⟩
