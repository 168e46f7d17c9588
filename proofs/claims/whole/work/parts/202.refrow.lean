/-! THE REFERENCE'S ROW: its reads -/
theorem s_weightOf {i b : Nat} {LW : Nat → Int32} (hi : i < 40) (hb : b < 41) : f_Re_weightOf (nI i) (nI b) LW = some (LW (40 * b + i)) := by
  unfold f_Re_weightOf
  rw [n40', ckn (by omega) (by decide), nI_clamp (by omega)]
theorem s_arcOf {a c b : Nat} {LA : Nat → Int32} (ha : a < 40) (hc : c < 40) (hb : b < 41) : f_Re_arcOf (nI a) (nI c) (nI b) LA = some (LA (1600 * b + 40 * a + c)) := by
  unfold f_Re_arcOf
  rw [n1600, ckn (by omega) (by decide), nI_clamp (by omega)]
