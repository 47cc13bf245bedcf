/-- the window, from either side -/
theorem win_e {a d : Nat} (ha : a ≤ d) (hd : d ≤ 119) : (nI a < nI d - 9) ↔ (10 ≤ nI d - nI a) := by
  have e1 : (nI d).toInt = d := nI_toInt (by omega)
  have e2 : (nI a).toInt = a := nI_toInt (by omega)
  have y : (9 : Int32).toInt = 9 := rfl
  have y2 : (10 : Int32).toInt = 10 := rfl
  have e3 : (nI d - 9).toInt = d - 9 := by rw [sub_bd (by omega) (by omega), e1, y]
  have e4 : (nI d - nI a).toInt = d - a := by rw [sub_bd (by omega) (by omega), e1, e2]
  rw [Int32.lt_iff_toInt_lt, Int32.le_iff_toInt_le, e2, e3, e4, y2]
  omega
