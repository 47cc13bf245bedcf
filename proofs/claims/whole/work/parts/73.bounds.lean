/-! bounds of costs -/
theorem bm {x : Int} (h1 : -2147483648 ≤ x) (h2 : x < 2147483648) : x.bmod (2 ^ 32) = x := Int.bmod_eq_of_le (by simp; omega) (by simp; omega)
theorem i_lt {x : Int32} : -2147483648 ≤ x.toInt ∧ x.toInt < 2147483648 := ⟨Int32.le_toInt x, Int32.toInt_lt x⟩
theorem div_bd {x y : Int32} (hx : 0 ≤ x.toInt) (hy : 0 < y.toInt) : (x / y).toInt = x.toInt / y.toInt ∧ 0 ≤ x.toInt / y.toInt ∧ x.toInt / y.toInt ≤ x.toInt := by
  have h1 : 0 ≤ x.toInt / y.toInt := Int.ediv_nonneg hx (Int.le_of_lt hy)
  have h2 : x.toInt / y.toInt ≤ x.toInt := Int.ediv_le_self _ hx
  refine ⟨?_, h1, h2⟩
  rw [Int32.toInt_div, Int.tdiv_eq_ediv_of_nonneg hx]
  exact bm (by omega) (by have := (i_lt (x := x)).2; omega)
theorem mul_bd {x y : Int32} (h1 : -2147483648 ≤ x.toInt * y.toInt) (h2 : x.toInt * y.toInt < 2147483648) : (x * y).toInt = x.toInt * y.toInt := by
  rw [Int32.toInt_mul]; exact bm h1 h2
theorem sub_bd {x y : Int32} (h1 : -2147483648 ≤ x.toInt - y.toInt) (h2 : x.toInt - y.toInt < 2147483648) : (x - y).toInt = x.toInt - y.toInt := by
  rw [Int32.toInt_sub]; exact bm h1 h2
theorem add_bd {x y : Int32} (h1 : -2147483648 ≤ x.toInt + y.toInt) (h2 : x.toInt + y.toInt < 2147483648) : (x + y).toInt = x.toInt + y.toInt := by
  rw [Int32.toInt_add]; exact bm h1 h2
theorem tax_bd {S : St} (hI : Inv S) {c : Nat} (hc : c < S.nc) : 0 ≤ (taxA S c).toInt ∧ (taxA S c).toInt ≤ (S.ca c).toInt := by
  have ha := hI.ca hc
  have hr := rate_r hI c
  unfold taxA
  split
  · exact ⟨Int.le_refl _, by show (0 : Int) ≤ _; omega⟩
  · have h1 : 0 ≤ (S.ca c).toInt * (rateA S c).toInt := Int.mul_nonneg (by omega) hr.1
    have h2 : (S.ca c).toInt * (rateA S c).toInt ≤ (S.ca c).toInt * 30 := Int.mul_le_mul_of_nonneg_left hr.2 (by omega)
    have e1 : (S.ca c * rateA S c).toInt = (S.ca c).toInt * (rateA S c).toInt := mul_bd (by omega) (by omega)
    have e2 := rate_100 hI c
    obtain ⟨d1, d2, -⟩ := div_bd (x := S.ca c * rateA S c) (y := 100 + rateA S c) (by omega) (by omega)
    refine ⟨by omega, ?_⟩
    rw [d1]
    refine Int.ediv_le_of_le_mul (by omega) ?_
    rw [e1, e2]
    refine Int.mul_le_mul_of_nonneg_left (by omega) (by omega)
theorem cost_bd {S : St} (hI : Inv S) {c : Nat} (hc : c < S.nc) (b : Int32) : 0 ≤ (costA S c b).toInt ∧ (costA S c b).toInt ≤ 9999 := by
  have ha := hI.ca hc
  have ht := tax_bd hI hc
  have e : (S.ca c - taxA S c).toInt = (S.ca c).toInt - (taxA S c).toInt := sub_bd (by omega) (by omega)
  have z : (0 : Int32).toInt = 0 := rfl
  unfold costA
  repeat' split
  all_goals omega
