theorem costIn_bd {S : St} (hI : Inv S) (k per b : Int32) : ∀ n, n ≤ S.nc → 0 ≤ (sm (costInQ S k per b) n).toInt ∧ (sm (costInQ S k per b) n).toInt ≤ 9999 * n := by
  intro n
  induction n with
  | zero => intro _; exact ⟨Int.le_refl _, Int.le_refl _⟩
  | succ n ih =>
    intro hn
    have h1 := ih (by omega)
    have hq : 0 ≤ (costInQ S k per b n).toInt ∧ (costInQ S k per b n).toInt ≤ 9999 := by
      have h2 := cost_bd hI (show n < S.nc by omega) b
      have z : (0 : Int32).toInt = 0 := rfl
      unfold costInQ
      repeat' split
      all_goals omega
    have hn30 := hI.nc
    have e : (sm (costInQ S k per b) (n + 1)).toInt = (sm (costInQ S k per b) n).toInt + (costInQ S k per b n).toInt := add_bd (by omega) (by omega)
    rw [e]
    omega
/-- what is carried on, from either side -/
theorem carry_e {x c : Int32} (hx : -400000 ≤ x.toInt ∧ x.toInt ≤ 400000) (hc : 0 ≤ c.toInt ∧ c.toInt ≤ 100) : maxI 0 (x * c / 100) = maxI x 0 * c / 100 ∧ 0 ≤ (maxI x 0 * c / 100).toInt ∧ (maxI x 0 * c / 100).toInt ≤ max x.toInt 0 := by
  have z : (0 : Int32).toInt = 0 := rfl
  have y : (100 : Int32).toInt = 100 := rfl
  have b1 : -40000000 ≤ x.toInt * c.toInt := by
    have h1 : -400000 * c.toInt ≤ x.toInt * c.toInt := Int.mul_le_mul_of_nonneg_right hx.1 hc.1
    omega
  have b2 : x.toInt * c.toInt ≤ 40000000 := by
    have h1 : x.toInt * c.toInt ≤ 400000 * c.toInt := Int.mul_le_mul_of_nonneg_right hx.2 hc.1
    omega
  have e1 : (x * c).toInt = x.toInt * c.toInt := mul_bd (by omega) (by omega)
  by_cases h : x < 0
  · have h' : x.toInt < 0 := by rw [Int32.lt_iff_toInt_lt, z] at h; exact h
    have e2 : maxI x 0 = 0 := if_pos h
    rw [e2]
    have e3 : (0 : Int32) * c / 100 = 0 := by rw [Int32.zero_mul]; rfl
    rw [e3]
    refine ⟨?_, Int.le_refl _, by rw [z]; omega⟩
    unfold maxI
    by_cases h2 : 0 < x * c / 100
    · exfalso
      rw [Int32.lt_iff_toInt_lt, z, Int32.toInt_div, e1, y] at h2
      have h3 : x.toInt * c.toInt ≤ 0 := by
        have := Int.mul_le_mul_of_nonneg_right (Int.le_of_lt h') hc.1
        omega
      have h4 : (x.toInt * c.toInt).tdiv 100 ≤ 0 := by
        have e5 : (x.toInt * c.toInt) = -(-(x.toInt * c.toInt)) := by omega
        rw [e5, Int.neg_tdiv, Int.tdiv_eq_ediv_of_nonneg (by omega)]
        have := Int.ediv_nonneg (a := -(x.toInt * c.toInt)) (b := 100) (by omega) (by decide)
        omega
      have h5 : -40000000 ≤ (x.toInt * c.toInt).tdiv 100 := by
        have e5 : (x.toInt * c.toInt) = -(-(x.toInt * c.toInt)) := by omega
        rw [e5, Int.neg_tdiv, Int.tdiv_eq_ediv_of_nonneg (by omega)]
        have := Int.ediv_le_self (a := -(x.toInt * c.toInt)) 100 (by omega)
        omega
      rw [bm (by omega) (by omega)] at h2
      omega
    · rw [if_neg h2]
  · have h' : 0 ≤ x.toInt := by rw [Int32.lt_iff_toInt_lt, z] at h; omega
    have e2 : maxI x 0 = x := if_neg h
    rw [e2]
    have h3 : 0 ≤ x.toInt * c.toInt := Int.mul_nonneg h' hc.1
    obtain ⟨d1, d2, d3⟩ := div_bd (x := x * c) (y := 100) (by omega) (by rw [y]; omega)
    have h6 : (x * c / 100).toInt ≤ x.toInt := by
      rw [d1, y, e1]
      refine Int.ediv_le_of_le_mul (by omega) ?_
      exact Int.mul_le_mul_of_nonneg_left hc.2 h'
    refine ⟨?_, by omega, by omega⟩
    unfold maxI
    by_cases h2 : 0 < x * c / 100
    · rw [if_pos h2]
    · rw [if_neg h2]
      apply Int32.toInt.inj
      rw [Int32.lt_iff_toInt_lt, z] at h2
      rw [z]
      omega
theorem left_bd {S : St} (hI : Inv S) (k : Nat) (b : Int32) : ∀ n, n ≤ 4 → -300000 ≤ (leftL S k b n).toInt ∧ (leftL S k b n).toInt ≤ 99999 * n := by
  intro n
  induction n with
  | zero => intro _; exact ⟨(show (-300000 : Int) ≤ (0 : Int32).toInt by decide), Int.le_refl _⟩
  | succ n ih =>
    intro hn
    have h1 := ih (by omega)
    have hb := hI.2.2.2.2.2
    have hp := hb.2.1 (k * 4 + n)
    have hc := hb.2.2.1 (k * 1 + 0)
    obtain ⟨-, q1, q2⟩ := carry_e (x := leftL S k b n) (c := S.tb 2 (k * 1 + 0)) (by omega) hc
    have q3 := costIn_bd hI (nI k) (nI n) b S.nc (Nat.le_refl _)
    have hn30 := hI.nc
    show -300000 ≤ (S.tb 1 (k * 4 + n) + maxI (leftL S k b n) 0 * S.tb 2 (k * 1 + 0) / 100 - sm (costInQ S (nI k) (nI n) b) S.nc).toInt ∧ _ ≤ _
    have e1 : (S.tb 1 (k * 4 + n) + maxI (leftL S k b n) 0 * S.tb 2 (k * 1 + 0) / 100).toInt = (S.tb 1 (k * 4 + n)).toInt + (maxI (leftL S k b n) 0 * S.tb 2 (k * 1 + 0) / 100).toInt := add_bd (by omega) (by omega)
    have e2 : (leftL S k b (n + 1)).toInt = (S.tb 1 (k * 4 + n)).toInt + (maxI (leftL S k b n) 0 * S.tb 2 (k * 1 + 0) / 100).toInt - (sm (costInQ S (nI k) (nI n) b) S.nc).toInt := by
      show (S.tb 1 (k * 4 + n) + maxI (leftL S k b n) 0 * S.tb 2 (k * 1 + 0) / 100 - sm (costInQ S (nI k) (nI n) b) S.nc).toInt = _
      rw [← e1]
      exact sub_bd (by omega) (by omega)
    have e3 : (S.tb 1 (k * 4 + n) + maxI (leftL S k b n) 0 * S.tb 2 (k * 1 + 0) / 100 - sm (costInQ S (nI k) (nI n) b) S.nc).toInt = (leftL S k b (n + 1)).toInt := rfl
    rw [e3]
    omega
