/-! bounds of what is left (the first rows as in whole) -/
/-! bounds of costs -/
theorem bm {x : Int} (h1 : -2147483648 ≤ x) (h2 : x < 2147483648) : x.bmod (2 ^ 32) = x := Int.bmod_eq_of_le (by simp; omega) (by simp; omega)
theorem i_lt {x : Int32} : -2147483648 ≤ x.toInt ∧ x.toInt < 2147483648 := ⟨Int32.le_toInt x, Int32.toInt_lt x⟩
theorem div_bd {x y : Int32} (hx : 0 ≤ x.toInt) (hy : 0 < y.toInt) : (x / y).toInt = x.toInt / y.toInt ∧ 0 ≤ x.toInt / y.toInt ∧ x.toInt / y.toInt ≤ x.toInt := by
  have h1 : 0 ≤ x.toInt / y.toInt := Int.ediv_nonneg hx (Int.le_of_lt hy)
  have h2 : x.toInt / y.toInt ≤ x.toInt := Int.ediv_le_self _ hx
  refine ⟨?_, h1, h2⟩
  rw [Int32.toInt_div, Int.tdiv_eq_ediv_of_nonneg hx]
  exact bm (by omega) (by have := (i_lt (x := x)).2; omega)
theorem mul_bd {x y : Int32} (h1 : -2147483648 ≤ x.toInt * y.toInt) (h2 : x.toInt * y.toInt < 2147483648) : (x * y).toInt = x.toInt * y.toInt := by
  rw [Int32.toInt_mul]; exact bm h1 h2
theorem sub_bd {x y : Int32} (h1 : -2147483648 ≤ x.toInt - y.toInt) (h2 : x.toInt - y.toInt < 2147483648) : (x - y).toInt = x.toInt - y.toInt := by
  rw [Int32.toInt_sub]; exact bm h1 h2
theorem add_bd {x y : Int32} (h1 : -2147483648 ≤ x.toInt + y.toInt) (h2 : x.toInt + y.toInt < 2147483648) : (x + y).toInt = x.toInt + y.toInt := by
  rw [Int32.toInt_add]; exact bm h1 h2
theorem rate_r {S : St} (hI : Inv S) (c : Nat) : 0 ≤ (rateA S c).toInt ∧ (rateA S c).toInt ≤ 30 := hI.2.2.2.2.2.2.2.2 _
theorem rate_100 {S : St} (hI : Inv S) (c : Nat) : (100 + rateA S c).toInt = 100 + (rateA S c).toInt := by
  have h := rate_r hI c
  rw [Int32.toInt_add]
  have : (100 : Int32).toInt = 100 := rfl
  rw [this]
  exact Int.bmod_eq_of_le (by simp; omega) (by simp; omega)
theorem tax_bd {S : St} (hI : Inv S) {c : Nat} (hc : c < S.nc) : 0 ≤ (taxA S c).toInt ∧ (taxA S c).toInt ≤ (S.ca c).toInt := by
  have ha := hI.ca hc
  have hr := rate_r hI c
  unfold taxA
  split
  · exact ⟨Int.le_refl _, by show (0 : Int) ≤ _; omega⟩
  · have h1 : 0 ≤ (S.ca c).toInt * (rateA S c).toInt := Int.mul_nonneg (by omega) hr.1
    have h2 : (S.ca c).toInt * (rateA S c).toInt ≤ (S.ca c).toInt * 30 := Int.mul_le_mul_of_nonneg_left hr.2 (by omega)
    have e1 : (S.ca c * rateA S c).toInt = (S.ca c).toInt * (rateA S c).toInt := mul_bd (by omega) (by omega)
    have e2 := rate_100 hI c
    obtain ⟨d1, d2, -⟩ := div_bd (x := S.ca c * rateA S c) (y := 100 + rateA S c) (by omega) (by omega)
    refine ⟨by omega, ?_⟩
    rw [d1]
    refine Int.ediv_le_of_le_mul (by omega) ?_
    rw [e1, e2]
    refine Int.mul_le_mul_of_nonneg_left (by omega) (by omega)
theorem cost_bd {S : St} (hI : Inv S) {c : Nat} (hc : c < S.nc) (b : Int32) : 0 ≤ (costA S c b).toInt ∧ (costA S c b).toInt ≤ 9999 := by
  have ha := hI.ca hc
  have ht := tax_bd hI hc
  have e : (S.ca c - taxA S c).toInt = (S.ca c).toInt - (taxA S c).toInt := sub_bd (by omega) (by omega)
  have z : (0 : Int32).toInt = 0 := rfl
  unfold costA
  repeat' split
  all_goals omega

theorem costIn_bd {S : St} (hI : Inv S) (k per b : Int32) : ∀ n, n ≤ S.nc → 0 ≤ (sm (costInQ S k per b) n).toInt ∧ (sm (costInQ S k per b) n).toInt ≤ 9999 * n := by
  intro n
  induction n with
  | zero => intro _; exact ⟨Int.le_refl _, Int.le_refl _⟩
  | succ n ih =>
    intro hn
    have h1 := ih (by omega)
    have hq : 0 ≤ (costInQ S k per b n).toInt ∧ (costInQ S k per b n).toInt ≤ 9999 := by
      have h2 := cost_bd hI (show n < S.nc by omega) b
      have z : (0 : Int32).toInt = 0 := rfl
      unfold costInQ
      repeat' split
      all_goals omega
    have hn30 := hI.nc
    have e : (sm (costInQ S k per b) (n + 1)).toInt = (sm (costInQ S k per b) n).toInt + (costInQ S k per b n).toInt := add_bd (by omega) (by omega)
    rw [e]
    omega
/-- what is carried on, from either side -/
theorem carry_e {x c : Int32} (hx : -400000 ≤ x.toInt ∧ x.toInt ≤ 400000) (hc : 0 ≤ c.toInt ∧ c.toInt ≤ 100) : maxI 0 (x * c / 100) = maxI x 0 * c / 100 ∧ 0 ≤ (maxI x 0 * c / 100).toInt ∧ (maxI x 0 * c / 100).toInt ≤ max x.toInt 0 := by
  have z : (0 : Int32).toInt = 0 := rfl
  have y : (100 : Int32).toInt = 100 := rfl
  have b1 : -40000000 ≤ x.toInt * c.toInt := by
    have h1 : -400000 * c.toInt ≤ x.toInt * c.toInt := Int.mul_le_mul_of_nonneg_right hx.1 hc.1
    omega
  have b2 : x.toInt * c.toInt ≤ 40000000 := by
    have h1 : x.toInt * c.toInt ≤ 400000 * c.toInt := Int.mul_le_mul_of_nonneg_right hx.2 hc.1
    omega
  have e1 : (x * c).toInt = x.toInt * c.toInt := mul_bd (by omega) (by omega)
  by_cases h : x < 0
  · have h' : x.toInt < 0 := by rw [Int32.lt_iff_toInt_lt, z] at h; exact h
    have e2 : maxI x 0 = 0 := if_pos h
    rw [e2]
    have e3 : (0 : Int32) * c / 100 = 0 := by rw [Int32.zero_mul]; rfl
    rw [e3]
    refine ⟨?_, Int.le_refl _, by rw [z]; omega⟩
    unfold maxI
    by_cases h2 : 0 < x * c / 100
    · exfalso
      rw [Int32.lt_iff_toInt_lt, z, Int32.toInt_div, e1, y] at h2
      have h3 : x.toInt * c.toInt ≤ 0 := by
        have := Int.mul_le_mul_of_nonneg_right (Int.le_of_lt h') hc.1
        omega
      have h4 : (x.toInt * c.toInt).tdiv 100 ≤ 0 := by
        have e5 : (x.toInt * c.toInt) = -(-(x.toInt * c.toInt)) := by omega
        rw [e5, Int.neg_tdiv, Int.tdiv_eq_ediv_of_nonneg (by omega)]
        have := Int.ediv_nonneg (a := -(x.toInt * c.toInt)) (b := 100) (by omega) (by decide)
        omega
      have h5 : -40000000 ≤ (x.toInt * c.toInt).tdiv 100 := by
        have e5 : (x.toInt * c.toInt) = -(-(x.toInt * c.toInt)) := by omega
        rw [e5, Int.neg_tdiv, Int.tdiv_eq_ediv_of_nonneg (by omega)]
        have := Int.ediv_le_self (a := -(x.toInt * c.toInt)) 100 (by omega)
        omega
      rw [bm (by omega) (by omega)] at h2
      omega
    · rw [if_neg h2]
  · have h' : 0 ≤ x.toInt := by rw [Int32.lt_iff_toInt_lt, z] at h; omega
    have e2 : maxI x 0 = x := if_neg h
    rw [e2]
    have h3 : 0 ≤ x.toInt * c.toInt := Int.mul_nonneg h' hc.1
    obtain ⟨d1, d2, d3⟩ := div_bd (x := x * c) (y := 100) (by omega) (by rw [y]; omega)
    have h6 : (x * c / 100).toInt ≤ x.toInt := by
      rw [d1, y, e1]
      refine Int.ediv_le_of_le_mul (by omega) ?_
      exact Int.mul_le_mul_of_nonneg_left hc.2 h'
    refine ⟨?_, by omega, by omega⟩
    unfold maxI
    by_cases h2 : 0 < x * c / 100
    · rw [if_pos h2]
    · rw [if_neg h2]
      apply Int32.toInt.inj
      rw [Int32.lt_iff_toInt_lt, z] at h2
      rw [z]
      omega
theorem left_bd {S : St} (hI : Inv S) (k : Nat) (b : Int32) : ∀ n, n ≤ 4 → -300000 ≤ (leftL S k b n).toInt ∧ (leftL S k b n).toInt ≤ 99999 * n := by
  intro n
  induction n with
  | zero => intro _; exact ⟨(show (-300000 : Int) ≤ (0 : Int32).toInt by decide), Int.le_refl _⟩
  | succ n ih =>
    intro hn
    have h1 := ih (by omega)
    have hb := hI.2.2.2.2.2
    have hp := hb.2.1 (k * 4 + n)
    have hc := hb.2.2.1 (k * 1 + 0)
    obtain ⟨-, q1, q2⟩ := carry_e (x := leftL S k b n) (c := S.tb 2 (k * 1 + 0)) (by omega) hc
    have q3 := costIn_bd hI (nI k) (nI n) b S.nc (Nat.le_refl _)
    have hn30 := hI.nc
    show -300000 ≤ (S.tb 1 (k * 4 + n) + maxI (leftL S k b n) 0 * S.tb 2 (k * 1 + 0) / 100 - sm (costInQ S (nI k) (nI n) b) S.nc).toInt ∧ _ ≤ _
    have e1 : (S.tb 1 (k * 4 + n) + maxI (leftL S k b n) 0 * S.tb 2 (k * 1 + 0) / 100).toInt = (S.tb 1 (k * 4 + n)).toInt + (maxI (leftL S k b n) 0 * S.tb 2 (k * 1 + 0) / 100).toInt := add_bd (by omega) (by omega)
    have e2 : (leftL S k b (n + 1)).toInt = (S.tb 1 (k * 4 + n)).toInt + (maxI (leftL S k b n) 0 * S.tb 2 (k * 1 + 0) / 100).toInt - (sm (costInQ S (nI k) (nI n) b) S.nc).toInt := by
      show (S.tb 1 (k * 4 + n) + maxI (leftL S k b n) 0 * S.tb 2 (k * 1 + 0) / 100 - sm (costInQ S (nI k) (nI n) b) S.nc).toInt = _
      rw [← e1]
      exact sub_bd (by omega) (by omega)
    have e3 : (S.tb 1 (k * 4 + n) + maxI (leftL S k b n) 0 * S.tb 2 (k * 1 + 0) / 100 - sm (costInQ S (nI k) (nI n) b) S.nc).toInt = (leftL S k b (n + 1)).toInt := rfl
    rw [e3]
    omega

theorem cost_mono {S : St} (hI : Inv S) {c : Nat} (hc : c < S.nc) : (costA S c 1).toInt ≤ (costA S c 0).toInt := by
  have ht := tax_bd hI hc
  have ha := hI.ca hc
  have e : (S.ca c - taxA S c).toInt = (S.ca c).toInt - (taxA S c).toInt := sub_bd (by omega) (by omega)
  unfold costA
  by_cases h0 : S.cs c = 0
  · rw [if_pos h0, if_pos h0, if_pos rfl, if_neg (by decide), e]
    omega
  · rw [if_neg h0, if_neg h0]
    exact Int.le_refl _
theorem costIn_mono {S : St} (hI : Inv S) (k per : Int32) : ∀ n, n ≤ S.nc → (sm (costInQ S k per 1) n).toInt ≤ (sm (costInQ S k per 0) n).toInt := by
  intro n
  induction n with
  | zero => intro _; exact Int.le_refl _
  | succ n ih =>
    intro hn
    have h1 := ih (by omega)
    have hn30 := hI.nc
    have hz : (0 : Int32).toInt = 0 := rfl
    have hq : ∀ b : Int32, 0 ≤ (costInQ S k per b n).toInt ∧ (costInQ S k per b n).toInt ≤ 9999 := fun b => by
      have h2 := cost_bd hI (show n < S.nc by omega) b
      unfold costInQ
      repeat' split
      all_goals omega
    have hm : (costInQ S k per 1 n).toInt ≤ (costInQ S k per 0 n).toInt := by
      have h2 := cost_mono hI (show n < S.nc by omega)
      unfold costInQ
      by_cases g1 : nI (S.ck n) = k
      · rw [if_pos g1, if_pos g1]
        by_cases g2 : nI (S.cd n) / 30 = per
        · rw [if_pos g2, if_pos g2]; exact h2
        · rw [if_neg g2, if_neg g2]; exact Int.le_refl _
      · rw [if_neg g1, if_neg g1]; exact Int.le_refl _
    have e : ∀ b : Int32, (sm (costInQ S k per b) (n + 1)).toInt = (sm (costInQ S k per b) n).toInt + (costInQ S k per b n).toInt := fun b => by
      have h3 := costIn_bd hI k per b n (by omega)
      have h4 := hq b
      exact add_bd (by omega) (by omega)
    rw [e 1, e 0]
    omega
theorem maxI0_t {x : Int32} : (maxI x 0).toInt = max x.toInt 0 := by
  have z : (0 : Int32).toInt = 0 := rfl
  unfold maxI
  by_cases h : x < 0
  · rw [if_pos h]
    rw [Int32.lt_iff_toInt_lt, z] at h
    omega
  · rw [if_neg h]
    rw [Int32.lt_iff_toInt_lt, z] at h
    omega
theorem carry_mono {x y c : Int32} (hx : -400000 ≤ x.toInt ∧ x.toInt ≤ 400000) (hy : -400000 ≤ y.toInt ∧ y.toInt ≤ 400000) (hc : 0 ≤ c.toInt ∧ c.toInt ≤ 100) (h : x.toInt ≤ y.toInt) : (maxI x 0 * c / 100).toInt ≤ (maxI y 0 * c / 100).toInt := by
  have hy100 : (100 : Int32).toInt = 100 := rfl
  have mx := maxI0_t (x := x)
  have my := maxI0_t (x := y)
  have b1 : (maxI x 0).toInt * c.toInt ≤ (maxI y 0).toInt * c.toInt := Int.mul_le_mul_of_nonneg_right (by omega) hc.1
  have b2 : (maxI y 0).toInt * c.toInt ≤ 40000000 := by
    have h1 : (maxI y 0).toInt * c.toInt ≤ 400000 * c.toInt := Int.mul_le_mul_of_nonneg_right (by omega) hc.1
    omega
  have b0 : 0 ≤ (maxI x 0).toInt * c.toInt := Int.mul_nonneg (by omega) hc.1
  have e1 : (maxI x 0 * c).toInt = (maxI x 0).toInt * c.toInt := mul_bd (by omega) (by omega)
  have e2 : (maxI y 0 * c).toInt = (maxI y 0).toInt * c.toInt := mul_bd (by omega) (by omega)
  obtain ⟨d1, -, -⟩ := div_bd (x := maxI x 0 * c) (y := 100) (by omega) (by rw [hy100]; omega)
  obtain ⟨d2, -, -⟩ := div_bd (x := maxI y 0 * c) (y := 100) (by omega) (by rw [hy100]; omega)
  rw [d1, d2, e1, e2, hy100]
  exact Int.ediv_le_ediv (by decide) b1
theorem left_eq {S : St} (hI : Inv S) (k : Nat) (b : Int32) {n : Nat} (hn : n + 1 ≤ 4) : (leftL S k b (n + 1)).toInt = (S.tb 1 (k * 4 + n)).toInt + (maxI (leftL S k b n) 0 * S.tb 2 (k * 1 + 0) / 100).toInt - (costInA S (nI k) (nI n) b).toInt := by
  have h1 := left_bd hI k b n (by omega)
  have hb := hI.2.2.2.2.2
  have hp := hb.2.1 (k * 4 + n)
  have hc := hb.2.2.1 (k * 1 + 0)
  obtain ⟨-, q1, q2⟩ := carry_e (x := leftL S k b n) (c := S.tb 2 (k * 1 + 0)) (by omega) hc
  have q3 := costIn_bd hI (nI k) (nI n) b S.nc (Nat.le_refl _)
  have hn30 := hI.nc
  have e1 : (S.tb 1 (k * 4 + n) + maxI (leftL S k b n) 0 * S.tb 2 (k * 1 + 0) / 100).toInt = (S.tb 1 (k * 4 + n)).toInt + (maxI (leftL S k b n) 0 * S.tb 2 (k * 1 + 0) / 100).toInt := add_bd (by omega) (by omega)
  show (S.tb 1 (k * 4 + n) + maxI (leftL S k b n) 0 * S.tb 2 (k * 1 + 0) / 100 - sm (costInQ S (nI k) (nI n) b) S.nc).toInt = _ - (sm (costInQ S (nI k) (nI n) b) S.nc).toInt
  rw [← e1]
  exact sub_bd (by omega) (by omega)
theorem left_mono {S : St} (hI : Inv S) (k : Nat) : ∀ n, n ≤ 4 → (leftL S k 0 n).toInt ≤ (leftL S k 1 n).toInt := by
  intro n
  induction n with
  | zero => intro _; exact Int.le_refl _
  | succ n ih =>
    intro hn
    have ih := ih (by omega)
    have h0 := left_bd hI k 0 n (by omega)
    have h1 := left_bd hI k 1 n (by omega)
    have hb := hI.2.2.2.2.2
    have hc := hb.2.2.1 (k * 1 + 0)
    have q := carry_mono (x := leftL S k 0 n) (y := leftL S k 1 n) (c := S.tb 2 (k * 1 + 0)) (by omega) (by omega) hc ih
    have r := costIn_mono hI (nI k) (nI n) S.nc (Nat.le_refl _)
    have r : (costInA S (nI k) (nI n) 1).toInt ≤ (costInA S (nI k) (nI n) 0).toInt := r
    rw [left_eq hI k 0 hn, left_eq hI k 1 hn]
    omega
theorem left_no {S : St} (hI : Inv S) (k n : Nat) (hn : n ≤ 4) : leftL S k 0 n ≤ leftL S k 1 n := Int32.le_iff_toInt_le.mpr (left_mono hI k n hn)
