theorem rtB_e {S : St} (hI : Inv S) {c : Nat} (hc : c < S.nc) : rtB S (S.cl c) (S.ck c) = rateA S c := if_pos (hI.ck hc)
theorem rate_r {S : St} (hI : Inv S) (c : Nat) : 0 ≤ (rateA S c).toInt ∧ (rateA S c).toInt ≤ 30 := hI.2.2.2.2.2.2.2.2 _
theorem rate_100 {S : St} (hI : Inv S) (c : Nat) : (100 + rateA S c).toInt = 100 + (rateA S c).toInt := by
  have h := rate_r hI c
  rw [Int32.toInt_add]
  have : (100 : Int32).toInt = 100 := rfl
  rw [this]
  exact Int.bmod_eq_of_le (by simp; omega) (by simp; omega)
theorem rate_ne {S : St} (hI : Inv S) {c : Nat} (hc : c < S.nc) : ¬ 100 + rtB S (S.cl c) (S.ck c) = 0 := by
  rw [rtB_e hI hc]
  intro e
  have h1 := rate_100 hI c
  have h := rate_r hI c
  rw [e] at h1
  have : (0 : Int32).toInt = 0 := rfl
  omega
theorem taxB_e {S : St} (hI : Inv S) {c : Nat} (hc : c < S.nc) : S.ca c * rtB S (S.cl c) (S.ck c) / (100 + rtB S (S.cl c) (S.ck c)) = taxA S c := by
  rw [rtB_e hI hc]
  unfold taxA
  rw [if_neg]
  intro h
  rw [Int32.le_iff_toInt_le, rate_100 hI c] at h
  have := rate_r hI c
  have z : (0 : Int32).toInt = 0 := rfl
  omega
theorem isRep_0 {S : St} {c : Nat} (h : isRepB S c = 0) : ¬ S.cs c = 3 := fun e => by
  unfold isRepB at h
  rw [if_pos e] at h
  exact absurd h (by decide)
theorem isRep_1 {S : St} {c : Nat} (h : ¬ isRepB S c = 0) : S.cs c = 3 := by
  by_cases e : S.cs c = 3
  · exact e
  · exact absurd (if_neg e) h
