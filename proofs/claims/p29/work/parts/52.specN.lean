theorem nI_neg1 {n : Nat} (h : n < 2 ^ 31) : ¬ nI n = -1 := by
  intro e
  have h1 := nI_toInt h
  rw [e] at h1
  have : (-1 : Int32).toInt = -1 := rfl
  omega
theorem passOne_nr (S : St) (c : Nat) : (passOneS S c).nr = S.nr := by
  obtain ⟨k, -, e | e⟩ := passOneS_f S c <;> rw [e] <;> rfl
theorem passF_nr (S : St) : ∀ n, (passF S n).nr = S.nr := by
  intro n
  induction n with
  | zero => rfl
  | succ n ih =>
    show (if (passF S n).cs n = 1 then passOneS (passF S n) n else passF S n).nr = _
    split
    · rw [passOne_nr, ih]
    · exact ih
theorem passS_nr (S : St) : (passS S).nr = S.nr := passF_nr S _
theorem gain_nr (S : St) (p : Nat) : (gainS S p).nr = S.nr := by unfold gainS; split <;> rfl
theorem match_nr (S : St) (c r : Nat) : (matchS S c r).nr = S.nr := by
  unfold matchS; split
  · rfl
  · rw [gain_nr]; rfl
theorem mb_nr (S : St) : (mbS S).nr = S.nr := by
  unfold mbS; split
  · rfl
  · exact match_nr _ _ _
theorem mpF_nr (S : St) : ∀ n, (mpF S n).1.nr = S.nr := by
  intro n
  induction n with
  | zero => rfl
  | succ n ih =>
    show (if (mpF S n).2 = 0 then mpF S n else (mbS (mpF S n).1, mbR (mpF S n).1)).1.nr = _
    split
    · exact ih
    · exact (mb_nr _).trans ih
theorem mpS_nr (S : St) : (mpS S).nr = S.nr := mpF_nr S _
theorem div30 : ∀ n, n < 120 → nI n / 30 = nI (n / 30) := by decide +kernel
/-- the charge with which a receipt would be matched -/
def wB (S : St) (am dy tx : Int32) : Nat → Option Nat × Int32
  | 0 => (none, -1)
  | n + 1 => if goA S n (nI S.nr) am dy tx none = 0 then wB S am dy tx n else (if scA S n am dy tx ≤ (wB S am dy tx n).2 then wB S am dy tx n else (some n, scA S n am dy tx))
theorem wB_a {S : St} {am dy tx : Int32} {n : Nat} (h : goA S n (nI S.nr) am dy tx none = 0) : wB S am dy tx (n + 1) = wB S am dy tx n := if_pos h
theorem wB_b {S : St} {am dy tx : Int32} {n : Nat} (h : ¬ goA S n (nI S.nr) am dy tx none = 0) (h2 : scA S n am dy tx ≤ (wB S am dy tx n).2) : wB S am dy tx (n + 1) = wB S am dy tx n := (if_neg h).trans (if_pos h2)
theorem wB_c {S : St} {am dy tx : Int32} {n : Nat} (h : ¬ goA S n (nI S.nr) am dy tx none = 0) (h2 : ¬ scA S n am dy tx ≤ (wB S am dy tx n).2) : wB S am dy tx (n + 1) = (some n, scA S n am dy tx) := (if_neg h).trans (if_neg h2)
theorem wB_lt {S : St} {am dy tx : Int32} : ∀ {n j : Nat}, (wB S am dy tx n).1 = some j → j < n := by
  intro n
  induction n with
  | zero => intro j h; cases h
  | succ n ih =>
    intro j h
    by_cases h1 : goA S n (nI S.nr) am dy tx none = 0
    · rw [wB_a h1] at h; exact Nat.lt_succ_of_lt (ih h)
    · by_cases h2 : scA S n am dy tx ≤ (wB S am dy tx n).2
      · rw [wB_b h1 h2] at h; exact Nat.lt_succ_of_lt (ih h)
      · rw [wB_c h1 h2] at h; cases h; exact Nat.lt_succ_self n
theorem rng1 {a b x : Int32} (h1 : ¬ x < a) (h2 : ¬ b < x) : a.toInt ≤ x.toInt ∧ x.toInt ≤ b.toInt := by
  rw [Int32.lt_iff_toInt_lt] at h1 h2
  omega

