theorem itB_z {S : St} : ∀ n, itB S n none = none := by
  intro n
  induction n with
  | zero => rfl
  | succ n ih => show (itB S n none).bind S.bo = none; rw [ih]; rfl
theorem itB_s {S : St} : ∀ (n : Nat) (j : Nat), itB S (n + 1) (some j) = itB S n (S.bo j) := by
  intro n
  induction n with
  | zero => intro j; rfl
  | succ n ih => intro j; show (itB S (n + 1) (some j)).bind S.bo = (itB S n (S.bo j)).bind S.bo; rw [ih]
/-- a chain that ends before n steps -/
theorem cntB_it {S : St} : ∀ (n : Nat) (o : Option Nat) (k : Nat), cntB S n o ≤ k → k < n → itB S k o = none := by
  intro n
  induction n with
  | zero => intro o k _ h; omega
  | succ n ih =>
    intro o k h1 h2
    cases o with
    | none => exact itB_z _
    | some j =>
      have h3 : cntB S n (S.bo j) + 1 ≤ k := h1
      cases k with
      | zero => omega
      | succ k => rw [itB_s]; exact ih _ k (by omega) (by omega)
theorem bossB_e (S : St) (c : Nat) : bossN S c = if S.ce c < mostB S c then itB S (S.ce c) (S.bo (S.cp c)) else none := by
  unfold bossN
  by_cases h : needB S c ≤ S.ce c
  · rw [if_pos h, itB_z]
    by_cases h2 : S.ce c < mostB S c
    · rw [if_pos h2, cntB_it (mostB S c) (S.bo (S.cp c)) (S.ce c) h h2]
    · rw [if_neg h2]
  · rw [if_neg h, if_pos (by have := cntB_le S (mostB S c) (S.bo (S.cp c)); have h4 : needB S c = cntB S (mostB S c) (S.bo (S.cp c)) := rfl; omega)]
theorem away_si {S : St} (hI : Inv S) {b : Nat} (hb : b < S.np) (h : ¬ awayA S b (nI S.td) = 0) : ∃ t, S.si b = some t := by
  have h1 : ¬ S.aw b < nI S.td := fun e => h (if_pos e)
  rw [Int32.lt_iff_toInt_lt, nI_toInt (Nat.lt_of_le_of_lt hI.td (by decide))] at h1
  have h2 := (hI.2.1 b hb).2.2.2.2.2 (by omega)
  cases e : S.si b with
  | none => exact absurd e h2
  | some t => exact ⟨t, rfl⟩
