theorem c_getL (l : Launch) (E : EE) {S : St} {g : Gh} {H : Heap} {k : Nat} (i : Nat) (hk : k = 6 + i) (hR : RA E S g H) (hi : i < 4) {j : Nat} (hj : j < S.cnt i) : RM l E yJx4a65c_get_915e3 cJx4a65c_get_915e3 2 (.object "java/lang/Object") (rD 2) [.ref (g.ad 2 i), .int (nI j)] (fun H => va_at E.1 vwCl (g.ad 2 i, .inr (0, [.int (g.md i), .ref (g.ad 3 i), .int (nI (S.cnt i))])) H ∧ va_at E.1 vwCl (g.ad 3 i, .inl (eO E, g.cap i, .inr (.inr (.inr (.inr (fun j => if j < S.cnt i then some (g.ad (6 + i) j) else none)))))) H) (.ref (g.ad k j)) := by
  subst hk
  obtain ⟨h1, h2⟩ := hR.cnt hi hj
  have h3 : S.cnt i < 2 ^ 31 := Nat.lt_of_le_of_lt (hR.2.1 i hi).1 h2
  exact c_get l E _ _ _ j _ _ _ _ _ ⟨rfl, h1, h2⟩ (nI_pos (Nat.lt_trans hj h3)) (nI_lt hj h3) (if_pos hj)
theorem RA.gp {E : EE} {S : St} {g : Gh} {H : Heap} (hR : RA E S g H) (i : Nat) (hi : i < 4) {j : Nat} (hj : j < S.cnt i) : va_at E.1 vwCl (g.ad 2 i, .inr (0, [.int (g.md i), .ref (g.ad 3 i), .int (nI (S.cnt i))])) H ∧ va_at E.1 vwCl (g.ad 3 i, .inl (eO E, g.cap i, .inr (.inr (.inr (.inr (fun j => if j < S.cnt i then some (g.ad (6 + i) j) else none)))))) H :=
  ⟨hR.ls hi, hR.le hi (Nat.lt_of_le_of_lt (Nat.zero_le _) (hR.cnt hi hj).1)⟩
/-- the loop's counter against a list's length -/
theorem ge_out {n i : Nat} (h : ¬ nI n ≤ nI i) (hi : i ≤ n) (hn : n < 2 ^ 31) : i < n := by
  rcases Nat.lt_or_ge i n with q | q
  · exact q
  · have e : i = n := Nat.le_antisymm hi q
    subst e
    exact absurd (Int32.le_refl _) h
theorem ge_in {n i : Nat} (h : nI n ≤ nI i) (hi : i ≤ n) (hn : n < 2 ^ 31) : i = n := by
  rcases Nat.lt_or_ge i n with q | q
  · exact absurd h (nI_ge q hn)
  · exact Nat.le_antisymm hi q
theorem Inv.np31 {S : St} (h : Inv S) : S.np < 2 ^ 31 := Nat.lt_of_le_of_lt h.np (by decide)
theorem Inv.nt31 {S : St} (h : Inv S) : S.nt < 2 ^ 31 := Nat.lt_of_le_of_lt h.nt (by decide)
theorem Inv.nc31 {S : St} (h : Inv S) : S.nc < 2 ^ 31 := Nat.lt_of_le_of_lt h.nc (by decide)
theorem Inv.nr31 {S : St} (h : Inv S) : S.nr < 2 ^ 31 := Nat.lt_of_le_of_lt h.nr (by decide)

