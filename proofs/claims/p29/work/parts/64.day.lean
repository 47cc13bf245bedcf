/-! a day: the trust that was told is the trust that comes -/
theorem nI_u {a b c : Nat} : nI a - nI b = nI c ↔ nI a = nI c + nI b := by
  constructor
  · intro h; rw [← h]; exact (Int32.sub_add_cancel _ _).symm
  · intro h; rw [h]; exact Int32.add_sub_cancel _ _
theorem maxI_n {a b : Nat} (ha : a < 2 ^ 31) (hb : b < 2 ^ 31) : maxI (nI a) (nI b) = nI (if a < b then b else a) := by
  unfold maxI
  by_cases h : a < b
  · rw [if_pos ((nI_ltI ha hb).mpr h), if_pos h]
  · rw [if_neg (fun k => h ((nI_ltI ha hb).mp k)), if_neg h]
theorem age_n {a b : Nat} (hab : b ≤ a) (ha : a < 2 ^ 31) : nI a - nI b = nI (a - b) := nI_u.mpr (by rw [nI_add]; congr 1; omega)
/-- by the next day an open charge loses just what that day takes -/
theorem lost_grow {S : St} (hI : Inv S) (ht : S.td < 119) {c : Nat} (hc : c < S.nc) (h0 : S.cs c = 0) : lostA S c (minI (nI S.td + 1) 119) = growR (S.s_td (S.td + 1)) c := by
  have hcd := hI.cd hc
  have e1 : minI (nI S.td + 1) 119 = nI (S.td + 1) := by
    rw [nI_1]
    unfold minI
    exact if_neg (fun k => nI_nlt (a := 119) (b := S.td + 1) (by omega) (by decide) k)
  have e0 : (S.s_td (S.td + 1)).cs c = S.cs c := rfl
  have e2 : ageA (S.s_td (S.td + 1)) c = nI (S.td + 1 - S.cd c) := age_n (a := S.td + 1) (b := S.cd c) (by omega) (by omega)
  have m1 : maxI (nI (S.cd c) + 15) (nI S.td + 1) = nI (if S.cd c + 15 < S.td + 1 then S.td + 1 else S.cd c + 15) := by
    rw [nI_1, show (15 : Int32) = nI 15 from rfl, nI_add]
    exact maxI_n (by omega) (by omega)
  unfold lostA growR
  rw [e1, e0, if_pos h0, e2, m1, show (8 : Int32) = nI 8 from rfl, show (15 : Int32) = nI 15 from rfl, nI_add]
  have q8 : nI (S.td + 1 - S.cd c) = nI 8 ↔ S.td + 1 - S.cd c = 8 := nI_eq (by omega) (by decide)
  have q15 : nI 15 ≤ nI (S.td + 1 - S.cd c) ↔ 15 ≤ S.td + 1 - S.cd c := nI_leI (by decide) (by omega)
  have w1 : nI (S.cd c + 8) ≤ nI S.td ↔ S.cd c + 8 ≤ S.td := nI_leI (by omega) (by omega)
  have w2 : nI (S.td + 1) < nI (S.cd c + 8) ↔ S.td + 1 < S.cd c + 8 := nI_ltI (by omega) (by omega)
  by_cases g : S.cd c + 15 < S.td + 1
  · have w3 : nI (S.td + 1) < nI (S.td + 1) ↔ S.td + 1 < S.td + 1 := nI_ltI (by omega) (by omega)
    rw [if_pos g, if_pos (w1.mpr (by omega)), if_neg (fun k => by have := w3.mp k; omega), if_neg (fun k => by have := q8.mp k; omega), if_pos (q15.mpr (by omega))]
    rfl
  · have w3 : nI (S.td + 1) < nI (S.cd c + 15) ↔ S.td + 1 < S.cd c + 15 := nI_ltI (by omega) (by omega)
    rw [if_neg g]
    by_cases a8 : S.cd c + 8 ≤ S.td
    · rw [if_pos (w1.mpr a8)]
      by_cases a15 : S.td + 1 < S.cd c + 15
      · rw [if_pos (w3.mpr a15), if_neg (fun k => by have := q8.mp k; omega), if_neg (fun k => by have := q15.mp k; omega)]
      · rw [if_neg (fun k => a15 (w3.mp k)), if_neg (fun k => by have := q8.mp k; omega), if_pos (q15.mpr (by omega))]; rfl
    · rw [if_neg (fun k => a8 (w1.mp k))]
      by_cases b8 : S.td + 1 < S.cd c + 8
      · rw [if_pos (w2.mpr b8), if_pos (w3.mpr (by omega)), if_neg (fun k => by have := q8.mp k; omega), if_neg (fun k => by have := q15.mp k; omega)]
      · rw [if_neg (fun k => b8 (w2.mp k)), if_pos (w3.mpr (by omega)), if_pos (q8.mpr (by omega))]; rfl
/-- the days' loop, charge by charge: what it sees of a charge is what was there -/
theorem grow_o (S : St) (c d : Nat) (h : ¬ d = c) : (growS S c).cs d = S.cs d := by
  rcases grow_cs S c d with k | ⟨k, -⟩
  · exact k
  · exact absurd k h
theorem dayF_o (S : St) : ∀ n d, n ≤ d → (dayF S n).1.cs d = S.cs d := by
  intro n
  induction n with
  | zero => intro d _; rfl
  | succ n ih =>
    intro d hd
    have e : (dayF S (n + 1)).1 = growS (dayF S n).1 n := rfl
    rw [e, grow_o _ _ _ (by omega)]
    exact ih d (by omega)
theorem dayF_R (S : St) (n : Nat) : growR (dayF S n).1 n = growR S n := by
  have ag := ag_dayF (S := S) n
  unfold growR ageA
  rw [dayF_o S n n (Nat.le_refl _), ag.e_td (by decide), ag.e_cd (by decide)]
theorem growR_01 (S : St) (c : Nat) : growR S c = 0 ∨ growR S c = 1 := by
  unfold growR
  split
  · split
    · exact Or.inr rfl
    · split
      · exact Or.inr rfl
      · exact Or.inl rfl
  · exact Or.inl rfl
def gQ (S : St) (p : Nat) (c : Nat) : Int32 := if S.cp c = p then growR S c else 0
theorem gQ_n (S : St) (p : Nat) : ∀ n, ∃ k, k ≤ n ∧ sm (gQ S p) n = nI k := by
  intro n
  induction n with
  | zero => exact ⟨0, Nat.le_refl _, rfl⟩
  | succ n ih =>
    obtain ⟨k, hk, e⟩ := ih
    have h01 : gQ S p n = 0 ∨ gQ S p n = 1 := by
      unfold gQ
      split
      · exact growR_01 S n
      · exact Or.inl rfl
    rcases h01 with z | z
    · exact ⟨k, by omega, by show sm (gQ S p) n + gQ S p n = _; rw [e, z, Int32.add_zero]⟩
    · exact ⟨k + 1, by omega, by show sm (gQ S p) n + gQ S p n = _; rw [e, z, nI_1]⟩
/-- one point less, k points gone before -/
theorem tr_step {t k : Nat} (ht : t ≤ 10) (hk : k ≤ 60) : maxI (maxI (nI t - nI k) 0 - 1) 0 = maxI (nI t - nI (k + 1)) 0 := by
  have h : ∀ t, t < 11 → ∀ k, k < 61 → maxI (maxI (nI t - nI k) 0 - 1) 0 = maxI (nI t - nI (k + 1)) 0 := by decide +kernel
  exact h t (by omega) k (by omega)
theorem tr_0 {t : Nat} (ht : t ≤ 10) : maxI (nI t - nI 0) 0 = nI t := by
  have h : ∀ t, t < 11 → maxI (nI t - nI 0) 0 = nI t := by decide +kernel
  exact h t (by omega)
theorem tr_nI {S : St} (hI : Inv S) {p : Nat} (hp : p < S.np) : ∃ t, t ≤ 10 ∧ S.tr p = nI t := by
  have h := hI.tr hp
  refine ⟨(S.tr p).toInt.toNat, by omega, Int32.toInt_inj.mp ?_⟩
  rw [nI_toInt (n := (S.tr p).toInt.toNat) (by omega)]
  omega
theorem grow_tr (S : St) (c p : Nat) : (growS S c).tr p = if growR S c = 0 then S.tr p else if S.cp c = p then maxI (S.tr p - 1) 0 else S.tr p := by
  by_cases h : growR S c = 0
  · rw [if_pos h, grow_0 h]
  · rw [if_neg h, grow_1 h]
    have e : ∀ X : St, X.tr = S.tr → X.cp = S.cp → (loseS X (S.cp c)).tr p = if S.cp c = p then maxI (S.tr p - 1) 0 else S.tr p := fun X h1 h2 => by
      show va_up X.tr (S.cp c) (maxI (X.tr (S.cp c) - 1) 0) p = _
      rw [h1]
      by_cases q : S.cp c = p
      · rw [if_pos q, q, va_up_self]
      · rw [if_neg q, va_up_ne _ _ (fun z => q z.symm)]
    unfold bearS
    split
    · exact e (u_cm S c 1) rfl rfl
    · exact e (u_cs S c 3) rfl rfl
theorem dayF_tr {S : St} {p t : Nat} (ht : t ≤ 10) (e : S.tr p = nI t) : ∀ n, n ≤ 60 → (dayF S n).1.tr p = maxI (nI t - sm (gQ S p) n) 0 := by
  intro n
  induction n with
  | zero => intro _; show S.tr p = maxI (nI t - nI 0) 0; rw [tr_0 ht]; exact e
  | succ n ih =>
    intro hn
    have ih := ih (by omega)
    have ed : (dayF S (n + 1)).1 = growS (dayF S n).1 n := rfl
    have ag := ag_dayF (S := S) n
    rw [ed, grow_tr, dayF_R, ag.e_cp (by decide)]
    obtain ⟨k, hk, ek⟩ := gQ_n S p n
    rw [ek] at ih
    show _ = maxI (nI t - (sm (gQ S p) n + gQ S p n)) 0
    rw [ek]
    unfold gQ
    by_cases h : growR S n = 0
    · rw [if_pos h, h, ih]
      split <;> rw [Int32.add_zero]
    · rw [if_neg h]
      have h1 : growR S n = 1 := (growR_01 S n).resolve_left h
      by_cases q : S.cp n = p
      · rw [if_pos q, if_pos q, h1, ih, nI_1]
        exact tr_step ht (by omega)
      · rw [if_neg q, if_neg q, ih, Int32.add_zero]
theorem day_trust {S : St} (hI : Inv S) (ht : S.td < 119) {p : Nat} (hp : p < S.np) : (dayS S).tr p = trustA S p 1 := by
  obtain ⟨t, h10, et⟩ := tr_nI hI hp
  have e1 : (dayS S).tr = (dayF (S.s_td (S.td + 1)) S.nc).1.tr := ag_pass.e_tr (by decide)
  rw [e1, dayF_tr (S := S.s_td (S.td + 1)) h10 et S.nc (Nat.le_trans hI.nc (by decide))]
  unfold trustA
  rw [et]
  congr 2
  refine sm_ext _ (fun c hc => ?_)
  show (if S.cp c = p then growR (S.s_td (S.td + 1)) c else 0) = if S.cp c = p then (if S.cs c = 0 then lostA S c (minI (nI S.td + 1) 119) else 0) else 0
  by_cases q : S.cp c = p
  · rw [if_pos q, if_pos q]
    by_cases h0 : S.cs c = 0
    · rw [if_pos h0]; exact (lost_grow hI ht hc h0).symm
    · rw [if_neg h0]
      unfold growR
      exact if_neg h0
  · rw [if_neg q, if_neg q]
/-- no more charges are repaid by it than it says -/
theorem day_count {S : St} : ∀ n, ∃ a b d, a ≤ n ∧ d ≤ n ∧ sm (inQ (dayF S n).1 3) n = nI a ∧ sm (inQ S 3) n = nI b ∧ (dayF S n).2 = nI d ∧ b ≤ a ∧ a ≤ b + d := by
  intro n
  induction n with
  | zero => exact ⟨0, 0, 0, Nat.le_refl _, Nat.le_refl _, rfl, rfl, rfl, Nat.le_refl _, Nat.le_refl _⟩
  | succ n ih =>
    obtain ⟨a, b, d, ha, hd, e1, e2, e3, l1, l2⟩ := ih
    have ed : (dayF S (n + 1)).1 = growS (dayF S n).1 n := rfl
    have es : sm (inQ (growS (dayF S n).1 n) 3) n = sm (inQ (dayF S n).1 3) n := sm_ext n (fun i hi => by
      unfold inQ
      rw [grow_o _ _ _ (Nat.ne_of_lt hi)])
    have e0 : (dayF S n).1.cs n = S.cs n := dayF_o S n n (Nat.le_refl _)
    have e4 : (dayF S (n + 1)).2 = if growR S n = 0 then (dayF S n).2 else (dayF S n).2 + 1 := by
      rw [← dayF_R]; rfl
    have t1 : sm (inQ (dayF S (n + 1)).1 3) (n + 1) = nI a + inQ (growS (dayF S n).1 n) 3 n := by
      show sm (inQ (dayF S (n + 1)).1 3) n + inQ (dayF S (n + 1)).1 3 n = _
      rw [ed, es, e1]
    have t2 : sm (inQ S 3) (n + 1) = nI b + inQ S 3 n := by
      show sm (inQ S 3) n + inQ S 3 n = _
      rw [e2]
    by_cases g : growR S n = 0
    · have g2 : growS (dayF S n).1 n = (dayF S n).1 := grow_0 (by rw [dayF_R]; exact g)
      rw [g2] at t1
      have e5 : inQ (dayF S n).1 3 n = inQ S 3 n := by unfold inQ; rw [e0]
      rw [e5] at t1
      rw [if_pos g, e3] at e4
      have h01 : inQ S 3 n = 0 ∨ inQ S 3 n = 1 := by unfold inQ; split; exact Or.inr rfl; exact Or.inl rfl
      rcases h01 with z | z
      · rw [z, Int32.add_zero] at t1 t2
        exact ⟨a, b, d, by omega, by omega, t1, t2, e4, l1, l2⟩
      · rw [z, nI_1] at t1 t2
        exact ⟨a + 1, b + 1, d, by omega, by omega, t1, t2, e4, by omega, by omega⟩
    · rw [if_neg g, e3, nI_1] at e4
      have h0 : S.cs n = 0 := by
        refine Decidable.byContradiction fun h => g ?_
        unfold growR
        exact if_neg h
      have z : inQ S 3 n = 0 := by unfold inQ; rw [h0]; decide
      rw [z, Int32.add_zero] at t2
      have h01 : inQ (growS (dayF S n).1 n) 3 n = 0 ∨ inQ (growS (dayF S n).1 n) 3 n = 1 := by unfold inQ; split; exact Or.inr rfl; exact Or.inl rfl
      rcases h01 with y | y
      · rw [y, Int32.add_zero] at t1
        exact ⟨a, b, d + 1, by omega, by omega, t1, t2, e4, l1, by omega⟩
      · rw [y, nI_1] at t1
        exact ⟨a + 1, b, d + 1, by omega, by omega, t1, t2, e4, by omega, by omega⟩
theorem day_n {S : St} (hI : Inv S) : ¬ dayR S < inA (dayS S) 3 - inA S 3 := by
  obtain ⟨a, b, d, ha, hd, e1, e2, e3, l1, l2⟩ := day_count (S := S.s_td (S.td + 1)) S.nc
  have hn := hI.nc
  have f1 : inA (dayS S) 3 = nI a := by
    have k : inA (dayS S) 3 = sm (inQ (dayF (S.s_td (S.td + 1)) S.nc).1 3) S.nc := by
      unfold inA
      have hnc : (dayS S).nc = S.nc := by
        have e1 : (dayS S).nc = (dayF (S.s_td (S.td + 1)) S.nc).1.nc := passS_nc _
        rw [e1, dayF_nc]; rfl
      rw [hnc]
      refine sm_ext _ (fun c _ => ?_)
      unfold inQ
      rcases passS_cs (dayF (S.s_td (S.td + 1)) S.nc).1 c with q | ⟨q, q2⟩
      · rw [show (dayS S).cs c = (dayF (S.s_td (S.td + 1)) S.nc).1.cs c from q]
      · rw [show (dayS S).cs c = 2 from q2, q]; decide
    rw [k, e1]
  have f2 : inA S 3 = nI b := e2
  have f3 : dayR S = nI d := e3
  rw [f1, f2, f3, age_n l1 (by omega)]
  exact nI_nlt (by omega) (by omega)
