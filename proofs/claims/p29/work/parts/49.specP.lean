/-! what the class's public writers leave -/
def setT (S : St) (t j : Nat) (v : Int32) : St := S.s_tb (va_up S.tb t (va_up (S.tb t) j v))
def awayS (S : St) (p : Nat) (v : Int32) (o : Nat) : St := passS (u_si (u_aw S p v) p (some o))
def splitS (S : St) (c : Nat) : St := passS (mpS (partS S c))
def approveS (S : St) (c : Nat) : St := passS (u_ce S c (S.ce c + 1))
def refuseS (S : St) (c : Nat) : St := passS (u_cs S c 4)
def settleS (S : St) (c : Nat) (b : Int32) : St := if b = 0 then passS (u_ce (u_cs S c 1) c 0) else passS (u_cs S c 3)
def dayF (S : St) : Nat → St × Int32
  | 0 => (S, 0)
  | n + 1 => (growS (dayF S n).1 n, if growR (dayF S n).1 n = 0 then (dayF S n).2 else (dayF S n).2 + 1)
def dayS (S : St) : St := passS (dayF (S.s_td (S.td + 1)) S.nc).1
def dayR (S : St) : Int32 := (dayF (S.s_td (S.td + 1)) S.nc).2
theorem passS_nc (S : St) : (passS S).nc = S.nc := passF_nc S _
theorem gain_nc (S : St) (p : Nat) : (gainS S p).nc = S.nc := by unfold gainS; split <;> rfl
theorem match_nc (S : St) (c r : Nat) : (matchS S c r).nc = S.nc := by
  unfold matchS; split
  · rfl
  · rw [gain_nc]; rfl
theorem mb_nc (S : St) : (mbS S).nc = S.nc := by
  unfold mbS; split
  · rfl
  · exact match_nc _ _ _
theorem mpF_nc (S : St) : ∀ n, (mpF S n).1.nc = S.nc := by
  intro n
  induction n with
  | zero => rfl
  | succ n ih =>
    show (if (mpF S n).2 = 0 then mpF S n else (mbS (mpF S n).1, mbR (mpF S n).1)).1.nc = _
    split
    · exact ih
    · exact (mb_nc _).trans ih
theorem mpS_nc (S : St) : (mpS S).nc = S.nc := mpF_nc S _
theorem part_nc (S : St) (c : Nat) : (partS S c).nc = S.nc := by unfold partS; split <;> rfl
theorem grow_nc (S : St) (c : Nat) : (growS S c).nc = S.nc := by
  unfold growS; split
  · split
    · rfl
    · split <;> rfl
  · rfl
theorem dayF_nc (S : St) : ∀ n, (dayF S n).1.nc = S.nc := by
  intro n
  induction n with
  | zero => rfl
  | succ n ih => exact (grow_nc _ _).trans ih
theorem Inv.dayf {S : St} (h : Inv S) : ∀ n, Inv (dayF S n).1 := by
  intro n
  induction n with
  | zero => exact h
  | succ n ih => exact ih.grow
theorem Inv.tdS {S : St} (h : Inv S) (ht : S.td < 119) : Inv (S.s_td (S.td + 1)) := by
  obtain ⟨⟨a1, a2, a3, a4, a5⟩, b, t, cc, r, bb⟩ := h
  refine ⟨⟨a1, a2, a3, a4, ht⟩, b, t, fun i hi => ?_, r, bb⟩
  obtain ⟨c1, c2, c3, c4, c5, c6⟩ := cc i hi
  exact ⟨c1, c2, c3, c4, Nat.le_succ_of_le c5, c6⟩
theorem Inv.away {S : St} (h : Inv S) {p o : Nat} {v : Int32} (ho : o < S.np) (h1 : ¬ v < 0) (h2 : ¬ 119 < v) : Inv (u_si (u_aw S p v) p (some o)) := by
  refine h.upP p ⟨rfl, rfl, rfl, rfl, rfl⟩ (fun _ q => q) (fun _ q => q) (fun q => q) (fun _ q => q) (fun i e _ q => ?_) (fun hp q => ?_)
  · unfold InvP; rw [show (u_si (u_aw S p v) p (some o)).aw i = S.aw i from va_up_ne _ _ e, show (u_si (u_aw S p v) p (some o)).si i = S.si i from va_up_ne _ _ e]; exact q
  · unfold InvP; rw [show (u_si (u_aw S p v) p (some o)).aw p = v from va_up_self _ _ _, show (u_si (u_aw S p v) p (some o)).si p = some o from va_up_self _ _ _]
    obtain ⟨a1, a2, a3, a4, a5, a6⟩ := q
    rw [Int32.lt_iff_toInt_lt] at h1 h2
    have z0 : (0 : Int32).toInt = 0 := rfl
    have z1 : (119 : Int32).toInt = 119 := rfl
    refine ⟨a1, fun j hj => by cases hj; exact ho, a3, a4, ⟨by omega, by omega⟩, fun _ => by simp⟩
theorem Inv.cr1 {S : St} (h : Inv S) {c : Nat} (hc : c < S.nc) (hs : S.cs c = 1 ∨ S.cs c = 4) : S.cr c ≠ none := (h.2.2.2.1 c hc).2.2.2.2.2.2.2.2.2.2.2.1 hs
theorem apprA_1 {S : St} {c p : Nat} (h : apprA S c = some p) : S.cs c = 1 ∧ S.ce c < needB S c := by
  unfold apprA at h
  by_cases h1 : S.cs c = 1
  · rw [if_pos h1] at h
    refine ⟨h1, Nat.lt_of_not_le fun h2 => ?_⟩
    have e : bossN S c = none := by
      unfold bossN
      rw [if_pos h2]
      have : ∀ n, itB S n none = none := by
        intro n
        induction n with
        | zero => rfl
        | succ n ih => show (itB S n none).bind S.bo = none; rw [ih]; rfl
      exact this _
    rw [e] at h
    cases h
  · rw [if_neg h1] at h
    cases h
theorem Inv.appr {S : St} (h : Inv S) {c p : Nat} (ha : apprA S c = some p) : Inv (u_ce S c (S.ce c + 1)) := by
  obtain ⟨h1, h2⟩ := apprA_1 ha
  exact h.uce (Nat.le_trans h2 (needB_le S c)) (fun z => by rw [h1] at z; exact absurd z (by decide))
theorem Inv.refu {S : St} (h : Inv S) {c : Nat} (hc : c < S.nc) (hs : S.cs c = 1) : Inv (u_cs S c 4) := h.ucs (Or.inr (Or.inr (Or.inr rfl))) (fun _ => h.cr1 hc (Or.inl hs))
theorem Inv.set3 {S : St} (h : Inv S) {c : Nat} : Inv (u_cs S c 3) := h.ucs (Or.inr (Or.inr (Or.inl rfl))) (fun z => by rcases z with z | z <;> exact absurd z (by decide))
theorem Inv.set1 {S : St} (h : Inv S) {c : Nat} (hc : c < S.nc) (hs : S.cs c = 4) : Inv (u_ce (u_cs S c 1) c 0) := (h.ucs (Or.inl rfl) (fun _ => h.cr1 hc (Or.inr hs))).uce (Nat.zero_le _) (fun _ => rfl)
theorem Inv.stT {S : St} (h : Inv S) {t j : Nat} {v : Int32} (ht : (t = 0 ∧ 0 ≤ v.toInt ∧ v.toInt ≤ 9999) ∨ (t = 1 ∧ 0 ≤ v.toInt ∧ v.toInt ≤ 99999) ∨ (t = 2 ∧ 0 ≤ v.toInt ∧ v.toInt ≤ 100) ∨ (t = 3 ∧ 0 ≤ v.toInt ∧ v.toInt ≤ 30)) : Inv (setT S t j v) := by
  obtain ⟨a, b, tt, cc, r, ⟨b1, b2, b3, b4⟩⟩ := h
  have key : ∀ k i, (setT S t j v).tb k i = v ∧ k = t ∨ (setT S t j v).tb k i = S.tb k i := by
    intro k i
    show va_up S.tb t (va_up (S.tb t) j v) k i = v ∧ k = t ∨ va_up S.tb t (va_up (S.tb t) j v) k i = S.tb k i
    by_cases hk : k = t
    · subst hk
      rw [va_up_self]
      by_cases hi : i = j
      · subst hi; exact Or.inl ⟨va_up_self _ _ _, rfl⟩
      · exact Or.inr (va_up_ne _ _ hi)
    · rw [va_up_ne _ _ hk]; exact Or.inr rfl
  refine ⟨a, b, tt, cc, r, fun i => ?_, fun i => ?_, fun i => ?_, fun i => ?_⟩
  · rcases key 0 i with ⟨e, hk⟩ | e
    · rw [e]; rcases ht with ht | ht | ht | ht <;> (first | exact ht.2 | (exact absurd (hk.trans ht.1) (by decide)))
    · rw [e]; exact b1 i
  · rcases key 1 i with ⟨e, hk⟩ | e
    · rw [e]; rcases ht with ht | ht | ht | ht <;> (first | (exact absurd (hk.trans ht.1) (by decide)) | exact ht.2)
    · rw [e]; exact b2 i
  · rcases key 2 i with ⟨e, hk⟩ | e
    · rw [e]; rcases ht with ht | ht | ht | ht <;> (first | (exact absurd (hk.trans ht.1) (by decide)) | exact ht.2)
    · rw [e]; exact b3 i
  · rcases key 3 i with ⟨e, hk⟩ | e
    · rw [e]; rcases ht with ht | ht | ht | ht <;> (first | (exact absurd (hk.trans ht.1) (by decide)) | exact ht.2)
    · rw [e]; exact b4 i

