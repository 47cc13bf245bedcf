/-! between calls: every matched charge has its approver; limits of people not yet there are zero -/
theorem cnt_ext {S T : St} (hI : Inv S) (hb : ∀ j, j < S.np → T.bo j = S.bo j) : ∀ (n : Nat) (o : Option Nat), (∀ j, o = some j → j < S.np) → cntB T n o = cntB S n o := by
  intro n
  induction n with
  | zero => intro o _; cases o <;> rfl
  | succ n ih =>
    intro o ho
    cases o with
    | none => rfl
    | some j =>
      show cntB T n (T.bo j) + 1 = cntB S n (S.bo j) + 1
      rw [hb j (ho j rfl), ih _ (fun i hi => hI.bo (ho j rfl) hi)]
theorem it_ext {S T : St} (hI : Inv S) (hb : ∀ j, j < S.np → T.bo j = S.bo j) {o : Option Nat} (ho : ∀ j, o = some j → j < S.np) : ∀ k, itB T k o = itB S k o := by
  intro k
  induction k with
  | zero => rfl
  | succ k ih =>
    show (itB T k o).bind T.bo = (itB S k o).bind S.bo
    rw [ih]
    cases e : itB S k o with
    | none => rfl
    | some j => exact hb j (itB_lt hI ho e)
theorem need_ext {S T : St} (hI : Inv S) {c : Nat} (hc : c < S.nc) (hb : ∀ j, j < S.np → T.bo j = S.bo j) (hcp : T.cp c = S.cp c) (hca : T.ca c = S.ca c) : needB T c = needB S c := by
  unfold needB mostB
  rw [hcp, hca, hb _ (hI.cp hc)]
  exact cnt_ext hI hb _ _ (fun i hi => hI.bo (hI.cp hc) hi)
theorem boss_ext {S T : St} (hI : Inv S) {c : Nat} (hc : c < S.nc) (hb : ∀ j, j < S.np → T.bo j = S.bo j) (hcp : T.cp c = S.cp c) (hca : T.ca c = S.ca c) (hce : T.ce c = S.ce c) : bossN T c = bossN S c := by
  unfold bossN
  rw [need_ext hI hc hb hcp hca, hce, hcp, hb _ (hI.cp hc)]
  exact it_ext hI hb (fun j hj => by
    split at hj
    · cases hj
    · exact hI.bo (hI.cp hc) hj) _
theorem appr_ext {S T : St} (hI : Inv S) {c : Nat} (hc : c < S.nc) (hb : ∀ j, j < S.np → T.bo j = S.bo j ∧ T.aw j = S.aw j ∧ T.si j = S.si j) (htd : T.td = S.td) (hcp : T.cp c = S.cp c) (hca : T.ca c = S.ca c) (hcs : T.cs c = S.cs c) (hce : T.ce c = S.ce c) : apprA T c = apprA S c := by
  unfold apprA
  rw [hcs, boss_ext hI hc (fun j hj => (hb j hj).1) hcp hca hce]
  have ho : ∀ j, (if S.cs c = 1 then bossN S c else none) = some j → j < S.np := fun j hj => by
    split at hj
    · exact bossN_lt hI hc hj
    · cases hj
  revert ho
  generalize (if S.cs c = 1 then bossN S c else none) = o
  intro ho
  cases o with
  | none => rfl
  | some b =>
    have hbb := hb b (ho b rfl)
    have e1 : awayA T b (nI T.td) = awayA S b (nI S.td) := by unfold awayA; rw [hbb.2.1, htd]
    by_cases h1 : awayA S b (nI S.td) = 0
    · exact (if_pos (e1.trans h1)).trans (if_pos h1).symm
    · refine (if_neg (fun w => h1 (e1.symm.trans w))).trans (Eq.trans ?_ (if_neg h1).symm)
      rw [hbb.2.2]
      cases e : S.si b with
      | none => rfl
      | some t =>
        have ht := hb t (hI.si (ho b rfl) e)
        have e2 : awayA T t (nI T.td) = awayA S t (nI S.td) := by unfold awayA; rw [ht.2.1, htd]
        by_cases h2 : t = S.cp c
        · exact (if_pos (h2.trans hcp.symm)).trans (if_pos h2).symm
        · refine (if_neg (fun w => h2 (w.trans hcp))).trans (Eq.trans ?_ (if_neg h2).symm)
          by_cases h3 : awayA S t (nI S.td) = 0
          · exact (if_pos (e2.trans h3)).trans (if_pos h3).symm
          · exact (if_neg (fun w => h3 (e2.symm.trans w))).trans (if_neg h3).symm
def StabS (S : St) : Prop := ∀ c, c < S.nc → S.cs c = 1 → ¬ apprA S c = none
theorem appr_need {S : St} {c : Nat} (h : ¬ apprA S c = none) : ¬ needB S c ≤ S.ce c := by
  intro hn
  apply h
  unfold apprA bossN
  rw [if_pos hn]
  have e : itB S (S.ce c) none = none := itB_none (k := 0) rfl (Nat.zero_le _)
  rw [e]
  split <;> rfl
theorem pwS_stop {S : St} {c : Nat} : ∀ (n : Nat) (T : St), (∃ k, T = u_ce S c k) → needB S c ≤ T.ce c + n → needB S c ≤ (pwS T c n).ce c ∨ ¬ apprA (pwS T c n) c = none := by
  intro n
  induction n with
  | zero => intro T _ h; exact Or.inl h
  | succ n ih =>
    intro T ⟨k, e⟩ h
    show needB S c ≤ (if needB T c ≤ T.ce c then T else if apprA T c = none then pwS (u_ce T c (T.ce c + 1)) c n else T).ce c ∨ ¬ apprA (if needB T c ≤ T.ce c then T else if apprA T c = none then pwS (u_ce T c (T.ce c + 1)) c n else T) c = none
    by_cases h1 : needB T c ≤ T.ce c
    · rw [if_pos h1]
      rw [e, needB_ce] at h1
      exact Or.inl (by rw [e]; exact h1)
    · rw [if_neg h1]
      by_cases h2 : apprA T c = none
      · rw [if_pos h2]
        refine ih _ ⟨T.ce c + 1, by rw [e, u_ce_ce]⟩ ?_
        show needB S c ≤ va_up T.ce c (T.ce c + 1) c + n
        rw [va_up_self]
        omega
      · rw [if_neg h2]; exact Or.inr h2
theorem needB_3 (S : St) (c : Nat) : needB S c ≤ 3 := by
  refine Nat.le_trans (cntB_le S _ _) ?_
  unfold mostB
  split
  · split <;> decide
  · decide
theorem passOne_stab {S : St} {c : Nat} : (passOneS S c).cs c = 1 → ¬ apprA (passOneS S c) c = none := by
  unfold passOneS
  split
  · intro h
    have : va_up (pwS S c 3).cs c 2 c = 1 := h
    rw [va_up_self] at this
    exact absurd this (by decide)
  · rename_i h
    intro _
    rcases pwS_stop (S := S) (c := c) 3 S ⟨S.ce c, (u_ce_id S c).symm⟩ (Nat.le_trans (needB_3 S c) (Nat.le_add_left _ _)) with h2 | h2
    · exact absurd h2 h
    · exact h2
theorem passOne_id {S : St} {c : Nat} (h : ¬ apprA S c = none) : passOneS S c = S := by
  have h1 := appr_need h
  have e : pwS S c 3 = S := by
    show (if needB S c ≤ S.ce c then S else if apprA S c = none then _ else S) = S
    rw [if_neg h1, if_neg h]
  unfold passOneS
  rw [e, if_neg h1]
theorem passF_id {S : St} (h : StabS S) : ∀ n, n ≤ S.nc → passF S n = S := by
  intro n
  induction n with
  | zero => intro _; rfl
  | succ n ih =>
    intro hn
    show (if (passF S n).cs n = 1 then passOneS (passF S n) n else passF S n) = S
    rw [ih (by omega)]
    split
    · rename_i h1; exact passOne_id (h n hn h1)
    · rfl
theorem passS_id {S : St} (h : StabS S) : passS S = S := passF_id h _ (Nat.le_refl _)
theorem passF_stab {S : St} (hI : Inv S) : ∀ n, n ≤ S.nc → ∀ c, c < n → (passF S n).cs c = 1 → ¬ apprA (passF S n) c = none := by
  intro n
  induction n with
  | zero => intro _ c h; omega
  | succ n ih =>
    intro hn c hc
    have hIn := hI.pF n (by omega)
    have hnc := passF_nc S n
    show (if (passF S n).cs n = 1 then passOneS (passF S n) n else passF S n).cs c = 1 → ¬ apprA (if (passF S n).cs n = 1 then passOneS (passF S n) n else passF S n) c = none
    by_cases h1 : (passF S n).cs n = 1
    · rw [if_pos h1]
      by_cases e : c = n
      · subst e; exact passOne_stab
      · obtain ⟨k, -, e1 | e1⟩ := passOneS_f (passF S n) n
        · rw [e1]
          intro h2
          rw [appr_ext (S := passF S n) (T := u_ce (passF S n) n k) (c := c) hIn (by omega) (fun j _ => ⟨rfl, rfl, rfl⟩) rfl rfl rfl rfl (va_up_ne _ _ e)]
          exact ih (by omega) c (by omega) h2
        · rw [e1]
          have e3 : (u_cs (u_ce (passF S n) n k) n 2).cs c = (passF S n).cs c := va_up_ne _ _ e
          intro h2
          rw [e3] at h2
          rw [appr_ext (S := passF S n) (T := u_cs (u_ce (passF S n) n k) n 2) (c := c) hIn (by omega) (fun j _ => ⟨rfl, rfl, rfl⟩) rfl rfl rfl e3 (va_up_ne _ _ e)]
          exact ih (by omega) c (by omega) h2
    · rw [if_neg h1]
      by_cases e : c = n
      · subst e; intro h2; exact absurd h2 h1
      · exact ih (by omega) c (by omega)
theorem passS_stab {S : St} (hI : Inv S) : StabS (passS S) := fun c hc h => passF_stab hI S.nc (Nat.le_refl _) c (by rw [passS_nc] at hc; exact hc) h
def NB (S T : St) : Prop := T.np = S.np ∧ T.tb = S.tb
theorem NB.rf {S : St} : NB S S := ⟨rfl, rfl⟩
theorem NB.tr {S T U : St} (h : NB S T) (k : NB T U) : NB S U := ⟨k.1.trans h.1, k.2.trans h.2⟩
theorem nb_one {S : St} {c : Nat} : NB S (passOneS S c) := by
  obtain ⟨k, -, e | e⟩ := passOneS_f S c <;> rw [e] <;> exact ⟨rfl, rfl⟩
theorem nb_passF {S : St} : ∀ n, NB S (passF S n) := by
  intro n
  induction n with
  | zero => exact NB.rf
  | succ n ih =>
    show NB S (if (passF S n).cs n = 1 then passOneS (passF S n) n else passF S n)
    split
    · exact ih.tr nb_one
    · exact ih
theorem nb_pass {S : St} : NB S (passS S) := nb_passF _
theorem nb_gain {S : St} {p : Nat} : NB S (gainS S p) := by unfold gainS; split <;> exact ⟨rfl, rfl⟩
theorem nb_match {S : St} {c r : Nat} : NB S (matchS S c r) := by
  unfold matchS; split
  · exact ⟨rfl, rfl⟩
  · exact NB.tr (T := matS S c r) ⟨rfl, rfl⟩ nb_gain
theorem nb_mb {S : St} : NB S (mbS S) := by
  unfold mbS; split
  · exact NB.rf
  · exact nb_match
theorem nb_mpF {S : St} : ∀ n, NB S (mpF S n).1 := by
  intro n
  induction n with
  | zero => exact NB.rf
  | succ n ih =>
    show NB S (if (mpF S n).2 = 0 then mpF S n else (mbS (mpF S n).1, mbR (mpF S n).1)).1
    split
    · exact ih
    · exact ih.tr nb_mb
theorem nb_mp {S : St} : NB S (mpS S) := nb_mpF _
theorem nb_part {S : St} {c : Nat} : NB S (partS S c) := by unfold partS; split <;> exact ⟨rfl, rfl⟩
theorem nb_grow {S : St} {c : Nat} : NB S (growS S c) := by
  unfold growS
  split
  · split
    · exact ⟨rfl, rfl⟩
    · split <;> exact ⟨rfl, rfl⟩
  · exact NB.rf
theorem nb_dayF {S : St} : ∀ n, NB S (dayF S n).1 := by
  intro n
  induction n with
  | zero => exact NB.rf
  | succ n ih => exact ih.tr nb_grow
def LZ (S : St) : Prop := ∀ j, S.np * 4 ≤ j → S.tb 0 j = 0
def Good (S : St) : Prop := Inv S ∧ LZ S ∧ StabS S
theorem LZ.nb {S T : St} (h : LZ S) (k : NB S T) : LZ T := fun j hj => by rw [k.2]; exact h j (by rw [← k.1]; exact hj)
theorem Good.pass {S X : St} (h : Good S) (hI : Inv X) (k : NB S X) : Good (passS X) := ⟨hI.pS, h.2.1.nb (k.tr nb_pass), passS_stab hI⟩
theorem Good.tb {S : St} (h : Good S) {t j : Nat} {v : Int32} (hI : Inv (setT S t j v)) (ht : t = 0 → j < S.np * 4) : Good (setT S t j v) :=
  ⟨hI, fun i hi => by
    have hi : S.np * 4 ≤ i := hi
    show va_up S.tb t (va_up (S.tb t) j v) 0 i = 0
    by_cases e : t = 0
    · subst e
      have := ht rfl
      rw [va_up_self, va_up_ne _ _ (by omega : ¬ i = j)]
      exact h.2.1 i hi
    · rw [va_up_ne _ _ (fun e2 => e e2.symm)]
      exact h.2.1 i hi,
   fun c hc h1 => by
    rw [appr_ext (S := S) (T := setT S t j v) (c := c) h.1 hc (fun j _ => ⟨rfl, rfl, rfl⟩) rfl rfl rfl rfl rfl]
    exact h.2.2 c hc h1⟩
theorem Good.adP {S : St} (h : Good S) {b : Option Nat} (hI : Inv (addP S b)) : Good (addP S b) :=
  ⟨hI, fun i hi => by
    have hi : (S.np + 1) * 4 ≤ i := hi
    exact h.2.1 i (by omega),
   fun c hc h1 => by
    rw [appr_ext (S := S) (T := addP S b) (c := c) h.1 hc (fun j hj => ⟨va_up_ne _ _ (by omega), va_up_ne _ _ (by omega), va_up_ne _ _ (by omega)⟩) rfl rfl rfl rfl rfl]
    exact h.2.2 c hc h1⟩
theorem stab_refu {S : St} (h : Good S) {c : Nat} : StabS (u_cs S c 4) := fun d hd h1 => by
  by_cases e : d = c
  · subst e
    have : va_up S.cs d 4 d = 1 := h1
    rw [va_up_self] at this
    exact absurd this (by decide)
  · have e3 : (u_cs S c 4).cs d = S.cs d := va_up_ne _ _ e
    rw [appr_ext (S := S) (T := u_cs S c 4) (c := d) h.1 hd (fun j _ => ⟨rfl, rfl, rfl⟩) rfl rfl rfl e3 rfl]
    rw [e3] at h1
    exact h.2.2 d hd h1
theorem Good.refu {S : St} (h : Good S) {c : Nat} (hI : Inv (u_cs S c 4)) : Good (u_cs S c 4) := ⟨hI, h.2.1, stab_refu h⟩
theorem z0 (n : Int) (h : 0 ≤ n) : 0 ≤ (0 : Int32).toInt ∧ (0 : Int32).toInt ≤ n := ⟨by decide, h⟩
theorem good_0 : Good S0 := by
  refine ⟨⟨⟨by decide, by decide, by decide, by decide, by decide⟩, fun i h => absurd h (Nat.not_lt_zero i), fun i h => absurd h (Nat.not_lt_zero i), fun i h => absurd h (Nat.not_lt_zero i), fun i h => absurd h (Nat.not_lt_zero i), ⟨fun _ => z0 9999 (by decide), fun _ => z0 99999 (by decide), fun _ => z0 100 (by decide), fun _ => z0 30 (by decide)⟩⟩, fun j _ => rfl, fun c hc => absurd hc (Nat.not_lt_zero c)⟩

