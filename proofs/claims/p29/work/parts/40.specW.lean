/-! what the class's writers leave, in the order of their stores -/
def gainS (S : St) (p : Nat) : St := if (u_po S p (S.po p + 1)).po p < 3 then u_po S p (S.po p + 1) else u_tr (u_po (u_po S p (S.po p + 1)) p 0) p (minI (S.tr p + 1) 10)
def loseS (S : St) (p : Nat) : St := u_tr S p (maxI (S.tr p - 1) 0)
def partR (S : St) (c r : Nat) : St := u_cr (u_ro (u_sp S c (S.sp c ||| ((1 : Int32) <<< (nI r &&& 31)))) r none) c none
def partS (S : St) (c : Nat) : St := match S.cr c with
  | none => u_ce (u_cs S c 0) c 0
  | some r => u_ce (u_cs (partR S c r) c 0) c 0
def matS (S : St) (c r : Nat) : St := u_ro (u_cr (u_cs S c 1) c (some r)) r (some c)
def matchS (S : St) (c r : Nat) : St := if 7 < nI S.td - nI (S.cd c) then matS S c r else gainS (matS S c r) (S.cp c)
def ageA (S : St) (c : Nat) : Int32 := nI S.td - nI (S.cd c)
def growS (S : St) (c : Nat) : St := if S.cs c = 0 then (if ageA S c = 8 then loseS (u_cm S c 1) (S.cp c) else if 15 ≤ ageA S c then loseS (u_cs S c 3) (S.cp c) else S) else S
def growR (S : St) (c : Nat) : Int32 := if S.cs c = 0 then (if ageA S c = 8 then 1 else if 15 ≤ ageA S c then 1 else 0) else 0
def bearS (S : St) (c : Nat) : St := if ageA S c < 15 then loseS (u_cm S c 1) (S.cp c) else loseS (u_cs S c 3) (S.cp c)
theorem grow_0 {S : St} {c : Nat} (h : growR S c = 0) : growS S c = S := by
  unfold growR at h; unfold growS
  by_cases h0 : S.cs c = 0
  · rw [if_pos h0] at h ⊢
    by_cases h8 : ageA S c = 8
    · rw [if_pos h8] at h; exact absurd h (by decide)
    · rw [if_neg h8] at h ⊢
      by_cases h15 : 15 ≤ ageA S c
      · rw [if_pos h15] at h; exact absurd h (by decide)
      · rw [if_neg h15]
  · rw [if_neg h0]
theorem grow_1 {S : St} {c : Nat} (h : ¬ growR S c = 0) : growS S c = bearS S c := by
  unfold growR at h; unfold growS bearS
  by_cases h0 : S.cs c = 0
  · rw [if_pos h0] at h ⊢
    by_cases h8 : ageA S c = 8
    · rw [if_pos h8, if_pos (by rw [h8]; decide)]
    · rw [if_neg h8] at h ⊢
      by_cases h15 : 15 ≤ ageA S c
      · rw [if_pos h15, if_neg (fun hh => Int32.not_lt.mpr h15 hh)]
      · rw [if_neg h15] at h; exact absurd rfl h
  · rw [if_neg h0] at h; exact absurd rfl h
def pwS (S : St) (c : Nat) : Nat → St
  | 0 => S
  | n + 1 => if needB S c ≤ S.ce c then S else if apprA S c = none then pwS (u_ce S c (S.ce c + 1)) c n else S
def passOneS (S : St) (c : Nat) : St := if needB S c ≤ (pwS S c 3).ce c then u_cs (pwS S c 3) c 2 else pwS S c 3
def passF (S : St) : Nat → St
  | 0 => S
  | n + 1 => if (passF S n).cs n = 1 then passOneS (passF S n) n else passF S n
def passS (S : St) : St := passF S S.nc
/-- the best pair -/
def bP (S : St) : Nat → Option (Nat × Nat) × Int32
  | 0 => (none, -1)
  | n + 1 => match bRA S n with
    | none => bP S n
    | some r => if scA S n (S.ra r) (S.rd r) (S.rx r) ≤ (bP S n).2 then bP S n else (some (n, r), scA S n (S.ra r) (S.rd r) (S.rx r))
def mbS (S : St) : St := match (bP S S.nc).1 with
  | none => S
  | some q => matchS S q.1 q.2
def mbR (S : St) : Int32 := match (bP S S.nc).1 with
  | none => 0
  | some _ => 1
def mpF (S : St) : Nat → St × Int32
  | 0 => (S, 1)
  | n + 1 => if (mpF S n).2 = 0 then mpF S n else (mbS (mpF S n).1, mbR (mpF S n).1)
def mpS (S : St) : St := (mpF S 30).1
theorem va_up_id {α : Type} (f : Nat → α) (k : Nat) : va_up f k (f k) = f := by
  funext j
  by_cases h : j = k
  · subst h; exact va_up_self _ _ _
  · exact va_up_ne _ _ h
theorem va_up_up {α : Type} (f : Nat → α) (k : Nat) (a b : α) : va_up (va_up f k a) k b = va_up f k b := by
  funext j
  by_cases h : j = k
  · subst h; rw [va_up_self, va_up_self]
  · rw [va_up_ne _ _ h, va_up_ne _ _ h, va_up_ne _ _ h]
theorem s_ce_id (S : St) : S.s_ce S.ce = S := by
  refine Prod.ext (funext fun k => funext fun i => ?_) rfl
  show cond (Nat.beq k 22) ((S.1 22 i).1, (S.1 k i).2) (S.1 k i) = S.1 k i
  cases h : Nat.beq k 22 with
  | false => rfl
  | true => rw [Nat.eq_of_beq_eq_true h]; rfl
theorem s_ce_ce (S : St) (a b : Nat → Nat) : (S.s_ce a).s_ce b = S.s_ce b := by
  refine Prod.ext (funext fun k => funext fun i => ?_) rfl
  show cond (Nat.beq k 22) (b i, (cond (Nat.beq k 22) (a i, (S.1 k i).2) (S.1 k i)).2) (cond (Nat.beq k 22) (a i, (S.1 k i).2) (S.1 k i)) = cond (Nat.beq k 22) (b i, (S.1 k i).2) (S.1 k i)
  cases Nat.beq k 22 <;> rfl
theorem u_ce_id (S : St) (c : Nat) : u_ce S c (S.ce c) = S := by
  show S.s_ce (va_up S.ce c (S.ce c)) = S
  rw [va_up_id]; exact s_ce_id S
theorem u_ce_ce (S : St) (c a b : Nat) : u_ce (u_ce S c a) c b = u_ce S c b := by
  show (S.s_ce (va_up S.ce c a)).s_ce (va_up (va_up S.ce c a) c b) = S.s_ce (va_up S.ce c b)
  rw [va_up_up, s_ce_ce]
theorem cntB_ce (S : St) (c v : Nat) : ∀ (n : Nat) (o : Option Nat), cntB (u_ce S c v) n o = cntB S n o := by
  intro n
  induction n with
  | zero => intro o; rfl
  | succ n ih =>
    intro o
    cases o with
    | none => rfl
    | some j => exact congrArg (· + 1) (ih (S.bo j))
theorem needB_ce (S : St) (c v d : Nat) : needB (u_ce S c v) d = needB S d := cntB_ce S c v _ _
/-- steps passed change the steps alone -/
theorem pwS_ce (S : St) (c : Nat) : ∀ (n : Nat) (S1 : St), (∃ k, S1 = u_ce S c k ∧ (k = S.ce c ∨ k ≤ needB S c)) → ∃ k, pwS S1 c n = u_ce S c k ∧ (k = S.ce c ∨ k ≤ needB S c) := by
  intro n
  induction n with
  | zero => intro S1 h; exact h
  | succ n ih =>
    intro S1 ⟨k, e, hk⟩
    show ∃ k, (if needB S1 c ≤ S1.ce c then S1 else if apprA S1 c = none then pwS (u_ce S1 c (S1.ce c + 1)) c n else S1) = u_ce S c k ∧ (k = S.ce c ∨ k ≤ needB S c)
    by_cases h : needB S1 c ≤ S1.ce c
    · rw [if_pos h]; exact ⟨k, e, hk⟩
    · rw [if_neg h]
      by_cases h2 : apprA S1 c = none
      · rw [if_pos h2]
        refine ih _ ⟨S1.ce c + 1, by rw [e, u_ce_ce], Or.inr ?_⟩
        rw [e, needB_ce] at h
        rw [e]
        omega
      · rw [if_neg h2]; exact ⟨k, e, hk⟩
theorem passOneS_f (S : St) (c : Nat) : ∃ k, (k = S.ce c ∨ k ≤ needB S c) ∧ (passOneS S c = u_ce S c k ∨ passOneS S c = u_cs (u_ce S c k) c 2) := by
  obtain ⟨k, e, hk⟩ := pwS_ce S c 3 S ⟨S.ce c, (u_ce_id S c).symm, Or.inl rfl⟩
  refine ⟨k, hk, ?_⟩
  unfold passOneS
  split
  · exact Or.inr (by rw [e])
  · exact Or.inl (by rw [e])
theorem mpF_stop {S : St} {k : Nat} (h : (mpF S k).2 = 0) : ∀ n, k ≤ n → mpF S n = mpF S k := by
  intro n hn
  induction hn with
  | refl => rfl
  | step _ ih =>
    show (if (mpF S _).2 = 0 then mpF S _ else _) = _
    rw [ih, if_pos h]
theorem bP_ok {S : St} : ∀ {n : Nat} {q : Nat × Nat}, (bP S n).1 = some q → q.1 < n ∧ q.2 < S.nr ∧ bRA S q.1 = some q.2 := by
  intro n
  induction n with
  | zero => intro q h; cases h
  | succ n ih =>
    intro q h
    have e : bP S (n + 1) = (match bRA S n with
      | none => bP S n
      | some r => if scA S n (S.ra r) (S.rd r) (S.rx r) ≤ (bP S n).2 then bP S n else (some (n, r), scA S n (S.ra r) (S.rd r) (S.rx r))) := rfl
    rw [e] at h
    cases hb : bRA S n with
    | none => rw [hb] at h; have := ih h; exact ⟨Nat.lt_succ_of_lt this.1, this.2⟩
    | some r =>
      rw [hb] at h
      simp only at h
      split at h
      · have := ih h; exact ⟨Nat.lt_succ_of_lt this.1, this.2⟩
      · cases h; exact ⟨Nat.lt_succ_self n, bR_lt hb, hb⟩
/-- what a receipt of the best score is -/
theorem bR_ok {S : St} {c : Nat} : ∀ {n j : Nat}, (bR S c n).1 = some j → ¬ goA S c (nI j) (S.ra j) (S.rd j) (S.rx j) (S.ro j) = 0 := by
  intro n
  induction n with
  | zero => intro j h; cases h
  | succ n ih =>
    intro j h
    by_cases h1 : goA S c (nI n) (S.ra n) (S.rd n) (S.rx n) (S.ro n) = 0
    · rw [bR_a h1] at h; exact ih h
    · by_cases h2 : scA S c (S.ra n) (S.rd n) (S.rx n) ≤ (bR S c n).2
      · rw [bR_b h1 h2] at h; exact ih h
      · rw [bR_c h1 h2] at h; cases h; exact h1
theorem goA_open {S : St} {c : Nat} {n am dy tx : Int32} {ro : Option Nat} (h : ¬ goA S c n am dy tx ro = 0) : S.cs c = 0 ∧ ro = none ∧ splA S c n = 0 ∧ ¬ scA S c am dy tx = -1 := by
  unfold goA at h
  by_cases h1 : S.cs c = 0
  · by_cases h2 : ro = none
    · by_cases h3 : splA S c n = 0
      · by_cases h4 : scA S c am dy tx = -1
        · rw [if_pos h1, if_pos h2, if_pos h3, if_pos h4] at h; exact absurd rfl h
        · exact ⟨h1, h2, h3, h4⟩
      · rw [if_pos h1, if_pos h2, if_neg h3] at h; exact absurd rfl h
    · rw [if_pos h1, if_neg h2] at h; exact absurd rfl h
  · rw [if_neg h1] at h; exact absurd rfl h
/-! the state's bounds behind a store -/
theorem Inv.upC {S S' : St} (h : Inv S) (c : Nat) (h0 : S'.np = S.np ∧ S'.nt = S.nt ∧ S'.nc = S.nc ∧ S'.nr = S.nr ∧ S'.td = S.td) (hP : ∀ i, InvP S i → InvP S' i) (hT : ∀ i, InvT S i → InvT S' i) (hB : InvB S → InvB S') (hR : ∀ i, i < S.nr → InvR S i → InvR S' i) (hC : ∀ i, ¬ i = c → i < S.nc → InvC S i → InvC S' i) (hc : c < S.nc → InvC S c → InvC S' c) : Inv S' := by
  obtain ⟨e1, e2, e3, e4, e5⟩ := h0
  obtain ⟨⟨a1, a2, a3, a4, a5⟩, b, t, cc, r, bb⟩ := h
  refine ⟨⟨by omega, by omega, by omega, by omega, by omega⟩, fun i hi => hP i (b i (by omega)), fun i hi => hT i (t i (by omega)), fun i hi => ?_, fun i hi => hR i (by omega) (r i (by omega)), hB bb⟩
  by_cases e : i = c
  · subst e; exact hc (by omega) (cc i (by omega))
  · exact hC i e (by omega) (cc i (by omega))
theorem Inv.uce {S : St} (h : Inv S) {c n : Nat} (hn : n ≤ 3) (hs : S.cs c = 0 → n = 0) : Inv (u_ce S c n) := by
  refine h.upC c ⟨rfl, rfl, rfl, rfl, rfl⟩ (fun _ q => q) (fun _ q => q) (fun q => q) (fun _ _ q => q) (fun i e _ q => ?_) (fun _ q => ?_)
  · unfold InvC; rw [show (u_ce S c n).ce i = S.ce i from va_up_ne _ _ e]; exact q
  · unfold InvC; rw [show (u_ce S c n).ce c = n from va_up_self _ _ _]
    obtain ⟨a1, a2, a3, a4, a5, a6, a7, a8, a9, a10, a11, a12, a13⟩ := q
    exact ⟨a1, a2, a3, a4, a5, a6, a7, hn, a9, a10, fun z => ⟨hs z, (a11 z).2⟩, a12, a13⟩
theorem Inv.ucs {S : St} (h : Inv S) {c : Nat} {v : Int32} (hv : v = 1 ∨ v = 2 ∨ v = 3 ∨ v = 4) (hs : v = 1 ∨ v = 4 → S.cr c ≠ none) : Inv (u_cs S c v) := by
  refine h.upC c ⟨rfl, rfl, rfl, rfl, rfl⟩ (fun _ q => q) (fun _ q => q) (fun q => q) (fun _ _ q => q) (fun i e _ q => ?_) (fun _ q => ?_)
  · unfold InvC; rw [show (u_cs S c v).cs i = S.cs i from va_up_ne _ _ e]; exact q
  · unfold InvC; rw [show (u_cs S c v).cs c = v from va_up_self _ _ _]
    obtain ⟨a1, a2, a3, a4, a5, a6, a7, a8, a9, a10, a11, a12, a13⟩ := q
    exact ⟨a1, a2, a3, a4, a5, a6, a7, a8, a9, Or.inr hv, fun z => by rcases hv with rfl | rfl | rfl | rfl <;> exact absurd z (by decide), hs, a13⟩
theorem Inv.ucm {S : St} (h : Inv S) {c : Nat} {v : Int32} (hv : v = 0 ∨ v = 1) : Inv (u_cm S c v) := by
  refine h.upC c ⟨rfl, rfl, rfl, rfl, rfl⟩ (fun _ q => q) (fun _ q => q) (fun q => q) (fun _ _ q => q) (fun i e _ q => ?_) (fun _ q => ?_)
  · unfold InvC; rw [show (u_cm S c v).cm i = S.cm i from va_up_ne _ _ e]; exact q
  · unfold InvC; rw [show (u_cm S c v).cm c = v from va_up_self _ _ _]
    obtain ⟨a1, a2, a3, a4, a5, a6, a7, a8, a9, a10, a11, a12, a13⟩ := q
    exact ⟨a1, a2, a3, a4, a5, a6, a7, a8, hv, a10, a11, a12, a13⟩
theorem Inv.passOne {S : St} (h : Inv S) {c : Nat} (hs : S.cs c = 1) (hc : c < S.nc) : Inv (passOneS S c) := by
  obtain ⟨k, hk, e⟩ := passOneS_f S c
  have h3 : k ≤ 3 := by
    rcases hk with hk | hk
    · rw [hk]; exact h.ce hc
    · exact Nat.le_trans hk (needB_le S c)
  have h1 : Inv (u_ce S c k) := h.uce h3 (fun z => by rw [hs] at z; exact absurd z (by decide))
  rcases e with e | e
  · rw [e]; exact h1
  · rw [e]; exact h1.ucs (Or.inr (Or.inl rfl)) (fun z => by rcases z with z | z <;> exact absurd z (by decide))
theorem passOne_nc (S : St) (c : Nat) : (passOneS S c).nc = S.nc := by
  obtain ⟨k, -, e | e⟩ := passOneS_f S c <;> rw [e] <;> rfl
theorem passF_nc (S : St) : ∀ n, (passF S n).nc = S.nc := by
  intro n
  induction n with
  | zero => rfl
  | succ n ih =>
    show (if (passF S n).cs n = 1 then passOneS (passF S n) n else passF S n).nc = _
    split
    · rw [passOne_nc, ih]
    · exact ih
theorem Inv.pF {S : St} (h : Inv S) : ∀ n, n ≤ S.nc → Inv (passF S n) := by
  intro n
  induction n with
  | zero => intro _; exact h
  | succ n ih =>
    intro hn
    show Inv (if (passF S n).cs n = 1 then passOneS (passF S n) n else passF S n)
    by_cases e : (passF S n).cs n = 1
    · rw [if_pos e]; exact (ih (by omega)).passOne e (by rw [passF_nc]; omega)
    · rw [if_neg e]; exact ih (by omega)
theorem Inv.pS {S : St} (h : Inv S) : Inv (passS S) := h.pF _ (Nat.le_refl _)
theorem i_bnd {x : Int32} {a b : Int} : a ≤ x.toInt ∧ x.toInt ≤ b ↔ a ≤ x.toInt ∧ x.toInt ≤ b := Iff.rfl
theorem minI_10 {x : Int32} (h : 0 ≤ x.toInt ∧ x.toInt ≤ 10) : 0 ≤ (minI (x + 1) 10).toInt ∧ (minI (x + 1) 10).toInt ≤ 10 := by
  have e : (x + 1).toInt = x.toInt + 1 := by rw [Int32.toInt_add]; exact Int.bmod_eq_of_le (by simp; omega) (by simp; omega)
  unfold minI
  split
  · decide
  · rename_i h2
    rw [Int32.lt_iff_toInt_lt] at h2
    rw [e]
    have : (10 : Int32).toInt = 10 := rfl
    omega
theorem maxI_0 {x : Int32} (h : 0 ≤ x.toInt ∧ x.toInt ≤ 10) : 0 ≤ (maxI (x - 1) 0).toInt ∧ (maxI (x - 1) 0).toInt ≤ 10 := by
  have e : (x - 1).toInt = x.toInt - 1 := by rw [Int32.toInt_sub]; exact Int.bmod_eq_of_le (by simp; omega) (by simp; omega)
  unfold maxI
  split
  · decide
  · rename_i h2
    rw [Int32.lt_iff_toInt_lt] at h2
    rw [e]
    rw [e] at h2
    have : (0 : Int32).toInt = 0 := rfl
    omega
theorem Inv.upP {S S' : St} (h : Inv S) (p : Nat) (h0 : S'.np = S.np ∧ S'.nt = S.nt ∧ S'.nc = S.nc ∧ S'.nr = S.nr ∧ S'.td = S.td) (hC : ∀ i, InvC S i → InvC S' i) (hT : ∀ i, InvT S i → InvT S' i) (hB : InvB S → InvB S') (hR : ∀ i, InvR S i → InvR S' i) (hP : ∀ i, ¬ i = p → i < S.np → InvP S i → InvP S' i) (hp : p < S.np → InvP S p → InvP S' p) : Inv S' := by
  obtain ⟨e1, e2, e3, e4, e5⟩ := h0
  obtain ⟨⟨a1, a2, a3, a4, a5⟩, b, t, cc, r, bb⟩ := h
  refine ⟨⟨by omega, by omega, by omega, by omega, by omega⟩, fun i hi => ?_, fun i hi => hT i (t i (by omega)), fun i hi => hC i (cc i (by omega)), fun i hi => hR i (r i (by omega)), hB bb⟩
  by_cases e : i = p
  · subst e; exact hp (by omega) (b i (by omega))
  · exact hP i e (by omega) (b i (by omega))
theorem Inv.utr {S : St} (h : Inv S) {p : Nat} {v : Int32} (hv : p < S.np → 0 ≤ v.toInt ∧ v.toInt ≤ 10) : Inv (u_tr S p v) := by
  refine h.upP p ⟨rfl, rfl, rfl, rfl, rfl⟩ (fun _ q => q) (fun _ q => q) (fun q => q) (fun _ q => q) (fun i e _ q => ?_) (fun hp q => ?_)
  · unfold InvP; rw [show (u_tr S p v).tr i = S.tr i from va_up_ne _ _ e]; exact q
  · unfold InvP; rw [show (u_tr S p v).tr p = v from va_up_self _ _ _]
    obtain ⟨a1, a2, a3, a4, a5, a6⟩ := q
    exact ⟨a1, a2, hv hp, a4, a5, a6⟩
theorem Inv.upo {S : St} (h : Inv S) {p : Nat} {v : Int32} (hv : p < S.np → 0 ≤ v.toInt ∧ v.toInt ≤ 2) : Inv (u_po S p v) := by
  refine h.upP p ⟨rfl, rfl, rfl, rfl, rfl⟩ (fun _ q => q) (fun _ q => q) (fun q => q) (fun _ q => q) (fun i e _ q => ?_) (fun hp q => ?_)
  · unfold InvP; rw [show (u_po S p v).po i = S.po i from va_up_ne _ _ e]; exact q
  · unfold InvP; rw [show (u_po S p v).po p = v from va_up_self _ _ _]
    obtain ⟨a1, a2, a3, a4, a5, a6⟩ := q
    exact ⟨a1, a2, a3, hv hp, a5, a6⟩
theorem Inv.tr {S : St} (h : Inv S) {p : Nat} (hp : p < S.np) : 0 ≤ (S.tr p).toInt ∧ (S.tr p).toInt ≤ 10 := (h.2.1 p hp).2.2.1
theorem Inv.po {S : St} (h : Inv S) {p : Nat} (hp : p < S.np) : 0 ≤ (S.po p).toInt ∧ (S.po p).toInt ≤ 2 := (h.2.1 p hp).2.2.2.1
theorem Inv.lose {S : St} (h : Inv S) {p : Nat} : Inv (loseS S p) := h.utr (fun hp => maxI_0 (h.tr hp))
theorem s_po_po (S : St) (a b : Nat → Int32) : (S.s_po a).s_po b = S.s_po b := by
  refine Prod.ext (funext fun k => funext fun i => ?_) rfl
  show cond (Nat.beq k 3) ((cond (Nat.beq k 3) ((S.1 k i).1, a i, (S.1 k i).2.2) (S.1 k i)).1, b i, (cond (Nat.beq k 3) ((S.1 k i).1, a i, (S.1 k i).2.2) (S.1 k i)).2.2) (cond (Nat.beq k 3) ((S.1 k i).1, a i, (S.1 k i).2.2) (S.1 k i)) = cond (Nat.beq k 3) ((S.1 k i).1, b i, (S.1 k i).2.2) (S.1 k i)
  cases Nat.beq k 3 <;> rfl
theorem u_po_po (S : St) (c : Nat) (a b : Int32) : u_po (u_po S c a) c b = u_po S c b := by
  show (S.s_po (va_up S.po c a)).s_po (va_up (va_up S.po c a) c b) = S.s_po (va_up S.po c b)
  rw [va_up_up, s_po_po]
theorem Inv.gain {S : St} (h : Inv S) {p : Nat} : Inv (gainS S p) := by
  unfold gainS
  rw [show (u_po S p (S.po p + 1)).po p = S.po p + 1 from va_up_self _ _ _, u_po_po]
  split
  · rename_i h2
    refine h.upo (fun hp => ?_)
    have h3 := h.po hp
    have e : (S.po p + 1).toInt = (S.po p).toInt + 1 := by rw [Int32.toInt_add]; exact Int.bmod_eq_of_le (by simp; omega) (by simp; omega)
    rw [Int32.lt_iff_toInt_lt] at h2
    have : (3 : Int32).toInt = 3 := rfl
    omega
  · exact Inv.utr (h.upo (p := p) (v := 0) (fun _ => ⟨Int.le_refl _, by decide⟩)) (fun hp => minI_10 (h.tr hp))
theorem Inv.mat {S : St} (h : Inv S) {c r : Nat} (hc : c < S.nc) (hr : r < S.nr) : Inv (matS S c r) := by
  refine h.upC c ⟨rfl, rfl, rfl, rfl, rfl⟩ (fun _ q => q) (fun _ q => q) (fun q => q) (fun i hi q => ?_) (fun i e _ q => ?_) (fun _ q => ?_)
  · intro j hj
    by_cases e : i = r
    · subst e
      rw [show (matS S c i).ro i = some c from va_up_self _ _ _] at hj
      cases hj; exact hc
    · rw [show (matS S c r).ro i = S.ro i from va_up_ne _ _ e] at hj
      exact q j hj
  · unfold InvC; rw [show (matS S c r).cs i = S.cs i from va_up_ne _ _ e, show (matS S c r).cr i = S.cr i from va_up_ne _ _ e]; exact q
  · unfold InvC; rw [show (matS S c r).cs c = 1 from va_up_self _ _ _, show (matS S c r).cr c = some r from va_up_self _ _ _]
    obtain ⟨a1, a2, a3, a4, a5, a6, a7, a8, a9, a10, a11, a12, a13⟩ := q
    exact ⟨a1, a2, a3, a4, a5, a6, fun j hj => by cases hj; exact hr, a8, a9, Or.inr (Or.inl rfl), fun z => absurd z (by decide), fun _ => by simp, a13⟩
theorem Inv.match' {S : St} (h : Inv S) {c r : Nat} (hc : c < S.nc) (hr : r < S.nr) : Inv (matchS S c r) := by
  unfold matchS
  split
  · exact h.mat hc hr
  · exact (h.mat hc hr).gain
theorem Inv.mb {S : St} (h : Inv S) : Inv (mbS S) := by
  unfold mbS
  cases e : (bP S S.nc).1 with
  | none => exact h
  | some q => exact h.match' (bP_ok e).1 (bP_ok e).2.1
theorem Inv.mpf {S : St} (h : Inv S) : ∀ n, Inv (mpF S n).1 := by
  intro n
  induction n with
  | zero => exact h
  | succ n ih =>
    show Inv (if (mpF S n).2 = 0 then mpF S n else (mbS (mpF S n).1, mbR (mpF S n).1)).1
    split
    · exact ih
    · exact ih.mb
theorem Inv.mp {S : St} (h : Inv S) : Inv (mpS S) := h.mpf 30
theorem Inv.grow {S : St} (h : Inv S) {c : Nat} : Inv (growS S c) := by
  unfold growS
  split
  · split
    · exact (h.ucm (Or.inr rfl)).lose
    · split
      · exact (h.ucs (Or.inr (Or.inr (Or.inl rfl))) (fun z => by rcases z with z | z <;> exact absurd z (by decide))).lose
      · exact h
  · exact h
theorem Inv.bear {S : St} (h : Inv S) {c : Nat} : Inv (bearS S c) := by
  unfold bearS
  split
  · exact (h.ucm (Or.inr rfl)).lose
  · exact (h.ucs (Or.inr (Or.inr (Or.inl rfl))) (fun z => by rcases z with z | z <;> exact absurd z (by decide))).lose
theorem bP_a {S : St} {n : Nat} (h : bRA S n = none) : bP S (n + 1) = bP S n := by
  show (match bRA S n with
    | none => bP S n
    | some r => if scA S n (S.ra r) (S.rd r) (S.rx r) ≤ (bP S n).2 then bP S n else (some (n, r), scA S n (S.ra r) (S.rd r) (S.rx r))) = _
  rw [h]
theorem bP_b {S : St} {n r : Nat} (h : bRA S n = some r) (h2 : scA S n (S.ra r) (S.rd r) (S.rx r) ≤ (bP S n).2) : bP S (n + 1) = bP S n := by
  show (match bRA S n with
    | none => bP S n
    | some r => if scA S n (S.ra r) (S.rd r) (S.rx r) ≤ (bP S n).2 then bP S n else (some (n, r), scA S n (S.ra r) (S.rd r) (S.rx r))) = _
  rw [h]; exact if_pos h2
theorem bP_c {S : St} {n r : Nat} (h : bRA S n = some r) (h2 : ¬ scA S n (S.ra r) (S.rd r) (S.rx r) ≤ (bP S n).2) : bP S (n + 1) = (some (n, r), scA S n (S.ra r) (S.rd r) (S.rx r)) := by
  show (match bRA S n with
    | none => bP S n
    | some r => if scA S n (S.ra r) (S.rd r) (S.rx r) ≤ (bP S n).2 then bP S n else (some (n, r), scA S n (S.ra r) (S.rd r) (S.rx r))) = _
  rw [h]; exact if_neg h2
theorem bP_f {S : St} {n j : Nat} (h : (bP S n).1.map Prod.fst = some j) : j < n := by
  cases e : (bP S n).1 with
  | none => rw [e] at h; cases h
  | some q => rw [e] at h; cases h; exact (bP_ok e).1
theorem bP_r {S : St} {n j : Nat} (h : (bP S n).1.map Prod.snd = some j) : j < S.nr := by
  cases e : (bP S n).1 with
  | none => rw [e] at h; cases h
  | some q => rw [e] at h; cases h; exact (bP_ok e).2.1
theorem bP_s {S : St} {n i j : Nat} (h : (bP S n).1.map Prod.fst = some i) (h2 : (bP S n).1.map Prod.snd = some j) : (bP S n).1 = some (i, j) := by
  cases e : (bP S n).1 with
  | none => rw [e] at h; cases h
  | some q => rw [e] at h h2; cases h; cases h2; rfl
theorem bP_n {S : St} {n : Nat} (h : (bP S n).1.map Prod.fst = none) : (bP S n).1 = none := by
  cases e : (bP S n).1 with
  | none => rfl
  | some q => rw [e] at h; cases h
theorem bP_e {S : St} {n i : Nat} (h : (bP S n).1.map Prod.fst = some i) : ∃ j, (bP S n).1.map Prod.snd = some j := by
  cases e : (bP S n).1 with
  | none => rw [e] at h; cases h
  | some q => exact ⟨q.2, rfl⟩
theorem mpF_b {S : St} {n : Nat} (h : ¬ (mpF S n).2 = 0) : mpF S (n + 1) = (mbS (mpF S n).1, mbR (mpF S n).1) := if_neg h
theorem sp_bit {x : Int32} {r j : Nat} (hr : r < 30) (hj : j < 31) (hrj : ¬ j = r) (h : x &&& ((1 : Int32) <<< (nI j &&& 31)) = 0) : (x ||| ((1 : Int32) <<< (nI r &&& 31))) &&& ((1 : Int32) <<< (nI j &&& 31)) = 0 := by
  have k : ∀ r, r < 30 → ∀ j, j < 31 → ¬ j = r → ((1 : Int32) <<< (nI r &&& 31)) &&& ((1 : Int32) <<< (nI j &&& 31)) = 0 := by decide +kernel
  have e : (x ||| ((1 : Int32) <<< (nI r &&& 31))) &&& ((1 : Int32) <<< (nI j &&& 31)) = (x &&& ((1 : Int32) <<< (nI j &&& 31))) ||| (((1 : Int32) <<< (nI r &&& 31)) &&& ((1 : Int32) <<< (nI j &&& 31))) := by
    generalize (1 : Int32) <<< (nI r &&& 31) = a
    generalize (1 : Int32) <<< (nI j &&& 31) = b
    apply Int32.toBitVec_inj.mp
    simp only [Int32.toBitVec_and, Int32.toBitVec_or]
    ext i
    simp
    cases x.toBitVec[i] <;> cases a.toBitVec[i] <;> cases b.toBitVec[i] <;> rfl
  rw [e, h, k r hr j hj hrj]; rfl
theorem Inv.part {S : St} (h : Inv S) {c : Nat} (hc : c < S.nc) : Inv (partS S c) := by
  unfold partS
  cases e : S.cr c with
  | none =>
    simp only
    refine h.upC c ⟨rfl, rfl, rfl, rfl, rfl⟩ (fun _ q => q) (fun _ q => q) (fun q => q) (fun _ _ q => q) (fun i e _ q => ?_) (fun _ q => ?_)
    · unfold InvC; rw [show (u_ce (u_cs S c 0) c 0).cs i = S.cs i from va_up_ne _ _ e, show (u_ce (u_cs S c 0) c 0).ce i = S.ce i from va_up_ne _ _ e]; exact q
    · unfold InvC; rw [show (u_ce (u_cs S c 0) c 0).cs c = 0 from va_up_self _ _ _, show (u_ce (u_cs S c 0) c 0).ce c = 0 from va_up_self _ _ _]
      obtain ⟨a1, a2, a3, a4, a5, a6, a7, a8, a9, a10, a11, a12, a13⟩ := q
      exact ⟨a1, a2, a3, a4, a5, a6, a7, Nat.zero_le _, a9, Or.inl rfl, fun _ => ⟨rfl, e⟩, fun z => by rcases z with z | z <;> exact absurd z (by decide), a13⟩
  | some r =>
    simp only
    have hr := h.cr hc e
    refine h.upC c ⟨rfl, rfl, rfl, rfl, rfl⟩ (fun _ q => q) (fun _ q => q) (fun q => q) (fun i hi q => ?_) (fun i e _ q => ?_) (fun _ q => ?_)
    · intro j hj
      by_cases e2 : i = r
      · subst e2
        rw [show (u_ce (u_cs (partR S c i) c 0) c 0).ro i = none from va_up_self _ _ _] at hj
        cases hj
      · rw [show (u_ce (u_cs (partR S c r) c 0) c 0).ro i = S.ro i from va_up_ne _ _ e2] at hj
        exact q j hj
    · unfold InvC; rw [show (u_ce (u_cs (partR S c r) c 0) c 0).cs i = S.cs i from va_up_ne _ _ e, show (u_ce (u_cs (partR S c r) c 0) c 0).ce i = S.ce i from va_up_ne _ _ e, show (u_ce (u_cs (partR S c r) c 0) c 0).cr i = S.cr i from va_up_ne _ _ e, show (u_ce (u_cs (partR S c r) c 0) c 0).sp i = S.sp i from va_up_ne _ _ e]; exact q
    · unfold InvC; rw [show (u_ce (u_cs (partR S c r) c 0) c 0).cs c = 0 from va_up_self _ _ _, show (u_ce (u_cs (partR S c r) c 0) c 0).ce c = 0 from va_up_self _ _ _, show (u_ce (u_cs (partR S c r) c 0) c 0).cr c = none from va_up_self _ _ _, show (u_ce (u_cs (partR S c r) c 0) c 0).sp c = S.sp c ||| ((1 : Int32) <<< (nI r &&& 31)) from va_up_self _ _ _]
      obtain ⟨a1, a2, a3, a4, a5, a6, a7, a8, a9, a10, a11, a12, a13⟩ := q
      refine ⟨a1, a2, a3, a4, a5, a6, fun j hj => (by cases hj), Nat.zero_le _, a9, Or.inl rfl, fun _ => ⟨rfl, rfl⟩, fun z => by rcases z with z | z <;> exact absurd z (by decide), fun j h1 h2 => ?_⟩
      have h1' : S.nr ≤ j := h1
      exact sp_bit (Nat.lt_of_lt_of_le hr h.nr) h2 (by omega) (a13 j h1 h2)

