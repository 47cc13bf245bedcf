/-! what the law asks of a desk between its calls -/
theorem irI_lt {o : Option Nat} (h : ∀ j, o = some j → j < 2 ^ 31) : irI o < 0 ↔ o = none := by
  cases o with
  | none => exact ⟨fun _ => rfl, fun _ => by show (-1 : Int32) < 0; decide⟩
  | some j => exact ⟨fun k => absurd k (nI_pos (h j rfl)), fun k => by cases k⟩
theorem irI_ge {o : Option Nat} (h : ∀ j, o = some j → j < 2 ^ 31) (k : ¬ irI o < 0) : ∃ j, o = some j := by
  cases o with
  | none => exact absurd (show (-1 : Int32) < 0 by decide) k
  | some j => exact ⟨j, rfl⟩
theorem Inv.crb {S : St} (h : Inv S) {c : Nat} (hc : c < S.nc) : ∀ j, S.cr c = some j → j < 2 ^ 31 := fun j e => Nat.lt_of_lt_of_le (h.cr hc e) (Nat.le_trans h.nr (by decide))
theorem Inv.rob {S : St} (h : Inv S) {r : Nat} (hr : r < S.nr) : ∀ j, S.ro r = some j → j < 2 ^ 31 := fun j e => Nat.lt_of_lt_of_le (h.ro hr e) (Nat.le_trans h.nc (by decide))
theorem Inv.apb {S : St} (h : Inv S) {c : Nat} (hc : c < S.nc) : ∀ j, apprA S c = some j → j < 2 ^ 31 := fun j e => Nat.lt_of_lt_of_le (apprA_lt h hc e) (Nat.le_trans h.np (by decide))
/-- who approves is none of those who have spent, and is there today -/
theorem itB_lo {S : St} (h : Inv S) {n : Nat} (hn : n ≤ S.np) : ∀ (k : Nat) (o : Option Nat), (∀ j, o = some j → j < n) → ∀ j, itB S k o = some j → j < n := by
  intro k
  induction k with
  | zero => intro o ho j e; exact ho j e
  | succ k ih =>
    intro o ho j e
    have e : (itB S k o).bind S.bo = some j := e
    cases hb : itB S k o with
    | none => rw [hb] at e; cases e
    | some i =>
      rw [hb] at e
      have h1 := ih o ho i hb
      exact Nat.lt_trans (h.bol (Nat.lt_of_lt_of_le h1 hn) e) h1
theorem bossN_lo {S : St} (h : Inv S) {c : Nat} (hc : c < S.nc) {j : Nat} (e : bossN S c = some j) : j < S.cp c := by
  unfold bossN at e
  refine itB_lo h (Nat.le_of_lt (h.cp hc)) _ _ (fun i hi => ?_) j e
  split at hi
  · cases hi
  · exact h.bol (h.cp hc) hi
theorem appr_way {S : St} {c j : Nat} (e : apprA S c = some j) : awayA S j (nI S.td) = 0 := by
  unfold apprA apprO at e
  split at e
  · cases e
  · rename_i b _
    by_cases h1 : awayA S b (nI S.td) = 0
    · rw [if_pos h1] at e
      rw [← Option.some.inj e]; exact h1
    · rw [if_neg h1] at e
      split at e
      · cases e
      · rename_i t _
        by_cases h2 : t = S.cp c
        · rw [if_pos h2] at e; cases e
        · rw [if_neg h2] at e
          by_cases h3 : awayA S t (nI S.td) = 0
          · rw [if_pos h3] at e
            rw [← Option.some.inj e]; exact h3
          · rw [if_neg h3] at e; cases e
theorem appr_own {S : St} (h : Inv S) {c j : Nat} (hc : c < S.nc) (e : apprA S c = some j) : ¬ j = S.cp c := by
  have h1 := (apprA_1 e).1
  unfold apprA at e
  rw [if_pos h1] at e
  cases hb : bossN S c with
  | none => rw [hb] at e; cases e
  | some b =>
    rw [hb] at e
    have hlo := bossN_lo h hc hb
    have e : (if awayA S b (nI S.td) = 0 then some b else match S.si b with | none => none | some t => if t = S.cp c then none else if awayA S t (nI S.td) = 0 then some t else none) = some j := e
    by_cases h2 : awayA S b (nI S.td) = 0
    · rw [if_pos h2] at e
      have := Option.some.inj e
      omega
    · rw [if_neg h2] at e
      cases hs : S.si b with
      | none => rw [hs] at e; cases e
      | some t =>
        rw [hs] at e
        have e : (if t = S.cp c then none else if awayA S t (nI S.td) = 0 then some t else none) = some j := e
        by_cases h3 : t = S.cp c
        · rw [if_pos h3] at e; cases e
        · rw [if_neg h3] at e
          by_cases h4 : awayA S t (nI S.td) = 0
          · rw [if_pos h4] at e
            rw [← Option.some.inj e]; exact h3
          · rw [if_neg h4] at e; cases e
theorem appr_own2 {S : St} (h : Inv S) {c : Nat} (hc : c < S.nc) : ¬ irI (apprA S c) = nI (S.cp c) := by
  have hp : S.cp c < 2 ^ 31 := Nat.lt_of_lt_of_le (h.cp hc) (Nat.le_trans h.np (by decide))
  cases e : apprA S c with
  | none =>
    intro k
    have k : (-1 : Int32) = nI (S.cp c) := k
    exact nI_neg1 hp k.symm
  | some j => exact fun k => appr_own h hc e ((nI_eq (h.apb hc j e) hp).mp k)
/-- sums of ones -/
theorem sm_add {f h : Nat → Int32} : ∀ n, sm (fun i => f i + h i) n = sm f n + sm h n := by
  intro n
  induction n with
  | zero => rfl
  | succ n ih =>
    show sm (fun i => f i + h i) n + (f n + h n) = sm f n + f n + (sm h n + h n)
    rw [ih, Int32.add_assoc, Int32.add_assoc, ← Int32.add_assoc (sm h n), Int32.add_comm (sm h n) (f n), Int32.add_assoc]
theorem sm_0 : ∀ n, sm (fun _ => 0) n = 0 := by
  intro n
  induction n with
  | zero => rfl
  | succ n ih => show sm (fun _ => 0) n + 0 = 0; rw [ih]; rfl
theorem sm_c1 : ∀ n, sm (fun _ => 1) n = nI n := by
  intro n
  induction n with
  | zero => rfl
  | succ n ih => show sm (fun _ => 1) n + 1 = nI (n + 1); rw [ih, nI_succ]
/-- a sum of sums, the other way round -/
theorem sm_swap (f : Nat → Nat → Int32) (m : Nat) : ∀ n, sm (fun p => sm (f p) m) n = sm (fun c => sm (fun p => f p c) n) m := by
  intro n
  induction n with
  | zero => exact (sm_0 m).symm
  | succ n ih =>
    show sm (fun p => sm (f p) m) n + sm (f n) m = sm (fun c => sm (fun p => f p c) n + f n c) m
    rw [ih, sm_add]
theorem sm_hit {o : Option Nat} : ∀ n, (∀ j, o = some j → j < n) → sm (fun p => if o = some p then 1 else 0) n = if o = none then 0 else 1 := by
  intro n
  cases o with
  | none =>
    intro _
    rw [if_pos rfl]
    rw [sm_ext (h := fun _ => 0) n (fun i _ => if_neg (fun e => by cases e))]
    exact sm_0 n
  | some j =>
    intro h
    rw [if_neg (fun e => by cases e)]
    have hj := h j rfl
    rw [sm_one (f := fun p => if some j = some p then 1 else 0) (h := fun _ => 0) (r := j) (d := 1) (by show (if some j = some j then (1 : Int32) else 0) = 0 + 1; rw [if_pos rfl]; rfl) n hj (fun i _ hne => if_neg (fun e => hne (Option.some.inj e).symm)), sm_0]
    rfl
/-- who waits for an approver -/
def waitQ (S : St) (c : Nat) : Int32 := if apprA S c = none then 0 else 1
theorem wait_sum {S : St} (h : Inv S) : sm (waitQ S) S.nc = sm (toApA S) S.np := by
  have e : toApA S = fun p => sm (toApQ S p) S.nc := rfl
  rw [e, sm_swap (fun p c => toApQ S p c) S.nc S.np]
  refine sm_ext _ (fun c hc => ?_)
  exact (sm_hit (o := apprA S c) S.np (fun j ej => apprA_lt h hc ej)).symm
theorem in_sum {S : St} (h : Inv S) : inA S 0 + inA S 1 + inA S 2 + inA S 3 + inA S 4 = nI S.nc := by
  unfold inA
  rw [← sm_add, ← sm_add, ← sm_add, ← sm_add, ← sm_c1]
  refine sm_ext _ (fun c hc => ?_)
  have e := h.cs hc
  show inQ S 0 c + inQ S 1 c + inQ S 2 c + inQ S 3 c + inQ S 4 c = 1
  unfold inQ
  rcases e with e | e | e | e | e <;> rw [e] <;> decide
/-- what was approved or repaid when last looked at -/
def FR (S : St) (f : Nat → Int32) : Prop := (∀ c, c < S.nc → f c = 2 ∨ f c = 3 → S.cs c = f c) ∧ ∀ c, S.nc ≤ c → f c = 0
def frN (S : St) (f : Nat → Int32) : Nat → Int32 := fun c => if c < S.nc then S.cs c else f c
theorem FR.now {S : St} {f : Nat → Int32} (h : FR S f) : FR S (frN S f) :=
  ⟨fun c hc _ => by unfold frN; rw [if_pos hc], fun c hc => by unfold frN; rw [if_neg (Nat.not_lt.mpr hc)]; exact h.2 c hc⟩
theorem fr_nc {x : Int32} (h1 : ¬ x ≤ 1) (h4 : ¬ 4 ≤ x) : x = 2 ∨ x = 3 := by
  rw [Int32.le_iff_toInt_le] at h1 h4
  have z1 : (1 : Int32).toInt = 1 := rfl
  have z4 : (4 : Int32).toInt = 4 := rfl
  have hx : x.toInt = 2 ∨ x.toInt = 3 := by omega
  rcases hx with e | e
  · left; exact Int32.toInt_inj.mp (e.trans (by rfl))
  · right; exact Int32.toInt_inj.mp (e.trans (by rfl))
/-- states that only move on -/
theorem FR.go {S T : St} {f : Nat → Int32} (h : FR (S := S) f) (h1 : ∀ c, c < S.nc → T.cs c = S.cs c ∨ S.cs c = 1 ∨ S.cs c = 0 ∨ S.cs c = 4) (h2 : S.nc ≤ T.nc) : FR T f := by
  refine ⟨fun c hc e => ?_, fun c hc => h.2 c (Nat.le_trans h2 hc)⟩
  by_cases q : c < S.nc
  · have k := h.1 c q e
    rcases h1 c q with z | z | z | z
    · rw [z]; exact k
    · rw [k] at z; rcases e with e | e <;> rw [e] at z <;> exact absurd z (by decide)
    · rw [k] at z; rcases e with e | e <;> rw [e] at z <;> exact absurd z (by decide)
    · rw [k] at z; rcases e with e | e <;> rw [e] at z <;> exact absurd z (by decide)
  · have k := h.2 c (Nat.not_lt.mp q)
    rw [k] at e
    rcases e with e | e <;> exact absurd e (by decide)
theorem pass_go {S : St} {c : Nat} : (passS S).cs c = S.cs c ∨ S.cs c = 1 := (passS_cs S c).imp id And.left
theorem fr_away {S : St} {f : Nat → Int32} (h : FR S f) {p o : Nat} {v : Int32} : FR (awayS S p v o) f :=
  h.go (fun c _ => by
    have k := pass_go (S := u_si (u_aw S p v) p (some o)) (c := c)
    exact k.imp id Or.inl) (Nat.le_of_eq (passS_nc (u_si (u_aw S p v) p (some o))).symm)
theorem fr_approve {S : St} {f : Nat → Int32} (h : FR S f) {c : Nat} : FR (approveS S c) f :=
  h.go (fun d _ => (pass_go (S := u_ce S c (S.ce c + 1)) (c := d)).imp id Or.inl) (Nat.le_of_eq (passS_nc (u_ce S c (S.ce c + 1))).symm)
theorem fr_refuse {S : St} {f : Nat → Int32} (h : FR S f) {c : Nat} (h1 : S.cs c = 1) : FR (refuseS S c) f :=
  h.go (fun d _ => by
    have k := pass_go (S := u_cs S c 4) (c := d)
    rw [up_cs] at k
    by_cases e : d = c
    · rw [e]; exact Or.inr (Or.inl h1)
    · rw [if_neg e] at k; exact k.imp id Or.inl) (Nat.le_of_eq (passS_nc (u_cs S c 4)).symm)
theorem refuse_4 {S : St} {c : Nat} : (refuseS S c).cs c = 4 := by
  rcases passS_cs (u_cs S c 4) c with k | ⟨k, -⟩
  · exact k.trans (by rw [up_cs, if_pos rfl])
  · rw [up_cs, if_pos rfl] at k; exact absurd k (by decide)
theorem fr_settle {S : St} {f : Nat → Int32} (h : FR S f) {c : Nat} {b : Int32} (h4 : S.cs c = 4) : FR (settleS S c b) f := by
  have hn : (settleS S c b).nc = S.nc := by unfold settleS; split <;> exact passS_nc _
  refine h.go (fun d _ => ?_) (Nat.le_of_eq hn.symm)
  by_cases e : d = c
  · rw [e]; exact Or.inr (Or.inr (Or.inr h4))
  · unfold settleS
    split
    · have k := pass_go (S := u_ce (u_cs S c 1) c 0) (c := d)
      rw [show (u_ce (u_cs S c 1) c 0).cs d = S.cs d from (up_cs (S := S) (c := c) (d := d) (v := 1)).trans (if_neg e)] at k
      exact k.imp id Or.inl
    · have k := pass_go (S := u_cs S c 3) (c := d)
      rw [up_cs, if_neg e] at k
      exact k.imp id Or.inl
theorem settle_n4 {S : St} {c : Nat} {b : Int32} : ¬ (settleS S c b).cs c = 4 := by
  unfold settleS
  split
  · rcases passS_cs (u_ce (u_cs S c 1) c 0) c with k | ⟨-, k⟩
    · rw [k, show (u_ce (u_cs S c 1) c 0).cs c = 1 from (up_cs (S := S) (c := c) (d := c) (v := 1)).trans (if_pos rfl)]; decide
    · rw [k]; decide
  · rcases passS_cs (u_cs S c 3) c with k | ⟨-, k⟩
    · rw [k, up_cs, if_pos rfl]; decide
    · rw [k]; decide
theorem fr_day {S : St} {f : Nat → Int32} (h : FR S f) : FR (dayS S) f :=
  h.go (fun d _ => by
    have k := pass_go (S := (dayF (S.s_td (S.td + 1)) S.nc).1) (c := d)
    have k2 := dayF_cs (S.s_td (S.td + 1)) S.nc d
    have e0 : (S.s_td (S.td + 1)).cs d = S.cs d := rfl
    rw [e0] at k2
    rcases k2 with q | ⟨q, -⟩
    · rw [q] at k
      exact k.imp id Or.inl
    · exact Or.inr (Or.inr (Or.inl q))) (Nat.le_of_eq (by
      have e1 : (dayS S).nc = (dayF (S.s_td (S.td + 1)) S.nc).1.nc := passS_nc _
      rw [e1, dayF_nc]; rfl))
theorem approve_ce {S : St} {c : Nat} : S.ce c < (approveS S c).ce c := by
  have h := passS_ce (u_ce S c (S.ce c + 1)) c
  have e : (u_ce S c (S.ce c + 1)).ce c = S.ce c + 1 := va_up_self _ _ _
  rw [e] at h
  exact h
