/-! what the class computes, in the state's words, in the order of its instructions -/
def awayA (S : St) (i : Nat) (d : Int32) : Int32 := if S.aw i < d then 0 else 1
def cntB (S : St) : Nat → Option Nat → Nat
  | 0, _ => 0
  | _ + 1, none => 0
  | n + 1, some j => cntB S n (S.bo j) + 1
def mostB (S : St) (c : Nat) : Nat := if S.ca c ≤ 2000 then (if S.ca c ≤ 500 then 1 else 2) else 3
def needB (S : St) (c : Nat) : Nat := cntB S (mostB S c) (S.bo (S.cp c))
def itB (S : St) : Nat → Option Nat → Option Nat
  | 0, o => o
  | k + 1, o => (itB S k o).bind S.bo
def bossN (S : St) (c : Nat) : Option Nat := itB S (S.ce c) (if needB S c ≤ S.ce c then none else S.bo (S.cp c))
def splA (S : St) (c : Nat) (n : Int32) : Int32 := if S.sp c &&& ((1 : Int32) <<< (n &&& 31)) = 0 then 0 else 1
def maxI (x y : Int32) : Int32 := if x < y then y else x
def minI (x y : Int32) : Int32 := if y < x then y else x
def absI (x : Int32) : Int32 := if 0 ≤ x then x else 0 - x
def scoreA (ca : Int32) (cd : Nat) (cx am dy tx : Int32) : Int32 :=
  if 10 < absI (ca - am) then -1 else if absI (nI cd - dy) ≤ 3 then (if cx = tx then 40 - 2 * absI (ca - am) - 5 * absI (nI cd - dy) + 20 else 40 - 2 * absI (ca - am) - 5 * absI (nI cd - dy)) else -1
def scA (S : St) (c : Nat) (am dy tx : Int32) : Int32 := scoreA (S.ca c) (S.cd c) (S.cx c) am dy tx
def goA (S : St) (c : Nat) (n am dy tx : Int32) (ro : Option Nat) : Int32 :=
  if S.cs c = 0 then (if ro = none then (if splA S c n = 0 then (if scA S c am dy tx = -1 then 0 else 1) else 0) else 0) else 0
def apprO (S : St) (c : Nat) (o : Option Nat) : Option Nat :=
  match o with
  | none => none
  | some b => if awayA S b (nI S.td) = 0 then some b else
    match S.si b with
    | none => none
    | some t => if t = S.cp c then none else if awayA S t (nI S.td) = 0 then some t else none
def apprA (S : St) (c : Nat) : Option Nat := apprO S c (if S.cs c = 1 then bossN S c else none)
/-- the first number below n with f -/
def fstB (f : Nat → Bool) : Nat → Option Nat
  | 0 => none
  | n + 1 => match fstB f n with
    | some i => some i
    | none => if f n = true then some n else none
theorem fstB_z {f : Nat → Bool} {n : Nat} (h : fstB f n = none) (hf : f n = false) : fstB f (n + 1) = none := by
  show (match fstB f n with | some i => some i | none => if f n = true then some n else none) = none
  rw [h, hf]; rfl
theorem fstB_h {f : Nat → Bool} {i : Nat} (h : fstB f i = none) (hf : f i = true) : ∀ {n : Nat}, i < n → fstB f n = some i := by
  intro n
  induction n with
  | zero => intro hn; omega
  | succ n ih =>
    intro hn
    show (match fstB f n with | some i => some i | none => if f n = true then some n else none) = some i
    by_cases e : i = n
    · subst e; rw [h, hf]; rfl
    · rw [ih (by omega)]
theorem fstB_lt {f : Nat → Bool} : ∀ {n i : Nat}, fstB f n = some i → i < n := by
  intro n
  induction n with
  | zero => intro i h; cases h
  | succ n ih =>
    intro i h
    change (match fstB f n with | some i => some i | none => if f n = true then some n else none) = some i at h
    cases e : fstB f n with
    | some k => rw [e] at h; cases h; exact Nat.lt_succ_of_lt (ih e)
    | none =>
      rw [e] at h
      by_cases hf : f n = true
      · simp only [hf, if_true] at h; cases h; exact Nat.lt_succ_self n
      · simp only [hf] at h; cases h
def tripQ (S : St) (p : Nat) (ld : Int32) (i : Nat) : Bool :=
  if S.tp i = p then (if nI (S.tl i) = ld then (if nI S.td < S.tf i then false else (if S.tt i < nI S.td then false else true)) else false) else false
def tripA (S : St) (p : Nat) (ld : Int32) : Option Nat := fstB (tripQ S p ld) S.nt
def onTripQ (S : St) (t : Nat) (c : Nat) : Int32 := if S.ct c = some t then (if S.cs c = 3 then 0 else S.ca c) else 0
def onTripA (S : St) (t : Nat) : Int32 := sm (onTripQ S t) S.nc
def offQ (S : St) (p : Nat) (k : Int32) (c : Nat) : Int32 :=
  if S.ct c = none then (if S.cs c = 3 then 0 else (if 10 ≤ nI S.td - nI (S.cd c) then 0 else (if S.cp c = p then (if nI (S.ck c) = k then S.ca c else 0) else 0))) else 0
def offA (S : St) (p : Nat) (k : Int32) : Int32 := sm (offQ S p k) S.nc
def spendA (S : St) (p : Nat) (k : Nat) (ld : Int32) : Int32 :=
  match tripA S p ld with
  | some t => S.te t - onTripA S t
  | none => S.tb 0 (p * 4 + k) * (5 + S.tr p) / 10 - offA S p (nI k)
def rateA (S : St) (c : Nat) : Int32 := S.tb 3 (S.cl c * 4 + S.ck c)
def taxA (S : St) (c : Nat) : Int32 := if 100 + rateA S c ≤ 0 then 0 else S.ca c * rateA S c / (100 + rateA S c)
def costA (S : St) (c : Nat) (b : Int32) : Int32 :=
  if S.cs c = 0 then (if b = 0 then S.ca c else S.ca c - taxA S c) else if S.cs c = 1 then S.ca c - taxA S c else if S.cs c = 2 then S.ca c - taxA S c else if S.cs c = 3 then 0 else S.ca c
def costInQ (S : St) (k per b : Int32) (c : Nat) : Int32 := if nI (S.ck c) = k then (if nI (S.cd c) / 30 = per then costA S c b else 0) else 0
def costInA (S : St) (k per b : Int32) : Int32 := sm (costInQ S k per b) S.nc
def leftL (S : St) (k : Nat) (b : Int32) : Nat → Int32
  | 0 => 0
  | n + 1 => S.tb 1 (k * 4 + n) + maxI (leftL S k b n) 0 * S.tb 2 (k * 1 + 0) / 100 - costInA S (nI k) (nI n) b
def inQ (S : St) (st : Int32) (c : Nat) : Int32 := if S.cs c = st then 1 else 0
def inA (S : St) (st : Int32) : Int32 := sm (inQ S st) S.nc
def openQ (S : St) (p : Nat) (c : Nat) : Int32 := if S.cp c = p then (if S.cs c = 0 then 1 else 0) else 0
def openA (S : St) (p : Nat) : Int32 := sm (openQ S p) S.nc
def repQ (S : St) (p : Nat) (c : Nat) : Int32 := if S.cp c = p then (if S.cs c = 3 then S.ca c else 0) else 0
def repA (S : St) (p : Nat) : Int32 := sm (repQ S p) S.nc
def toApQ (S : St) (p : Nat) (c : Nat) : Int32 := if apprA S c = some p then 1 else 0
def toApA (S : St) (p : Nat) : Int32 := sm (toApQ S p) S.nc
def freeQ (S : St) (r : Nat) : Int32 := if S.ro r = none then 1 else 0
def freeA (S : St) : Int32 := sm (freeQ S) S.nr
def amtQ (S : St) (c : Nat) : Int32 := if S.cs c = 3 then 0 else S.ca c
def amtA (S : St) : Int32 := sm (amtQ S) S.nc
def costQ (S : St) (c : Nat) : Int32 := costA S c 0
def costsA (S : St) : Int32 := sm (costQ S) S.nc
def lostA (S : St) (c : Nat) (e : Int32) : Int32 :=
  if nI (S.cd c) + 8 ≤ nI S.td then (if e < maxI (nI (S.cd c) + 15) (nI S.td + 1) then 0 else 0 + 1)
  else if e < nI (S.cd c) + 8 then (if e < maxI (nI (S.cd c) + 15) (nI S.td + 1) then 0 else 0 + 1) else (if e < maxI (nI (S.cd c) + 15) (nI S.td + 1) then 0 + 1 else 0 + 1 + 1)
def irI (o : Option Nat) : Int32 := match o with
  | none => -1
  | some i => nI i
theorem itB_lt {S : St} (h : Inv S) {o : Option Nat} (ho : ∀ j, o = some j → j < S.np) : ∀ {k j : Nat}, itB S k o = some j → j < S.np := by
  intro k
  induction k with
  | zero => intro j e; exact ho j e
  | succ k ih =>
    intro j e
    change (itB S k o).bind S.bo = some j at e
    cases hb : itB S k o with
    | none => rw [hb] at e; cases e
    | some i => rw [hb] at e; exact h.bo (ih hb) e
theorem itB_none {S : St} {o : Option Nat} : ∀ {k n : Nat}, itB S k o = none → k ≤ n → itB S n o = none := by
  intro k n h hkn
  induction hkn with
  | refl => exact h
  | step _ ih =>
    show (itB S _ o).bind S.bo = none
    rw [ih]; rfl
theorem bossN_lt {S : St} (h : Inv S) {c : Nat} (hc : c < S.nc) {j : Nat} (e : bossN S c = some j) : j < S.np := by
  unfold bossN at e
  refine itB_lt h (fun j hj => ?_) e
  split at hj
  · cases hj
  · exact h.bo (h.cp hc) hj
theorem apprO_lt {S : St} (h : Inv S) {c : Nat} {o : Option Nat} (ho : ∀ j, o = some j → j < S.np) {j : Nat} (e : apprO S c o = some j) : j < S.np := by
  unfold apprO at e
  cases o with
  | none => cases e
  | some b =>
    simp only at e
    split at e
    · cases e; exact ho _ rfl
    · split at e
      · cases e
      · rename_i t ht
        split at e
        · cases e
        · split at e
          · cases e; exact h.si (ho _ rfl) ht
          · cases e
theorem apprA_lt {S : St} (h : Inv S) {c : Nat} (hc : c < S.nc) {j : Nat} (e : apprA S c = some j) : j < S.np := by
  refine apprO_lt h (fun j hj => ?_) e
  split at hj
  · exact bossN_lt h hc hj
  · cases hj
theorem nle {a b : Nat} (ha : a < 2 ^ 31) (hb : b < 2 ^ 31) : nI a ≤ nI b ↔ a ≤ b := nI_leI ha hb
theorem cntB_le (S : St) : ∀ (n : Nat) (o : Option Nat), cntB S n o ≤ n := by
  intro n
  induction n with
  | zero => intro o; exact Nat.le_refl _
  | succ n ih =>
    intro o
    cases o with
    | none => exact Nat.zero_le _
    | some j => exact Nat.succ_le_succ (ih _)
theorem mostB_le (S : St) (c : Nat) : mostB S c ≤ 3 := by unfold mostB; split <;> (try split) <;> decide
theorem needB_le (S : St) (c : Nat) : needB S c ≤ 3 := Nat.le_trans (cntB_le S _ _) (mostB_le S c)
/-- the best receipt for a charge -/
def bR (S : St) (c : Nat) : Nat → Option Nat × Int32
  | 0 => (none, -1)
  | n + 1 => if goA S c (nI n) (S.ra n) (S.rd n) (S.rx n) (S.ro n) = 0 then bR S c n else (if scA S c (S.ra n) (S.rd n) (S.rx n) ≤ (bR S c n).2 then bR S c n else (some n, scA S c (S.ra n) (S.rd n) (S.rx n)))
def bRA (S : St) (c : Nat) : Option Nat := (bR S c S.nr).1
theorem bR_a {S : St} {c n : Nat} (h : goA S c (nI n) (S.ra n) (S.rd n) (S.rx n) (S.ro n) = 0) : bR S c (n + 1) = bR S c n := if_pos h
theorem bR_b {S : St} {c n : Nat} (h : ¬ goA S c (nI n) (S.ra n) (S.rd n) (S.rx n) (S.ro n) = 0) (h2 : scA S c (S.ra n) (S.rd n) (S.rx n) ≤ (bR S c n).2) : bR S c (n + 1) = bR S c n := (if_neg h).trans (if_pos h2)
theorem bR_c {S : St} {c n : Nat} (h : ¬ goA S c (nI n) (S.ra n) (S.rd n) (S.rx n) (S.ro n) = 0) (h2 : ¬ scA S c (S.ra n) (S.rd n) (S.rx n) ≤ (bR S c n).2) : bR S c (n + 1) = (some n, scA S c (S.ra n) (S.rd n) (S.rx n)) := (if_neg h).trans (if_neg h2)
theorem bR_lt {S : St} {c : Nat} : ∀ {n j : Nat}, (bR S c n).1 = some j → j < n := by
  intro n
  induction n with
  | zero => intro j h; cases h
  | succ n ih =>
    intro j h
    by_cases h1 : goA S c (nI n) (S.ra n) (S.rd n) (S.rx n) (S.ro n) = 0
    · rw [bR_a h1] at h; exact Nat.lt_succ_of_lt (ih h)
    · by_cases h2 : scA S c (S.ra n) (S.rd n) (S.rx n) ≤ (bR S c n).2
      · rw [bR_b h1 h2] at h; exact Nat.lt_succ_of_lt (ih h)
      · rw [bR_c h1 h2] at h; cases h; exact Nat.lt_succ_self n

