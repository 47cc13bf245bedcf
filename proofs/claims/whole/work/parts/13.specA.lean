/-! what the class computes, in the state's words, in the order of its instructions -/
def awayA (S : St) (i : Nat) (d : Int32) : Int32 := if S.aw i < d then 0 else 1
def cntB (S : St) : Nat → Option Nat → Nat
  | 0, _ => 0
  | _ + 1, none => 0
  | n + 1, some j => cntB S n (S.bo j) + 1
def mostB (S : St) (c : Nat) : Nat := if S.ca c ≤ 2000 then (if S.ca c ≤ 500 then 1 else 2) else 3
def needB (S : St) (c : Nat) : Nat := cntB S (mostB S c) (S.bo (S.cp c))
def bossAt (S : St) (p : Nat) : Nat → Option Nat
  | 0 => S.bo p
  | k + 1 => (bossAt S p k).bind S.bo
def bossN (S : St) (c : Nat) : Option Nat := if S.ce c < needB S c then bossAt S (S.cp c) (S.ce c) else none
def splA (S : St) (c : Nat) (n : Int32) : Int32 := if S.sp c &&& ((1 : Int32) <<< (n &&& 31)) = 0 then 0 else 1
def absI (x : Int32) : Int32 := if 0 ≤ x then x else 0 - x
def scoreA (ca : Int32) (cd : Nat) (cx am dy tx : Int32) : Int32 :=
  if absI (ca - am) ≤ 10 then (if absI (nI cd - dy) ≤ 3 then (if cx = tx then 40 - 2 * absI (ca - am) - 5 * absI (nI cd - dy) + 20 else 40 - 2 * absI (ca - am) - 5 * absI (nI cd - dy)) else -1) else -1
def scA (S : St) (c : Nat) (am dy tx : Int32) : Int32 := scoreA (S.ca c) (S.cd c) (S.cx c) am dy tx
def goA (S : St) (c : Nat) (n am dy tx : Int32) (ro : Option Nat) : Int32 :=
  if S.cs c = 0 then (if ro = none then (if splA S c n = 0 then (if scA S c am dy tx = -1 then 0 else 1) else 0) else 0) else 0
def apprA (S : St) (c : Nat) : Option Nat :=
  if S.cs c = 1 then
    match bossN S c with
    | none => none
    | some b => if awayA S b (nI S.td) = 0 then some b else
      match S.si b with
      | none => none
      | some t => if t = S.cp c then none else if awayA S t (nI S.td) = 0 then some t else none
  else none
/-- the first number below n with f -/
def fstB (f : Nat → Bool) : Nat → Option Nat
  | 0 => none
  | n + 1 => match fstB f n with
    | some i => some i
    | none => if f n = true then some n else none
theorem fstB_z {f : Nat → Bool} {n : Nat} (h : fstB f n = none) (hf : f n = false) : fstB f (n + 1) = none := by
  show (match fstB f n with | some i => some i | none => if f n = true then some n else none) = none
  rw [h, hf]; rfl
theorem fstB_h {f : Nat → Bool} {i : Nat} (h : fstB f i = none) (hf : f i = true) : ∀ {n : Nat}, i < n → fstB f n = some i := by
  intro n
  induction n with
  | zero => intro hn; omega
  | succ n ih =>
    intro hn
    show (match fstB f n with | some i => some i | none => if f n = true then some n else none) = some i
    by_cases e : i = n
    · subst e; rw [h, hf]; rfl
    · rw [ih (by omega)]
theorem fstB_lt {f : Nat → Bool} : ∀ {n i : Nat}, fstB f n = some i → i < n := by
  intro n
  induction n with
  | zero => intro i h; cases h
  | succ n ih =>
    intro i h
    change (match fstB f n with | some i => some i | none => if f n = true then some n else none) = some i at h
    cases e : fstB f n with
    | some k => rw [e] at h; cases h; exact Nat.lt_succ_of_lt (ih e)
    | none =>
      rw [e] at h
      by_cases hf : f n = true
      · simp only [hf, if_true] at h; cases h; exact Nat.lt_succ_self n
      · simp only [hf] at h; cases h
def tripQ (S : St) (p : Nat) (ld : Int32) (i : Nat) : Bool :=
  if S.tp i = p then (if nI (S.tl i) = ld then (if S.tf i ≤ nI S.td then (if nI S.td ≤ S.tt i then true else false) else false) else false) else false
def tripA (S : St) (p : Nat) (ld : Int32) : Option Nat := fstB (tripQ S p ld) S.nt
def onTripQ (S : St) (t : Nat) (c : Nat) : Int32 := if S.ct c = some t then (if S.cs c = 3 then 0 else S.ca c) else 0
def onTripA (S : St) (t : Nat) : Int32 := sm (onTripQ S t) S.nc
def offQ (S : St) (p : Nat) (k : Int32) (c : Nat) : Int32 :=
  if S.ct c = none then (if S.cs c = 3 then 0 else (if 10 ≤ nI S.td - nI (S.cd c) then 0 else (if S.cp c = p then (if nI (S.ck c) = k then S.ca c else 0) else 0))) else 0
def offA (S : St) (p : Nat) (k : Int32) : Int32 := sm (offQ S p k) S.nc
def spendA (S : St) (p : Nat) (k : Nat) (ld : Int32) : Int32 :=
  match tripA S p ld with
  | some t => S.te t - onTripA S t
  | none => S.tb 0 (p * 4 + k) * (5 + S.tr p) / 10 - offA S p (nI k)
def rateA (S : St) (c : Nat) : Int32 := S.tb 3 (S.cl c * 4 + S.ck c)
def taxA (S : St) (c : Nat) : Int32 := if 100 + rateA S c ≤ 0 then 0 else S.ca c * rateA S c / (100 + rateA S c)
def costA (S : St) (c : Nat) (b : Int32) : Int32 :=
  if S.cs c = 0 then (if b = 0 then S.ca c else S.ca c - taxA S c) else if S.cs c = 1 then S.ca c - taxA S c else if S.cs c = 2 then S.ca c - taxA S c else if S.cs c = 3 then 0 else S.ca c
def costInQ (S : St) (k per b : Int32) (c : Nat) : Int32 := if nI (S.ck c) = k then (if nI (S.cd c) / 30 = per then costA S c b else 0) else 0
def costInA (S : St) (k per b : Int32) : Int32 := sm (costInQ S k per b) S.nc
def leftL (S : St) (k : Nat) (b : Int32) : Nat → Int32
  | 0 => 0
  | n + 1 => S.tb 1 (k * 4 + n) + (if leftL S k b n < 0 then 0 else leftL S k b n) * S.tb 2 k / 100 - costInA S (nI k) (nI n) b
def inQ (S : St) (st : Int32) (c : Nat) : Int32 := if S.cs c = st then 1 else 0
def inA (S : St) (st : Int32) : Int32 := sm (inQ S st) S.nc
def openQ (S : St) (p : Nat) (c : Nat) : Int32 := if S.cp c = p then (if S.cs c = 0 then 1 else 0) else 0
def openA (S : St) (p : Nat) : Int32 := sm (openQ S p) S.nc
def repQ (S : St) (p : Nat) (c : Nat) : Int32 := if S.cp c = p then (if S.cs c = 3 then S.ca c else 0) else 0
def repA (S : St) (p : Nat) : Int32 := sm (repQ S p) S.nc
def toApQ (S : St) (p : Nat) (c : Nat) : Int32 := if apprA S c = some p then 1 else 0
def toApA (S : St) (p : Nat) : Int32 := sm (toApQ S p) S.nc
def freeQ (S : St) (r : Nat) : Int32 := if S.ro r = none then 1 else 0
def freeA (S : St) : Int32 := sm (freeQ S) S.nr
def amtQ (S : St) (c : Nat) : Int32 := if S.cs c = 3 then 0 else S.ca c
def amtA (S : St) : Int32 := sm (amtQ S) S.nc
def costQ (S : St) (c : Nat) : Int32 := costA S c 0
def costsA (S : St) : Int32 := sm (costQ S) S.nc
def maxI (x y : Int32) : Int32 := if x < y then y else x
def lostA (S : St) (c : Nat) (e : Int32) : Int32 :=
  if nI (S.cd c) + 8 ≤ nI S.td then (if maxI (nI (S.cd c) + 15) (nI S.td + 1) ≤ e then 1 else 0)
  else if nI (S.cd c) + 8 ≤ e then (if maxI (nI (S.cd c) + 15) (nI S.td + 1) ≤ e then 1 + 1 else 1) else (if maxI (nI (S.cd c) + 15) (nI S.td + 1) ≤ e then 1 else 0)
def irI (o : Option Nat) : Int32 := match o with
  | none => -1
  | some i => nI i
/-- bosses below np -/
theorem bossAt_lt {S : St} (h : Inv S) {p : Nat} (hp : p < S.np) : ∀ {k j : Nat}, bossAt S p k = some j → j < S.np := by
  intro k
  induction k with
  | zero => intro j e; exact h.bo hp e
  | succ k ih =>
    intro j e
    change (bossAt S p k).bind S.bo = some j at e
    cases hb : bossAt S p k with
    | none => rw [hb] at e; cases e
    | some i => rw [hb] at e; exact h.bo (ih hb) e
theorem bossAt_none {S : St} {p : Nat} : ∀ {k n : Nat}, bossAt S p k = none → k ≤ n → bossAt S p n = none := by
  intro k n h hkn
  induction hkn with
  | refl => exact h
  | step _ ih =>
    show (bossAt S p _).bind S.bo = none
    rw [ih]; rfl
theorem bossN_lt {S : St} (h : Inv S) {c : Nat} (hc : c < S.nc) {j : Nat} (e : bossN S c = some j) : j < S.np := by
  unfold bossN at e
  split at e
  · exact bossAt_lt h (h.cp hc) e
  · cases e
