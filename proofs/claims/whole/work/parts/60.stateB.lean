/-! the reference's picture over the same state: kinds 1 model, 2 lists, 3 element arrays, 4 outer arrays (0 plans, 1 rates), 5 carries, 6 persons, 7 trips, 8 charges, 9 receipts, 10 rows of plans, 11 rows of rates, 12 desk, 13 limits, 14 splits -/
def lmB (S : St) (i k : Nat) : Int32 := if k < 4 then S.tb 0 (i * 4 + k) else 0
def plB (S : St) (i k : Nat) : Int32 := if k < 4 then S.tb 1 (i * 4 + k) else 0
def caB (S : St) (k : Nat) : Int32 := if k < 4 then S.tb 2 (k * 1 + 0) else 0
def rtB (S : St) (i k : Nat) : Int32 := if k < 4 then S.tb 3 (i * 4 + k) else 0
def spB (S : St) (i j : Nat) : Int32 := if j < 31 then (if S.sp i &&& ((1 : Int32) <<< (nI j &&& 31)) = 0 then 0 else 1) else 0
def cellB (E : EE) (S : St) (th : Int32) (g : Gh) : Nat → Nat → va_E
  | 1, _ => .inr (12, [.int th, .ref (g.ad 12 0)])
  | 2, i => .inr (0, [.int (g.md i), .ref (g.ad 3 i), .int (nI (S.cnt i))])
  | 3, i => leE E S g i
  | 4, 0 => .inl (eM E, 4, .inr (.inr (.inr (.inr (fun j => if j < 4 then some (g.ad 10 j) else none)))))
  | 4, _ => .inl (eM E, 3, .inr (.inr (.inr (.inr (fun j => if j < 3 then some (g.ad 11 j) else none)))))
  | 5, _ => .inl (eI E, 4, .inl (caB S))
  | 6, i => .inr (9, [.int (nI i), va_rf ((S.bo i).map (g.ad 6)), .int (S.tr i), .int (S.po i), .ref (g.ad 13 i), .int (S.aw i), .int (irI (S.si i))])
  | 7, i => .inr (11, [.int (nI (S.tp i)), .int (nI (S.tl i)), .int (S.tf i), .int (S.tt i), .int (S.te i)])
  | 8, i => .inr (7, [.int (nI (S.cp i)), .int (nI (S.ck i)), .int (nI (S.cl i)), .int (S.ca i), .int (S.cx i), .int (nI (S.cd i)), .int (irI (S.ct i)), .ref (g.ad 14 i), .int (S.cs i), .int (irI (S.cr i)), .int (nI (S.ce i)), .int (S.cm i)])
  | 9, i => .inr (10, [.int (S.ra i), .int (S.rd i), .int (S.rx i), .int (irI (S.ro i))])
  | 10, i => .inl (eI E, 4, .inl (plB S i))
  | 11, i => .inl (eI E, 4, .inl (rtB S i))
  | 12, _ => .inr (8, [.ref (g.ad 2 0), .ref (g.ad 2 1), .ref (g.ad 2 2), .ref (g.ad 2 3), .ref (g.ad 4 0), .ref (g.ad 5 0), .ref (g.ad 4 1), .int (nI S.td)])
  | 13, i => .inl (eI E, 4, .inl (lmB S i))
  | _, i => .inl (eZ E, 31, .inl (spB S i))
def valB (S : St) (g : Gh) : Nat → Nat → Prop
  | 1, i => i = 0
  | 2, i => i < 4
  | 3, i => i < 4 ∧ 0 < g.cap i
  | 4, i => i < 2
  | 5, i => i = 0
  | 6, i => i < S.np
  | 7, i => i < S.nt
  | 8, i => i < S.nc
  | 9, i => i < S.nr
  | 10, i => i < 4
  | 11, i => i < 3
  | 12, i => i = 0
  | 13, i => i < S.np
  | 14, i => i < S.nc
  | _, _ => False
def RB (E : EE) (S : St) (th : Int32) (g : Gh) (H : Heap) : Prop := (∀ k i, valB S g k i → g.kd (g.ad k i) = (k, i) ∧ va_at E.1 vwCl (g.ad k i, cellB E S th g k i) H) ∧ capOk S g ∧ ZG E g ∧ ZE E H
theorem RB.ow {E : EE} {S : St} {th : Int32} {g : Gh} {H : Heap} (h : RB E S th g H) {k i : Nat} (hi : valB S g k i) : ow g (g.ad k i) := by
  show (g.kd (g.ad k i)).1 ≠ 0
  rw [(h.1 k i hi).1]
  intro e
  have e : k = 0 := e
  subst e
  exact hi
theorem RB.inj {E : EE} {S : St} {th : Int32} {g : Gh} {H : Heap} (h : RB E S th g H) {k i j : Nat} (hi : valB S g k i) (hj : valB S g k j) (e : g.ad k i = g.ad k j) : i = j := by
  have h1 := (h.1 k i hi).1
  rw [e, (h.1 k j hj).1] at h1
  exact (Prod.mk.inj h1).2.symm
theorem RB.x {E : EE} {S : St} {th : Int32} {g : Gh} {H : Heap} (h : RB E S th g H) : va_at E.1 vwCl (g.ad 1 0, .inr (12, [.int th, .ref (g.ad 12 0)])) H := (h.1 1 0 rfl).2
theorem RB.dk {E : EE} {S : St} {th : Int32} {g : Gh} {H : Heap} (h : RB E S th g H) : va_at E.1 vwCl (g.ad 12 0, .inr (8, [.ref (g.ad 2 0), .ref (g.ad 2 1), .ref (g.ad 2 2), .ref (g.ad 2 3), .ref (g.ad 4 0), .ref (g.ad 5 0), .ref (g.ad 4 1), .int (nI S.td)])) H := (h.1 12 0 rfl).2
theorem RB.ca {E : EE} {S : St} {th : Int32} {g : Gh} {H : Heap} (h : RB E S th g H) : va_at E.1 vwCl (g.ad 5 0, .inl (eI E, 4, .inl (caB S))) H := (h.1 5 0 rfl).2
theorem RB.pl {E : EE} {S : St} {th : Int32} {g : Gh} {H : Heap} (h : RB E S th g H) : va_at E.1 vwCl (g.ad 4 0, .inl (eM E, 4, .inr (.inr (.inr (.inr (fun j => if j < 4 then some (g.ad 10 j) else none)))))) H := (h.1 4 0 (show 0 < 2 by decide)).2
theorem RB.rt {E : EE} {S : St} {th : Int32} {g : Gh} {H : Heap} (h : RB E S th g H) : va_at E.1 vwCl (g.ad 4 1, .inl (eM E, 3, .inr (.inr (.inr (.inr (fun j => if j < 3 then some (g.ad 11 j) else none)))))) H := (h.1 4 1 (show 1 < 2 by decide)).2
theorem RB.ls {E : EE} {S : St} {th : Int32} {g : Gh} {H : Heap} (h : RB E S th g H) {i : Nat} (hi : i < 4) : va_at E.1 vwCl (g.ad 2 i, .inr (0, [.int (g.md i), .ref (g.ad 3 i), .int (nI (S.cnt i))])) H := (h.1 2 i hi).2
theorem RB.pe {E : EE} {S : St} {th : Int32} {g : Gh} {H : Heap} (h : RB E S th g H) {i : Nat} (hi : i < S.np) : va_at E.1 vwCl (g.ad 6 i, .inr (9, [.int (nI i), va_rf ((S.bo i).map (g.ad 6)), .int (S.tr i), .int (S.po i), .ref (g.ad 13 i), .int (S.aw i), .int (irI (S.si i))])) H := (h.1 6 i hi).2
theorem RB.tp {E : EE} {S : St} {th : Int32} {g : Gh} {H : Heap} (h : RB E S th g H) {i : Nat} (hi : i < S.nt) : va_at E.1 vwCl (g.ad 7 i, .inr (11, [.int (nI (S.tp i)), .int (nI (S.tl i)), .int (S.tf i), .int (S.tt i), .int (S.te i)])) H := (h.1 7 i hi).2
theorem RB.ch {E : EE} {S : St} {th : Int32} {g : Gh} {H : Heap} (h : RB E S th g H) {i : Nat} (hi : i < S.nc) : va_at E.1 vwCl (g.ad 8 i, .inr (7, [.int (nI (S.cp i)), .int (nI (S.ck i)), .int (nI (S.cl i)), .int (S.ca i), .int (S.cx i), .int (nI (S.cd i)), .int (irI (S.ct i)), .ref (g.ad 14 i), .int (S.cs i), .int (irI (S.cr i)), .int (nI (S.ce i)), .int (S.cm i)])) H := (h.1 8 i hi).2
theorem RB.re {E : EE} {S : St} {th : Int32} {g : Gh} {H : Heap} (h : RB E S th g H) {i : Nat} (hi : i < S.nr) : va_at E.1 vwCl (g.ad 9 i, .inr (10, [.int (S.ra i), .int (S.rd i), .int (S.rx i), .int (irI (S.ro i))])) H := (h.1 9 i hi).2
theorem RB.plr {E : EE} {S : St} {th : Int32} {g : Gh} {H : Heap} (h : RB E S th g H) {i : Nat} (hi : i < 4) : va_at E.1 vwCl (g.ad 10 i, .inl (eI E, 4, .inl (plB S i))) H := (h.1 10 i hi).2
theorem RB.rtr {E : EE} {S : St} {th : Int32} {g : Gh} {H : Heap} (h : RB E S th g H) {i : Nat} (hi : i < 3) : va_at E.1 vwCl (g.ad 11 i, .inl (eI E, 4, .inl (rtB S i))) H := (h.1 11 i hi).2
theorem RB.li {E : EE} {S : St} {th : Int32} {g : Gh} {H : Heap} (h : RB E S th g H) {i : Nat} (hi : i < S.np) : va_at E.1 vwCl (g.ad 13 i, .inl (eI E, 4, .inl (lmB S i))) H := (h.1 13 i hi).2
theorem RB.sp {E : EE} {S : St} {th : Int32} {g : Gh} {H : Heap} (h : RB E S th g H) {i : Nat} (hi : i < S.nc) : va_at E.1 vwCl (g.ad 14 i, .inl (eZ E, 31, .inl (spB S i))) H := (h.1 14 i hi).2
theorem RB.le {E : EE} {S : St} {th : Int32} {g : Gh} {H : Heap} (h : RB E S th g H) {i : Nat} (hi : i < 4) (hc : 0 < g.cap i) : va_at E.1 vwCl (g.ad 3 i, .inl (eO E, g.cap i, .inr (.inr (.inr (.inr (fun j => if j < S.cnt i then some (g.ad (6 + i) j) else none)))))) H := (h.1 3 i ⟨hi, hc⟩).2
theorem RB.cnt {E : EE} {S : St} {th : Int32} {g : Gh} {H : Heap} (h : RB E S th g H) {i j : Nat} (hi : i < 4) (hj : j < S.cnt i) : j < g.cap i ∧ g.cap i < 2 ^ 31 := ⟨Nat.lt_of_lt_of_le hj (h.2.1 i hi).1, Nat.lt_trans (h.2.1 i hi).2 (by decide)⟩
theorem RB.iff {E : EE} {S : St} {th : Int32} {g : Gh} {H : Heap} (h : RB E S th g H) (k : Nat) {i j : Nat} (hi : valB S g k i) (hj : valB S g k j) : g.ad k i = g.ad k j ↔ i = j := ⟨h.inj hi hj, fun e => by rw [e]⟩
