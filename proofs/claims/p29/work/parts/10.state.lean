/-! the state of a desk, in numbers: people np bo tr po aw si; trips nt tp tl tf tt te; charges nc cp ck cl ca cx cd ct cs cr ce cm sp; receipts nr ra rd rx ro; tables tb (0 limits, 1 plans, 2 carries, 3 rates; flat); the day td -/
abbrev St : Type := (Nat → Nat → Nat × Int32 × Option Nat) × (Nat → Nat → Int32)
def St.np (S : St) : Nat := (S.1 0 0).1
def St.bo (S : St) : Nat → Option Nat := fun i => (S.1 1 i).2.2
def St.tr (S : St) : Nat → Int32 := fun i => (S.1 2 i).2.1
def St.po (S : St) : Nat → Int32 := fun i => (S.1 3 i).2.1
def St.aw (S : St) : Nat → Int32 := fun i => (S.1 4 i).2.1
def St.si (S : St) : Nat → Option Nat := fun i => (S.1 5 i).2.2
def St.nt (S : St) : Nat := (S.1 6 0).1
def St.tp (S : St) : Nat → Nat := fun i => (S.1 7 i).1
def St.tl (S : St) : Nat → Nat := fun i => (S.1 8 i).1
def St.tf (S : St) : Nat → Int32 := fun i => (S.1 9 i).2.1
def St.tt (S : St) : Nat → Int32 := fun i => (S.1 10 i).2.1
def St.te (S : St) : Nat → Int32 := fun i => (S.1 11 i).2.1
def St.nc (S : St) : Nat := (S.1 12 0).1
def St.cp (S : St) : Nat → Nat := fun i => (S.1 13 i).1
def St.ck (S : St) : Nat → Nat := fun i => (S.1 14 i).1
def St.cl (S : St) : Nat → Nat := fun i => (S.1 15 i).1
def St.ca (S : St) : Nat → Int32 := fun i => (S.1 16 i).2.1
def St.cx (S : St) : Nat → Int32 := fun i => (S.1 17 i).2.1
def St.cd (S : St) : Nat → Nat := fun i => (S.1 18 i).1
def St.ct (S : St) : Nat → Option Nat := fun i => (S.1 19 i).2.2
def St.cs (S : St) : Nat → Int32 := fun i => (S.1 20 i).2.1
def St.cr (S : St) : Nat → Option Nat := fun i => (S.1 21 i).2.2
def St.ce (S : St) : Nat → Nat := fun i => (S.1 22 i).1
def St.cm (S : St) : Nat → Int32 := fun i => (S.1 23 i).2.1
def St.sp (S : St) : Nat → Int32 := fun i => (S.1 24 i).2.1
def St.nr (S : St) : Nat := (S.1 25 0).1
def St.ra (S : St) : Nat → Int32 := fun i => (S.1 26 i).2.1
def St.rd (S : St) : Nat → Int32 := fun i => (S.1 27 i).2.1
def St.rx (S : St) : Nat → Int32 := fun i => (S.1 28 i).2.1
def St.ro (S : St) : Nat → Option Nat := fun i => (S.1 29 i).2.2
def St.tb (S : St) : Nat → Nat → Int32 := S.2
def St.td (S : St) : Nat := (S.1 31 0).1
def St.s_np (S : St) (v : Nat) : St := (fun k i => cond (Nat.beq k 0) (v, (S.1 k i).2) (S.1 k i), S.2)
def St.s_bo (S : St) (v : Nat → Option Nat) : St := (fun k i => cond (Nat.beq k 1) ((S.1 k i).1, (S.1 k i).2.1, v i) (S.1 k i), S.2)
def St.s_tr (S : St) (v : Nat → Int32) : St := (fun k i => cond (Nat.beq k 2) ((S.1 k i).1, v i, (S.1 k i).2.2) (S.1 k i), S.2)
def St.s_po (S : St) (v : Nat → Int32) : St := (fun k i => cond (Nat.beq k 3) ((S.1 k i).1, v i, (S.1 k i).2.2) (S.1 k i), S.2)
def St.s_aw (S : St) (v : Nat → Int32) : St := (fun k i => cond (Nat.beq k 4) ((S.1 k i).1, v i, (S.1 k i).2.2) (S.1 k i), S.2)
def St.s_si (S : St) (v : Nat → Option Nat) : St := (fun k i => cond (Nat.beq k 5) ((S.1 k i).1, (S.1 k i).2.1, v i) (S.1 k i), S.2)
def St.s_nt (S : St) (v : Nat) : St := (fun k i => cond (Nat.beq k 6) (v, (S.1 k i).2) (S.1 k i), S.2)
def St.s_tp (S : St) (v : Nat → Nat) : St := (fun k i => cond (Nat.beq k 7) (v i, (S.1 k i).2) (S.1 k i), S.2)
def St.s_tl (S : St) (v : Nat → Nat) : St := (fun k i => cond (Nat.beq k 8) (v i, (S.1 k i).2) (S.1 k i), S.2)
def St.s_tf (S : St) (v : Nat → Int32) : St := (fun k i => cond (Nat.beq k 9) ((S.1 k i).1, v i, (S.1 k i).2.2) (S.1 k i), S.2)
def St.s_tt (S : St) (v : Nat → Int32) : St := (fun k i => cond (Nat.beq k 10) ((S.1 k i).1, v i, (S.1 k i).2.2) (S.1 k i), S.2)
def St.s_te (S : St) (v : Nat → Int32) : St := (fun k i => cond (Nat.beq k 11) ((S.1 k i).1, v i, (S.1 k i).2.2) (S.1 k i), S.2)
def St.s_nc (S : St) (v : Nat) : St := (fun k i => cond (Nat.beq k 12) (v, (S.1 k i).2) (S.1 k i), S.2)
def St.s_cp (S : St) (v : Nat → Nat) : St := (fun k i => cond (Nat.beq k 13) (v i, (S.1 k i).2) (S.1 k i), S.2)
def St.s_ck (S : St) (v : Nat → Nat) : St := (fun k i => cond (Nat.beq k 14) (v i, (S.1 k i).2) (S.1 k i), S.2)
def St.s_cl (S : St) (v : Nat → Nat) : St := (fun k i => cond (Nat.beq k 15) (v i, (S.1 k i).2) (S.1 k i), S.2)
def St.s_ca (S : St) (v : Nat → Int32) : St := (fun k i => cond (Nat.beq k 16) ((S.1 k i).1, v i, (S.1 k i).2.2) (S.1 k i), S.2)
def St.s_cx (S : St) (v : Nat → Int32) : St := (fun k i => cond (Nat.beq k 17) ((S.1 k i).1, v i, (S.1 k i).2.2) (S.1 k i), S.2)
def St.s_cd (S : St) (v : Nat → Nat) : St := (fun k i => cond (Nat.beq k 18) (v i, (S.1 k i).2) (S.1 k i), S.2)
def St.s_ct (S : St) (v : Nat → Option Nat) : St := (fun k i => cond (Nat.beq k 19) ((S.1 k i).1, (S.1 k i).2.1, v i) (S.1 k i), S.2)
def St.s_cs (S : St) (v : Nat → Int32) : St := (fun k i => cond (Nat.beq k 20) ((S.1 k i).1, v i, (S.1 k i).2.2) (S.1 k i), S.2)
def St.s_cr (S : St) (v : Nat → Option Nat) : St := (fun k i => cond (Nat.beq k 21) ((S.1 k i).1, (S.1 k i).2.1, v i) (S.1 k i), S.2)
def St.s_ce (S : St) (v : Nat → Nat) : St := (fun k i => cond (Nat.beq k 22) (v i, (S.1 k i).2) (S.1 k i), S.2)
def St.s_cm (S : St) (v : Nat → Int32) : St := (fun k i => cond (Nat.beq k 23) ((S.1 k i).1, v i, (S.1 k i).2.2) (S.1 k i), S.2)
def St.s_sp (S : St) (v : Nat → Int32) : St := (fun k i => cond (Nat.beq k 24) ((S.1 k i).1, v i, (S.1 k i).2.2) (S.1 k i), S.2)
def St.s_nr (S : St) (v : Nat) : St := (fun k i => cond (Nat.beq k 25) (v, (S.1 k i).2) (S.1 k i), S.2)
def St.s_ra (S : St) (v : Nat → Int32) : St := (fun k i => cond (Nat.beq k 26) ((S.1 k i).1, v i, (S.1 k i).2.2) (S.1 k i), S.2)
def St.s_rd (S : St) (v : Nat → Int32) : St := (fun k i => cond (Nat.beq k 27) ((S.1 k i).1, v i, (S.1 k i).2.2) (S.1 k i), S.2)
def St.s_rx (S : St) (v : Nat → Int32) : St := (fun k i => cond (Nat.beq k 28) ((S.1 k i).1, v i, (S.1 k i).2.2) (S.1 k i), S.2)
def St.s_ro (S : St) (v : Nat → Option Nat) : St := (fun k i => cond (Nat.beq k 29) ((S.1 k i).1, (S.1 k i).2.1, v i) (S.1 k i), S.2)
def St.s_tb (S : St) (v : Nat → Nat → Int32) : St := (S.1, v)
def St.s_td (S : St) (v : Nat) : St := (fun k i => cond (Nat.beq k 31) (v, (S.1 k i).2) (S.1 k i), S.2)
/-- how many a list holds: 0 people, 1 trips, 2 charges, 3 receipts -/
def St.cnt (S : St) : Nat → Nat
  | 0 => S.np
  | 1 => S.nt
  | 2 => S.nc
  | _ => S.nr
/-- where things are: ad kind number; kd the other way; cap, md of the lists -/
abbrev Gh : Type := (Nat → Nat → Nat) × (Nat → Nat × Nat) × (Nat → Nat) × (Nat → Int32)
def Gh.ad (g : Gh) : Nat → Nat → Nat := g.1
def Gh.kd (g : Gh) : Nat → Nat × Nat := g.2.1
def Gh.cap (g : Gh) : Nat → Nat := g.2.2.1
def Gh.md (g : Gh) : Nat → Int32 := g.2.2.2
def tR : Nat → Nat
  | 0 => 8
  | 1 => 4
  | 2 => 4
  | _ => 3
def tC : Nat → Nat
  | 2 => 1
  | _ => 4
def lsV (S : St) (g : Gh) (i : Nat) : Value × Value × Value := (.int (g.md i), .ref (g.ad 3 i), .int (nI (S.cnt i)))
def leE (E : EE) (S : St) (g : Gh) (i : Nat) : va_E := .inl (eO E, g.cap i, .inr (.inr (.inr (.inr (fun j => if j < S.cnt i then some (g.ad (6 + i) j) else none)))))
/-- the class's cells -/
def cellA (E : EE) (S : St) (g : Gh) : Nat → Nat → va_E
  | 1, _ => .inr (6, [.ref (g.ad 2 0), .ref (g.ad 2 1), .ref (g.ad 2 2), .ref (g.ad 2 3), .ref (g.ad 4 0), .ref (g.ad 4 1), .ref (g.ad 4 2), .ref (g.ad 4 3), .int (nI S.td)])
  | 2, i => .inr (0, [.int (g.md i), .ref (g.ad 3 i), .int (nI (S.cnt i))])
  | 3, i => leE E S g i
  | 4, i => .inr (4, [.int (nI (tR i)), .int (nI (tC i)), .ref (g.ad 5 i)])
  | 5, i => .inl (eI E, tR i * tC i, .inl (S.tb i))
  | 6, i => .inr (2, [.int (nI i), va_rf ((S.bo i).map (g.ad 6)), .int (S.tr i), .int (S.po i), .int (S.aw i), va_rf ((S.si i).map (g.ad 6))])
  | 7, i => .inr (5, [.int (nI i), .ref (g.ad 6 (S.tp i)), .int (nI (S.tl i)), .int (S.tf i), .int (S.tt i), .int (S.te i)])
  | 8, i => .inr (1, [.int (nI i), .ref (g.ad 6 (S.cp i)), .int (nI (S.ck i)), .int (nI (S.cl i)), .int (S.ca i), .int (S.cx i), .int (nI (S.cd i)), va_rf ((S.ct i).map (g.ad 7)), .int (S.cs i), va_rf ((S.cr i).map (g.ad 9)), .int (nI (S.ce i)), .int (S.cm i), .int (S.sp i)])
  | _, i => .inr (3, [.int (nI i), .int (S.ra i), .int (S.rd i), .int (S.rx i), va_rf ((S.ro i).map (g.ad 8))])
def valA (S : St) (g : Gh) : Nat → Nat → Prop
  | 1, i => i = 0
  | 2, i => i < 4
  | 3, i => i < 4 ∧ 0 < g.cap i
  | 4, i => i < 4
  | 5, i => i < 4
  | 6, i => i < S.np
  | 7, i => i < S.nt
  | 8, i => i < S.nc
  | 9, i => i < S.nr
  | _, _ => False
/-- a list's bounds; a list without a row of its own is empty -/
def capOk (S : St) (g : Gh) : Prop := ∀ i, i < 4 → S.cnt i ≤ g.cap i ∧ g.cap i < 2 ^ 20
/-- the class's own cells -/
def ow (g : Gh) (q : Nat) : Prop := (g.kd q).1 ≠ 0
def ZG (E : EE) (g : Gh) : Prop := (∀ q, ow g q → eN E ≤ q) ∧ ∀ i, i < 4 → g.cap i = 0 → g.ad 3 i = eE E
/-- the class's picture -/
def RA (E : EE) (S : St) (g : Gh) (H : Heap) : Prop := (∀ k i, valA S g k i → g.kd (g.ad k i) = (k, i) ∧ va_at E.1 vwCl (g.ad k i, cellA E S g k i) H) ∧ capOk S g ∧ ZG E g ∧ ZE E H
theorem RA.ow {E : EE} {S : St} {g : Gh} {H : Heap} (h : RA E S g H) {k i : Nat} (hi : valA S g k i) : ow g (g.ad k i) := by
  show (g.kd (g.ad k i)).1 ≠ 0
  rw [(h.1 k i hi).1]
  intro e
  have e : k = 0 := e
  subst e
  exact hi
theorem RA.inj {E : EE} {S : St} {g : Gh} {H : Heap} (h : RA E S g H) {k i j : Nat} (hi : valA S g k i) (hj : valA S g k j) (e : g.ad k i = g.ad k j) : i = j := by
  have h1 := (h.1 k i hi).1
  rw [e, (h.1 k j hj).1] at h1
  exact (Prod.mk.inj h1).2.symm
theorem RA.x {E : EE} {S : St} {g : Gh} {H : Heap} (h : RA E S g H) : va_at E.1 vwCl (g.ad 1 0, .inr (6, [.ref (g.ad 2 0), .ref (g.ad 2 1), .ref (g.ad 2 2), .ref (g.ad 2 3), .ref (g.ad 4 0), .ref (g.ad 4 1), .ref (g.ad 4 2), .ref (g.ad 4 3), .int (nI S.td)])) H := (h.1 1 0 rfl).2
theorem RA.ls {E : EE} {S : St} {g : Gh} {H : Heap} (h : RA E S g H) {i : Nat} (hi : i < 4) : va_at E.1 vwCl (g.ad 2 i, .inr (0, [.int (g.md i), .ref (g.ad 3 i), .int (nI (S.cnt i))])) H := (h.1 2 i hi).2
theorem RA.le {E : EE} {S : St} {g : Gh} {H : Heap} (h : RA E S g H) {i : Nat} (hi : i < 4) (hc : 0 < g.cap i) : va_at E.1 vwCl (g.ad 3 i, .inl (eO E, g.cap i, .inr (.inr (.inr (.inr (fun j => if j < S.cnt i then some (g.ad (6 + i) j) else none)))))) H := (h.1 3 i ⟨hi, hc⟩).2
theorem RA.tb {E : EE} {S : St} {g : Gh} {H : Heap} (h : RA E S g H) {i : Nat} (hi : i < 4) : va_at E.1 vwCl (g.ad 4 i, .inr (4, [.int (nI (tR i)), .int (nI (tC i)), .ref (g.ad 5 i)])) H := (h.1 4 i hi).2
theorem RA.ta {E : EE} {S : St} {g : Gh} {H : Heap} (h : RA E S g H) {i : Nat} (hi : i < 4) : va_at E.1 vwCl (g.ad 5 i, .inl (eI E, tR i * tC i, .inl (S.tb i))) H := (h.1 5 i hi).2
theorem RA.pe {E : EE} {S : St} {g : Gh} {H : Heap} (h : RA E S g H) {i : Nat} (hi : i < S.np) : va_at E.1 vwCl (g.ad 6 i, .inr (2, [.int (nI i), va_rf ((S.bo i).map (g.ad 6)), .int (S.tr i), .int (S.po i), .int (S.aw i), va_rf ((S.si i).map (g.ad 6))])) H := (h.1 6 i hi).2
theorem RA.tp {E : EE} {S : St} {g : Gh} {H : Heap} (h : RA E S g H) {i : Nat} (hi : i < S.nt) : va_at E.1 vwCl (g.ad 7 i, .inr (5, [.int (nI i), .ref (g.ad 6 (S.tp i)), .int (nI (S.tl i)), .int (S.tf i), .int (S.tt i), .int (S.te i)])) H := (h.1 7 i hi).2
theorem RA.ch {E : EE} {S : St} {g : Gh} {H : Heap} (h : RA E S g H) {i : Nat} (hi : i < S.nc) : va_at E.1 vwCl (g.ad 8 i, .inr (1, [.int (nI i), .ref (g.ad 6 (S.cp i)), .int (nI (S.ck i)), .int (nI (S.cl i)), .int (S.ca i), .int (S.cx i), .int (nI (S.cd i)), va_rf ((S.ct i).map (g.ad 7)), .int (S.cs i), va_rf ((S.cr i).map (g.ad 9)), .int (nI (S.ce i)), .int (S.cm i), .int (S.sp i)])) H := (h.1 8 i hi).2
theorem RA.re {E : EE} {S : St} {g : Gh} {H : Heap} (h : RA E S g H) {i : Nat} (hi : i < S.nr) : va_at E.1 vwCl (g.ad 9 i, .inr (3, [.int (nI i), .int (S.ra i), .int (S.rd i), .int (S.rx i), va_rf ((S.ro i).map (g.ad 8))])) H := (h.1 9 i hi).2
theorem RA.cnt {E : EE} {S : St} {g : Gh} {H : Heap} (h : RA E S g H) {i j : Nat} (hi : i < 4) (hj : j < S.cnt i) : j < g.cap i ∧ g.cap i < 2 ^ 31 := ⟨Nat.lt_of_lt_of_le hj (h.2.1 i hi).1, Nat.lt_trans (h.2.1 i hi).2 (by decide)⟩
/-- sums -/
def sm (f : Nat → Int32) : Nat → Int32
  | 0 => 0
  | n + 1 => sm f n + f n
theorem sm_t {f : Nat → Int32} {n : Nat} {x : Int32} (h : f n = x) : sm f (n + 1) = sm f n + x := by rw [← h]; rfl
theorem sm_z {f : Nat → Int32} {n : Nat} (h : f n = 0) : sm f (n + 1) = sm f n := by
  show sm f n + f n = _
  rw [h, Int32.add_zero]
