/-! matching: where no pair goes together, nothing is matched; one new charge or receipt makes one pair at most -/
theorem argN {n : Nat} (hn : n < 2 ^ 31) (v : Int32) : (v < 0 ∨ nI n ≤ v) ∨ ∃ k, k < n ∧ v = nI k := by
  by_cases h : v < 0
  · exact Or.inl (Or.inl h)
  · by_cases h2 : nI n ≤ v
    · exact Or.inl (Or.inr h2)
    · refine Or.inr ⟨v.toInt.toNat, ?_, ?_⟩
      · have e := nI_toInt hn
        rw [Int32.lt_iff_toInt_lt] at h
        rw [Int32.le_iff_toInt_le, e] at h2
        have : (0 : Int32).toInt = 0 := rfl
        omega
      · rw [Int32.lt_iff_toInt_lt] at h
        have h0 : (0 : Int32).toInt = 0 := rfl
        have hb : v.toInt < 2 ^ 31 := v.toInt_lt
        apply Int32.toInt_inj.mp
        rw [nI_toInt (n := v.toInt.toNat) (by omega)]
        omega
theorem goA_ne {S : St} {c : Nat} {n am dy tx : Int32} {ro : Option Nat} (h1 : S.cs c = 0) (h2 : ro = none) (h3 : splA S c n = 0) (h4 : ¬ scA S c am dy tx = -1) : ¬ goA S c n am dy tx ro = 0 := by
  unfold goA
  rw [if_pos h1, if_pos h2, if_pos h3, if_neg h4]
  decide
theorem goA_le {S T : St} {c : Nat} {n am dy tx : Int32} {ro ro2 : Option Nat} (hcs : T.cs c = 0 → S.cs c = 0) (hro : ro2 = none → ro = none) (hsp : T.sp c = S.sp c) (hca : T.ca c = S.ca c) (hcd : T.cd c = S.cd c) (hcx : T.cx c = S.cx c) (h : goA S c n am dy tx ro = 0) : goA T c n am dy tx ro2 = 0 := by
  refine Decidable.byContradiction fun h2 => ?_
  obtain ⟨a1, a2, a3, a4⟩ := goA_open h2
  refine goA_ne (hcs a1) (hro a2) ?_ ?_ h
  · unfold splA at a3 ⊢
    rw [← hsp]; exact a3
  · unfold scA at a4 ⊢
    rw [← hca, ← hcd, ← hcx]; exact a4
def NP (S : St) : Prop := ∀ c r, c < S.nc → r < S.nr → goA S c (nI r) (S.ra r) (S.rd r) (S.rx r) (S.ro r) = 0
/-- the same charges and receipts, none opened, none freed -/
theorem NP.mono {S T : St} (h : NP S) (hnc : T.nc = S.nc) (hnr : T.nr = S.nr) (hcs : ∀ c, T.cs c = 0 → S.cs c = 0) (hro : ∀ r, T.ro r = none → S.ro r = none) (hsp : T.sp = S.sp) (hca : T.ca = S.ca) (hcd : T.cd = S.cd) (hcx : T.cx = S.cx) (hra : T.ra = S.ra) (hrd : T.rd = S.rd) (hrx : T.rx = S.rx) : NP T := by
  intro c r hc hr
  rw [hra, hrd, hrx]
  exact goA_le (hcs c) (hro r) (by rw [hsp]) (by rw [hca]) (by rw [hcd]) (by rw [hcx]) (h c r (by rw [← hnc]; exact hc) (by rw [← hnr]; exact hr))
theorem sc_tab : ∀ a, a < 11 → ∀ b, b < 4 → ¬ (40 - 2 * nI a - 5 * nI b : Int32) ≤ -1 ∧ ¬ (40 - 2 * nI a - 5 * nI b + 20 : Int32) ≤ -1 := by decide +kernel
theorem abs_in {x : Int32} {m : Nat} (hm : m < 2 ^ 30) (h1 : -20000 ≤ x.toInt) (h2 : ¬ nI m < absI x) : ∃ k, k < m + 1 ∧ absI x = nI k := by
  rcases argN (n := m + 1) (by omega) (absI x) with h | h
  · exfalso
    rcases h with h | h
    · unfold absI at h
      by_cases h0 : 0 ≤ x
      · rw [if_pos h0, Int32.lt_iff_toInt_lt] at h
        rw [Int32.le_iff_toInt_le] at h0
        omega
      · rw [if_neg h0, Int32.lt_iff_toInt_lt] at h
        rw [Int32.le_iff_toInt_le] at h0
        have z : (0 : Int32).toInt = 0 := rfl
        have e : (0 - x).toInt = - x.toInt := by rw [Int32.toInt_sub, z]; rw [Int.bmod_eq_of_le (by simp; omega) (by simp; omega)]; omega
        rw [e] at h
        omega
    · rw [Int32.lt_iff_toInt_lt, nI_toInt (by omega)] at h2
      rw [Int32.le_iff_toInt_le, nI_toInt (by omega)] at h
      omega
  · exact h
theorem scA_pos {ca : Int32} {cd : Nat} {cx am dy tx : Int32} (h1 : 0 ≤ ca.toInt ∧ ca.toInt ≤ 9999) (h2 : 0 ≤ am.toInt ∧ am.toInt ≤ 9999) (h3 : cd ≤ 119) (h4 : 0 ≤ dy.toInt ∧ dy.toInt ≤ 119) (h : ¬ scoreA ca cd cx am dy tx = -1) : ¬ scoreA ca cd cx am dy tx ≤ -1 := by
  have e1 : (ca - am).toInt = ca.toInt - am.toInt := by rw [Int32.toInt_sub]; exact Int.bmod_eq_of_le (by simp; omega) (by simp; omega)
  have e3 : (nI cd).toInt = (cd : Int) := nI_toInt (by omega)
  have e2 : (nI cd - dy).toInt = cd - dy.toInt := by rw [Int32.toInt_sub, e3]; exact Int.bmod_eq_of_le (by simp; omega) (by simp; omega)
  unfold scoreA at h ⊢
  by_cases a1 : 10 < absI (ca - am)
  · rw [if_pos a1] at h; exact absurd rfl h
  · rw [if_neg a1] at h ⊢
    by_cases a2 : absI (nI cd - dy) ≤ 3
    · rw [if_pos a2]
      obtain ⟨a, ha, ea⟩ := abs_in (x := ca - am) (m := 10) (by decide) (by omega) a1
      obtain ⟨b, hb, eb⟩ := abs_in (x := nI cd - dy) (m := 3) (by decide) (by omega) (fun q => Int32.not_lt.mpr a2 q)
      rw [ea, eb]
      split
      · exact (sc_tab a ha b hb).2
      · exact (sc_tab a ha b hb).1
    · rw [if_neg a2] at h; exact absurd rfl h
/-- the receipts' own bounds -/
def RR (S : St) : Prop := ∀ r, r < S.nr → (0 ≤ (S.ra r).toInt ∧ (S.ra r).toInt ≤ 9999) ∧ (0 ≤ (S.rd r).toInt ∧ (S.rd r).toInt ≤ 119)
theorem sc_pos {S : St} (hI : Inv S) (hR : RR S) {c r : Nat} (hc : c < S.nc) (hr : r < S.nr) (h : ¬ scA S c (S.ra r) (S.rd r) (S.rx r) = -1) : ¬ scA S c (S.ra r) (S.rd r) (S.rx r) ≤ -1 :=
  scA_pos ⟨by have := (hI.ca hc).1; omega, (hI.ca hc).2⟩ (hR r hr).1 (Nat.le_trans (hI.cd hc) hI.td) (hR r hr).2 h
theorem bR_z {S : St} {c : Nat} : ∀ n, (∀ r, r < n → goA S c (nI r) (S.ra r) (S.rd r) (S.rx r) (S.ro r) = 0) → bR S c n = (none, -1) := by
  intro n
  induction n with
  | zero => intro _; rfl
  | succ n ih => intro h; rw [bR_a (h n (Nat.lt_succ_self n))]; exact ih (fun r hr => h r (Nat.lt_succ_of_lt hr))
theorem bRA_z {S : St} {c : Nat} (h : ∀ r, r < S.nr → goA S c (nI r) (S.ra r) (S.rd r) (S.rx r) (S.ro r) = 0) : bRA S c = none := by
  unfold bRA
  rw [bR_z S.nr h]
theorem bR_non {S : St} (hI : Inv S) (hR : RR S) {c : Nat} (hc : c < S.nc) : ∀ n, n ≤ S.nr → (bR S c n).1 = none → (bR S c n).2 = -1 ∧ ∀ r, r < n → goA S c (nI r) (S.ra r) (S.rd r) (S.rx r) (S.ro r) = 0 := by
  intro n
  induction n with
  | zero => intro _ _; exact ⟨rfl, fun r hr => absurd hr (Nat.not_lt_zero _)⟩
  | succ n ih =>
    intro hn h
    by_cases g : goA S c (nI n) (S.ra n) (S.rd n) (S.rx n) (S.ro n) = 0
    · rw [bR_a g] at h ⊢
      obtain ⟨k1, k2⟩ := ih (Nat.le_of_succ_le hn) h
      refine ⟨k1, fun r hr => ?_⟩
      rcases Nat.lt_or_eq_of_le (Nat.le_of_lt_succ hr) with q | q
      · exact k2 r q
      · rw [q]; exact g
    · exfalso
      by_cases g2 : scA S c (S.ra n) (S.rd n) (S.rx n) ≤ (bR S c n).2
      · rw [bR_b g g2] at h
        rw [(ih (Nat.le_of_succ_le hn) h).1] at g2
        exact sc_pos hI hR hc hn (goA_open g).2.2.2 g2
      · rw [bR_c g g2] at h; cases h
theorem bP_z {S : St} : ∀ n, (∀ c, c < n → bRA S c = none) → bP S n = (none, -1) := by
  intro n
  induction n with
  | zero => intro _; rfl
  | succ n ih => intro h; rw [bP_a (h n (Nat.lt_succ_self n))]; exact ih (fun c hc => h c (Nat.lt_succ_of_lt hc))
theorem NP.bP {S : St} (h : NP S) : (bP S S.nc).1 = none := by
  rw [bP_z S.nc (fun c hc => bRA_z (fun r hr => h c r hc hr))]
theorem mb_z {S : St} (h : (bP S S.nc).1 = none) : mbS S = S ∧ mbR S = 0 := by
  unfold mbS mbR
  rw [h]
  exact ⟨rfl, rfl⟩
theorem mb_s {S : St} {q : Nat × Nat} (h : (bP S S.nc).1 = some q) : mbS S = matchS S q.1 q.2 ∧ mbR S = 1 := by
  unfold mbS mbR
  rw [h]
  exact ⟨rfl, rfl⟩
theorem mpF_1 {S : St} : mpF S 1 = (mbS S, mbR S) := mpF_b (n := 0) (S := S) (show ¬ (1 : Int32) = 0 by decide)
theorem mp_z {S : St} (h : (bP S S.nc).1 = none) : mpS S = S := by
  have e := mb_z h
  unfold mpS
  rw [mpF_stop (S := S) (k := 1) (by rw [mpF_1]; exact e.2) 30 (by decide), mpF_1]
  exact e.1
theorem mp_s {S : St} {q : Nat × Nat} (h : (bP S S.nc).1 = some q) (h2 : NP (matchS S q.1 q.2)) : mpS S = matchS S q.1 q.2 := by
  have e := mb_s h
  have e2 := mb_z h2.bP
  have k1 : mpF S 2 = (mbS (mbS S), mbR (mbS S)) := by
    have k := mpF_b (n := 1) (S := S) (by rw [mpF_1]; show ¬ mbR S = 0; rw [e.2]; decide)
    rw [k, mpF_1]
  rw [← e.1] at e2
  unfold mpS
  rw [mpF_stop (S := S) (k := 2) (by rw [k1]; exact e2.2) 30 (by decide), k1]
  exact e2.1.trans e.1
theorem NP.mp {S : St} (h : NP S) : mpS S = S := mp_z h.bP
/-- a pair made: nothing else goes together -/
theorem match_cs {S : St} {c r d : Nat} : (matchS S c r).cs d = if d = c then 1 else S.cs d := by
  have e : (matchS S c r).cs = (matS S c r).cs := by
    unfold matchS
    split
    · rfl
    · exact ag_gain.e_cs (by decide)
  rw [e]
  show va_up S.cs c 1 d = _
  by_cases h : d = c
  · rw [h, va_up_self, if_pos rfl]
  · rw [va_up_ne _ _ h, if_neg h]
theorem match_cr {S : St} {c r d : Nat} : (matchS S c r).cr d = if d = c then some r else S.cr d := by
  have e : (matchS S c r).cr = (matS S c r).cr := by
    unfold matchS
    split
    · rfl
    · exact ag_gain.e_cr (by decide)
  rw [e]
  show va_up S.cr c (some r) d = _
  by_cases h : d = c
  · rw [h, va_up_self, if_pos rfl]
  · rw [va_up_ne _ _ h, if_neg h]
theorem match_ro {S : St} {c r d : Nat} : (matchS S c r).ro d = if d = r then some c else S.ro d := by
  have e : (matchS S c r).ro = (matS S c r).ro := by
    unfold matchS
    split
    · rfl
    · exact ag_gain.e_ro (by decide)
  rw [e]
  show va_up S.ro r (some c) d = _
  by_cases h : d = r
  · rw [h, va_up_self, if_pos rfl]
  · rw [va_up_ne _ _ h, if_neg h]
theorem NP.match1 {S : St} {c r : Nat} (h : ∀ d q, d < S.nc → q < S.nr → ¬ d = c → ¬ q = r → goA S d (nI q) (S.ra q) (S.rd q) (S.rx q) (S.ro q) = 0) : NP (matchS S c r) := by
  intro d q hd hq
  have ag := ag_match (S := S) (c := c) (r := r)
  rw [ag.e_nc (by decide)] at hd
  rw [ag.e_nr (by decide)] at hq
  rw [ag.e_ra (by decide), ag.e_rd (by decide), ag.e_rx (by decide)]
  by_cases e1 : d = c
  · refine Decidable.byContradiction fun h2 => ?_
    have h3 := (goA_open h2).1
    rw [match_cs, if_pos e1] at h3
    exact absurd h3 (by decide)
  · by_cases e2 : q = r
    · refine Decidable.byContradiction fun h2 => ?_
      have h3 := (goA_open h2).2.1
      rw [match_ro, if_pos e2] at h3
      cases h3
    · refine goA_le (S := S) (ro := S.ro q) (fun h3 => ?_) (fun h3 => ?_) ?_ ?_ ?_ ?_ (h d q hd hq e1 e2)
      · rw [match_cs, if_neg e1] at h3; exact h3
      · rw [match_ro, if_neg e2] at h3; exact h3
      · rw [ag.e_sp (by decide)]
      · rw [ag.e_ca (by decide)]
      · rw [ag.e_cd (by decide)]
      · rw [ag.e_cx (by decide)]
/-! a charge comes -/
section AddC
variable {S : St} {p k l : Nat} {a x : Int32} {t : Option Nat}
theorem adC_o {d : Nat} (hd : d < S.nc) {q : Nat} : goA (addC S p k l a x t) d (nI q) ((addC S p k l a x t).ra q) ((addC S p k l a x t).rd q) ((addC S p k l a x t).rx q) ((addC S p k l a x t).ro q) = goA S d (nI q) (S.ra q) (S.rd q) (S.rx q) (S.ro q) := by
  have hne : ¬ d = S.nc := Nat.ne_of_lt hd
  have e1 : (addC S p k l a x t).cs d = S.cs d := va_up_ne _ _ hne
  have e2 : (addC S p k l a x t).sp d = S.sp d := va_up_ne _ _ hne
  have e3 : (addC S p k l a x t).ca d = S.ca d := va_up_ne _ _ hne
  have e4 : (addC S p k l a x t).cd d = S.cd d := va_up_ne _ _ hne
  have e5 : (addC S p k l a x t).cx d = S.cx d := va_up_ne _ _ hne
  have ag := ag_addC (S := S) (p := p) (k := k) (l := l) (a := a) (x := x) (t := t)
  rw [ag.e_ra (by decide), ag.e_rd (by decide), ag.e_rx (by decide), ag.e_ro (by decide)]
  unfold goA splA scA
  rw [e1, e2, e3, e4, e5]
theorem adC_nc : (addC S p k l a x t).nc = S.nc + 1 := rfl
theorem adC_cs : (addC S p k l a x t).cs S.nc = 0 := va_up_self _ _ _
/-- behind a new charge: the new one is open and nothing else has changed, or it is matched with one free receipt -/
theorem adC_mp (hN : NP S) (hI : Inv (addC S p k l a x t)) (hR : RR S) : (NP (addC S p k l a x t) ∧ mpS (addC S p k l a x t) = addC S p k l a x t) ∨ ∃ r, r < S.nr ∧ S.ro r = none ∧ NP (matchS (addC S p k l a x t) S.nc r) ∧ mpS (addC S p k l a x t) = matchS (addC S p k l a x t) S.nc r := by
  have ag := ag_addC (S := S) (p := p) (k := k) (l := l) (a := a) (x := x) (t := t)
  have hnr : (addC S p k l a x t).nr = S.nr := ag.e_nr (by decide)
  have hR1 : RR (addC S p k l a x t) := fun r hr => by
    rw [ag.e_ra (by decide), ag.e_rd (by decide)]
    exact hR r (by rw [← hnr]; exact hr)
  have hz : ∀ d, d < S.nc → bRA (addC S p k l a x t) d = none := fun d hd => bRA_z (fun r hr => by rw [adC_o hd]; exact hN d r hd (by rw [← hnr]; exact hr))
  have hb := bP_z (S := addC S p k l a x t) S.nc hz
  have hcN : S.nc < (addC S p k l a x t).nc := Nat.lt_succ_self _
  cases hr : bRA (addC S p k l a x t) S.nc with
  | none =>
    left
    have h2 := bR_non hI hR1 hcN (addC S p k l a x t).nr (Nat.le_refl _) hr
    have h3 : NP (addC S p k l a x t) := fun c r hc hq => by
      rcases Nat.lt_or_eq_of_le (Nat.le_of_lt_succ (show c < S.nc + 1 from hc)) with q | q
      · rw [adC_o q]; exact hN c r q (by rw [← hnr]; exact hq)
      · rw [q]; exact h2.2 r hq
    exact ⟨h3, h3.mp⟩
  | some r =>
    right
    have hrl : r < (addC S p k l a x t).nr := bR_lt hr
    have hgo := bR_ok hr
    have hopen := goA_open hgo
    have hs : ¬ scA (addC S p k l a x t) S.nc ((addC S p k l a x t).ra r) ((addC S p k l a x t).rd r) ((addC S p k l a x t).rx r) ≤ (bP (addC S p k l a x t) S.nc).2 := by
      rw [hb]; exact sc_pos hI hR1 hcN hrl hopen.2.2.2
    have hbb : (bP (addC S p k l a x t) (addC S p k l a x t).nc).1 = some (S.nc, r) := by
      rw [show (addC S p k l a x t).nc = S.nc + 1 from rfl, bP_c hr hs]
    have hnp : NP (matchS (addC S p k l a x t) S.nc r) := NP.match1 (fun d q hd hq e1 _ => by
      have hd2 : d < S.nc := by
        have : d < S.nc + 1 := hd
        omega
      rw [adC_o hd2]; exact hN d q hd2 (by rw [← hnr]; exact hq))
    refine ⟨r, by rw [← hnr]; exact hrl, ?_, hnp, mp_s (S := addC S p k l a x t) (q := (S.nc, r)) hbb hnp⟩
    have := hopen.2.1
    rw [ag.e_ro (by decide)] at this
    exact this
end AddC
/-! a receipt comes -/
section AddR
variable {S : St} {am dy tx : Int32}
theorem adR_o {d q : Nat} (hq : q < S.nr) : goA (addR S am dy tx) d (nI q) ((addR S am dy tx).ra q) ((addR S am dy tx).rd q) ((addR S am dy tx).rx q) ((addR S am dy tx).ro q) = goA S d (nI q) (S.ra q) (S.rd q) (S.rx q) (S.ro q) := by
  have hne : ¬ q = S.nr := Nat.ne_of_lt hq
  have e1 : (addR S am dy tx).ra q = S.ra q := va_up_ne _ _ hne
  have e2 : (addR S am dy tx).rd q = S.rd q := va_up_ne _ _ hne
  have e3 : (addR S am dy tx).rx q = S.rx q := va_up_ne _ _ hne
  have e4 : (addR S am dy tx).ro q = S.ro q := va_up_ne _ _ hne
  have ag := ag_addR (S := S) (a := am) (d := dy) (x := tx)
  rw [e1, e2, e3, e4]
  unfold goA splA scA
  rw [ag.e_cs (by decide), ag.e_sp (by decide), ag.e_ca (by decide), ag.e_cd (by decide), ag.e_cx (by decide)]
theorem adR_n {d : Nat} : goA (addR S am dy tx) d (nI S.nr) ((addR S am dy tx).ra S.nr) ((addR S am dy tx).rd S.nr) ((addR S am dy tx).rx S.nr) ((addR S am dy tx).ro S.nr) = goA S d (nI S.nr) am dy tx none := by
  have e1 : (addR S am dy tx).ra S.nr = am := va_up_self _ _ _
  have e2 : (addR S am dy tx).rd S.nr = dy := va_up_self _ _ _
  have e3 : (addR S am dy tx).rx S.nr = tx := va_up_self _ _ _
  have e4 : (addR S am dy tx).ro S.nr = none := va_up_self _ _ _
  have ag := ag_addR (S := S) (a := am) (d := dy) (x := tx)
  rw [e1, e2, e3, e4]
  unfold goA splA scA
  rw [ag.e_cs (by decide), ag.e_sp (by decide), ag.e_ca (by decide), ag.e_cd (by decide), ag.e_cx (by decide)]
theorem adR_sc {d : Nat} : scA (addR S am dy tx) d ((addR S am dy tx).ra S.nr) ((addR S am dy tx).rd S.nr) ((addR S am dy tx).rx S.nr) = scA S d am dy tx := by
  have e1 : (addR S am dy tx).ra S.nr = am := va_up_self _ _ _
  have e2 : (addR S am dy tx).rd S.nr = dy := va_up_self _ _ _
  have e3 : (addR S am dy tx).rx S.nr = tx := va_up_self _ _ _
  have ag := ag_addR (S := S) (a := am) (d := dy) (x := tx)
  rw [e1, e2, e3]
  unfold scA
  rw [ag.e_ca (by decide), ag.e_cd (by decide), ag.e_cx (by decide)]
theorem adR_RR (hR : RR S) (h1 : 0 ≤ am.toInt ∧ am.toInt ≤ 9999) (h2 : 0 ≤ dy.toInt ∧ dy.toInt ≤ 119) : RR (addR S am dy tx) := by
  intro r hr
  rcases Nat.lt_or_eq_of_le (Nat.le_of_lt_succ (show r < S.nr + 1 from hr)) with q | q
  · have e1 : (addR S am dy tx).ra r = S.ra r := va_up_ne _ _ (Nat.ne_of_lt q)
    have e2 : (addR S am dy tx).rd r = S.rd r := va_up_ne _ _ (Nat.ne_of_lt q)
    rw [e1, e2]; exact hR r q
  · subst q
    have e1 : (addR S am dy tx).ra S.nr = am := va_up_self _ _ _
    have e2 : (addR S am dy tx).rd S.nr = dy := va_up_self _ _ _
    rw [e1, e2]; exact ⟨h1, h2⟩
theorem adR_bRA (hN : NP S) (hI : Inv (addR S am dy tx)) (hR : RR (addR S am dy tx)) {d : Nat} (hd : d < S.nc) : bRA (addR S am dy tx) d = if goA S d (nI S.nr) am dy tx none = 0 then none else some S.nr := by
  have hz : bR (addR S am dy tx) d S.nr = (none, -1) := bR_z S.nr (fun r hr => by rw [adR_o hr]; exact hN d r hd hr)
  have hnr : (addR S am dy tx).nr = S.nr + 1 := rfl
  have hnc : (addR S am dy tx).nc = S.nc := ag_addR.e_nc (by decide)
  unfold bRA
  rw [hnr]
  by_cases g : goA S d (nI S.nr) am dy tx none = 0
  · rw [if_pos g, bR_a (by rw [adR_n]; exact g), hz]
  · have g1 : ¬ goA (addR S am dy tx) d (nI S.nr) ((addR S am dy tx).ra S.nr) ((addR S am dy tx).rd S.nr) ((addR S am dy tx).rx S.nr) ((addR S am dy tx).ro S.nr) = 0 := by rw [adR_n]; exact g
    rw [if_neg g, bR_c g1 (by rw [hz]; exact sc_pos hI hR (by rw [hnc]; exact hd) (Nat.lt_succ_self _) (goA_open g1).2.2.2)]
theorem adR_bP (hN : NP S) (hI : Inv (addR S am dy tx)) (hR : RR (addR S am dy tx)) : ∀ n, n ≤ S.nc → bP (addR S am dy tx) n = ((wB S am dy tx n).1.map (fun c => (c, S.nr)), (wB S am dy tx n).2) := by
  intro n
  induction n with
  | zero => intro _; rfl
  | succ n ih =>
    intro hn
    have ih := ih (Nat.le_of_succ_le hn)
    have hb := adR_bRA hN hI hR (d := n) hn
    by_cases g : goA S n (nI S.nr) am dy tx none = 0
    · rw [if_pos g] at hb
      rw [bP_a hb, wB_a g]; exact ih
    · rw [if_neg g] at hb
      by_cases g2 : scA S n am dy tx ≤ (wB S am dy tx n).2
      · rw [bP_b hb (by rw [adR_sc, ih]; exact g2), wB_b g g2]; exact ih
      · rw [bP_c hb (by rw [adR_sc, ih]; exact g2), wB_c g g2, adR_sc]; rfl
theorem wB_non (hp : ∀ c, c < S.nc → ¬ goA S c (nI S.nr) am dy tx none = 0 → ¬ scA S c am dy tx ≤ -1) : ∀ n, n ≤ S.nc → (wB S am dy tx n).1 = none → (wB S am dy tx n).2 = -1 ∧ ∀ c, c < n → goA S c (nI S.nr) am dy tx none = 0 := by
  intro n
  induction n with
  | zero => intro _ _; exact ⟨rfl, fun r hr => absurd hr (Nat.not_lt_zero _)⟩
  | succ n ih =>
    intro hn h
    by_cases g : goA S n (nI S.nr) am dy tx none = 0
    · rw [wB_a g] at h ⊢
      obtain ⟨k1, k2⟩ := ih (Nat.le_of_succ_le hn) h
      refine ⟨k1, fun r hr => ?_⟩
      rcases Nat.lt_or_eq_of_le (Nat.le_of_lt_succ hr) with q | q
      · exact k2 r q
      · rw [q]; exact g
    · exfalso
      by_cases g2 : scA S n am dy tx ≤ (wB S am dy tx n).2
      · rw [wB_b g g2] at h
        rw [(ih (Nat.le_of_succ_le hn) h).1] at g2
        exact hp n hn g g2
      · rw [wB_c g g2] at h; cases h
/-- behind a new receipt: it is free and nothing else has changed, or it is matched with the charge that was told -/
theorem adR_mp (hN : NP S) (hI : Inv (addR S am dy tx)) (hR : RR (addR S am dy tx)) : ((wB S am dy tx S.nc).1 = none ∧ NP (addR S am dy tx) ∧ mpS (addR S am dy tx) = addR S am dy tx) ∨ ∃ c, (wB S am dy tx S.nc).1 = some c ∧ c < S.nc ∧ S.cs c = 0 ∧ ¬ scA S c am dy tx = -1 ∧ NP (matchS (addR S am dy tx) c S.nr) ∧ mpS (addR S am dy tx) = matchS (addR S am dy tx) c S.nr := by
  have hnc : (addR S am dy tx).nc = S.nc := ag_addR.e_nc (by decide)
  have hb := adR_bP hN hI hR S.nc (Nat.le_refl _)
  cases hw : (wB S am dy tx S.nc).1 with
  | none =>
    left
    have hbn : (bP (addR S am dy tx) (addR S am dy tx).nc).1 = none := by rw [hnc, hb, hw]; rfl
    refine ⟨rfl, fun c r hc hr => ?_, mp_z hbn⟩
    have hc2 : c < S.nc := by rw [← hnc]; exact hc
    rcases Nat.lt_or_eq_of_le (Nat.le_of_lt_succ (show r < S.nr + 1 from hr)) with q | q
    · rw [adR_o q]; exact hN c r hc2 q
    · subst q
      rw [adR_n]
      refine (wB_non (fun d hd hg => ?_) S.nc (Nat.le_refl _) hw).2 c hc2
      have k := sc_pos hI hR (c := d) (r := S.nr) (by rw [hnc]; exact hd) (Nat.lt_succ_self _)
      rw [adR_sc] at k
      exact k (goA_open hg).2.2.2
  | some c =>
    right
    have hbs : (bP (addR S am dy tx) (addR S am dy tx).nc).1 = some (c, S.nr) := by rw [hnc, hb, hw]; rfl
    have hok := bP_ok hbs
    have hc : c < S.nc := by rw [← hnc]; exact hok.1
    have hgo := bR_ok hok.2.2
    rw [adR_n] at hgo
    have hop := goA_open hgo
    have hnp : NP (matchS (addR S am dy tx) c S.nr) := NP.match1 (fun d q hd hq e1 e2 => by
      have hq2 : q < S.nr := by
        have : q < S.nr + 1 := hq
        omega
      rw [adR_o hq2]; exact hN d q (by rw [← hnc]; exact hd) hq2)
    exact ⟨c, rfl, hc, hop.1, hop.2.2.2, hnp, mp_s (S := addR S am dy tx) (q := (c, S.nr)) hbs hnp⟩
end AddR
