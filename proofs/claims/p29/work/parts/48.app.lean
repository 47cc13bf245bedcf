/-! the picture with one thing more in a list -/
def gAdd (g : Gh) (k i n a e c : Nat) : Gh := (fun k' j => cond (Nat.beq k' k) (cond (Nat.beq j n) a (g.ad k' j)) (cond (Nat.beq k' 3) (cond (Nat.beq j i) e (g.ad k' j)) (g.ad k' j)), fun q => if q = a then (k, n) else if q = e then (3, i) else g.kd q, fun j => cond (Nat.beq j i) c (g.cap j), fun j => cond (Nat.beq j i) (g.md j + 1) (g.md j))
theorem cnd_self {α : Type} (n : Nat) (x y : α) : cond (Nat.beq n n) x y = x := by rw [Nat.beq_refl]; rfl
theorem cnd_ne {α : Type} {j n : Nat} (h : ¬ j = n) (x y : α) : cond (Nat.beq j n) x y = y := by
  cases e : Nat.beq j n with
  | false => rfl
  | true => exact absurd (Nat.eq_of_beq_eq_true e) h
theorem map_ne {o : Option Nat} {n a : Nat} {f : Nat → Nat} (h : ∀ j, o = some j → ¬ j = n) : o.map (fun j => cond (Nat.beq j n) a (f j)) = o.map f := by
  cases o with
  | none => rfl
  | some j => exact congrArg some (cnd_ne (h j rfl) _ _)
theorem RA.app {E : EE} {S S' : St} {g : Gh} {H H1 : Heap} {k i n a e c : Nat} (h : RA E S g H) (hki : ¬ k = 2 ∧ ¬ k = 3 ∧ ¬ k = 0) (hi : i < 4) (ha : ∀ k' i', valA S g k' i' → ¬ g.ad k' i' = a) (he : (e = g.ad 3 i ∧ 0 < g.cap i) ∨ ∀ k' i', valA S g k' i' → ¬ g.ad k' i' = e) (hae : ¬ a = e) (haN : eN E ≤ a) (heN : eN E ≤ e) (hc0 : 0 < c)
    (hq : ∀ q : Nat, q < H.size → ¬ q = g.ad 2 i → ¬ (q = g.ad 3 i ∧ 0 < g.cap i) → H1[q]? = H[q]?)
    (hl : va_at E.1 vwCl (g.ad 2 i, cellA E S' (gAdd g k i n a e c) 2 i) H1) (har : va_at E.1 vwCl (e, cellA E S' (gAdd g k i n a e c) 3 i) H1) (ho : va_at E.1 vwCl (a, cellA E S' (gAdd g k i n a e c) k n) H1)
    (hval : ∀ k' i', valA S' (gAdd g k i n a e c) k' i' → (k' = k ∧ i' = n) ∨ (k' = 2 ∧ i' = i) ∨ (k' = 3 ∧ i' = i) ∨ (valA S g k' i' ∧ ¬ (k' = 2 ∧ i' = i) ∧ ¬ (k' = 3 ∧ i' = i) ∧ (gAdd g k i n a e c).ad k' i' = g.ad k' i' ∧ cellA E S' (gAdd g k i n a e c) k' i' = cellA E S g k' i'))
    (hcap : capOk S' (gAdd g k i n a e c)) : RA E S' (gAdd g k i n a e c) H1 := by
  have hne : ∀ k' i', valA S g k' i' → ¬ (k' = 3 ∧ i' = i) → ¬ g.ad k' i' = e := by
    intro k' i' hv hn e2
    rcases he with ⟨h1, h2⟩ | h1
    · have q1 := (h.1 k' i' hv).1
      rw [e2, h1, (h.1 3 i ⟨hi, h2⟩).1] at q1
      exact hn ⟨(Prod.mk.inj q1).1.symm, (Prod.mk.inj q1).2.symm⟩
    · exact h1 k' i' hv e2
  have hkd : ∀ k' i', valA S g k' i' → ¬ (k' = 3 ∧ i' = i) → (gAdd g k i n a e c).kd (g.ad k' i') = (k', i') := by
    intro k' i' hv hn
    show (if g.ad k' i' = a then (k, n) else if g.ad k' i' = e then (3, i) else g.kd (g.ad k' i')) = _
    rw [if_neg (ha k' i' hv), if_neg (hne k' i' hv hn)]
    exact (h.1 k' i' hv).1
  have hkp : ∀ k' i', valA S g k' i' → ¬ (k' = 2 ∧ i' = i) → ¬ (k' = 3 ∧ i' = i) → H1[g.ad k' i']? = H[g.ad k' i']? := by
    intro k' i' hv h2 h3
    have q1 := (h.1 k' i' hv).1
    refine hq _ (h.1 k' i' hv).2.lt (fun e2 => h2 ?_) (fun e2 => h3 ?_)
    · rw [e2, (h.1 2 i hi).1] at q1
      exact ⟨(Prod.mk.inj q1).1.symm, (Prod.mk.inj q1).2.symm⟩
    · rw [e2.1, (h.1 3 i ⟨hi, e2.2⟩).1] at q1
      exact ⟨(Prod.mk.inj q1).1.symm, (Prod.mk.inj q1).2.symm⟩
  have hadk : (gAdd g k i n a e c).ad k n = a := by
    show cond (Nat.beq k k) (cond (Nat.beq n n) a _) _ = a
    rw [cnd_self, cnd_self]
  have had2 : (gAdd g k i n a e c).ad 2 i = g.ad 2 i := by
    show cond (Nat.beq 2 k) _ (cond (Nat.beq 2 3) _ (g.ad 2 i)) = _
    rw [cnd_ne (fun e2 => hki.1 e2.symm)]
    rfl
  have had3 : (gAdd g k i n a e c).ad 3 i = e := by
    show cond (Nat.beq 3 k) _ (cond (Nat.beq 3 3) (cond (Nat.beq i i) e _) _) = _
    rw [cnd_ne (fun e2 => hki.2.1 e2.symm), cnd_self, cnd_self]
  refine ⟨fun k' i' hv => ?_, hcap, ⟨fun q hw => ?_, fun j hj hc => ?_⟩, h.2.2.2.kept (fun q hq1 => ?_)⟩
  · rcases hval k' i' hv with ⟨rfl, rfl⟩ | ⟨rfl, rfl⟩ | ⟨rfl, rfl⟩ | ⟨h1, h2, h3, h4, h5⟩
    · rw [hadk]
      exact ⟨if_pos rfl, ho⟩
    · rw [had2]
      exact ⟨hkd 2 i' hi (fun e2 => absurd e2.1 (by decide)), hl⟩
    · rw [had3]
      refine ⟨?_, har⟩
      show (if e = a then (k, n) else if e = e then (3, i') else g.kd e) = _
      rw [if_neg (fun e2 => hae e2.symm), if_pos rfl]
    · rw [h4, h5]
      exact ⟨hkd k' i' h1 h3, (h.1 k' i' h1).2.kept (hkp k' i' h1 h2 h3)⟩
  · have hw : ((if q = a then (k, n) else if q = e then (3, i) else g.kd q) : Nat × Nat).1 ≠ 0 := hw
    by_cases h1 : q = a
    · rw [h1]; exact haN
    · by_cases h2 : q = e
      · rw [h2]; exact heN
      · rw [if_neg h1, if_neg h2] at hw
        exact h.2.2.1.1 q hw
  · have hc : cond (Nat.beq j i) c (g.cap j) = 0 := hc
    by_cases h1 : j = i
    · subst h1
      rw [cnd_self] at hc
      omega
    · rw [cnd_ne h1] at hc
      show cond (Nat.beq 3 k) _ (cond (Nat.beq 3 3) (cond (Nat.beq j i) e (g.ad 3 j)) _) = _
      rw [cnd_ne (fun e2 => hki.2.1 e2.symm), cnd_self, cnd_ne h1]
      exact h.2.2.1.2 j hj hc
  · have hz : ∀ (C : EE), True := fun _ => True.intro
    have h2 := h.2.2.1.1 _ (h.ow (k := 2) (i := i) hi)
    refine hq q ?_ (fun e2 => by omega) (fun e2 => ?_)
    · exact Nat.lt_trans (Nat.lt_of_lt_of_le hq1 h2) (h.1 2 i hi).2.lt
    · have h3 := h.2.2.1.1 _ (h.ow (k := 3) (i := i) ⟨hi, e2.2⟩)
      omega
def addP (S : St) (b9 : Option Nat) : St := (((((S.s_bo (va_up S.bo S.np b9)).s_tr (va_up S.tr S.np 5)).s_po (va_up S.po S.np 0)).s_aw (va_up S.aw S.np (-1))).s_si (va_up S.si S.np none)).s_np (S.np + 1)
theorem RA.appP {E : EE} {S : St} {g : Gh} {H H1 : Heap} {a e c : Nat} {b9 : Option Nat} (h : RA E S g H) (hI : Inv S) (ha : ∀ k' i', valA S g k' i' → ¬ g.ad k' i' = a) (he : (e = g.ad 3 0 ∧ 0 < g.cap 0) ∨ ∀ k' i', valA S g k' i' → ¬ g.ad k' i' = e) (hae : ¬ a = e) (haN : eN E ≤ a) (heN : eN E ≤ e) (hc : S.np + 1 ≤ c ∧ c < 2 ^ 20) (hq : ∀ q : Nat, q < H.size → ¬ q = g.ad 2 0 → ¬ (q = g.ad 3 0 ∧ 0 < g.cap 0) → H1[q]? = H[q]?) (hl : va_at E.1 vwCl (g.ad 2 0, .inr (0, [.int (g.md 0 + 1), .ref e, .int (nI (S.np + 1))])) H1) (har : va_at E.1 vwCl (e, .inl (eO E, c, .inr (.inr (.inr (.inr (LF (S.np + 1) (va_up (g.ad 6) S.np a))))))) H1) (ho : va_at E.1 vwCl (a, .inr (2, [.int (nI S.np), va_rf (b9.map (g.ad 6)), .int 5, .int 0, .int (-1), va_rf (none.map (g.ad 6))])) H1) (hb : ∀ j, b9 = some j → j < S.np) : RA E (addP S b9) (gAdd g 6 0 S.np a e c) H1 := by
  have e3 : LF (S.np + 1) (va_up (g.ad 6) S.np a) = (fun j => if j < S.np + 1 then some ((gAdd g 6 0 S.np a e c).ad 6 j) else none) := by
    funext j
    unfold LF
    by_cases h2 : j = S.np
    · subst h2
      rw [va_up_self, show (gAdd g 6 0 S.np a e c).ad 6 S.np = a from cnd_self _ _ _]
    · rw [va_up_ne _ _ h2, show (gAdd g 6 0 S.np a e c).ad 6 j = g.ad 6 j from cnd_ne h2 _ _]
  rw [e3] at har
  have ho2 : va_at E.1 vwCl (a, cellA E (addP S b9) (gAdd g 6 0 S.np a e c) 6 S.np) H1 := by
    show va_at E.1 vwCl (a, .inr (2, [.int (nI S.np), va_rf (((addP S b9).bo S.np).map ((gAdd g 6 0 S.np a e c).ad 6)), .int ((addP S b9).tr S.np), .int ((addP S b9).po S.np), .int ((addP S b9).aw S.np), va_rf (((addP S b9).si S.np).map ((gAdd g 6 0 S.np a e c).ad 6))])) H1
    rw [show (addP S b9).bo S.np = b9 from va_up_self _ _ _, show (addP S b9).tr S.np = 5 from va_up_self _ _ _, show (addP S b9).po S.np = 0 from va_up_self _ _ _, show (addP S b9).aw S.np = (-1) from va_up_self _ _ _, show (addP S b9).si S.np = none from va_up_self _ _ _]
    rw [show b9.map ((gAdd g 6 0 S.np a e c).ad 6) = b9.map (g.ad 6) from map_ne (fun j hj => Nat.ne_of_lt (hb j hj))]
    exact ho
  refine h.app ⟨by decide, by decide, by decide⟩ (by decide) ha he hae haN heN (Nat.lt_of_lt_of_le (Nat.succ_pos _) hc.1) hq hl har ho2 (fun k' i' hv => ?_) (fun j hj => ?_)
  · match k', hv with
    | 0, hv => exact hv.elim
    | 1, hv => exact Or.inr (Or.inr (Or.inr ⟨hv, fun e2 => absurd e2.1 (by decide), fun e2 => absurd e2.1 (by decide), rfl, rfl⟩))
    | 2, hv =>
      by_cases e2 : i' = 0
      · exact Or.inr (Or.inl ⟨rfl, e2⟩)
      · refine Or.inr (Or.inr (Or.inr ⟨hv, fun e3 => e2 e3.2, fun e3 => absurd e3.1 (by decide), rfl, ?_⟩))
        have hv : i' < 4 := hv
        match i', hv, e2 with
        | 0, _, e2 => first | exact absurd rfl e2 | rfl
        | 1, _, e2 => first | exact absurd rfl e2 | rfl
        | 2, _, e2 => first | exact absurd rfl e2 | rfl
        | 3, _, e2 => first | exact absurd rfl e2 | rfl
    | 3, hv =>
      by_cases e2 : i' = 0
      · exact Or.inr (Or.inr (Or.inl ⟨rfl, e2⟩))
      · have hv1 : i' < 4 := hv.1
        have hv2 : 0 < g.cap i' := by
          have h2 : 0 < cond (Nat.beq i' 0) c (g.cap i') := hv.2
          rw [cnd_ne e2] at h2; exact h2
        refine Or.inr (Or.inr (Or.inr ⟨⟨hv1, hv2⟩, fun e3 => absurd e3.1 (by decide), fun e3 => e2 e3.2, cnd_ne e2 _ _, ?_⟩))
        match i', hv1, e2 with
        | 0, _, e2 => first | exact absurd rfl e2 | rfl
        | 1, _, e2 => first | exact absurd rfl e2 | rfl
        | 2, _, e2 => first | exact absurd rfl e2 | rfl
        | 3, _, e2 => first | exact absurd rfl e2 | rfl
    | 4, hv => exact Or.inr (Or.inr (Or.inr ⟨hv, fun e2 => absurd e2.1 (by decide), fun e2 => absurd e2.1 (by decide), rfl, rfl⟩))
    | 5, hv => exact Or.inr (Or.inr (Or.inr ⟨hv, fun e2 => absurd e2.1 (by decide), fun e2 => absurd e2.1 (by decide), rfl, rfl⟩))
    | 6, hv =>
      by_cases e2 : i' = S.np
      · exact Or.inl ⟨rfl, e2⟩
      · have hv1 : i' < S.np := by
          have h2 : i' < S.np + 1 := hv
          omega
        refine Or.inr (Or.inr (Or.inr ⟨hv1, fun e3 => absurd e3.1 (by decide), fun e3 => absurd e3.1 (by decide), cnd_ne e2 _ _, ?_⟩))
        show (Sum.inr (2, [.int (nI i'), va_rf (((addP S b9).bo i').map ((gAdd g 6 0 S.np a e c).ad 6)), .int ((addP S b9).tr i'), .int ((addP S b9).po i'), .int ((addP S b9).aw i'), va_rf (((addP S b9).si i').map ((gAdd g 6 0 S.np a e c).ad 6))]) : va_E) = _
        rw [show (addP S b9).bo i' = S.bo i' from va_up_ne _ _ e2, show (addP S b9).tr i' = S.tr i' from va_up_ne _ _ e2, show (addP S b9).po i' = S.po i' from va_up_ne _ _ e2, show (addP S b9).aw i' = S.aw i' from va_up_ne _ _ e2, show (addP S b9).si i' = S.si i' from va_up_ne _ _ e2, show (S.bo i').map ((gAdd g 6 0 S.np a e c).ad 6) = (S.bo i').map (g.ad 6) from map_ne (fun j hj => Nat.ne_of_lt (hI.bo hv1 hj)), show (S.si i').map ((gAdd g 6 0 S.np a e c).ad 6) = (S.si i').map (g.ad 6) from map_ne (fun j hj => Nat.ne_of_lt (hI.si hv1 hj))]
        rfl
    | 7, hv =>
      have hv1 : i' < S.nt := hv
      refine Or.inr (Or.inr (Or.inr ⟨hv, fun e3 => absurd e3.1 (by decide), fun e3 => absurd e3.1 (by decide), rfl, ?_⟩))
      show (Sum.inr (5, [.int (nI i'), .ref ((gAdd g 6 0 S.np a e c).ad 6 (S.tp i')), .int (nI (S.tl i')), .int (S.tf i'), .int (S.tt i'), .int (S.te i')]) : va_E) = _
      rw [show (gAdd g 6 0 S.np a e c).ad 6 (S.tp i') = g.ad 6 (S.tp i') from cnd_ne (Nat.ne_of_lt (hI.tp hv1)) _ _]
      rfl
    | 8, hv =>
      have hv1 : i' < S.nc := hv
      refine Or.inr (Or.inr (Or.inr ⟨hv, fun e3 => absurd e3.1 (by decide), fun e3 => absurd e3.1 (by decide), rfl, ?_⟩))
      show (Sum.inr (1, [.int (nI i'), .ref ((gAdd g 6 0 S.np a e c).ad 6 (S.cp i')), .int (nI (S.ck i')), .int (nI (S.cl i')), .int (S.ca i'), .int (S.cx i'), .int (nI (S.cd i')), va_rf ((S.ct i').map ((gAdd g 6 0 S.np a e c).ad 7)), .int (S.cs i'), va_rf ((S.cr i').map ((gAdd g 6 0 S.np a e c).ad 9)), .int (nI (S.ce i')), .int (S.cm i'), .int (S.sp i')]) : va_E) = _
      rw [show (gAdd g 6 0 S.np a e c).ad 6 (S.cp i') = g.ad 6 (S.cp i') from cnd_ne (Nat.ne_of_lt (hI.cp hv1)) _ _]
      rfl
    | 9, hv =>
      have hv1 : i' < S.nr := hv
      refine Or.inr (Or.inr (Or.inr ⟨hv, fun e3 => absurd e3.1 (by decide), fun e3 => absurd e3.1 (by decide), rfl, ?_⟩))
      rfl
    | _ + 10, hv => exact hv.elim
  · have h2 := h.2.1
    match j, hj with
    | 0, _ => exact hc
    | 1, _ => exact h2 1 (by decide)
    | 2, _ => exact h2 2 (by decide)
    | 3, _ => exact h2 3 (by decide)
def addT (S : St) (p9 l9 : Nat) (f9 t9 x9 : Int32) : St := (((((S.s_tp (va_up S.tp S.nt p9)).s_tl (va_up S.tl S.nt l9)).s_tf (va_up S.tf S.nt f9)).s_tt (va_up S.tt S.nt t9)).s_te (va_up S.te S.nt x9)).s_nt (S.nt + 1)
def addC (S : St) (p9 k9 l9 : Nat) (a9 x9 : Int32) (t9 : Option Nat) : St := ((((((((((((S.s_cp (va_up S.cp S.nc p9)).s_ck (va_up S.ck S.nc k9)).s_cl (va_up S.cl S.nc l9)).s_ca (va_up S.ca S.nc a9)).s_cx (va_up S.cx S.nc x9)).s_cd (va_up S.cd S.nc S.td)).s_ct (va_up S.ct S.nc t9)).s_cs (va_up S.cs S.nc 0)).s_cr (va_up S.cr S.nc none)).s_ce (va_up S.ce S.nc 0)).s_cm (va_up S.cm S.nc 0)).s_sp (va_up S.sp S.nc 0)).s_nc (S.nc + 1)
theorem RA.appC {E : EE} {S : St} {g : Gh} {H H1 : Heap} {a e c : Nat} {p9 k9 l9 : Nat} {a9 x9 : Int32} {t9 : Option Nat} (h : RA E S g H) (hI : Inv S) (ha : ∀ k' i', valA S g k' i' → ¬ g.ad k' i' = a) (he : (e = g.ad 3 2 ∧ 0 < g.cap 2) ∨ ∀ k' i', valA S g k' i' → ¬ g.ad k' i' = e) (hae : ¬ a = e) (haN : eN E ≤ a) (heN : eN E ≤ e) (hc : S.nc + 1 ≤ c ∧ c < 2 ^ 20) (hq : ∀ q : Nat, q < H.size → ¬ q = g.ad 2 2 → ¬ (q = g.ad 3 2 ∧ 0 < g.cap 2) → H1[q]? = H[q]?) (hl : va_at E.1 vwCl (g.ad 2 2, .inr (0, [.int (g.md 2 + 1), .ref e, .int (nI (S.nc + 1))])) H1) (har : va_at E.1 vwCl (e, .inl (eO E, c, .inr (.inr (.inr (.inr (LF (S.nc + 1) (va_up (g.ad 8) S.nc a))))))) H1) (ho : va_at E.1 vwCl (a, .inr (1, [.int (nI S.nc), .ref (g.ad 6 p9), .int (nI k9), .int (nI l9), .int a9, .int x9, .int (nI S.td), va_rf (t9.map (g.ad 7)), .int 0, va_rf (none.map (g.ad 9)), .int (nI 0), .int 0, .int 0])) H1) (hp : p9 < S.np) (ht : ∀ j, t9 = some j → j < S.nt) : RA E (addC S p9 k9 l9 a9 x9 t9) (gAdd g 8 2 S.nc a e c) H1 := by
  have e3 : LF (S.nc + 1) (va_up (g.ad 8) S.nc a) = (fun j => if j < S.nc + 1 then some ((gAdd g 8 2 S.nc a e c).ad 8 j) else none) := by
    funext j
    unfold LF
    by_cases h2 : j = S.nc
    · subst h2
      rw [va_up_self, show (gAdd g 8 2 S.nc a e c).ad 8 S.nc = a from cnd_self _ _ _]
    · rw [va_up_ne _ _ h2, show (gAdd g 8 2 S.nc a e c).ad 8 j = g.ad 8 j from cnd_ne h2 _ _]
  rw [e3] at har
  have ho2 : va_at E.1 vwCl (a, cellA E (addC S p9 k9 l9 a9 x9 t9) (gAdd g 8 2 S.nc a e c) 8 S.nc) H1 := by
    show va_at E.1 vwCl (a, .inr (1, [.int (nI S.nc), .ref ((gAdd g 8 2 S.nc a e c).ad 6 ((addC S p9 k9 l9 a9 x9 t9).cp S.nc)), .int (nI ((addC S p9 k9 l9 a9 x9 t9).ck S.nc)), .int (nI ((addC S p9 k9 l9 a9 x9 t9).cl S.nc)), .int ((addC S p9 k9 l9 a9 x9 t9).ca S.nc), .int ((addC S p9 k9 l9 a9 x9 t9).cx S.nc), .int (nI ((addC S p9 k9 l9 a9 x9 t9).cd S.nc)), va_rf (((addC S p9 k9 l9 a9 x9 t9).ct S.nc).map ((gAdd g 8 2 S.nc a e c).ad 7)), .int ((addC S p9 k9 l9 a9 x9 t9).cs S.nc), va_rf (((addC S p9 k9 l9 a9 x9 t9).cr S.nc).map ((gAdd g 8 2 S.nc a e c).ad 9)), .int (nI ((addC S p9 k9 l9 a9 x9 t9).ce S.nc)), .int ((addC S p9 k9 l9 a9 x9 t9).cm S.nc), .int ((addC S p9 k9 l9 a9 x9 t9).sp S.nc)])) H1
    rw [show (addC S p9 k9 l9 a9 x9 t9).cp S.nc = p9 from va_up_self _ _ _, show (addC S p9 k9 l9 a9 x9 t9).ck S.nc = k9 from va_up_self _ _ _, show (addC S p9 k9 l9 a9 x9 t9).cl S.nc = l9 from va_up_self _ _ _, show (addC S p9 k9 l9 a9 x9 t9).ca S.nc = a9 from va_up_self _ _ _, show (addC S p9 k9 l9 a9 x9 t9).cx S.nc = x9 from va_up_self _ _ _, show (addC S p9 k9 l9 a9 x9 t9).cd S.nc = S.td from va_up_self _ _ _, show (addC S p9 k9 l9 a9 x9 t9).ct S.nc = t9 from va_up_self _ _ _, show (addC S p9 k9 l9 a9 x9 t9).cs S.nc = 0 from va_up_self _ _ _, show (addC S p9 k9 l9 a9 x9 t9).cr S.nc = none from va_up_self _ _ _, show (addC S p9 k9 l9 a9 x9 t9).ce S.nc = 0 from va_up_self _ _ _, show (addC S p9 k9 l9 a9 x9 t9).cm S.nc = 0 from va_up_self _ _ _, show (addC S p9 k9 l9 a9 x9 t9).sp S.nc = 0 from va_up_self _ _ _]
    exact ho
  refine h.app ⟨by decide, by decide, by decide⟩ (by decide) ha he hae haN heN (Nat.lt_of_lt_of_le (Nat.succ_pos _) hc.1) hq hl har ho2 (fun k' i' hv => ?_) (fun j hj => ?_)
  · match k', hv with
    | 0, hv => exact hv.elim
    | 1, hv => exact Or.inr (Or.inr (Or.inr ⟨hv, fun e2 => absurd e2.1 (by decide), fun e2 => absurd e2.1 (by decide), rfl, rfl⟩))
    | 2, hv =>
      by_cases e2 : i' = 2
      · exact Or.inr (Or.inl ⟨rfl, e2⟩)
      · refine Or.inr (Or.inr (Or.inr ⟨hv, fun e3 => e2 e3.2, fun e3 => absurd e3.1 (by decide), rfl, ?_⟩))
        have hv : i' < 4 := hv
        match i', hv, e2 with
        | 0, _, e2 => first | exact absurd rfl e2 | rfl
        | 1, _, e2 => first | exact absurd rfl e2 | rfl
        | 2, _, e2 => first | exact absurd rfl e2 | rfl
        | 3, _, e2 => first | exact absurd rfl e2 | rfl
    | 3, hv =>
      by_cases e2 : i' = 2
      · exact Or.inr (Or.inr (Or.inl ⟨rfl, e2⟩))
      · have hv1 : i' < 4 := hv.1
        have hv2 : 0 < g.cap i' := by
          have h2 : 0 < cond (Nat.beq i' 2) c (g.cap i') := hv.2
          rw [cnd_ne e2] at h2; exact h2
        refine Or.inr (Or.inr (Or.inr ⟨⟨hv1, hv2⟩, fun e3 => absurd e3.1 (by decide), fun e3 => e2 e3.2, cnd_ne e2 _ _, ?_⟩))
        match i', hv1, e2 with
        | 0, _, e2 => first | exact absurd rfl e2 | rfl
        | 1, _, e2 => first | exact absurd rfl e2 | rfl
        | 2, _, e2 => first | exact absurd rfl e2 | rfl
        | 3, _, e2 => first | exact absurd rfl e2 | rfl
    | 4, hv => exact Or.inr (Or.inr (Or.inr ⟨hv, fun e2 => absurd e2.1 (by decide), fun e2 => absurd e2.1 (by decide), rfl, rfl⟩))
    | 5, hv => exact Or.inr (Or.inr (Or.inr ⟨hv, fun e2 => absurd e2.1 (by decide), fun e2 => absurd e2.1 (by decide), rfl, rfl⟩))
    | 6, hv =>
      have hv1 : i' < S.np := hv
      refine Or.inr (Or.inr (Or.inr ⟨hv, fun e3 => absurd e3.1 (by decide), fun e3 => absurd e3.1 (by decide), rfl, ?_⟩))
      rfl
    | 7, hv =>
      have hv1 : i' < S.nt := hv
      refine Or.inr (Or.inr (Or.inr ⟨hv, fun e3 => absurd e3.1 (by decide), fun e3 => absurd e3.1 (by decide), rfl, ?_⟩))
      rfl
    | 8, hv =>
      by_cases e2 : i' = S.nc
      · exact Or.inl ⟨rfl, e2⟩
      · have hv1 : i' < S.nc := by
          have h2 : i' < S.nc + 1 := hv
          omega
        refine Or.inr (Or.inr (Or.inr ⟨hv1, fun e3 => absurd e3.1 (by decide), fun e3 => absurd e3.1 (by decide), cnd_ne e2 _ _, ?_⟩))
        show (Sum.inr (1, [.int (nI i'), .ref ((gAdd g 8 2 S.nc a e c).ad 6 ((addC S p9 k9 l9 a9 x9 t9).cp i')), .int (nI ((addC S p9 k9 l9 a9 x9 t9).ck i')), .int (nI ((addC S p9 k9 l9 a9 x9 t9).cl i')), .int ((addC S p9 k9 l9 a9 x9 t9).ca i'), .int ((addC S p9 k9 l9 a9 x9 t9).cx i'), .int (nI ((addC S p9 k9 l9 a9 x9 t9).cd i')), va_rf (((addC S p9 k9 l9 a9 x9 t9).ct i').map ((gAdd g 8 2 S.nc a e c).ad 7)), .int ((addC S p9 k9 l9 a9 x9 t9).cs i'), va_rf (((addC S p9 k9 l9 a9 x9 t9).cr i').map ((gAdd g 8 2 S.nc a e c).ad 9)), .int (nI ((addC S p9 k9 l9 a9 x9 t9).ce i')), .int ((addC S p9 k9 l9 a9 x9 t9).cm i'), .int ((addC S p9 k9 l9 a9 x9 t9).sp i')]) : va_E) = _
        rw [show (addC S p9 k9 l9 a9 x9 t9).cp i' = S.cp i' from va_up_ne _ _ e2, show (addC S p9 k9 l9 a9 x9 t9).ck i' = S.ck i' from va_up_ne _ _ e2, show (addC S p9 k9 l9 a9 x9 t9).cl i' = S.cl i' from va_up_ne _ _ e2, show (addC S p9 k9 l9 a9 x9 t9).ca i' = S.ca i' from va_up_ne _ _ e2, show (addC S p9 k9 l9 a9 x9 t9).cx i' = S.cx i' from va_up_ne _ _ e2, show (addC S p9 k9 l9 a9 x9 t9).cd i' = S.cd i' from va_up_ne _ _ e2, show (addC S p9 k9 l9 a9 x9 t9).ct i' = S.ct i' from va_up_ne _ _ e2, show (addC S p9 k9 l9 a9 x9 t9).cs i' = S.cs i' from va_up_ne _ _ e2, show (addC S p9 k9 l9 a9 x9 t9).cr i' = S.cr i' from va_up_ne _ _ e2, show (addC S p9 k9 l9 a9 x9 t9).ce i' = S.ce i' from va_up_ne _ _ e2, show (addC S p9 k9 l9 a9 x9 t9).cm i' = S.cm i' from va_up_ne _ _ e2, show (addC S p9 k9 l9 a9 x9 t9).sp i' = S.sp i' from va_up_ne _ _ e2]
        rfl
    | 9, hv =>
      have hv1 : i' < S.nr := hv
      refine Or.inr (Or.inr (Or.inr ⟨hv, fun e3 => absurd e3.1 (by decide), fun e3 => absurd e3.1 (by decide), rfl, ?_⟩))
      show (Sum.inr (3, [.int (nI i'), .int (S.ra i'), .int (S.rd i'), .int (S.rx i'), va_rf ((S.ro i').map ((gAdd g 8 2 S.nc a e c).ad 8))]) : va_E) = _
      rw [show (S.ro i').map ((gAdd g 8 2 S.nc a e c).ad 8) = (S.ro i').map (g.ad 8) from map_ne (fun j hj => Nat.ne_of_lt (hI.ro hv1 hj))]
      rfl
    | _ + 10, hv => exact hv.elim
  · have h2 := h.2.1
    match j, hj with
    | 0, _ => exact h2 0 (by decide)
    | 1, _ => exact h2 1 (by decide)
    | 2, _ => exact hc
    | 3, _ => exact h2 3 (by decide)
def addR (S : St) (a9 d9 x9 : Int32) : St := ((((S.s_ra (va_up S.ra S.nr a9)).s_rd (va_up S.rd S.nr d9)).s_rx (va_up S.rx S.nr x9)).s_ro (va_up S.ro S.nr none)).s_nr (S.nr + 1)
theorem RA.appR {E : EE} {S : St} {g : Gh} {H H1 : Heap} {a e c : Nat} {a9 d9 x9 : Int32} (h : RA E S g H) (hI : Inv S) (ha : ∀ k' i', valA S g k' i' → ¬ g.ad k' i' = a) (he : (e = g.ad 3 3 ∧ 0 < g.cap 3) ∨ ∀ k' i', valA S g k' i' → ¬ g.ad k' i' = e) (hae : ¬ a = e) (haN : eN E ≤ a) (heN : eN E ≤ e) (hc : S.nr + 1 ≤ c ∧ c < 2 ^ 20) (hq : ∀ q : Nat, q < H.size → ¬ q = g.ad 2 3 → ¬ (q = g.ad 3 3 ∧ 0 < g.cap 3) → H1[q]? = H[q]?) (hl : va_at E.1 vwCl (g.ad 2 3, .inr (0, [.int (g.md 3 + 1), .ref e, .int (nI (S.nr + 1))])) H1) (har : va_at E.1 vwCl (e, .inl (eO E, c, .inr (.inr (.inr (.inr (LF (S.nr + 1) (va_up (g.ad 9) S.nr a))))))) H1) (ho : va_at E.1 vwCl (a, .inr (3, [.int (nI S.nr), .int a9, .int d9, .int x9, va_rf (none.map (g.ad 8))])) H1) : RA E (addR S a9 d9 x9) (gAdd g 9 3 S.nr a e c) H1 := by
  have e3 : LF (S.nr + 1) (va_up (g.ad 9) S.nr a) = (fun j => if j < S.nr + 1 then some ((gAdd g 9 3 S.nr a e c).ad 9 j) else none) := by
    funext j
    unfold LF
    by_cases h2 : j = S.nr
    · subst h2
      rw [va_up_self, show (gAdd g 9 3 S.nr a e c).ad 9 S.nr = a from cnd_self _ _ _]
    · rw [va_up_ne _ _ h2, show (gAdd g 9 3 S.nr a e c).ad 9 j = g.ad 9 j from cnd_ne h2 _ _]
  rw [e3] at har
  have ho2 : va_at E.1 vwCl (a, cellA E (addR S a9 d9 x9) (gAdd g 9 3 S.nr a e c) 9 S.nr) H1 := by
    show va_at E.1 vwCl (a, .inr (3, [.int (nI S.nr), .int ((addR S a9 d9 x9).ra S.nr), .int ((addR S a9 d9 x9).rd S.nr), .int ((addR S a9 d9 x9).rx S.nr), va_rf (((addR S a9 d9 x9).ro S.nr).map ((gAdd g 9 3 S.nr a e c).ad 8))])) H1
    rw [show (addR S a9 d9 x9).ra S.nr = a9 from va_up_self _ _ _, show (addR S a9 d9 x9).rd S.nr = d9 from va_up_self _ _ _, show (addR S a9 d9 x9).rx S.nr = x9 from va_up_self _ _ _, show (addR S a9 d9 x9).ro S.nr = none from va_up_self _ _ _]
    exact ho
  refine h.app ⟨by decide, by decide, by decide⟩ (by decide) ha he hae haN heN (Nat.lt_of_lt_of_le (Nat.succ_pos _) hc.1) hq hl har ho2 (fun k' i' hv => ?_) (fun j hj => ?_)
  · match k', hv with
    | 0, hv => exact hv.elim
    | 1, hv => exact Or.inr (Or.inr (Or.inr ⟨hv, fun e2 => absurd e2.1 (by decide), fun e2 => absurd e2.1 (by decide), rfl, rfl⟩))
    | 2, hv =>
      by_cases e2 : i' = 3
      · exact Or.inr (Or.inl ⟨rfl, e2⟩)
      · refine Or.inr (Or.inr (Or.inr ⟨hv, fun e3 => e2 e3.2, fun e3 => absurd e3.1 (by decide), rfl, ?_⟩))
        have hv : i' < 4 := hv
        match i', hv, e2 with
        | 0, _, e2 => first | exact absurd rfl e2 | rfl
        | 1, _, e2 => first | exact absurd rfl e2 | rfl
        | 2, _, e2 => first | exact absurd rfl e2 | rfl
        | 3, _, e2 => first | exact absurd rfl e2 | rfl
    | 3, hv =>
      by_cases e2 : i' = 3
      · exact Or.inr (Or.inr (Or.inl ⟨rfl, e2⟩))
      · have hv1 : i' < 4 := hv.1
        have hv2 : 0 < g.cap i' := by
          have h2 : 0 < cond (Nat.beq i' 3) c (g.cap i') := hv.2
          rw [cnd_ne e2] at h2; exact h2
        refine Or.inr (Or.inr (Or.inr ⟨⟨hv1, hv2⟩, fun e3 => absurd e3.1 (by decide), fun e3 => e2 e3.2, cnd_ne e2 _ _, ?_⟩))
        match i', hv1, e2 with
        | 0, _, e2 => first | exact absurd rfl e2 | rfl
        | 1, _, e2 => first | exact absurd rfl e2 | rfl
        | 2, _, e2 => first | exact absurd rfl e2 | rfl
        | 3, _, e2 => first | exact absurd rfl e2 | rfl
    | 4, hv => exact Or.inr (Or.inr (Or.inr ⟨hv, fun e2 => absurd e2.1 (by decide), fun e2 => absurd e2.1 (by decide), rfl, rfl⟩))
    | 5, hv => exact Or.inr (Or.inr (Or.inr ⟨hv, fun e2 => absurd e2.1 (by decide), fun e2 => absurd e2.1 (by decide), rfl, rfl⟩))
    | 6, hv =>
      have hv1 : i' < S.np := hv
      refine Or.inr (Or.inr (Or.inr ⟨hv, fun e3 => absurd e3.1 (by decide), fun e3 => absurd e3.1 (by decide), rfl, ?_⟩))
      rfl
    | 7, hv =>
      have hv1 : i' < S.nt := hv
      refine Or.inr (Or.inr (Or.inr ⟨hv, fun e3 => absurd e3.1 (by decide), fun e3 => absurd e3.1 (by decide), rfl, ?_⟩))
      rfl
    | 8, hv =>
      have hv1 : i' < S.nc := hv
      refine Or.inr (Or.inr (Or.inr ⟨hv, fun e3 => absurd e3.1 (by decide), fun e3 => absurd e3.1 (by decide), rfl, ?_⟩))
      show (Sum.inr (1, [.int (nI i'), .ref ((gAdd g 9 3 S.nr a e c).ad 6 (S.cp i')), .int (nI (S.ck i')), .int (nI (S.cl i')), .int (S.ca i'), .int (S.cx i'), .int (nI (S.cd i')), va_rf ((S.ct i').map ((gAdd g 9 3 S.nr a e c).ad 7)), .int (S.cs i'), va_rf ((S.cr i').map ((gAdd g 9 3 S.nr a e c).ad 9)), .int (nI (S.ce i')), .int (S.cm i'), .int (S.sp i')]) : va_E) = _
      rw [show (S.cr i').map ((gAdd g 9 3 S.nr a e c).ad 9) = (S.cr i').map (g.ad 9) from map_ne (fun j hj => Nat.ne_of_lt (hI.cr hv1 hj))]
      rfl
    | 9, hv =>
      by_cases e2 : i' = S.nr
      · exact Or.inl ⟨rfl, e2⟩
      · have hv1 : i' < S.nr := by
          have h2 : i' < S.nr + 1 := hv
          omega
        refine Or.inr (Or.inr (Or.inr ⟨hv1, fun e3 => absurd e3.1 (by decide), fun e3 => absurd e3.1 (by decide), cnd_ne e2 _ _, ?_⟩))
        show (Sum.inr (3, [.int (nI i'), .int ((addR S a9 d9 x9).ra i'), .int ((addR S a9 d9 x9).rd i'), .int ((addR S a9 d9 x9).rx i'), va_rf (((addR S a9 d9 x9).ro i').map ((gAdd g 9 3 S.nr a e c).ad 8))]) : va_E) = _
        rw [show (addR S a9 d9 x9).ra i' = S.ra i' from va_up_ne _ _ e2, show (addR S a9 d9 x9).rd i' = S.rd i' from va_up_ne _ _ e2, show (addR S a9 d9 x9).rx i' = S.rx i' from va_up_ne _ _ e2, show (addR S a9 d9 x9).ro i' = S.ro i' from va_up_ne _ _ e2]
        rfl
    | _ + 10, hv => exact hv.elim
  · have h2 := h.2.1
    match j, hj with
    | 0, _ => exact h2 0 (by decide)
    | 1, _ => exact h2 1 (by decide)
    | 2, _ => exact h2 2 (by decide)
    | 3, _ => exact hc

