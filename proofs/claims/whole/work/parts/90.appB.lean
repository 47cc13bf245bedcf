/-! the reference's picture with one thing more in a list (and an array of its own) -/
def gPut (g : Gh) (k n a : Nat) : Gh := (fun k' j => cond (Nat.beq k' k) (cond (Nat.beq j n) a (g.ad k' j)) (g.ad k' j), fun q => if q = a then (k, n) else g.kd q, g.cap, g.md)
def gA2 (g : Gh) (k i n a e c k2 a2 : Nat) : Gh := gAdd (gPut g k2 n a2) k i n a e c
theorem RB.app {E : EE} {S S' : St} {th : Int32} {g : Gh} {H H1 : Heap} {k i n a e c k2 a2 : Nat} (h : RB E S th g H) (hki : ¬ k = 2 ∧ ¬ k = 3 ∧ ¬ k = 0) (hk2 : ¬ k2 = 2 ∧ ¬ k2 = 3 ∧ ¬ k2 = 0 ∧ ¬ k2 = k) (hi : i < 4) (ha : ∀ k' i', valB S g k' i' → ¬ g.ad k' i' = a) (ha2 : ∀ k' i', valB S g k' i' → ¬ g.ad k' i' = a2) (he : (e = g.ad 3 i ∧ 0 < g.cap i) ∨ ∀ k' i', valB S g k' i' → ¬ g.ad k' i' = e) (hae : ¬ a = e) (haN : eN E ≤ a) (heN : eN E ≤ e) (haN2 : eN E ≤ a2) (hc0 : 0 < c)
    (hq : ∀ q : Nat, q < H.size → ¬ q = g.ad 2 i → ¬ (q = g.ad 3 i ∧ 0 < g.cap i) → H1[q]? = H[q]?)
    (hl : va_at E.1 vwCl (g.ad 2 i, cellB E S' th (gA2 g k i n a e c k2 a2) 2 i) H1) (har : va_at E.1 vwCl (e, cellB E S' th (gA2 g k i n a e c k2 a2) 3 i) H1) (ho : va_at E.1 vwCl (a, cellB E S' th (gA2 g k i n a e c k2 a2) k n) H1)
    (ho2 : valB S' (gA2 g k i n a e c k2 a2) k2 n → ¬ a2 = a ∧ ¬ a2 = e ∧ va_at E.1 vwCl (a2, cellB E S' th (gA2 g k i n a e c k2 a2) k2 n) H1)
    (hval : ∀ k' i', valB S' (gA2 g k i n a e c k2 a2) k' i' → (k' = k ∧ i' = n) ∨ (k' = 2 ∧ i' = i) ∨ (k' = 3 ∧ i' = i) ∨ (k' = k2 ∧ i' = n) ∨ (valB S g k' i' ∧ ¬ (k' = 2 ∧ i' = i) ∧ ¬ (k' = 3 ∧ i' = i) ∧ (gA2 g k i n a e c k2 a2).ad k' i' = g.ad k' i' ∧ cellB E S' th (gA2 g k i n a e c k2 a2) k' i' = cellB E S th g k' i'))
    (hcap : capOk S' (gA2 g k i n a e c k2 a2)) : RB E S' th (gA2 g k i n a e c k2 a2) H1 := by
  have hne : ∀ k' i', valB S g k' i' → ¬ (k' = 3 ∧ i' = i) → ¬ g.ad k' i' = e := by
    intro k' i' hv hn e2
    rcases he with ⟨h1, h2⟩ | h1
    · have q1 := (h.1 k' i' hv).1
      rw [e2, h1, (h.1 3 i ⟨hi, h2⟩).1] at q1
      exact hn ⟨(Prod.mk.inj q1).1.symm, (Prod.mk.inj q1).2.symm⟩
    · exact h1 k' i' hv e2
  have hkd : ∀ k' i', valB S g k' i' → ¬ (k' = 3 ∧ i' = i) → (gA2 g k i n a e c k2 a2).kd (g.ad k' i') = (k', i') := by
    intro k' i' hv hn
    show (if g.ad k' i' = a then (k, n) else if g.ad k' i' = e then (3, i) else if g.ad k' i' = a2 then (k2, n) else g.kd (g.ad k' i')) = _
    rw [if_neg (ha k' i' hv), if_neg (hne k' i' hv hn), if_neg (ha2 k' i' hv)]
    exact (h.1 k' i' hv).1
  have hkp : ∀ k' i', valB S g k' i' → ¬ (k' = 2 ∧ i' = i) → ¬ (k' = 3 ∧ i' = i) → H1[g.ad k' i']? = H[g.ad k' i']? := by
    intro k' i' hv h2 h3
    have q1 := (h.1 k' i' hv).1
    refine hq _ (h.1 k' i' hv).2.lt (fun e2 => h2 ?_) (fun e2 => h3 ?_)
    · rw [e2, (h.1 2 i hi).1] at q1
      exact ⟨(Prod.mk.inj q1).1.symm, (Prod.mk.inj q1).2.symm⟩
    · rw [e2.1, (h.1 3 i ⟨hi, e2.2⟩).1] at q1
      exact ⟨(Prod.mk.inj q1).1.symm, (Prod.mk.inj q1).2.symm⟩
  have hadk : (gA2 g k i n a e c k2 a2).ad k n = a := by
    show cond (Nat.beq k k) (cond (Nat.beq n n) a _) _ = a
    rw [cnd_self, cnd_self]
  have had2 : (gA2 g k i n a e c k2 a2).ad 2 i = g.ad 2 i := by
    show cond (Nat.beq 2 k) _ (cond (Nat.beq 2 3) _ (cond (Nat.beq 2 k2) _ (g.ad 2 i))) = _
    rw [cnd_ne (fun e2 => hki.1 e2.symm), cnd_ne (fun e2 => hk2.1 e2.symm)]
    rfl
  have had3 : (gA2 g k i n a e c k2 a2).ad 3 i = e := by
    show cond (Nat.beq 3 k) _ (cond (Nat.beq 3 3) (cond (Nat.beq i i) e _) _) = _
    rw [cnd_ne (fun e2 => hki.2.1 e2.symm), cnd_self, cnd_self]
  have hadx : (gA2 g k i n a e c k2 a2).ad k2 n = a2 := by
    show cond (Nat.beq k2 k) _ (cond (Nat.beq k2 3) _ (cond (Nat.beq k2 k2) (cond (Nat.beq n n) a2 _) _)) = _
    rw [cnd_ne hk2.2.2.2, cnd_ne hk2.2.1, cnd_self, cnd_self]
  refine ⟨fun k' i' hv => ?_, hcap, ⟨fun q hw => ?_, fun j hj hc => ?_⟩, h.2.2.2.kept (fun q hq1 => ?_)⟩
  · rcases hval k' i' hv with ⟨rfl, rfl⟩ | ⟨rfl, rfl⟩ | ⟨rfl, rfl⟩ | ⟨rfl, rfl⟩ | ⟨h1, h2, h3, h4, h5⟩
    · rw [hadk]
      exact ⟨if_pos rfl, ho⟩
    · rw [had2]
      exact ⟨hkd 2 i' hi (fun e2 => absurd e2.1 (by decide)), hl⟩
    · rw [had3]
      refine ⟨?_, har⟩
      show (if e = a then (k, n) else if e = e then (3, i') else _) = _
      rw [if_neg (fun e2 => hae e2.symm), if_pos rfl]
    · obtain ⟨q1, q2, q3⟩ := ho2 hv
      rw [hadx]
      refine ⟨?_, q3⟩
      show (if a2 = a then (k, i') else if a2 = e then (3, i) else if a2 = a2 then (k', i') else g.kd a2) = _
      rw [if_neg q1, if_neg q2, if_pos rfl]
    · rw [h4, h5]
      exact ⟨hkd k' i' h1 h3, (h.1 k' i' h1).2.kept (hkp k' i' h1 h2 h3)⟩
  · have hw : ((if q = a then (k, n) else if q = e then (3, i) else if q = a2 then (k2, n) else g.kd q) : Nat × Nat).1 ≠ 0 := hw
    by_cases h1 : q = a
    · rw [h1]; exact haN
    · by_cases h2 : q = e
      · rw [h2]; exact heN
      · by_cases h3 : q = a2
        · rw [h3]; exact haN2
        · rw [if_neg h1, if_neg h2, if_neg h3] at hw
          exact h.2.2.1.1 q hw
  · have hc : cond (Nat.beq j i) c (g.cap j) = 0 := hc
    by_cases h1 : j = i
    · subst h1
      rw [cnd_self] at hc
      omega
    · rw [cnd_ne h1] at hc
      show cond (Nat.beq 3 k) _ (cond (Nat.beq 3 3) (cond (Nat.beq j i) e (cond (Nat.beq 3 k2) _ (g.ad 3 j))) _) = _
      rw [cnd_ne (fun e2 => hki.2.1 e2.symm), cnd_self, cnd_ne h1, cnd_ne (fun e2 => hk2.2.1 e2.symm)]
      exact h.2.2.1.2 j hj hc
  · have h2 := h.2.2.1.1 _ (h.ow (k := 2) (i := i) hi)
    refine hq q ?_ (fun e2 => by omega) (fun e2 => ?_)
    · exact Nat.lt_trans (Nat.lt_of_lt_of_le hq1 h2) (h.1 2 i hi).2.lt
    · have h3 := h.2.2.1.1 _ (h.ow (k := 3) (i := i) ⟨hi, e2.2⟩)
      omega
theorem gX_add2 {g : Gh} {k i n a e c k2 a2 sz sz1 : Nat} (hk : ¬ k = 1) (hk2 : ¬ k2 = 1) (ha : sz ≤ a ∧ a < sz1) (he : (e = g.ad 3 i ∧ ow g (g.ad 3 i)) ∨ (sz ≤ e ∧ e < sz1)) (ha2 : sz ≤ a2 ∧ a2 < sz1) : gX g (gA2 g k i n a e c k2 a2) sz sz1 := by
  refine ⟨fun q hw => ?_, ?_⟩
  · have hw : ((if q = a then (k, n) else if q = e then (3, i) else if q = a2 then (k2, n) else g.kd q) : Nat × Nat).1 ≠ 0 := hw
    by_cases h1 : q = a
    · exact Or.inr (h1 ▸ ha)
    · by_cases h2 : q = e
      · rcases he with ⟨h3, h4⟩ | h3
        · exact Or.inl (by rw [h2, h3]; exact h4)
        · exact Or.inr (h2 ▸ h3)
      · by_cases h3 : q = a2
        · exact Or.inr (h3 ▸ ha2)
        · rw [if_neg h1, if_neg h2, if_neg h3] at hw
          exact Or.inl hw
  · show cond (Nat.beq 1 k) _ (cond (Nat.beq 1 3) _ (cond (Nat.beq 1 k2) _ (g.ad 1 0))) = _
    rw [cnd_ne (fun e2 => hk e2.symm), cnd_ne (fun e2 => hk2 e2.symm)]; rfl
theorem gA2_new {g : Gh} {k i n a e c k2 a2 : Nat} : (gA2 g k i n a e c k2 a2).ad k n = a := by
  show cond (Nat.beq k k) (cond (Nat.beq n n) a _) _ = a
  rw [cnd_self, cnd_self]
theorem RB.lstA {E : EE} {S : St} {th : Int32} {g : Gh} {H : Heap} (h : RB E S th g H) {i : Nat} (hi : i < 4) : (g.cap i = 0 ∧ g.ad 3 i = eE E) ∨ (0 < g.cap i ∧ va_at E.1 vwCl (g.ad 3 i, .inl (eO E, g.cap i, .inr (.inr (.inr (.inr (LF (S.cnt i) (g.ad (6 + i)))))))) H) := by
  rcases Nat.eq_zero_or_pos (g.cap i) with h0 | h0
  · exact Or.inl ⟨h0, h.2.2.1.2 i hi h0⟩
  · exact Or.inr ⟨h0, h.le hi h0⟩
theorem RB.ne23 {E : EE} {S : St} {th : Int32} {g : Gh} {H : Heap} (h : RB E S th g H) {i : Nat} (hi : i < 4) : ¬ g.ad 2 i = g.ad 3 i := by
  intro e
  rcases Nat.eq_zero_or_pos (g.cap i) with h0 | h0
  · have h1 := h.2.2.1.1 _ (h.ow (k := 2) (i := i) hi)
    have h2 := h.2.2.1.2 i hi h0
    have h3 := h.2.2.2.2.1
    omega
  · have h1 := (h.1 2 i hi).1
    rw [e, (h.1 3 i ⟨hi, h0⟩).1] at h1
    exact absurd (Prod.mk.inj h1).1 (by decide)
theorem RB.neK {E : EE} {S : St} {th : Int32} {g : Gh} {H : Heap} (h : RB E S th g H) {i k j : Nat} (hi : i < 4) (hv : valB S g k j) (hk : ¬ k = 2) : ¬ g.ad k j = g.ad 2 i := by
  intro e
  have h1 := (h.1 k j hv).1
  rw [e, (h.1 2 i hi).1] at h1
  exact hk (Prod.mk.inj h1).1.symm
theorem RB.a3lt {E : EE} {S : St} {th : Int32} {g : Gh} {H : Heap} (h : RB E S th g H) {i : Nat} (hi : i < 4) : g.ad 3 i < H.size := by
  rcases Nat.eq_zero_or_pos (g.cap i) with h0 | h0
  · rw [h.2.2.1.2 i hi h0]; exact Nat.lt_of_lt_of_le h.2.2.2.2.1 h.eN_le
  · exact (h.1 3 i ⟨hi, h0⟩).2.lt
theorem RB.appP {E : EE} {S : St} {th : Int32} {g : Gh} {H H1 : Heap} {a e c a2 : Nat} {b9 : Option Nat} (h : RB E S th g H) (hI : Inv S) (ha : ∀ k' i', valB S g k' i' → ¬ g.ad k' i' = a) (he : (e = g.ad 3 0 ∧ 0 < g.cap 0) ∨ ∀ k' i', valB S g k' i' → ¬ g.ad k' i' = e) (hae : ¬ a = e) (haN : eN E ≤ a) (heN : eN E ≤ e) (hc : S.np + 1 ≤ c ∧ c < 2 ^ 20) (hq : ∀ q : Nat, q < H.size → ¬ q = g.ad 2 0 → ¬ (q = g.ad 3 0 ∧ 0 < g.cap 0) → H1[q]? = H[q]?) (hl : va_at E.1 vwCl (g.ad 2 0, .inr (0, [.int (g.md 0 + 1), .ref e, .int (nI (S.np + 1))])) H1) (har : va_at E.1 vwCl (e, .inl (eO E, c, .inr (.inr (.inr (.inr (LF (S.np + 1) (va_up (g.ad 6) S.np a))))))) H1) (ho : va_at E.1 vwCl (a, .inr (9, [.int (nI S.np), va_rf (b9.map (g.ad 6)), .int 5, .int 0, .ref a2, .int (-1), .int (irI none)])) H1) (ho2 : va_at E.1 vwCl (a2, .inl (eI E, 4, .inl (fun _ => 0))) H1) (ha2 : ∀ k' i', valB S g k' i' → ¬ g.ad k' i' = a2) (haN2 : eN E ≤ a2) (h2a : ¬ a2 = a) (h2e : ¬ a2 = e) (hb : ∀ j, b9 = some j → j < S.np) (hL : ∀ j, S.np * 4 ≤ j → S.tb 0 j = 0) : RB E (addP S b9) th (gA2 g 6 0 S.np a e c 13 a2) H1 := by
  have e3 : LF (S.np + 1) (va_up (g.ad 6) S.np a) = (fun j => if j < S.np + 1 then some ((gA2 g 6 0 S.np a e c 13 a2).ad 6 j) else none) := by
    funext j
    unfold LF
    by_cases h2 : j = S.np
    · subst h2
      rw [va_up_self, show (gA2 g 6 0 S.np a e c 13 a2).ad 6 S.np = a from cnd_self _ _ _]
    · rw [va_up_ne _ _ h2, show (gA2 g 6 0 S.np a e c 13 a2).ad 6 j = g.ad 6 j from cnd_ne h2 _ _]
  rw [e3] at har
  have hoc : va_at E.1 vwCl (a, cellB E (addP S b9) th (gA2 g 6 0 S.np a e c 13 a2) 6 S.np) H1 := by
    show va_at E.1 vwCl (a, .inr (9, [.int (nI S.np), va_rf (((addP S b9).bo S.np).map ((gA2 g 6 0 S.np a e c 13 a2).ad 6)), .int ((addP S b9).tr S.np), .int ((addP S b9).po S.np), .ref ((gA2 g 6 0 S.np a e c 13 a2).ad 13 S.np), .int ((addP S b9).aw S.np), .int (irI ((addP S b9).si S.np))])) H1
    rw [show (addP S b9).bo S.np = b9 from va_up_self _ _ _, show (addP S b9).tr S.np = 5 from va_up_self _ _ _, show (addP S b9).po S.np = 0 from va_up_self _ _ _, show (addP S b9).aw S.np = (-1) from va_up_self _ _ _, show (addP S b9).si S.np = none from va_up_self _ _ _, show b9.map ((gA2 g 6 0 S.np a e c 13 a2).ad 6) = b9.map (g.ad 6) from map_ne (fun j hj => Nat.ne_of_lt (hb j hj)), show (gA2 g 6 0 S.np a e c 13 a2).ad 13 S.np = a2 from cnd_self _ _ _]
    exact ho
  have hax : (Sum.inl (eI E, 4, .inl (fun _ => (0 : Int32))) : va_E) = cellB E (addP S b9) th (gA2 g 6 0 S.np a e c 13 a2) 13 S.np := sum_arr (by
    funext q
    show 0 = lmB S S.np q
    unfold lmB
    by_cases h4 : q < 4
    · rw [if_pos h4, hL _ (by omega)]
    · rw [if_neg h4])
  refine h.app ⟨by decide, by decide, by decide⟩ ⟨by decide, by decide, by decide, by decide⟩ (by decide) ha ha2 he hae haN heN haN2 (Nat.lt_of_lt_of_le (Nat.succ_pos _) hc.1) hq hl har hoc (fun _ => ⟨h2a, h2e, by rw [← hax]; exact ho2⟩) (fun k' i' hv => ?_) (fun j hj => ?_)
  · match k', hv with
    | 0, hv => exact hv.elim
    | 1, hv => exact Or.inr (Or.inr (Or.inr (Or.inr ⟨hv, fun e2 => absurd e2.1 (by decide), fun e2 => absurd e2.1 (by decide), rfl, rfl⟩)))
    | 2, hv =>
      by_cases e2 : i' = 0
      · exact Or.inr (Or.inl ⟨rfl, e2⟩)
      · refine Or.inr (Or.inr (Or.inr (Or.inr ⟨hv, fun e3 => e2 e3.2, fun e3 => absurd e3.1 (by decide), rfl, ?_⟩)))
        have hv : i' < 4 := hv
        match i', hv, e2 with
        | 0, _, e2 => first | exact absurd rfl e2 | rfl
        | 1, _, e2 => first | exact absurd rfl e2 | rfl
        | 2, _, e2 => first | exact absurd rfl e2 | rfl
        | 3, _, e2 => first | exact absurd rfl e2 | rfl
    | 3, hv =>
      by_cases e2 : i' = 0
      · exact Or.inr (Or.inr (Or.inl ⟨rfl, e2⟩))
      · have hv1 : i' < 4 := hv.1
        have hv2 : 0 < g.cap i' := by
          have h2 : 0 < cond (Nat.beq i' 0) c (g.cap i') := hv.2
          rw [cnd_ne e2] at h2; exact h2
        refine Or.inr (Or.inr (Or.inr (Or.inr ⟨⟨hv1, hv2⟩, fun e3 => absurd e3.1 (by decide), fun e3 => e2 e3.2, cnd_ne e2 _ _, ?_⟩)))
        match i', hv1, e2 with
        | 0, _, e2 => first | exact absurd rfl e2 | rfl
        | 1, _, e2 => first | exact absurd rfl e2 | rfl
        | 2, _, e2 => first | exact absurd rfl e2 | rfl
        | 3, _, e2 => first | exact absurd rfl e2 | rfl
    | 4, hv =>
      refine Or.inr (Or.inr (Or.inr (Or.inr ⟨hv, fun e2 => absurd e2.1 (by decide), fun e2 => absurd e2.1 (by decide), rfl, ?_⟩)))
      match i' with
      | 0 => rfl
      | _ + 1 => rfl
    | 5, hv => exact Or.inr (Or.inr (Or.inr (Or.inr ⟨hv, fun e2 => absurd e2.1 (by decide), fun e2 => absurd e2.1 (by decide), rfl, rfl⟩)))
    | 6, hv =>
      by_cases e2 : i' = S.np
      · exact Or.inl ⟨rfl, e2⟩
      · have hv1 : i' < S.np := by
          have h2 : i' < S.np + 1 := hv
          omega
        refine Or.inr (Or.inr (Or.inr (Or.inr ⟨hv1, fun e3 => absurd e3.1 (by decide), fun e3 => absurd e3.1 (by decide), cnd_ne e2 _ _, ?_⟩)))
        show (Sum.inr (9, [.int (nI i'), va_rf (((addP S b9).bo i').map ((gA2 g 6 0 S.np a e c 13 a2).ad 6)), .int ((addP S b9).tr i'), .int ((addP S b9).po i'), .ref ((gA2 g 6 0 S.np a e c 13 a2).ad 13 i'), .int ((addP S b9).aw i'), .int (irI ((addP S b9).si i'))]) : va_E) = _
        rw [show (addP S b9).bo i' = S.bo i' from va_up_ne _ _ e2, show (addP S b9).tr i' = S.tr i' from va_up_ne _ _ e2, show (addP S b9).po i' = S.po i' from va_up_ne _ _ e2, show (addP S b9).aw i' = S.aw i' from va_up_ne _ _ e2, show (addP S b9).si i' = S.si i' from va_up_ne _ _ e2, show (S.bo i').map ((gA2 g 6 0 S.np a e c 13 a2).ad 6) = (S.bo i').map (g.ad 6) from map_ne (fun j hj => Nat.ne_of_lt (hI.bo hv1 hj)), show (gA2 g 6 0 S.np a e c 13 a2).ad 13 i' = g.ad 13 i' from cnd_ne e2 _ _]
        rfl
    | 7, hv => exact Or.inr (Or.inr (Or.inr (Or.inr ⟨hv, fun e2 => absurd e2.1 (by decide), fun e2 => absurd e2.1 (by decide), rfl, rfl⟩)))
    | 8, hv => exact Or.inr (Or.inr (Or.inr (Or.inr ⟨hv, fun e2 => absurd e2.1 (by decide), fun e2 => absurd e2.1 (by decide), rfl, rfl⟩)))
    | 9, hv => exact Or.inr (Or.inr (Or.inr (Or.inr ⟨hv, fun e2 => absurd e2.1 (by decide), fun e2 => absurd e2.1 (by decide), rfl, rfl⟩)))
    | 10, hv => exact Or.inr (Or.inr (Or.inr (Or.inr ⟨hv, fun e2 => absurd e2.1 (by decide), fun e2 => absurd e2.1 (by decide), rfl, rfl⟩)))
    | 11, hv => exact Or.inr (Or.inr (Or.inr (Or.inr ⟨hv, fun e2 => absurd e2.1 (by decide), fun e2 => absurd e2.1 (by decide), rfl, rfl⟩)))
    | 12, hv => exact Or.inr (Or.inr (Or.inr (Or.inr ⟨hv, fun e2 => absurd e2.1 (by decide), fun e2 => absurd e2.1 (by decide), rfl, rfl⟩)))
    | 13, hv =>
      by_cases e2 : i' = S.np
      · exact Or.inr (Or.inr (Or.inr (Or.inl ⟨rfl, e2⟩)))
      · have hv1 : i' < S.np := by
          have h2 : i' < S.np + 1 := hv
          omega
        refine Or.inr (Or.inr (Or.inr (Or.inr ⟨hv1, fun e3 => absurd e3.1 (by decide), fun e3 => absurd e3.1 (by decide), cnd_ne e2 _ _, ?_⟩)))
        rfl
    | 14, hv => exact Or.inr (Or.inr (Or.inr (Or.inr ⟨hv, fun e2 => absurd e2.1 (by decide), fun e2 => absurd e2.1 (by decide), rfl, rfl⟩)))
    | _ + 15, hv => exact hv.elim
  · have h2 := h.2.1
    match j, hj with
    | 0, _ => exact hc
    | 1, _ => exact h2 1 (by decide)
    | 2, _ => exact h2 2 (by decide)
    | 3, _ => exact h2 3 (by decide)
theorem RB.appT {E : EE} {S : St} {th : Int32} {g : Gh} {H H1 : Heap} {a e c : Nat} {p9 l9 : Nat} {f9 t9 x9 : Int32} (h : RB E S th g H) (hI : Inv S) (ha : ∀ k' i', valB S g k' i' → ¬ g.ad k' i' = a) (he : (e = g.ad 3 1 ∧ 0 < g.cap 1) ∨ ∀ k' i', valB S g k' i' → ¬ g.ad k' i' = e) (hae : ¬ a = e) (haN : eN E ≤ a) (heN : eN E ≤ e) (hc : S.nt + 1 ≤ c ∧ c < 2 ^ 20) (hq : ∀ q : Nat, q < H.size → ¬ q = g.ad 2 1 → ¬ (q = g.ad 3 1 ∧ 0 < g.cap 1) → H1[q]? = H[q]?) (hl : va_at E.1 vwCl (g.ad 2 1, .inr (0, [.int (g.md 1 + 1), .ref e, .int (nI (S.nt + 1))])) H1) (har : va_at E.1 vwCl (e, .inl (eO E, c, .inr (.inr (.inr (.inr (LF (S.nt + 1) (va_up (g.ad 7) S.nt a))))))) H1) (ho : va_at E.1 vwCl (a, .inr (11, [.int (nI p9), .int (nI l9), .int f9, .int t9, .int x9])) H1) : RB E (addT S p9 l9 f9 t9 x9) th (gA2 g 7 1 S.nt a e c 15 a) H1 := by
  have e3 : LF (S.nt + 1) (va_up (g.ad 7) S.nt a) = (fun j => if j < S.nt + 1 then some ((gA2 g 7 1 S.nt a e c 15 a).ad 7 j) else none) := by
    funext j
    unfold LF
    by_cases h2 : j = S.nt
    · subst h2
      rw [va_up_self, show (gA2 g 7 1 S.nt a e c 15 a).ad 7 S.nt = a from cnd_self _ _ _]
    · rw [va_up_ne _ _ h2, show (gA2 g 7 1 S.nt a e c 15 a).ad 7 j = g.ad 7 j from cnd_ne h2 _ _]
  rw [e3] at har
  have hoc : va_at E.1 vwCl (a, cellB E (addT S p9 l9 f9 t9 x9) th (gA2 g 7 1 S.nt a e c 15 a) 7 S.nt) H1 := by
    show va_at E.1 vwCl (a, .inr (11, [.int (nI ((addT S p9 l9 f9 t9 x9).tp S.nt)), .int (nI ((addT S p9 l9 f9 t9 x9).tl S.nt)), .int ((addT S p9 l9 f9 t9 x9).tf S.nt), .int ((addT S p9 l9 f9 t9 x9).tt S.nt), .int ((addT S p9 l9 f9 t9 x9).te S.nt)])) H1
    rw [show (addT S p9 l9 f9 t9 x9).tp S.nt = p9 from va_up_self _ _ _, show (addT S p9 l9 f9 t9 x9).tl S.nt = l9 from va_up_self _ _ _, show (addT S p9 l9 f9 t9 x9).tf S.nt = f9 from va_up_self _ _ _, show (addT S p9 l9 f9 t9 x9).tt S.nt = t9 from va_up_self _ _ _, show (addT S p9 l9 f9 t9 x9).te S.nt = x9 from va_up_self _ _ _]
    exact ho
  refine h.app ⟨by decide, by decide, by decide⟩ ⟨by decide, by decide, by decide, by decide⟩ (by decide) ha ha he hae haN heN haN (Nat.lt_of_lt_of_le (Nat.succ_pos _) hc.1) hq hl har hoc (fun hv => hv.elim) (fun k' i' hv => ?_) (fun j hj => ?_)
  · match k', hv with
    | 0, hv => exact hv.elim
    | 1, hv => exact Or.inr (Or.inr (Or.inr (Or.inr ⟨hv, fun e2 => absurd e2.1 (by decide), fun e2 => absurd e2.1 (by decide), rfl, rfl⟩)))
    | 2, hv =>
      by_cases e2 : i' = 1
      · exact Or.inr (Or.inl ⟨rfl, e2⟩)
      · refine Or.inr (Or.inr (Or.inr (Or.inr ⟨hv, fun e3 => e2 e3.2, fun e3 => absurd e3.1 (by decide), rfl, ?_⟩)))
        have hv : i' < 4 := hv
        match i', hv, e2 with
        | 0, _, e2 => first | exact absurd rfl e2 | rfl
        | 1, _, e2 => first | exact absurd rfl e2 | rfl
        | 2, _, e2 => first | exact absurd rfl e2 | rfl
        | 3, _, e2 => first | exact absurd rfl e2 | rfl
    | 3, hv =>
      by_cases e2 : i' = 1
      · exact Or.inr (Or.inr (Or.inl ⟨rfl, e2⟩))
      · have hv1 : i' < 4 := hv.1
        have hv2 : 0 < g.cap i' := by
          have h2 : 0 < cond (Nat.beq i' 1) c (g.cap i') := hv.2
          rw [cnd_ne e2] at h2; exact h2
        refine Or.inr (Or.inr (Or.inr (Or.inr ⟨⟨hv1, hv2⟩, fun e3 => absurd e3.1 (by decide), fun e3 => e2 e3.2, cnd_ne e2 _ _, ?_⟩)))
        match i', hv1, e2 with
        | 0, _, e2 => first | exact absurd rfl e2 | rfl
        | 1, _, e2 => first | exact absurd rfl e2 | rfl
        | 2, _, e2 => first | exact absurd rfl e2 | rfl
        | 3, _, e2 => first | exact absurd rfl e2 | rfl
    | 4, hv =>
      refine Or.inr (Or.inr (Or.inr (Or.inr ⟨hv, fun e2 => absurd e2.1 (by decide), fun e2 => absurd e2.1 (by decide), rfl, ?_⟩)))
      match i' with
      | 0 => rfl
      | _ + 1 => rfl
    | 5, hv => exact Or.inr (Or.inr (Or.inr (Or.inr ⟨hv, fun e2 => absurd e2.1 (by decide), fun e2 => absurd e2.1 (by decide), rfl, rfl⟩)))
    | 6, hv => exact Or.inr (Or.inr (Or.inr (Or.inr ⟨hv, fun e2 => absurd e2.1 (by decide), fun e2 => absurd e2.1 (by decide), rfl, rfl⟩)))
    | 7, hv =>
      by_cases e2 : i' = S.nt
      · exact Or.inl ⟨rfl, e2⟩
      · have hv1 : i' < S.nt := by
          have h2 : i' < S.nt + 1 := hv
          omega
        refine Or.inr (Or.inr (Or.inr (Or.inr ⟨hv1, fun e3 => absurd e3.1 (by decide), fun e3 => absurd e3.1 (by decide), cnd_ne e2 _ _, ?_⟩)))
        show (Sum.inr (11, [.int (nI ((addT S p9 l9 f9 t9 x9).tp i')), .int (nI ((addT S p9 l9 f9 t9 x9).tl i')), .int ((addT S p9 l9 f9 t9 x9).tf i'), .int ((addT S p9 l9 f9 t9 x9).tt i'), .int ((addT S p9 l9 f9 t9 x9).te i')]) : va_E) = _
        rw [show (addT S p9 l9 f9 t9 x9).tp i' = S.tp i' from va_up_ne _ _ e2, show (addT S p9 l9 f9 t9 x9).tl i' = S.tl i' from va_up_ne _ _ e2, show (addT S p9 l9 f9 t9 x9).tf i' = S.tf i' from va_up_ne _ _ e2, show (addT S p9 l9 f9 t9 x9).tt i' = S.tt i' from va_up_ne _ _ e2, show (addT S p9 l9 f9 t9 x9).te i' = S.te i' from va_up_ne _ _ e2]
        rfl
    | 8, hv => exact Or.inr (Or.inr (Or.inr (Or.inr ⟨hv, fun e2 => absurd e2.1 (by decide), fun e2 => absurd e2.1 (by decide), rfl, rfl⟩)))
    | 9, hv => exact Or.inr (Or.inr (Or.inr (Or.inr ⟨hv, fun e2 => absurd e2.1 (by decide), fun e2 => absurd e2.1 (by decide), rfl, rfl⟩)))
    | 10, hv => exact Or.inr (Or.inr (Or.inr (Or.inr ⟨hv, fun e2 => absurd e2.1 (by decide), fun e2 => absurd e2.1 (by decide), rfl, rfl⟩)))
    | 11, hv => exact Or.inr (Or.inr (Or.inr (Or.inr ⟨hv, fun e2 => absurd e2.1 (by decide), fun e2 => absurd e2.1 (by decide), rfl, rfl⟩)))
    | 12, hv => exact Or.inr (Or.inr (Or.inr (Or.inr ⟨hv, fun e2 => absurd e2.1 (by decide), fun e2 => absurd e2.1 (by decide), rfl, rfl⟩)))
    | 13, hv => exact Or.inr (Or.inr (Or.inr (Or.inr ⟨hv, fun e2 => absurd e2.1 (by decide), fun e2 => absurd e2.1 (by decide), rfl, rfl⟩)))
    | 14, hv => exact Or.inr (Or.inr (Or.inr (Or.inr ⟨hv, fun e2 => absurd e2.1 (by decide), fun e2 => absurd e2.1 (by decide), rfl, rfl⟩)))
    | _ + 15, hv => exact hv.elim
  · have h2 := h.2.1
    match j, hj with
    | 0, _ => exact h2 0 (by decide)
    | 1, _ => exact hc
    | 2, _ => exact h2 2 (by decide)
    | 3, _ => exact h2 3 (by decide)
theorem RB.appC {E : EE} {S : St} {th : Int32} {g : Gh} {H H1 : Heap} {a e c a2 : Nat} {p9 k9 l9 : Nat} {a9 x9 : Int32} {t9 : Option Nat} (h : RB E S th g H) (hI : Inv S) (ha : ∀ k' i', valB S g k' i' → ¬ g.ad k' i' = a) (he : (e = g.ad 3 2 ∧ 0 < g.cap 2) ∨ ∀ k' i', valB S g k' i' → ¬ g.ad k' i' = e) (hae : ¬ a = e) (haN : eN E ≤ a) (heN : eN E ≤ e) (hc : S.nc + 1 ≤ c ∧ c < 2 ^ 20) (hq : ∀ q : Nat, q < H.size → ¬ q = g.ad 2 2 → ¬ (q = g.ad 3 2 ∧ 0 < g.cap 2) → H1[q]? = H[q]?) (hl : va_at E.1 vwCl (g.ad 2 2, .inr (0, [.int (g.md 2 + 1), .ref e, .int (nI (S.nc + 1))])) H1) (har : va_at E.1 vwCl (e, .inl (eO E, c, .inr (.inr (.inr (.inr (LF (S.nc + 1) (va_up (g.ad 8) S.nc a))))))) H1) (ho : va_at E.1 vwCl (a, .inr (7, [.int (nI p9), .int (nI k9), .int (nI l9), .int a9, .int x9, .int (nI S.td), .int (irI t9), .ref a2, .int 0, .int (irI none), .int (nI 0), .int 0])) H1) (ho2 : va_at E.1 vwCl (a2, .inl (eZ E, 31, .inl (fun _ => 0))) H1) (ha2 : ∀ k' i', valB S g k' i' → ¬ g.ad k' i' = a2) (haN2 : eN E ≤ a2) (h2a : ¬ a2 = a) (h2e : ¬ a2 = e) : RB E (addC S p9 k9 l9 a9 x9 t9) th (gA2 g 8 2 S.nc a e c 14 a2) H1 := by
  have e3 : LF (S.nc + 1) (va_up (g.ad 8) S.nc a) = (fun j => if j < S.nc + 1 then some ((gA2 g 8 2 S.nc a e c 14 a2).ad 8 j) else none) := by
    funext j
    unfold LF
    by_cases h2 : j = S.nc
    · subst h2
      rw [va_up_self, show (gA2 g 8 2 S.nc a e c 14 a2).ad 8 S.nc = a from cnd_self _ _ _]
    · rw [va_up_ne _ _ h2, show (gA2 g 8 2 S.nc a e c 14 a2).ad 8 j = g.ad 8 j from cnd_ne h2 _ _]
  rw [e3] at har
  have hoc : va_at E.1 vwCl (a, cellB E (addC S p9 k9 l9 a9 x9 t9) th (gA2 g 8 2 S.nc a e c 14 a2) 8 S.nc) H1 := by
    show va_at E.1 vwCl (a, .inr (7, [.int (nI ((addC S p9 k9 l9 a9 x9 t9).cp S.nc)), .int (nI ((addC S p9 k9 l9 a9 x9 t9).ck S.nc)), .int (nI ((addC S p9 k9 l9 a9 x9 t9).cl S.nc)), .int ((addC S p9 k9 l9 a9 x9 t9).ca S.nc), .int ((addC S p9 k9 l9 a9 x9 t9).cx S.nc), .int (nI ((addC S p9 k9 l9 a9 x9 t9).cd S.nc)), .int (irI ((addC S p9 k9 l9 a9 x9 t9).ct S.nc)), .ref ((gA2 g 8 2 S.nc a e c 14 a2).ad 14 S.nc), .int ((addC S p9 k9 l9 a9 x9 t9).cs S.nc), .int (irI ((addC S p9 k9 l9 a9 x9 t9).cr S.nc)), .int (nI ((addC S p9 k9 l9 a9 x9 t9).ce S.nc)), .int ((addC S p9 k9 l9 a9 x9 t9).cm S.nc)])) H1
    rw [show (addC S p9 k9 l9 a9 x9 t9).cp S.nc = p9 from va_up_self _ _ _, show (addC S p9 k9 l9 a9 x9 t9).ck S.nc = k9 from va_up_self _ _ _, show (addC S p9 k9 l9 a9 x9 t9).cl S.nc = l9 from va_up_self _ _ _, show (addC S p9 k9 l9 a9 x9 t9).ca S.nc = a9 from va_up_self _ _ _, show (addC S p9 k9 l9 a9 x9 t9).cx S.nc = x9 from va_up_self _ _ _, show (addC S p9 k9 l9 a9 x9 t9).cd S.nc = S.td from va_up_self _ _ _, show (addC S p9 k9 l9 a9 x9 t9).ct S.nc = t9 from va_up_self _ _ _, show (addC S p9 k9 l9 a9 x9 t9).cs S.nc = 0 from va_up_self _ _ _, show (addC S p9 k9 l9 a9 x9 t9).cr S.nc = none from va_up_self _ _ _, show (addC S p9 k9 l9 a9 x9 t9).ce S.nc = 0 from va_up_self _ _ _, show (addC S p9 k9 l9 a9 x9 t9).cm S.nc = 0 from va_up_self _ _ _, show (gA2 g 8 2 S.nc a e c 14 a2).ad 14 S.nc = a2 from cnd_self _ _ _]
    exact ho
  have hax : (Sum.inl (eZ E, 31, .inl (fun _ => (0 : Int32))) : va_E) = cellB E (addC S p9 k9 l9 a9 x9 t9) th (gA2 g 8 2 S.nc a e c 14 a2) 14 S.nc := sum_arr (by
    funext q
    show 0 = spB (addC S p9 k9 l9 a9 x9 t9) S.nc q
    unfold spB
    rw [show (addC S p9 k9 l9 a9 x9 t9).sp S.nc = 0 from va_up_self _ _ _, Int32.zero_and, if_pos rfl]
    by_cases h4 : q < 31
    · rw [if_pos h4]
    · rw [if_neg h4])
  refine h.app ⟨by decide, by decide, by decide⟩ ⟨by decide, by decide, by decide, by decide⟩ (by decide) ha ha2 he hae haN heN haN2 (Nat.lt_of_lt_of_le (Nat.succ_pos _) hc.1) hq hl har hoc (fun _ => ⟨h2a, h2e, by rw [← hax]; exact ho2⟩) (fun k' i' hv => ?_) (fun j hj => ?_)
  · match k', hv with
    | 0, hv => exact hv.elim
    | 1, hv => exact Or.inr (Or.inr (Or.inr (Or.inr ⟨hv, fun e2 => absurd e2.1 (by decide), fun e2 => absurd e2.1 (by decide), rfl, rfl⟩)))
    | 2, hv =>
      by_cases e2 : i' = 2
      · exact Or.inr (Or.inl ⟨rfl, e2⟩)
      · refine Or.inr (Or.inr (Or.inr (Or.inr ⟨hv, fun e3 => e2 e3.2, fun e3 => absurd e3.1 (by decide), rfl, ?_⟩)))
        have hv : i' < 4 := hv
        match i', hv, e2 with
        | 0, _, e2 => first | exact absurd rfl e2 | rfl
        | 1, _, e2 => first | exact absurd rfl e2 | rfl
        | 2, _, e2 => first | exact absurd rfl e2 | rfl
        | 3, _, e2 => first | exact absurd rfl e2 | rfl
    | 3, hv =>
      by_cases e2 : i' = 2
      · exact Or.inr (Or.inr (Or.inl ⟨rfl, e2⟩))
      · have hv1 : i' < 4 := hv.1
        have hv2 : 0 < g.cap i' := by
          have h2 : 0 < cond (Nat.beq i' 2) c (g.cap i') := hv.2
          rw [cnd_ne e2] at h2; exact h2
        refine Or.inr (Or.inr (Or.inr (Or.inr ⟨⟨hv1, hv2⟩, fun e3 => absurd e3.1 (by decide), fun e3 => e2 e3.2, cnd_ne e2 _ _, ?_⟩)))
        match i', hv1, e2 with
        | 0, _, e2 => first | exact absurd rfl e2 | rfl
        | 1, _, e2 => first | exact absurd rfl e2 | rfl
        | 2, _, e2 => first | exact absurd rfl e2 | rfl
        | 3, _, e2 => first | exact absurd rfl e2 | rfl
    | 4, hv =>
      refine Or.inr (Or.inr (Or.inr (Or.inr ⟨hv, fun e2 => absurd e2.1 (by decide), fun e2 => absurd e2.1 (by decide), rfl, ?_⟩)))
      match i' with
      | 0 => rfl
      | _ + 1 => rfl
    | 5, hv => exact Or.inr (Or.inr (Or.inr (Or.inr ⟨hv, fun e2 => absurd e2.1 (by decide), fun e2 => absurd e2.1 (by decide), rfl, rfl⟩)))
    | 6, hv => exact Or.inr (Or.inr (Or.inr (Or.inr ⟨hv, fun e2 => absurd e2.1 (by decide), fun e2 => absurd e2.1 (by decide), rfl, rfl⟩)))
    | 7, hv => exact Or.inr (Or.inr (Or.inr (Or.inr ⟨hv, fun e2 => absurd e2.1 (by decide), fun e2 => absurd e2.1 (by decide), rfl, rfl⟩)))
    | 8, hv =>
      by_cases e2 : i' = S.nc
      · exact Or.inl ⟨rfl, e2⟩
      · have hv1 : i' < S.nc := by
          have h2 : i' < S.nc + 1 := hv
          omega
        refine Or.inr (Or.inr (Or.inr (Or.inr ⟨hv1, fun e3 => absurd e3.1 (by decide), fun e3 => absurd e3.1 (by decide), cnd_ne e2 _ _, ?_⟩)))
        show (Sum.inr (7, [.int (nI ((addC S p9 k9 l9 a9 x9 t9).cp i')), .int (nI ((addC S p9 k9 l9 a9 x9 t9).ck i')), .int (nI ((addC S p9 k9 l9 a9 x9 t9).cl i')), .int ((addC S p9 k9 l9 a9 x9 t9).ca i'), .int ((addC S p9 k9 l9 a9 x9 t9).cx i'), .int (nI ((addC S p9 k9 l9 a9 x9 t9).cd i')), .int (irI ((addC S p9 k9 l9 a9 x9 t9).ct i')), .ref ((gA2 g 8 2 S.nc a e c 14 a2).ad 14 i'), .int ((addC S p9 k9 l9 a9 x9 t9).cs i'), .int (irI ((addC S p9 k9 l9 a9 x9 t9).cr i')), .int (nI ((addC S p9 k9 l9 a9 x9 t9).ce i')), .int ((addC S p9 k9 l9 a9 x9 t9).cm i')]) : va_E) = _
        rw [show (addC S p9 k9 l9 a9 x9 t9).cp i' = S.cp i' from va_up_ne _ _ e2, show (addC S p9 k9 l9 a9 x9 t9).ck i' = S.ck i' from va_up_ne _ _ e2, show (addC S p9 k9 l9 a9 x9 t9).cl i' = S.cl i' from va_up_ne _ _ e2, show (addC S p9 k9 l9 a9 x9 t9).ca i' = S.ca i' from va_up_ne _ _ e2, show (addC S p9 k9 l9 a9 x9 t9).cx i' = S.cx i' from va_up_ne _ _ e2, show (addC S p9 k9 l9 a9 x9 t9).cd i' = S.cd i' from va_up_ne _ _ e2, show (addC S p9 k9 l9 a9 x9 t9).ct i' = S.ct i' from va_up_ne _ _ e2, show (addC S p9 k9 l9 a9 x9 t9).cs i' = S.cs i' from va_up_ne _ _ e2, show (addC S p9 k9 l9 a9 x9 t9).cr i' = S.cr i' from va_up_ne _ _ e2, show (addC S p9 k9 l9 a9 x9 t9).ce i' = S.ce i' from va_up_ne _ _ e2, show (addC S p9 k9 l9 a9 x9 t9).cm i' = S.cm i' from va_up_ne _ _ e2, show (gA2 g 8 2 S.nc a e c 14 a2).ad 14 i' = g.ad 14 i' from cnd_ne e2 _ _]
        rfl
    | 9, hv => exact Or.inr (Or.inr (Or.inr (Or.inr ⟨hv, fun e2 => absurd e2.1 (by decide), fun e2 => absurd e2.1 (by decide), rfl, rfl⟩)))
    | 10, hv => exact Or.inr (Or.inr (Or.inr (Or.inr ⟨hv, fun e2 => absurd e2.1 (by decide), fun e2 => absurd e2.1 (by decide), rfl, rfl⟩)))
    | 11, hv => exact Or.inr (Or.inr (Or.inr (Or.inr ⟨hv, fun e2 => absurd e2.1 (by decide), fun e2 => absurd e2.1 (by decide), rfl, rfl⟩)))
    | 12, hv => exact Or.inr (Or.inr (Or.inr (Or.inr ⟨hv, fun e2 => absurd e2.1 (by decide), fun e2 => absurd e2.1 (by decide), rfl, rfl⟩)))
    | 13, hv => exact Or.inr (Or.inr (Or.inr (Or.inr ⟨hv, fun e2 => absurd e2.1 (by decide), fun e2 => absurd e2.1 (by decide), rfl, rfl⟩)))
    | 14, hv =>
      by_cases e2 : i' = S.nc
      · exact Or.inr (Or.inr (Or.inr (Or.inl ⟨rfl, e2⟩)))
      · have hv1 : i' < S.nc := by
          have h2 : i' < S.nc + 1 := hv
          omega
        refine Or.inr (Or.inr (Or.inr (Or.inr ⟨hv1, fun e3 => absurd e3.1 (by decide), fun e3 => absurd e3.1 (by decide), cnd_ne e2 _ _, ?_⟩)))
        exact sum_arr (by funext q; unfold spB; rw [show (addC S p9 k9 l9 a9 x9 t9).sp i' = S.sp i' from va_up_ne _ _ e2])
    | _ + 15, hv => exact hv.elim
  · have h2 := h.2.1
    match j, hj with
    | 0, _ => exact h2 0 (by decide)
    | 1, _ => exact h2 1 (by decide)
    | 2, _ => exact hc
    | 3, _ => exact h2 3 (by decide)
theorem RB.appR {E : EE} {S : St} {th : Int32} {g : Gh} {H H1 : Heap} {a e c : Nat} {a9 d9 x9 : Int32} (h : RB E S th g H) (hI : Inv S) (ha : ∀ k' i', valB S g k' i' → ¬ g.ad k' i' = a) (he : (e = g.ad 3 3 ∧ 0 < g.cap 3) ∨ ∀ k' i', valB S g k' i' → ¬ g.ad k' i' = e) (hae : ¬ a = e) (haN : eN E ≤ a) (heN : eN E ≤ e) (hc : S.nr + 1 ≤ c ∧ c < 2 ^ 20) (hq : ∀ q : Nat, q < H.size → ¬ q = g.ad 2 3 → ¬ (q = g.ad 3 3 ∧ 0 < g.cap 3) → H1[q]? = H[q]?) (hl : va_at E.1 vwCl (g.ad 2 3, .inr (0, [.int (g.md 3 + 1), .ref e, .int (nI (S.nr + 1))])) H1) (har : va_at E.1 vwCl (e, .inl (eO E, c, .inr (.inr (.inr (.inr (LF (S.nr + 1) (va_up (g.ad 9) S.nr a))))))) H1) (ho : va_at E.1 vwCl (a, .inr (10, [.int a9, .int d9, .int x9, .int (irI none)])) H1) : RB E (addR S a9 d9 x9) th (gA2 g 9 3 S.nr a e c 15 a) H1 := by
  have e3 : LF (S.nr + 1) (va_up (g.ad 9) S.nr a) = (fun j => if j < S.nr + 1 then some ((gA2 g 9 3 S.nr a e c 15 a).ad 9 j) else none) := by
    funext j
    unfold LF
    by_cases h2 : j = S.nr
    · subst h2
      rw [va_up_self, show (gA2 g 9 3 S.nr a e c 15 a).ad 9 S.nr = a from cnd_self _ _ _]
    · rw [va_up_ne _ _ h2, show (gA2 g 9 3 S.nr a e c 15 a).ad 9 j = g.ad 9 j from cnd_ne h2 _ _]
  rw [e3] at har
  have hoc : va_at E.1 vwCl (a, cellB E (addR S a9 d9 x9) th (gA2 g 9 3 S.nr a e c 15 a) 9 S.nr) H1 := by
    show va_at E.1 vwCl (a, .inr (10, [.int ((addR S a9 d9 x9).ra S.nr), .int ((addR S a9 d9 x9).rd S.nr), .int ((addR S a9 d9 x9).rx S.nr), .int (irI ((addR S a9 d9 x9).ro S.nr))])) H1
    rw [show (addR S a9 d9 x9).ra S.nr = a9 from va_up_self _ _ _, show (addR S a9 d9 x9).rd S.nr = d9 from va_up_self _ _ _, show (addR S a9 d9 x9).rx S.nr = x9 from va_up_self _ _ _, show (addR S a9 d9 x9).ro S.nr = none from va_up_self _ _ _]
    exact ho
  refine h.app ⟨by decide, by decide, by decide⟩ ⟨by decide, by decide, by decide, by decide⟩ (by decide) ha ha he hae haN heN haN (Nat.lt_of_lt_of_le (Nat.succ_pos _) hc.1) hq hl har hoc (fun hv => hv.elim) (fun k' i' hv => ?_) (fun j hj => ?_)
  · match k', hv with
    | 0, hv => exact hv.elim
    | 1, hv => exact Or.inr (Or.inr (Or.inr (Or.inr ⟨hv, fun e2 => absurd e2.1 (by decide), fun e2 => absurd e2.1 (by decide), rfl, rfl⟩)))
    | 2, hv =>
      by_cases e2 : i' = 3
      · exact Or.inr (Or.inl ⟨rfl, e2⟩)
      · refine Or.inr (Or.inr (Or.inr (Or.inr ⟨hv, fun e3 => e2 e3.2, fun e3 => absurd e3.1 (by decide), rfl, ?_⟩)))
        have hv : i' < 4 := hv
        match i', hv, e2 with
        | 0, _, e2 => first | exact absurd rfl e2 | rfl
        | 1, _, e2 => first | exact absurd rfl e2 | rfl
        | 2, _, e2 => first | exact absurd rfl e2 | rfl
        | 3, _, e2 => first | exact absurd rfl e2 | rfl
    | 3, hv =>
      by_cases e2 : i' = 3
      · exact Or.inr (Or.inr (Or.inl ⟨rfl, e2⟩))
      · have hv1 : i' < 4 := hv.1
        have hv2 : 0 < g.cap i' := by
          have h2 : 0 < cond (Nat.beq i' 3) c (g.cap i') := hv.2
          rw [cnd_ne e2] at h2; exact h2
        refine Or.inr (Or.inr (Or.inr (Or.inr ⟨⟨hv1, hv2⟩, fun e3 => absurd e3.1 (by decide), fun e3 => e2 e3.2, cnd_ne e2 _ _, ?_⟩)))
        match i', hv1, e2 with
        | 0, _, e2 => first | exact absurd rfl e2 | rfl
        | 1, _, e2 => first | exact absurd rfl e2 | rfl
        | 2, _, e2 => first | exact absurd rfl e2 | rfl
        | 3, _, e2 => first | exact absurd rfl e2 | rfl
    | 4, hv =>
      refine Or.inr (Or.inr (Or.inr (Or.inr ⟨hv, fun e2 => absurd e2.1 (by decide), fun e2 => absurd e2.1 (by decide), rfl, ?_⟩)))
      match i' with
      | 0 => rfl
      | _ + 1 => rfl
    | 5, hv => exact Or.inr (Or.inr (Or.inr (Or.inr ⟨hv, fun e2 => absurd e2.1 (by decide), fun e2 => absurd e2.1 (by decide), rfl, rfl⟩)))
    | 6, hv => exact Or.inr (Or.inr (Or.inr (Or.inr ⟨hv, fun e2 => absurd e2.1 (by decide), fun e2 => absurd e2.1 (by decide), rfl, rfl⟩)))
    | 7, hv => exact Or.inr (Or.inr (Or.inr (Or.inr ⟨hv, fun e2 => absurd e2.1 (by decide), fun e2 => absurd e2.1 (by decide), rfl, rfl⟩)))
    | 8, hv => exact Or.inr (Or.inr (Or.inr (Or.inr ⟨hv, fun e2 => absurd e2.1 (by decide), fun e2 => absurd e2.1 (by decide), rfl, rfl⟩)))
    | 9, hv =>
      by_cases e2 : i' = S.nr
      · exact Or.inl ⟨rfl, e2⟩
      · have hv1 : i' < S.nr := by
          have h2 : i' < S.nr + 1 := hv
          omega
        refine Or.inr (Or.inr (Or.inr (Or.inr ⟨hv1, fun e3 => absurd e3.1 (by decide), fun e3 => absurd e3.1 (by decide), cnd_ne e2 _ _, ?_⟩)))
        show (Sum.inr (10, [.int ((addR S a9 d9 x9).ra i'), .int ((addR S a9 d9 x9).rd i'), .int ((addR S a9 d9 x9).rx i'), .int (irI ((addR S a9 d9 x9).ro i'))]) : va_E) = _
        rw [show (addR S a9 d9 x9).ra i' = S.ra i' from va_up_ne _ _ e2, show (addR S a9 d9 x9).rd i' = S.rd i' from va_up_ne _ _ e2, show (addR S a9 d9 x9).rx i' = S.rx i' from va_up_ne _ _ e2, show (addR S a9 d9 x9).ro i' = S.ro i' from va_up_ne _ _ e2]
        rfl
    | 10, hv => exact Or.inr (Or.inr (Or.inr (Or.inr ⟨hv, fun e2 => absurd e2.1 (by decide), fun e2 => absurd e2.1 (by decide), rfl, rfl⟩)))
    | 11, hv => exact Or.inr (Or.inr (Or.inr (Or.inr ⟨hv, fun e2 => absurd e2.1 (by decide), fun e2 => absurd e2.1 (by decide), rfl, rfl⟩)))
    | 12, hv => exact Or.inr (Or.inr (Or.inr (Or.inr ⟨hv, fun e2 => absurd e2.1 (by decide), fun e2 => absurd e2.1 (by decide), rfl, rfl⟩)))
    | 13, hv => exact Or.inr (Or.inr (Or.inr (Or.inr ⟨hv, fun e2 => absurd e2.1 (by decide), fun e2 => absurd e2.1 (by decide), rfl, rfl⟩)))
    | 14, hv => exact Or.inr (Or.inr (Or.inr (Or.inr ⟨hv, fun e2 => absurd e2.1 (by decide), fun e2 => absurd e2.1 (by decide), rfl, rfl⟩)))
    | _ + 15, hv => exact hv.elim
  · have h2 := h.2.1
    match j, hj with
    | 0, _ => exact h2 0 (by decide)
    | 1, _ => exact h2 1 (by decide)
    | 2, _ => exact h2 2 (by decide)
    | 3, _ => exact hc
