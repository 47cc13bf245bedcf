/-! stores: the reference's picture behind them -/
theorem RB.put {E : EE} {S S' : St} {th th' : Int32} {g : Gh} {H H1 : Heap} {k i : Nat} {e : va_E} (h : RB E S th g H) (hi : valB S g k i) (hat : va_at E.1 vwCl (g.ad k i, e) H1) (oq : ∀ q : Nat, q ≠ g.ad k i → H1[q]? = H[q]?) (hv : ∀ k' i', valB S' g k' i' → valB S g k' i') (he : cellB E S' th' g k i = e) (ho : ∀ k' i', valB S' g k' i' → ¬ (k' = k ∧ i' = i) → cellB E S' th' g k' i' = cellB E S th g k' i') (hc : capOk S' g) : RB E S' th' g H1 := by
  refine ⟨fun k' i' hv' => ⟨(h.1 k' i' (hv k' i' hv')).1, ?_⟩, hc, h.2.2.1, h.2.2.2.kept (fun q hq => oq q (fun e => by have := h.2.2.1.1 _ (h.ow hi); omega))⟩
  by_cases hk : k' = k ∧ i' = i
  · obtain ⟨rfl, rfl⟩ := hk
    rw [he]; exact hat
  · rw [ho k' i' hv' hk]
    refine (h.1 k' i' (hv k' i' hv')).2.kept (oq _ (fun e => hk ?_))
    have e : g.ad k' i' = g.ad k i := e
    have h1 := (h.1 k' i' (hv k' i' hv')).1
    rw [e, (h.1 k i hi).1] at h1
    exact ⟨(Prod.mk.inj h1).1.symm, (Prod.mk.inj h1).2.symm⟩
theorem RB.s_tr {E : EE} {S : St} {th : Int32} {g : Gh} {H H1 : Heap} {i : Nat} {v : Int32} (h : RB E S th g H) (hi : i < S.np) (hat : va_at E.1 vwCl (g.ad 6 i, .inr (9, [.int (nI i), va_rf ((S.bo i).map (g.ad 6)), .int v, .int (S.po i), .ref (g.ad 13 i), .int (S.aw i), .int (irI (S.si i))])) H1) (oq : ∀ q : Nat, q ≠ g.ad 6 i → H1[q]? = H[q]?) : RB E (u_tr S i v) th g H1 := by
  refine h.put (k := 6) (i := i) hi hat oq (fun k' i' hv => by
    match k' with
    | 0 => exact hv
    | 1 => exact hv
    | 2 => exact hv
    | 3 => exact hv
    | 4 => exact hv
    | 5 => exact hv
    | 6 => exact hv
    | 7 => exact hv
    | 8 => exact hv
    | 9 => exact hv
    | 10 => exact hv
    | 11 => exact hv
    | 12 => exact hv
    | 13 => exact hv
    | 14 => exact hv
    | _ + 15 => exact hv) (congrArg (fun (x : Int32) => (Sum.inr (9, [.int (nI i), va_rf ((S.bo i).map (g.ad 6)), .int x, .int (S.po i), .ref (g.ad 13 i), .int (S.aw i), .int (irI (S.si i))]) : va_E)) (va_up_self S.tr i v)) (fun k' i' hv hn => ?_) (fun j hj => by
      have := h.2.1 j hj
      match j with
      | 0 => exact this
      | 1 => exact this
      | 2 => exact this
      | _ + 3 => exact this)
  by_cases hk : k' = 6
  · subst hk
    exact congrArg (fun (x : Int32) => (Sum.inr (9, [.int (nI i'), va_rf ((S.bo i').map (g.ad 6)), .int x, .int (S.po i'), .ref (g.ad 13 i'), .int (S.aw i'), .int (irI (S.si i'))]) : va_E)) (va_up_ne S.tr v (fun e => hn ⟨rfl, e⟩))
  · match k', hk, hv with
    | 0, _, hv => exact hv.elim
    | 1, _, _ => exact rfl
    | 2, _, _ => exact rfl
    | 3, _, _ => exact rfl
    | 4, _, hv =>
      match i', hv with
      | 0, _ => exact rfl
      | _ + 1, _ => exact rfl
    | 5, _, _ => exact rfl
    | 6, hk, _ => exact absurd rfl hk
    | 7, _, _ => exact rfl
    | 8, _, _ => exact rfl
    | 9, _, _ => exact rfl
    | 10, _, _ => exact rfl
    | 11, _, _ => exact rfl
    | 12, _, _ => exact rfl
    | 13, _, _ => exact rfl
    | 14, _, _ => exact rfl
    | _ + 15, _, hv => exact hv.elim
theorem RB.s_po {E : EE} {S : St} {th : Int32} {g : Gh} {H H1 : Heap} {i : Nat} {v : Int32} (h : RB E S th g H) (hi : i < S.np) (hat : va_at E.1 vwCl (g.ad 6 i, .inr (9, [.int (nI i), va_rf ((S.bo i).map (g.ad 6)), .int (S.tr i), .int v, .ref (g.ad 13 i), .int (S.aw i), .int (irI (S.si i))])) H1) (oq : ∀ q : Nat, q ≠ g.ad 6 i → H1[q]? = H[q]?) : RB E (u_po S i v) th g H1 := by
  refine h.put (k := 6) (i := i) hi hat oq (fun k' i' hv => by
    match k' with
    | 0 => exact hv
    | 1 => exact hv
    | 2 => exact hv
    | 3 => exact hv
    | 4 => exact hv
    | 5 => exact hv
    | 6 => exact hv
    | 7 => exact hv
    | 8 => exact hv
    | 9 => exact hv
    | 10 => exact hv
    | 11 => exact hv
    | 12 => exact hv
    | 13 => exact hv
    | 14 => exact hv
    | _ + 15 => exact hv) (congrArg (fun (x : Int32) => (Sum.inr (9, [.int (nI i), va_rf ((S.bo i).map (g.ad 6)), .int (S.tr i), .int x, .ref (g.ad 13 i), .int (S.aw i), .int (irI (S.si i))]) : va_E)) (va_up_self S.po i v)) (fun k' i' hv hn => ?_) (fun j hj => by
      have := h.2.1 j hj
      match j with
      | 0 => exact this
      | 1 => exact this
      | 2 => exact this
      | _ + 3 => exact this)
  by_cases hk : k' = 6
  · subst hk
    exact congrArg (fun (x : Int32) => (Sum.inr (9, [.int (nI i'), va_rf ((S.bo i').map (g.ad 6)), .int (S.tr i'), .int x, .ref (g.ad 13 i'), .int (S.aw i'), .int (irI (S.si i'))]) : va_E)) (va_up_ne S.po v (fun e => hn ⟨rfl, e⟩))
  · match k', hk, hv with
    | 0, _, hv => exact hv.elim
    | 1, _, _ => exact rfl
    | 2, _, _ => exact rfl
    | 3, _, _ => exact rfl
    | 4, _, hv =>
      match i', hv with
      | 0, _ => exact rfl
      | _ + 1, _ => exact rfl
    | 5, _, _ => exact rfl
    | 6, hk, _ => exact absurd rfl hk
    | 7, _, _ => exact rfl
    | 8, _, _ => exact rfl
    | 9, _, _ => exact rfl
    | 10, _, _ => exact rfl
    | 11, _, _ => exact rfl
    | 12, _, _ => exact rfl
    | 13, _, _ => exact rfl
    | 14, _, _ => exact rfl
    | _ + 15, _, hv => exact hv.elim
theorem RB.s_aw {E : EE} {S : St} {th : Int32} {g : Gh} {H H1 : Heap} {i : Nat} {v : Int32} (h : RB E S th g H) (hi : i < S.np) (hat : va_at E.1 vwCl (g.ad 6 i, .inr (9, [.int (nI i), va_rf ((S.bo i).map (g.ad 6)), .int (S.tr i), .int (S.po i), .ref (g.ad 13 i), .int v, .int (irI (S.si i))])) H1) (oq : ∀ q : Nat, q ≠ g.ad 6 i → H1[q]? = H[q]?) : RB E (u_aw S i v) th g H1 := by
  refine h.put (k := 6) (i := i) hi hat oq (fun k' i' hv => by
    match k' with
    | 0 => exact hv
    | 1 => exact hv
    | 2 => exact hv
    | 3 => exact hv
    | 4 => exact hv
    | 5 => exact hv
    | 6 => exact hv
    | 7 => exact hv
    | 8 => exact hv
    | 9 => exact hv
    | 10 => exact hv
    | 11 => exact hv
    | 12 => exact hv
    | 13 => exact hv
    | 14 => exact hv
    | _ + 15 => exact hv) (congrArg (fun (x : Int32) => (Sum.inr (9, [.int (nI i), va_rf ((S.bo i).map (g.ad 6)), .int (S.tr i), .int (S.po i), .ref (g.ad 13 i), .int x, .int (irI (S.si i))]) : va_E)) (va_up_self S.aw i v)) (fun k' i' hv hn => ?_) (fun j hj => by
      have := h.2.1 j hj
      match j with
      | 0 => exact this
      | 1 => exact this
      | 2 => exact this
      | _ + 3 => exact this)
  by_cases hk : k' = 6
  · subst hk
    exact congrArg (fun (x : Int32) => (Sum.inr (9, [.int (nI i'), va_rf ((S.bo i').map (g.ad 6)), .int (S.tr i'), .int (S.po i'), .ref (g.ad 13 i'), .int x, .int (irI (S.si i'))]) : va_E)) (va_up_ne S.aw v (fun e => hn ⟨rfl, e⟩))
  · match k', hk, hv with
    | 0, _, hv => exact hv.elim
    | 1, _, _ => exact rfl
    | 2, _, _ => exact rfl
    | 3, _, _ => exact rfl
    | 4, _, hv =>
      match i', hv with
      | 0, _ => exact rfl
      | _ + 1, _ => exact rfl
    | 5, _, _ => exact rfl
    | 6, hk, _ => exact absurd rfl hk
    | 7, _, _ => exact rfl
    | 8, _, _ => exact rfl
    | 9, _, _ => exact rfl
    | 10, _, _ => exact rfl
    | 11, _, _ => exact rfl
    | 12, _, _ => exact rfl
    | 13, _, _ => exact rfl
    | 14, _, _ => exact rfl
    | _ + 15, _, hv => exact hv.elim
theorem RB.s_si {E : EE} {S : St} {th : Int32} {g : Gh} {H H1 : Heap} {i : Nat} {v : Option Nat} (h : RB E S th g H) (hi : i < S.np) (hat : va_at E.1 vwCl (g.ad 6 i, .inr (9, [.int (nI i), va_rf ((S.bo i).map (g.ad 6)), .int (S.tr i), .int (S.po i), .ref (g.ad 13 i), .int (S.aw i), .int (irI v)])) H1) (oq : ∀ q : Nat, q ≠ g.ad 6 i → H1[q]? = H[q]?) : RB E (u_si S i v) th g H1 := by
  refine h.put (k := 6) (i := i) hi hat oq (fun k' i' hv => by
    match k' with
    | 0 => exact hv
    | 1 => exact hv
    | 2 => exact hv
    | 3 => exact hv
    | 4 => exact hv
    | 5 => exact hv
    | 6 => exact hv
    | 7 => exact hv
    | 8 => exact hv
    | 9 => exact hv
    | 10 => exact hv
    | 11 => exact hv
    | 12 => exact hv
    | 13 => exact hv
    | 14 => exact hv
    | _ + 15 => exact hv) (congrArg (fun (x : Option Nat) => (Sum.inr (9, [.int (nI i), va_rf ((S.bo i).map (g.ad 6)), .int (S.tr i), .int (S.po i), .ref (g.ad 13 i), .int (S.aw i), .int (irI x)]) : va_E)) (va_up_self S.si i v)) (fun k' i' hv hn => ?_) (fun j hj => by
      have := h.2.1 j hj
      match j with
      | 0 => exact this
      | 1 => exact this
      | 2 => exact this
      | _ + 3 => exact this)
  by_cases hk : k' = 6
  · subst hk
    exact congrArg (fun (x : Option Nat) => (Sum.inr (9, [.int (nI i'), va_rf ((S.bo i').map (g.ad 6)), .int (S.tr i'), .int (S.po i'), .ref (g.ad 13 i'), .int (S.aw i'), .int (irI x)]) : va_E)) (va_up_ne S.si v (fun e => hn ⟨rfl, e⟩))
  · match k', hk, hv with
    | 0, _, hv => exact hv.elim
    | 1, _, _ => exact rfl
    | 2, _, _ => exact rfl
    | 3, _, _ => exact rfl
    | 4, _, hv =>
      match i', hv with
      | 0, _ => exact rfl
      | _ + 1, _ => exact rfl
    | 5, _, _ => exact rfl
    | 6, hk, _ => exact absurd rfl hk
    | 7, _, _ => exact rfl
    | 8, _, _ => exact rfl
    | 9, _, _ => exact rfl
    | 10, _, _ => exact rfl
    | 11, _, _ => exact rfl
    | 12, _, _ => exact rfl
    | 13, _, _ => exact rfl
    | 14, _, _ => exact rfl
    | _ + 15, _, hv => exact hv.elim
theorem RB.s_cs {E : EE} {S : St} {th : Int32} {g : Gh} {H H1 : Heap} {i : Nat} {v : Int32} (h : RB E S th g H) (hi : i < S.nc) (hat : va_at E.1 vwCl (g.ad 8 i, .inr (7, [.int (nI (S.cp i)), .int (nI (S.ck i)), .int (nI (S.cl i)), .int (S.ca i), .int (S.cx i), .int (nI (S.cd i)), .int (irI (S.ct i)), .ref (g.ad 14 i), .int v, .int (irI (S.cr i)), .int (nI (S.ce i)), .int (S.cm i)])) H1) (oq : ∀ q : Nat, q ≠ g.ad 8 i → H1[q]? = H[q]?) : RB E (u_cs S i v) th g H1 := by
  refine h.put (k := 8) (i := i) hi hat oq (fun k' i' hv => by
    match k' with
    | 0 => exact hv
    | 1 => exact hv
    | 2 => exact hv
    | 3 => exact hv
    | 4 => exact hv
    | 5 => exact hv
    | 6 => exact hv
    | 7 => exact hv
    | 8 => exact hv
    | 9 => exact hv
    | 10 => exact hv
    | 11 => exact hv
    | 12 => exact hv
    | 13 => exact hv
    | 14 => exact hv
    | _ + 15 => exact hv) (congrArg (fun (x : Int32) => (Sum.inr (7, [.int (nI (S.cp i)), .int (nI (S.ck i)), .int (nI (S.cl i)), .int (S.ca i), .int (S.cx i), .int (nI (S.cd i)), .int (irI (S.ct i)), .ref (g.ad 14 i), .int x, .int (irI (S.cr i)), .int (nI (S.ce i)), .int (S.cm i)]) : va_E)) (va_up_self S.cs i v)) (fun k' i' hv hn => ?_) (fun j hj => by
      have := h.2.1 j hj
      match j with
      | 0 => exact this
      | 1 => exact this
      | 2 => exact this
      | _ + 3 => exact this)
  by_cases hk : k' = 8
  · subst hk
    exact congrArg (fun (x : Int32) => (Sum.inr (7, [.int (nI (S.cp i')), .int (nI (S.ck i')), .int (nI (S.cl i')), .int (S.ca i'), .int (S.cx i'), .int (nI (S.cd i')), .int (irI (S.ct i')), .ref (g.ad 14 i'), .int x, .int (irI (S.cr i')), .int (nI (S.ce i')), .int (S.cm i')]) : va_E)) (va_up_ne S.cs v (fun e => hn ⟨rfl, e⟩))
  · match k', hk, hv with
    | 0, _, hv => exact hv.elim
    | 1, _, _ => exact rfl
    | 2, _, _ => exact rfl
    | 3, _, _ => exact rfl
    | 4, _, hv =>
      match i', hv with
      | 0, _ => exact rfl
      | _ + 1, _ => exact rfl
    | 5, _, _ => exact rfl
    | 6, _, _ => exact rfl
    | 7, _, _ => exact rfl
    | 8, hk, _ => exact absurd rfl hk
    | 9, _, _ => exact rfl
    | 10, _, _ => exact rfl
    | 11, _, _ => exact rfl
    | 12, _, _ => exact rfl
    | 13, _, _ => exact rfl
    | 14, _, _ => exact rfl
    | _ + 15, _, hv => exact hv.elim
theorem RB.s_cr {E : EE} {S : St} {th : Int32} {g : Gh} {H H1 : Heap} {i : Nat} {v : Option Nat} (h : RB E S th g H) (hi : i < S.nc) (hat : va_at E.1 vwCl (g.ad 8 i, .inr (7, [.int (nI (S.cp i)), .int (nI (S.ck i)), .int (nI (S.cl i)), .int (S.ca i), .int (S.cx i), .int (nI (S.cd i)), .int (irI (S.ct i)), .ref (g.ad 14 i), .int (S.cs i), .int (irI v), .int (nI (S.ce i)), .int (S.cm i)])) H1) (oq : ∀ q : Nat, q ≠ g.ad 8 i → H1[q]? = H[q]?) : RB E (u_cr S i v) th g H1 := by
  refine h.put (k := 8) (i := i) hi hat oq (fun k' i' hv => by
    match k' with
    | 0 => exact hv
    | 1 => exact hv
    | 2 => exact hv
    | 3 => exact hv
    | 4 => exact hv
    | 5 => exact hv
    | 6 => exact hv
    | 7 => exact hv
    | 8 => exact hv
    | 9 => exact hv
    | 10 => exact hv
    | 11 => exact hv
    | 12 => exact hv
    | 13 => exact hv
    | 14 => exact hv
    | _ + 15 => exact hv) (congrArg (fun (x : Option Nat) => (Sum.inr (7, [.int (nI (S.cp i)), .int (nI (S.ck i)), .int (nI (S.cl i)), .int (S.ca i), .int (S.cx i), .int (nI (S.cd i)), .int (irI (S.ct i)), .ref (g.ad 14 i), .int (S.cs i), .int (irI x), .int (nI (S.ce i)), .int (S.cm i)]) : va_E)) (va_up_self S.cr i v)) (fun k' i' hv hn => ?_) (fun j hj => by
      have := h.2.1 j hj
      match j with
      | 0 => exact this
      | 1 => exact this
      | 2 => exact this
      | _ + 3 => exact this)
  by_cases hk : k' = 8
  · subst hk
    exact congrArg (fun (x : Option Nat) => (Sum.inr (7, [.int (nI (S.cp i')), .int (nI (S.ck i')), .int (nI (S.cl i')), .int (S.ca i'), .int (S.cx i'), .int (nI (S.cd i')), .int (irI (S.ct i')), .ref (g.ad 14 i'), .int (S.cs i'), .int (irI x), .int (nI (S.ce i')), .int (S.cm i')]) : va_E)) (va_up_ne S.cr v (fun e => hn ⟨rfl, e⟩))
  · match k', hk, hv with
    | 0, _, hv => exact hv.elim
    | 1, _, _ => exact rfl
    | 2, _, _ => exact rfl
    | 3, _, _ => exact rfl
    | 4, _, hv =>
      match i', hv with
      | 0, _ => exact rfl
      | _ + 1, _ => exact rfl
    | 5, _, _ => exact rfl
    | 6, _, _ => exact rfl
    | 7, _, _ => exact rfl
    | 8, hk, _ => exact absurd rfl hk
    | 9, _, _ => exact rfl
    | 10, _, _ => exact rfl
    | 11, _, _ => exact rfl
    | 12, _, _ => exact rfl
    | 13, _, _ => exact rfl
    | 14, _, _ => exact rfl
    | _ + 15, _, hv => exact hv.elim
theorem RB.s_ce {E : EE} {S : St} {th : Int32} {g : Gh} {H H1 : Heap} {i : Nat} {v : Nat} (h : RB E S th g H) (hi : i < S.nc) (hat : va_at E.1 vwCl (g.ad 8 i, .inr (7, [.int (nI (S.cp i)), .int (nI (S.ck i)), .int (nI (S.cl i)), .int (S.ca i), .int (S.cx i), .int (nI (S.cd i)), .int (irI (S.ct i)), .ref (g.ad 14 i), .int (S.cs i), .int (irI (S.cr i)), .int (nI v), .int (S.cm i)])) H1) (oq : ∀ q : Nat, q ≠ g.ad 8 i → H1[q]? = H[q]?) : RB E (u_ce S i v) th g H1 := by
  refine h.put (k := 8) (i := i) hi hat oq (fun k' i' hv => by
    match k' with
    | 0 => exact hv
    | 1 => exact hv
    | 2 => exact hv
    | 3 => exact hv
    | 4 => exact hv
    | 5 => exact hv
    | 6 => exact hv
    | 7 => exact hv
    | 8 => exact hv
    | 9 => exact hv
    | 10 => exact hv
    | 11 => exact hv
    | 12 => exact hv
    | 13 => exact hv
    | 14 => exact hv
    | _ + 15 => exact hv) (congrArg (fun (x : Nat) => (Sum.inr (7, [.int (nI (S.cp i)), .int (nI (S.ck i)), .int (nI (S.cl i)), .int (S.ca i), .int (S.cx i), .int (nI (S.cd i)), .int (irI (S.ct i)), .ref (g.ad 14 i), .int (S.cs i), .int (irI (S.cr i)), .int (nI x), .int (S.cm i)]) : va_E)) (va_up_self S.ce i v)) (fun k' i' hv hn => ?_) (fun j hj => by
      have := h.2.1 j hj
      match j with
      | 0 => exact this
      | 1 => exact this
      | 2 => exact this
      | _ + 3 => exact this)
  by_cases hk : k' = 8
  · subst hk
    exact congrArg (fun (x : Nat) => (Sum.inr (7, [.int (nI (S.cp i')), .int (nI (S.ck i')), .int (nI (S.cl i')), .int (S.ca i'), .int (S.cx i'), .int (nI (S.cd i')), .int (irI (S.ct i')), .ref (g.ad 14 i'), .int (S.cs i'), .int (irI (S.cr i')), .int (nI x), .int (S.cm i')]) : va_E)) (va_up_ne S.ce v (fun e => hn ⟨rfl, e⟩))
  · match k', hk, hv with
    | 0, _, hv => exact hv.elim
    | 1, _, _ => exact rfl
    | 2, _, _ => exact rfl
    | 3, _, _ => exact rfl
    | 4, _, hv =>
      match i', hv with
      | 0, _ => exact rfl
      | _ + 1, _ => exact rfl
    | 5, _, _ => exact rfl
    | 6, _, _ => exact rfl
    | 7, _, _ => exact rfl
    | 8, hk, _ => exact absurd rfl hk
    | 9, _, _ => exact rfl
    | 10, _, _ => exact rfl
    | 11, _, _ => exact rfl
    | 12, _, _ => exact rfl
    | 13, _, _ => exact rfl
    | 14, _, _ => exact rfl
    | _ + 15, _, hv => exact hv.elim
theorem RB.s_cm {E : EE} {S : St} {th : Int32} {g : Gh} {H H1 : Heap} {i : Nat} {v : Int32} (h : RB E S th g H) (hi : i < S.nc) (hat : va_at E.1 vwCl (g.ad 8 i, .inr (7, [.int (nI (S.cp i)), .int (nI (S.ck i)), .int (nI (S.cl i)), .int (S.ca i), .int (S.cx i), .int (nI (S.cd i)), .int (irI (S.ct i)), .ref (g.ad 14 i), .int (S.cs i), .int (irI (S.cr i)), .int (nI (S.ce i)), .int v])) H1) (oq : ∀ q : Nat, q ≠ g.ad 8 i → H1[q]? = H[q]?) : RB E (u_cm S i v) th g H1 := by
  refine h.put (k := 8) (i := i) hi hat oq (fun k' i' hv => by
    match k' with
    | 0 => exact hv
    | 1 => exact hv
    | 2 => exact hv
    | 3 => exact hv
    | 4 => exact hv
    | 5 => exact hv
    | 6 => exact hv
    | 7 => exact hv
    | 8 => exact hv
    | 9 => exact hv
    | 10 => exact hv
    | 11 => exact hv
    | 12 => exact hv
    | 13 => exact hv
    | 14 => exact hv
    | _ + 15 => exact hv) (congrArg (fun (x : Int32) => (Sum.inr (7, [.int (nI (S.cp i)), .int (nI (S.ck i)), .int (nI (S.cl i)), .int (S.ca i), .int (S.cx i), .int (nI (S.cd i)), .int (irI (S.ct i)), .ref (g.ad 14 i), .int (S.cs i), .int (irI (S.cr i)), .int (nI (S.ce i)), .int x]) : va_E)) (va_up_self S.cm i v)) (fun k' i' hv hn => ?_) (fun j hj => by
      have := h.2.1 j hj
      match j with
      | 0 => exact this
      | 1 => exact this
      | 2 => exact this
      | _ + 3 => exact this)
  by_cases hk : k' = 8
  · subst hk
    exact congrArg (fun (x : Int32) => (Sum.inr (7, [.int (nI (S.cp i')), .int (nI (S.ck i')), .int (nI (S.cl i')), .int (S.ca i'), .int (S.cx i'), .int (nI (S.cd i')), .int (irI (S.ct i')), .ref (g.ad 14 i'), .int (S.cs i'), .int (irI (S.cr i')), .int (nI (S.ce i')), .int x]) : va_E)) (va_up_ne S.cm v (fun e => hn ⟨rfl, e⟩))
  · match k', hk, hv with
    | 0, _, hv => exact hv.elim
    | 1, _, _ => exact rfl
    | 2, _, _ => exact rfl
    | 3, _, _ => exact rfl
    | 4, _, hv =>
      match i', hv with
      | 0, _ => exact rfl
      | _ + 1, _ => exact rfl
    | 5, _, _ => exact rfl
    | 6, _, _ => exact rfl
    | 7, _, _ => exact rfl
    | 8, hk, _ => exact absurd rfl hk
    | 9, _, _ => exact rfl
    | 10, _, _ => exact rfl
    | 11, _, _ => exact rfl
    | 12, _, _ => exact rfl
    | 13, _, _ => exact rfl
    | 14, _, _ => exact rfl
    | _ + 15, _, hv => exact hv.elim
theorem RB.s_ro {E : EE} {S : St} {th : Int32} {g : Gh} {H H1 : Heap} {i : Nat} {v : Option Nat} (h : RB E S th g H) (hi : i < S.nr) (hat : va_at E.1 vwCl (g.ad 9 i, .inr (10, [.int (S.ra i), .int (S.rd i), .int (S.rx i), .int (irI v)])) H1) (oq : ∀ q : Nat, q ≠ g.ad 9 i → H1[q]? = H[q]?) : RB E (u_ro S i v) th g H1 := by
  refine h.put (k := 9) (i := i) hi hat oq (fun k' i' hv => by
    match k' with
    | 0 => exact hv
    | 1 => exact hv
    | 2 => exact hv
    | 3 => exact hv
    | 4 => exact hv
    | 5 => exact hv
    | 6 => exact hv
    | 7 => exact hv
    | 8 => exact hv
    | 9 => exact hv
    | 10 => exact hv
    | 11 => exact hv
    | 12 => exact hv
    | 13 => exact hv
    | 14 => exact hv
    | _ + 15 => exact hv) (congrArg (fun (x : Option Nat) => (Sum.inr (10, [.int (S.ra i), .int (S.rd i), .int (S.rx i), .int (irI x)]) : va_E)) (va_up_self S.ro i v)) (fun k' i' hv hn => ?_) (fun j hj => by
      have := h.2.1 j hj
      match j with
      | 0 => exact this
      | 1 => exact this
      | 2 => exact this
      | _ + 3 => exact this)
  by_cases hk : k' = 9
  · subst hk
    exact congrArg (fun (x : Option Nat) => (Sum.inr (10, [.int (S.ra i'), .int (S.rd i'), .int (S.rx i'), .int (irI x)]) : va_E)) (va_up_ne S.ro v (fun e => hn ⟨rfl, e⟩))
  · match k', hk, hv with
    | 0, _, hv => exact hv.elim
    | 1, _, _ => exact rfl
    | 2, _, _ => exact rfl
    | 3, _, _ => exact rfl
    | 4, _, hv =>
      match i', hv with
      | 0, _ => exact rfl
      | _ + 1, _ => exact rfl
    | 5, _, _ => exact rfl
    | 6, _, _ => exact rfl
    | 7, _, _ => exact rfl
    | 8, _, _ => exact rfl
    | 9, hk, _ => exact absurd rfl hk
    | 10, _, _ => exact rfl
    | 11, _, _ => exact rfl
    | 12, _, _ => exact rfl
    | 13, _, _ => exact rfl
    | 14, _, _ => exact rfl
    | _ + 15, _, hv => exact hv.elim
theorem RB.s_td {E : EE} {S : St} {th : Int32} {g : Gh} {H H1 : Heap} {v : Nat} (h : RB E S th g H) (hat : va_at E.1 vwCl (g.ad 12 0, .inr (8, [.ref (g.ad 2 0), .ref (g.ad 2 1), .ref (g.ad 2 2), .ref (g.ad 2 3), .ref (g.ad 4 0), .ref (g.ad 5 0), .ref (g.ad 4 1), .int (nI v)])) H1) (oq : ∀ q : Nat, q ≠ g.ad 12 0 → H1[q]? = H[q]?) : RB E (S.s_td v) th g H1 := by
  refine h.put (k := 12) (i := 0) rfl hat oq (fun k' i' hv => by
    match k' with
    | 0 => exact hv
    | 1 => exact hv
    | 2 => exact hv
    | 3 => exact hv
    | 4 => exact hv
    | 5 => exact hv
    | 6 => exact hv
    | 7 => exact hv
    | 8 => exact hv
    | 9 => exact hv
    | 10 => exact hv
    | 11 => exact hv
    | 12 => exact hv
    | 13 => exact hv
    | 14 => exact hv
    | _ + 15 => exact hv) rfl (fun k' i' hv hn => ?_) (fun j hj => by
      have := h.2.1 j hj
      match j with
      | 0 => exact this
      | 1 => exact this
      | 2 => exact this
      | _ + 3 => exact this)
  by_cases hk : k' = 12
  · subst hk
    have hv : i' = 0 := hv
    exact absurd ⟨rfl, hv⟩ hn
  · match k', hk, hv with
    | 0, _, hv => exact hv.elim
    | 1, _, _ => exact rfl
    | 2, _, _ => exact rfl
    | 3, _, _ => exact rfl
    | 4, _, hv =>
      match i', hv with
      | 0, _ => exact rfl
      | _ + 1, _ => exact rfl
    | 5, _, _ => exact rfl
    | 6, _, _ => exact rfl
    | 7, _, _ => exact rfl
    | 8, _, _ => exact rfl
    | 9, _, _ => exact rfl
    | 10, _, _ => exact rfl
    | 11, _, _ => exact rfl
    | 12, hk, _ => exact absurd rfl hk
    | 13, _, _ => exact rfl
    | 14, _, _ => exact rfl
    | _ + 15, _, hv => exact hv.elim
theorem RB.s_th {E : EE} {S : St} {th : Int32} {g : Gh} {H H1 : Heap} {v : Int32} (h : RB E S th g H) (hat : va_at E.1 vwCl (g.ad 1 0, .inr (12, [.int v, .ref (g.ad 12 0)])) H1) (oq : ∀ q : Nat, q ≠ g.ad 1 0 → H1[q]? = H[q]?) : RB E S v g H1 := by
  refine h.put (k := 1) (i := 0) rfl hat oq (fun k' i' hv => by
    match k' with
    | 0 => exact hv
    | 1 => exact hv
    | 2 => exact hv
    | 3 => exact hv
    | 4 => exact hv
    | 5 => exact hv
    | 6 => exact hv
    | 7 => exact hv
    | 8 => exact hv
    | 9 => exact hv
    | 10 => exact hv
    | 11 => exact hv
    | 12 => exact hv
    | 13 => exact hv
    | 14 => exact hv
    | _ + 15 => exact hv) rfl (fun k' i' hv hn => ?_) (fun j hj => by
      have := h.2.1 j hj
      match j with
      | 0 => exact this
      | 1 => exact this
      | 2 => exact this
      | _ + 3 => exact this)
  by_cases hk : k' = 1
  · subst hk
    have hv : i' = 0 := hv
    exact absurd ⟨rfl, hv⟩ hn
  · match k', hk, hv with
    | 0, _, hv => exact hv.elim
    | 1, hk, _ => exact absurd rfl hk
    | 2, _, _ => exact rfl
    | 3, _, _ => exact rfl
    | 4, _, hv =>
      match i', hv with
      | 0, _ => exact rfl
      | _ + 1, _ => exact rfl
    | 5, _, _ => exact rfl
    | 6, _, _ => exact rfl
    | 7, _, _ => exact rfl
    | 8, _, _ => exact rfl
    | 9, _, _ => exact rfl
    | 10, _, _ => exact rfl
    | 11, _, _ => exact rfl
    | 12, _, _ => exact rfl
    | 13, _, _ => exact rfl
    | 14, _, _ => exact rfl
    | _ + 15, _, hv => exact hv.elim
theorem setT_at {S : St} {t j : Nat} {v : Int32} : (setT S t j v).tb t j = v := by
  show va_up S.tb t (va_up (S.tb t) j v) t j = v
  rw [va_up_self, va_up_self]
theorem setT_ne {S : St} {t j i : Nat} {v : Int32} (h : ¬ i = j) : (setT S t j v).tb t i = S.tb t i := by
  show va_up S.tb t (va_up (S.tb t) j v) t i = _
  rw [va_up_self, va_up_ne _ _ h]
theorem setT_nt {S : St} {t u j i : Nat} {v : Int32} (h : ¬ u = t) : (setT S t j v).tb u i = S.tb u i := by
  show va_up S.tb t (va_up (S.tb t) j v) u i = _
  rw [va_up_ne _ _ h]
