/-! stores: the reference's picture behind them -/
theorem RB.put {E : EE} {S S' : St} {th th' : Int32} {g : Gh} {H H1 : Heap} {k i : Nat} {e : va_E} (h : RB E S th g H) (hi : valB S g k i) (hat : va_at E.1 vwCl (g.ad k i, e) H1) (oq : ∀ q : Nat, q ≠ g.ad k i → H1[q]? = H[q]?) (hv : ∀ k' i', valB S' g k' i' → valB S g k' i') (he : cellB E S' th' g k i = e) (ho : ∀ k' i', valB S' g k' i' → ¬ (k' = k ∧ i' = i) → cellB E S' th' g k' i' = cellB E S th g k' i') (hc : capOk S' g) : RB E S' th' g H1 := by
  refine ⟨fun k' i' hv' => ⟨(h.1 k' i' (hv k' i' hv')).1, ?_⟩, hc, h.2.2.1, h.2.2.2.kept (fun q hq => oq q (fun e => by have := h.2.2.1.1 _ (h.ow hi); omega))⟩
  by_cases hk : k' = k ∧ i' = i
  · obtain ⟨rfl, rfl⟩ := hk
    rw [he]; exact hat
  · rw [ho k' i' hv' hk]
    refine (h.1 k' i' (hv k' i' hv')).2.kept (oq _ (fun e => hk ?_))
    have e : g.ad k' i' = g.ad k i := e
    have h1 := (h.1 k' i' (hv k' i' hv')).1
    rw [e, (h.1 k i hi).1] at h1
    exact ⟨(Prod.mk.inj h1).1.symm, (Prod.mk.inj h1).2.symm⟩
theorem RB.s_tr {E : EE} {S : St} {th : Int32} {g : Gh} {H H1 : Heap} {i : Nat} {v : Int32} (h : RB E S th g H) (hi : i < S.np) (hat : va_at E.1 vwCl (g.ad 6 i, .inr (9, [.int (nI i), va_rf ((S.bo i).map (g.ad 6)), .int v, .int (S.po i), .ref (g.ad 13 i), .int (S.aw i), .int (irI (S.si i))])) H1) (oq : ∀ q : Nat, q ≠ g.ad 6 i → H1[q]? = H[q]?) : RB E (u_tr S i v) th g H1 := by
  refine h.put (k := 6) (i := i) hi hat oq (fun k' i' hv => by
    match k' with
    | 0 => exact hv
    | 1 => exact hv
    | 2 => exact hv
    | 3 => exact hv
    | 4 => exact hv
    | 5 => exact hv
    | 6 => exact hv
    | 7 => exact hv
    | 8 => exact hv
    | 9 => exact hv
    | 10 => exact hv
    | 11 => exact hv
    | 12 => exact hv
    | 13 => exact hv
    | 14 => exact hv
    | _ + 15 => exact hv) (congrArg (fun (x : Int32) => (Sum.inr (9, [.int (nI i), va_rf ((S.bo i).map (g.ad 6)), .int x, .int (S.po i), .ref (g.ad 13 i), .int (S.aw i), .int (irI (S.si i))]) : va_E)) (va_up_self S.tr i v)) (fun k' i' hv hn => ?_) (fun j hj => by
      have := h.2.1 j hj
      match j with
      | 0 => exact this
      | 1 => exact this
      | 2 => exact this
      | _ + 3 => exact this)
  by_cases hk : k' = 6
  · subst hk
    exact congrArg (fun (x : Int32) => (Sum.inr (9, [.int (nI i'), va_rf ((S.bo i').map (g.ad 6)), .int x, .int (S.po i'), .ref (g.ad 13 i'), .int (S.aw i'), .int (irI (S.si i'))]) : va_E)) (va_up_ne S.tr v (fun e => hn ⟨rfl, e⟩))
  · match k', hk, hv with
    | 0, _, hv => exact hv.elim
    | 1, _, _ => exact rfl
    | 2, _, _ => exact rfl
    | 3, _, _ => exact rfl
    | 4, _, hv =>
      match i', hv with
      | 0, _ => exact rfl
      | _ + 1, _ => exact rfl
    | 5, _, _ => exact rfl
    | 6, hk, _ => exact absurd rfl hk
    | 7, _, _ => exact rfl
    | 8, _, _ => exact rfl
    | 9, _, _ => exact rfl
    | 10, _, _ => exact rfl
    | 11, _, _ => exact rfl
    | 12, _, _ => exact rfl
    | 13, _, _ => exact rfl
    | 14, _, _ => exact rfl
    | _ + 15, _, hv => exact hv.elim
theorem RB.s_po {E : EE} {S : St} {th : Int32} {g : Gh} {H H1 : Heap} {i : Nat} {v : Int32} (h : RB E S th g H) (hi : i < S.np) (hat : va_at E.1 vwCl (g.ad 6 i, .inr (9, [.int (nI i), va_rf ((S.bo i).map (g.ad 6)), .int (S.tr i), .int v, .ref (g.ad 13 i), .int (S.aw i), .int (irI (S.si i))])) H1) (oq : ∀ q : Nat, q ≠ g.ad 6 i → H1[q]? = H[q]?) : RB E (u_po S i v) th g H1 := by
  refine h.put (k := 6) (i := i) hi hat oq (fun k' i' hv => by
    match k' with
    | 0 => exact hv
    | 1 => exact hv
    | 2 => exact hv
    | 3 => exact hv
    | 4 => exact hv
    | 5 => exact hv
    | 6 => exact hv
    | 7 => exact hv
    | 8 => exact hv
    | 9 => exact hv
    | 10 => exact hv
    | 11 => exact hv
    | 12 => exact hv
    | 13 => exact hv
    | 14 => exact hv
    | _ + 15 => exact hv) (congrArg (fun (x : Int32) => (Sum.inr (9, [.int (nI i), va_rf ((S.bo i).map (g.ad 6)), .int (S.tr i), .int x, .ref (g.ad 13 i), .int (S.aw i), .int (irI (S.si i))]) : va_E)) (va_up_self S.po i v)) (fun k' i' hv hn => ?_) (fun j hj => by
      have := h.2.1 j hj
      match j with
      | 0 => exact this
      | 1 => exact this
      | 2 => exact this
      | _ + 3 => exact this)
  by_cases hk : k' = 6
  · subst hk
    exact congrArg (fun (x : Int32) => (Sum.inr (9, [.int (nI i'), va_rf ((S.bo i').map (g.ad 6)), .int (S.tr i'), .int x, .ref (g.ad 13 i'), .int (S.aw i'), .int (irI (S.si i'))]) : va_E)) (va_up_ne S.po v (fun e => hn ⟨rfl, e⟩))
  · match k', hk, hv with
    | 0, _, hv => exact hv.elim
    | 1, _, _ => exact rfl
    | 2, _, _ => exact rfl
    | 3, _, _ => exact rfl
    | 4, _, hv =>
      match i', hv with
      | 0, _ => exact rfl
      | _ + 1, _ => exact rfl
    | 5, _, _ => exact rfl
    | 6, hk, _ => exact absurd rfl hk
    | 7, _, _ => exact rfl
    | 8, _, _ => exact rfl
    | 9, _, _ => exact rfl
    | 10, _, _ => exact rfl
    | 11, _, _ => exact rfl
    | 12, _, _ => exact rfl
    | 13, _, _ => exact rfl
    | 14, _, _ => exact rfl
    | _ + 15, _, hv => exact hv.elim
theorem RB.s_aw {E : EE} {S : St} {th : Int32} {g : Gh} {H H1 : Heap} {i : Nat} {v : Int32} (h : RB E S th g H) (hi : i < S.np) (hat : va_at E.1 vwCl (g.ad 6 i, .inr (9, [.int (nI i), va_rf ((S.bo i).map (g.ad 6)), .int (S.tr i), .int (S.po i), .ref (g.ad 13 i), .int v, .int (irI (S.si i))])) H1) (oq : ∀ q : Nat, q ≠ g.ad 6 i → H1[q]? = H[q]?) : RB E (u_aw S i v) th g H1 := by
  refine h.put (k := 6) (i := i) hi hat oq (fun k' i' hv => by
    match k' with
    | 0 => exact hv
    | 1 => exact hv
    | 2 => exact hv
    | 3 => exact hv
    | 4 => exact hv
    | 5 => exact hv
    | 6 => exact hv
    | 7 => exact hv
    | 8 => exact hv
    | 9 => exact hv
    | 10 => exact hv
    | 11 => exact hv
    | 12 => exact hv
    | 13 => exact hv
    | 14 => exact hv
    | _ + 15 => exact hv) (congrArg (fun (x : Int32) => (Sum.inr (9, [.int (nI i), va_rf ((S.bo i).map (g.ad 6)), .int (S.tr i), .int (S.po i), .ref (g.ad 13 i), .int x, .int (irI (S.si i))]) : va_E)) (va_up_self S.aw i v)) (fun k' i' hv hn => ?_) (fun j hj => by
      have := h.2.1 j hj
      match j with
      | 0 => exact this
      | 1 => exact this
      | 2 => exact this
      | _ + 3 => exact this)
  by_cases hk : k' = 6
  · subst hk
    exact congrArg (fun (x : Int32) => (Sum.inr (9, [.int (nI i'), va_rf ((S.bo i').map (g.ad 6)), .int (S.tr i'), .int (S.po i'), .ref (g.ad 13 i'), .int x, .int (irI (S.si i'))]) : va_E)) (va_up_ne S.aw v (fun e => hn ⟨rfl, e⟩))
  · match k', hk, hv with
    | 0, _, hv => exact hv.elim
    | 1, _, _ => exact rfl
    | 2, _, _ => exact rfl
    | 3, _, _ => exact rfl
    | 4, _, hv =>
      match i', hv with
      | 0, _ => exact rfl
      | _ + 1, _ => exact rfl
    | 5, _, _ => exact rfl
    | 6, hk, _ => exact absurd rfl hk
    | 7, _, _ => exact rfl
    | 8, _, _ => exact rfl
    | 9, _, _ => exact rfl
    | 10, _, _ => exact rfl
    | 11, _, _ => exact rfl
    | 12, _, _ => exact rfl
    | 13, _, _ => exact rfl
    | 14, _, _ => exact rfl
    | _ + 15, _, hv => exact hv.elim
theorem RB.s_si {E : EE} {S : St} {th : Int32} {g : Gh} {H H1 : Heap} {i : Nat} {v : Option Nat} (h : RB E S th g H) (hi : i < S.np) (hat : va_at E.1 vwCl (g.ad 6 i, .inr (9, [.int (nI i), va_rf ((S.bo i).map (g.ad 6)), .int (S.tr i), .int (S.po i), .ref (g.ad 13 i), .int (S.aw i), .int (irI v)])) H1) (oq : ∀ q : Nat, q ≠ g.ad 6 i → H1[q]? = H[q]?) : RB E (u_si S i v) th g H1 := by
  refine h.put (k := 6) (i := i) hi hat oq (fun k' i' hv => by
    match k' with
    | 0 => exact hv
    | 1 => exact hv
    | 2 => exact hv
    | 3 => exact hv
    | 4 => exact hv
    | 5 => exact hv
    | 6 => exact hv
    | 7 => exact hv
    | 8 => exact hv
    | 9 => exact hv
    | 10 => exact hv
    | 11 => exact hv
    | 12 => exact hv
    | 13 => exact hv
    | 14 => exact hv
    | _ + 15 => exact hv) (congrArg (fun (x : Option Nat) => (Sum.inr (9, [.int (nI i), va_rf ((S.bo i).map (g.ad 6)), .int (S.tr i), .int (S.po i), .ref (g.ad 13 i), .int (S.aw i), .int (irI x)]) : va_E)) (va_up_self S.si i v)) (fun k' i' hv hn => ?_) (fun j hj => by
      have := h.2.1 j hj
      match j with
      | 0 => exact this
      | 1 => exact this
      | 2 => exact this
      | _ + 3 => exact this)
  by_cases hk : k' = 6
  · subst hk
    exact congrArg (fun (x : Option Nat) => (Sum.inr (9, [.int (nI i'), va_rf ((S.bo i').map (g.ad 6)), .int (S.tr i'), .int (S.po i'), .ref (g.ad 13 i'), .int (S.aw i'), .int (irI x)]) : va_E)) (va_up_ne S.si v (fun e => hn ⟨rfl, e⟩))
  · match k', hk, hv with
    | 0, _, hv => exact hv.elim
    | 1, _, _ => exact rfl
    | 2, _, _ => exact rfl
    | 3, _, _ => exact rfl
    | 4, _, hv =>
      match i', hv with
      | 0, _ => exact rfl
      | _ + 1, _ => exact rfl
    | 5, _, _ => exact rfl
    | 6, hk, _ => exact absurd rfl hk
    | 7, _, _ => exact rfl
    | 8, _, _ => exact rfl
    | 9, _, _ => exact rfl
    | 10, _, _ => exact rfl
    | 11, _, _ => exact rfl
    | 12, _, _ => exact rfl
    | 13, _, _ => exact rfl
    | 14, _, _ => exact rfl
    | _ + 15, _, hv => exact hv.elim
theorem RB.s_cs {E : EE} {S : St} {th : Int32} {g : Gh} {H H1 : Heap} {i : Nat} {v : Int32} (h : RB E S th g H) (hi : i < S.nc) (hat : va_at E.1 vwCl (g.ad 8 i, .inr (7, [.int (nI (S.cp i)), .int (nI (S.ck i)), .int (nI (S.cl i)), .int (S.ca i), .int (S.cx i), .int (nI (S.cd i)), .int (irI (S.ct i)), .ref (g.ad 14 i), .int v, .int (irI (S.cr i)), .int (nI (S.ce i)), .int (S.cm i)])) H1) (oq : ∀ q : Nat, q ≠ g.ad 8 i → H1[q]? = H[q]?) : RB E (u_cs S i v) th g H1 := by
  refine h.put (k := 8) (i := i) hi hat oq (fun k' i' hv => by
    match k' with
    | 0 => exact hv
    | 1 => exact hv
    | 2 => exact hv
    | 3 => exact hv
    | 4 => exact hv
    | 5 => exact hv
    | 6 => exact hv
    | 7 => exact hv
    | 8 => exact hv
    | 9 => exact hv
    | 10 => exact hv
    | 11 => exact hv
    | 12 => exact hv
    | 13 => exact hv
    | 14 => exact hv
    | _ + 15 => exact hv) (congrArg (fun (x : Int32) => (Sum.inr (7, [.int (nI (S.cp i)), .int (nI (S.ck i)), .int (nI (S.cl i)), .int (S.ca i), .int (S.cx i), .int (nI (S.cd i)), .int (irI (S.ct i)), .ref (g.ad 14 i), .int x, .int (irI (S.cr i)), .int (nI (S.ce i)), .int (S.cm i)]) : va_E)) (va_up_self S.cs i v)) (fun k' i' hv hn => ?_) (fun j hj => by
      have := h.2.1 j hj
      match j with
      | 0 => exact this
      | 1 => exact this
      | 2 => exact this
      | _ + 3 => exact this)
  by_cases hk : k' = 8
  · subst hk
    exact congrArg (fun (x : Int32) => (Sum.inr (7, [.int (nI (S.cp i')), .int (nI (S.ck i')), .int (nI (S.cl i')), .int (S.ca i'), .int (S.cx i'), .int (nI (S.cd i')), .int (irI (S.ct i')), .ref (g.ad 14 i'), .int x, .int (irI (S.cr i')), .int (nI (S.ce i')), .int (S.cm i')]) : va_E)) (va_up_ne S.cs v (fun e => hn ⟨rfl, e⟩))
  · match k', hk, hv with
    | 0, _, hv => exact hv.elim
    | 1, _, _ => exact rfl
    | 2, _, _ => exact rfl
    | 3, _, _ => exact rfl
    | 4, _, hv =>
      match i', hv with
      | 0, _ => exact rfl
      | _ + 1, _ => exact rfl
    | 5, _, _ => exact rfl
    | 6, _, _ => exact rfl
    | 7, _, _ => exact rfl
    | 8, hk, _ => exact absurd rfl hk
    | 9, _, _ => exact rfl
    | 10, _, _ => exact rfl
    | 11, _, _ => exact rfl
    | 12, _, _ => exact rfl
    | 13, _, _ => exact rfl
    | 14, _, _ => exact rfl
    | _ + 15, _, hv => exact hv.elim
theorem RB.s_cr {E : EE} {S : St} {th : Int32} {g : Gh} {H H1 : Heap} {i : Nat} {v : Option Nat} (h : RB E S th g H) (hi : i < S.nc) (hat : va_at E.1 vwCl (g.ad 8 i, .inr (7, [.int (nI (S.cp i)), .int (nI (S.ck i)), .int (nI (S.cl i)), .int (S.ca i), .int (S.cx i), .int (nI (S.cd i)), .int (irI (S.ct i)), .ref (g.ad 14 i), .int (S.cs i), .int (irI v), .int (nI (S.ce i)), .int (S.cm i)])) H1) (oq : ∀ q : Nat, q ≠ g.ad 8 i → H1[q]? = H[q]?) : RB E (u_cr S i v) th g H1 := by
  refine h.put (k := 8) (i := i) hi hat oq (fun k' i' hv => by
    match k' with
    | 0 => exact hv
    | 1 => exact hv
    | 2 => exact hv
    | 3 => exact hv
    | 4 => exact hv
    | 5 => exact hv
    | 6 => exact hv
    | 7 => exact hv
    | 8 => exact hv
    | 9 => exact hv
    | 10 => exact hv
    | 11 => exact hv
    | 12 => exact hv
    | 13 => exact hv
    | 14 => exact hv
    | _ + 15 => exact hv) (congrArg (fun (x : Option Nat) => (Sum.inr (7, [.int (nI (S.cp i)), .int (nI (S.ck i)), .int (nI (S.cl i)), .int (S.ca i), .int (S.cx i), .int (nI (S.cd i)), .int (irI (S.ct i)), .ref (g.ad 14 i), .int (S.cs i), .int (irI x), .int (nI (S.ce i)), .int (S.cm i)]) : va_E)) (va_up_self S.cr i v)) (fun k' i' hv hn => ?_) (fun j hj => by
      have := h.2.1 j hj
      match j with
      | 0 => exact this
      | 1 => exact this
      | 2 => exact this
      | _ + 3 => exact this)
  by_cases hk : k' = 8
  · subst hk
    exact congrArg (fun (x : Option Nat) => (Sum.inr (7, [.int (nI (S.cp i')), .int (nI (S.ck i')), .int (nI (S.cl i')), .int (S.ca i'), .int (S.cx i'), .int (nI (S.cd i')), .int (irI (S.ct i')), .ref (g.ad 14 i'), .int (S.cs i'), .int (irI x), .int (nI (S.ce i')), .int (S.cm i')]) : va_E)) (va_up_ne S.cr v (fun e => hn ⟨rfl, e⟩))
  · match k', hk, hv with
    | 0, _, hv => exact hv.elim
    | 1, _, _ => exact rfl
    | 2, _, _ => exact rfl
    | 3, _, _ => exact rfl
    | 4, _, hv =>
      match i', hv with
      | 0, _ => exact rfl
      | _ + 1, _ => exact rfl
    | 5, _, _ => exact rfl
    | 6, _, _ => exact rfl
    | 7, _, _ => exact rfl
    | 8, hk, _ => exact absurd rfl hk
    | 9, _, _ => exact rfl
    | 10, _, _ => exact rfl
    | 11, _, _ => exact rfl
    | 12, _, _ => exact rfl
    | 13, _, _ => exact rfl
    | 14, _, _ => exact rfl
    | _ + 15, _, hv => exact hv.elim
theorem RB.s_ce {E : EE} {S : St} {th : Int32} {g : Gh} {H H1 : Heap} {i : Nat} {v : Nat} (h : RB E S th g H) (hi : i < S.nc) (hat : va_at E.1 vwCl (g.ad 8 i, .inr (7, [.int (nI (S.cp i)), .int (nI (S.ck i)), .int (nI (S.cl i)), .int (S.ca i), .int (S.cx i), .int (nI (S.cd i)), .int (irI (S.ct i)), .ref (g.ad 14 i), .int (S.cs i), .int (irI (S.cr i)), .int (nI v), .int (S.cm i)])) H1) (oq : ∀ q : Nat, q ≠ g.ad 8 i → H1[q]? = H[q]?) : RB E (u_ce S i v) th g H1 := by
  refine h.put (k := 8) (i := i) hi hat oq (fun k' i' hv => by
    match k' with
    | 0 => exact hv
    | 1 => exact hv
    | 2 => exact hv
    | 3 => exact hv
    | 4 => exact hv
    | 5 => exact hv
    | 6 => exact hv
    | 7 => exact hv
    | 8 => exact hv
    | 9 => exact hv
    | 10 => exact hv
    | 11 => exact hv
    | 12 => exact hv
    | 13 => exact hv
    | 14 => exact hv
    | _ + 15 => exact hv) (congrArg (fun (x : Nat) => (Sum.inr (7, [.int (nI (S.cp i)), .int (nI (S.ck i)), .int (nI (S.cl i)), .int (S.ca i), .int (S.cx i), .int (nI (S.cd i)), .int (irI (S.ct i)), .ref (g.ad 14 i), .int (S.cs i), .int (irI (S.cr i)), .int (nI x), .int (S.cm i)]) : va_E)) (va_up_self S.ce i v)) (fun k' i' hv hn => ?_) (fun j hj => by
      have := h.2.1 j hj
      match j with
      | 0 => exact this
      | 1 => exact this
      | 2 => exact this
      | _ + 3 => exact this)
  by_cases hk : k' = 8
  · subst hk
    exact congrArg (fun (x : Nat) => (Sum.inr (7, [.int (nI (S.cp i')), .int (nI (S.ck i')), .int (nI (S.cl i')), .int (S.ca i'), .int (S.cx i'), .int (nI (S.cd i')), .int (irI (S.ct i')), .ref (g.ad 14 i'), .int (S.cs i'), .int (irI (S.cr i')), .int (nI x), .int (S.cm i')]) : va_E)) (va_up_ne S.ce v (fun e => hn ⟨rfl, e⟩))
  · match k', hk, hv with
    | 0, _, hv => exact hv.elim
    | 1, _, _ => exact rfl
    | 2, _, _ => exact rfl
    | 3, _, _ => exact rfl
    | 4, _, hv =>
      match i', hv with
      | 0, _ => exact rfl
      | _ + 1, _ => exact rfl
    | 5, _, _ => exact rfl
    | 6, _, _ => exact rfl
    | 7, _, _ => exact rfl
    | 8, hk, _ => exact absurd rfl hk
    | 9, _, _ => exact rfl
    | 10, _, _ => exact rfl
    | 11, _, _ => exact rfl
    | 12, _, _ => exact rfl
    | 13, _, _ => exact rfl
    | 14, _, _ => exact rfl
    | _ + 15, _, hv => exact hv.elim
theorem RB.s_cm {E : EE} {S : St} {th : Int32} {g : Gh} {H H1 : Heap} {i : Nat} {v : Int32} (h : RB E S th g H) (hi : i < S.nc) (hat : va_at E.1 vwCl (g.ad 8 i, .inr (7, [.int (nI (S.cp i)), .int (nI (S.ck i)), .int (nI (S.cl i)), .int (S.ca i), .int (S.cx i), .int (nI (S.cd i)), .int (irI (S.ct i)), .ref (g.ad 14 i), .int (S.cs i), .int (irI (S.cr i)), .int (nI (S.ce i)), .int v])) H1) (oq : ∀ q : Nat, q ≠ g.ad 8 i → H1[q]? = H[q]?) : RB E (u_cm S i v) th g H1 := by
  refine h.put (k := 8) (i := i) hi hat oq (fun k' i' hv => by
    match k' with
    | 0 => exact hv
    | 1 => exact hv
    | 2 => exact hv
    | 3 => exact hv
    | 4 => exact hv
    | 5 => exact hv
    | 6 => exact hv
    | 7 => exact hv
    | 8 => exact hv
    | 9 => exact hv
    | 10 => exact hv
    | 11 => exact hv
    | 12 => exact hv
    | 13 => exact hv
    | 14 => exact hv
    | _ + 15 => exact hv) (congrArg (fun (x : Int32) => (Sum.inr (7, [.int (nI (S.cp i)), .int (nI (S.ck i)), .int (nI (S.cl i)), .int (S.ca i), .int (S.cx i), .int (nI (S.cd i)), .int (irI (S.ct i)), .ref (g.ad 14 i), .int (S.cs i), .int (irI (S.cr i)), .int (nI (S.ce i)), .int x]) : va_E)) (va_up_self S.cm i v)) (fun k' i' hv hn => ?_) (fun j hj => by
      have := h.2.1 j hj
      match j with
      | 0 => exact this
      | 1 => exact this
      | 2 => exact this
      | _ + 3 => exact this)
  by_cases hk : k' = 8
  · subst hk
    exact congrArg (fun (x : Int32) => (Sum.inr (7, [.int (nI (S.cp i')), .int (nI (S.ck i')), .int (nI (S.cl i')), .int (S.ca i'), .int (S.cx i'), .int (nI (S.cd i')), .int (irI (S.ct i')), .ref (g.ad 14 i'), .int (S.cs i'), .int (irI (S.cr i')), .int (nI (S.ce i')), .int x]) : va_E)) (va_up_ne S.cm v (fun e => hn ⟨rfl, e⟩))
  · match k', hk, hv with
    | 0, _, hv => exact hv.elim
    | 1, _, _ => exact rfl
    | 2, _, _ => exact rfl
    | 3, _, _ => exact rfl
    | 4, _, hv =>
      match i', hv with
      | 0, _ => exact rfl
      | _ + 1, _ => exact rfl
    | 5, _, _ => exact rfl
    | 6, _, _ => exact rfl
    | 7, _, _ => exact rfl
    | 8, hk, _ => exact absurd rfl hk
    | 9, _, _ => exact rfl
    | 10, _, _ => exact rfl
    | 11, _, _ => exact rfl
    | 12, _, _ => exact rfl
    | 13, _, _ => exact rfl
    | 14, _, _ => exact rfl
    | _ + 15, _, hv => exact hv.elim
theorem RB.s_ro {E : EE} {S : St} {th : Int32} {g : Gh} {H H1 : Heap} {i : Nat} {v : Option Nat} (h : RB E S th g H) (hi : i < S.nr) (hat : va_at E.1 vwCl (g.ad 9 i, .inr (10, [.int (S.ra i), .int (S.rd i), .int (S.rx i), .int (irI v)])) H1) (oq : ∀ q : Nat, q ≠ g.ad 9 i → H1[q]? = H[q]?) : RB E (u_ro S i v) th g H1 := by
  refine h.put (k := 9) (i := i) hi hat oq (fun k' i' hv => by
    match k' with
    | 0 => exact hv
    | 1 => exact hv
    | 2 => exact hv
    | 3 => exact hv
    | 4 => exact hv
    | 5 => exact hv
    | 6 => exact hv
    | 7 => exact hv
    | 8 => exact hv
    | 9 => exact hv
    | 10 => exact hv
    | 11 => exact hv
    | 12 => exact hv
    | 13 => exact hv
    | 14 => exact hv
    | _ + 15 => exact hv) (congrArg (fun (x : Option Nat) => (Sum.inr (10, [.int (S.ra i), .int (S.rd i), .int (S.rx i), .int (irI x)]) : va_E)) (va_up_self S.ro i v)) (fun k' i' hv hn => ?_) (fun j hj => by
      have := h.2.1 j hj
      match j with
      | 0 => exact this
      | 1 => exact this
      | 2 => exact this
      | _ + 3 => exact this)
  by_cases hk : k' = 9
  · subst hk
    exact congrArg (fun (x : Option Nat) => (Sum.inr (10, [.int (S.ra i'), .int (S.rd i'), .int (S.rx i'), .int (irI x)]) : va_E)) (va_up_ne S.ro v (fun e => hn ⟨rfl, e⟩))
  · match k', hk, hv with
    | 0, _, hv => exact hv.elim
    | 1, _, _ => exact rfl
    | 2, _, _ => exact rfl
    | 3, _, _ => exact rfl
    | 4, _, hv =>
      match i', hv with
      | 0, _ => exact rfl
      | _ + 1, _ => exact rfl
    | 5, _, _ => exact rfl
    | 6, _, _ => exact rfl
    | 7, _, _ => exact rfl
    | 8, _, _ => exact rfl
    | 9, hk, _ => exact absurd rfl hk
    | 10, _, _ => exact rfl
    | 11, _, _ => exact rfl
    | 12, _, _ => exact rfl
    | 13, _, _ => exact rfl
    | 14, _, _ => exact rfl
    | _ + 15, _, hv => exact hv.elim
theorem RB.s_td {E : EE} {S : St} {th : Int32} {g : Gh} {H H1 : Heap} {v : Nat} (h : RB E S th g H) (hat : va_at E.1 vwCl (g.ad 12 0, .inr (8, [.ref (g.ad 2 0), .ref (g.ad 2 1), .ref (g.ad 2 2), .ref (g.ad 2 3), .ref (g.ad 4 0), .ref (g.ad 5 0), .ref (g.ad 4 1), .int (nI v)])) H1) (oq : ∀ q : Nat, q ≠ g.ad 12 0 → H1[q]? = H[q]?) : RB E (S.s_td v) th g H1 := by
  refine h.put (k := 12) (i := 0) rfl hat oq (fun k' i' hv => by
    match k' with
    | 0 => exact hv
    | 1 => exact hv
    | 2 => exact hv
    | 3 => exact hv
    | 4 => exact hv
    | 5 => exact hv
    | 6 => exact hv
    | 7 => exact hv
    | 8 => exact hv
    | 9 => exact hv
    | 10 => exact hv
    | 11 => exact hv
    | 12 => exact hv
    | 13 => exact hv
    | 14 => exact hv
    | _ + 15 => exact hv) rfl (fun k' i' hv hn => ?_) (fun j hj => by
      have := h.2.1 j hj
      match j with
      | 0 => exact this
      | 1 => exact this
      | 2 => exact this
      | _ + 3 => exact this)
  by_cases hk : k' = 12
  · subst hk
    have hv : i' = 0 := hv
    exact absurd ⟨rfl, hv⟩ hn
  · match k', hk, hv with
    | 0, _, hv => exact hv.elim
    | 1, _, _ => exact rfl
    | 2, _, _ => exact rfl
    | 3, _, _ => exact rfl
    | 4, _, hv =>
      match i', hv with
      | 0, _ => exact rfl
      | _ + 1, _ => exact rfl
    | 5, _, _ => exact rfl
    | 6, _, _ => exact rfl
    | 7, _, _ => exact rfl
    | 8, _, _ => exact rfl
    | 9, _, _ => exact rfl
    | 10, _, _ => exact rfl
    | 11, _, _ => exact rfl
    | 12, hk, _ => exact absurd rfl hk
    | 13, _, _ => exact rfl
    | 14, _, _ => exact rfl
    | _ + 15, _, hv => exact hv.elim
theorem RB.s_th {E : EE} {S : St} {th : Int32} {g : Gh} {H H1 : Heap} {v : Int32} (h : RB E S th g H) (hat : va_at E.1 vwCl (g.ad 1 0, .inr (12, [.int v, .ref (g.ad 12 0)])) H1) (oq : ∀ q : Nat, q ≠ g.ad 1 0 → H1[q]? = H[q]?) : RB E S v g H1 := by
  refine h.put (k := 1) (i := 0) rfl hat oq (fun k' i' hv => by
    match k' with
    | 0 => exact hv
    | 1 => exact hv
    | 2 => exact hv
    | 3 => exact hv
    | 4 => exact hv
    | 5 => exact hv
    | 6 => exact hv
    | 7 => exact hv
    | 8 => exact hv
    | 9 => exact hv
    | 10 => exact hv
    | 11 => exact hv
    | 12 => exact hv
    | 13 => exact hv
    | 14 => exact hv
    | _ + 15 => exact hv) rfl (fun k' i' hv hn => ?_) (fun j hj => by
      have := h.2.1 j hj
      match j with
      | 0 => exact this
      | 1 => exact this
      | 2 => exact this
      | _ + 3 => exact this)
  by_cases hk : k' = 1
  · subst hk
    have hv : i' = 0 := hv
    exact absurd ⟨rfl, hv⟩ hn
  · match k', hk, hv with
    | 0, _, hv => exact hv.elim
    | 1, hk, _ => exact absurd rfl hk
    | 2, _, _ => exact rfl
    | 3, _, _ => exact rfl
    | 4, _, hv =>
      match i', hv with
      | 0, _ => exact rfl
      | _ + 1, _ => exact rfl
    | 5, _, _ => exact rfl
    | 6, _, _ => exact rfl
    | 7, _, _ => exact rfl
    | 8, _, _ => exact rfl
    | 9, _, _ => exact rfl
    | 10, _, _ => exact rfl
    | 11, _, _ => exact rfl
    | 12, _, _ => exact rfl
    | 13, _, _ => exact rfl
    | 14, _, _ => exact rfl
    | _ + 15, _, hv => exact hv.elim
theorem setT_at {S : St} {t j : Nat} {v : Int32} : (setT S t j v).tb t j = v := by
  show va_up S.tb t (va_up (S.tb t) j v) t j = v
  rw [va_up_self, va_up_self]
theorem setT_ne {S : St} {t j i : Nat} {v : Int32} (h : ¬ i = j) : (setT S t j v).tb t i = S.tb t i := by
  show va_up S.tb t (va_up (S.tb t) j v) t i = _
  rw [va_up_self, va_up_ne _ _ h]
theorem setT_nt {S : St} {t u j i : Nat} {v : Int32} (h : ¬ u = t) : (setT S t j v).tb u i = S.tb u i := by
  show va_up S.tb t (va_up (S.tb t) j v) u i = _
  rw [va_up_ne _ _ h]
theorem lmB_s {S : St} {p k : Nat} {v : Int32} (hk : k < 4) : lmB (setT S 0 (p * 4 + k) v) p = va_up (lmB S p) k v := by
  funext j
  by_cases hj : j = k
  · subst hj
    rw [va_up_self]
    unfold lmB
    rw [if_pos hk, setT_at]
  · rw [va_up_ne _ _ hj]
    unfold lmB
    by_cases h4 : j < 4
    · rw [if_pos h4, if_pos h4, setT_ne (by omega)]
    · rw [if_neg h4, if_neg h4]
theorem lmB_n {S : St} {p p' k : Nat} {v : Int32} (hk : k < 4) (hp : ¬ p' = p) : lmB (setT S 0 (p * 4 + k) v) p' = lmB S p' := by
  funext j
  unfold lmB
  by_cases h4 : j < 4
  · rw [if_pos h4, if_pos h4, setT_ne (by omega)]
  · rw [if_neg h4, if_neg h4]
theorem lmB_t {S : St} {t j i : Nat} {v : Int32} (ht : ¬ 0 = t) : lmB (setT S t j v) i = lmB S i := by
  funext q
  unfold lmB
  rw [setT_nt ht]
theorem plB_s {S : St} {p k : Nat} {v : Int32} (hk : k < 4) : plB (setT S 1 (p * 4 + k) v) p = va_up (plB S p) k v := by
  funext j
  by_cases hj : j = k
  · subst hj
    rw [va_up_self]
    unfold plB
    rw [if_pos hk, setT_at]
  · rw [va_up_ne _ _ hj]
    unfold plB
    by_cases h4 : j < 4
    · rw [if_pos h4, if_pos h4, setT_ne (by omega)]
    · rw [if_neg h4, if_neg h4]
theorem plB_n {S : St} {p p' k : Nat} {v : Int32} (hk : k < 4) (hp : ¬ p' = p) : plB (setT S 1 (p * 4 + k) v) p' = plB S p' := by
  funext j
  unfold plB
  by_cases h4 : j < 4
  · rw [if_pos h4, if_pos h4, setT_ne (by omega)]
  · rw [if_neg h4, if_neg h4]
theorem plB_t {S : St} {t j i : Nat} {v : Int32} (ht : ¬ 1 = t) : plB (setT S t j v) i = plB S i := by
  funext q
  unfold plB
  rw [setT_nt ht]
theorem rtB_s {S : St} {p k : Nat} {v : Int32} (hk : k < 4) : rtB (setT S 3 (p * 4 + k) v) p = va_up (rtB S p) k v := by
  funext j
  by_cases hj : j = k
  · subst hj
    rw [va_up_self]
    unfold rtB
    rw [if_pos hk, setT_at]
  · rw [va_up_ne _ _ hj]
    unfold rtB
    by_cases h4 : j < 4
    · rw [if_pos h4, if_pos h4, setT_ne (by omega)]
    · rw [if_neg h4, if_neg h4]
theorem rtB_n {S : St} {p p' k : Nat} {v : Int32} (hk : k < 4) (hp : ¬ p' = p) : rtB (setT S 3 (p * 4 + k) v) p' = rtB S p' := by
  funext j
  unfold rtB
  by_cases h4 : j < 4
  · rw [if_pos h4, if_pos h4, setT_ne (by omega)]
  · rw [if_neg h4, if_neg h4]
theorem rtB_t {S : St} {t j i : Nat} {v : Int32} (ht : ¬ 3 = t) : rtB (setT S t j v) i = rtB S i := by
  funext q
  unfold rtB
  rw [setT_nt ht]
theorem caB_s {S : St} {k : Nat} {v : Int32} (hk : k < 4) : caB (setT S 2 (k * 1 + 0) v) = va_up (caB S) k v := by
  funext j
  by_cases hj : j = k
  · subst hj
    rw [va_up_self]
    unfold caB
    rw [if_pos hk, setT_at]
  · rw [va_up_ne _ _ hj]
    unfold caB
    by_cases h4 : j < 4
    · rw [if_pos h4, if_pos h4, setT_ne (by omega)]
    · rw [if_neg h4, if_neg h4]
theorem caB_t {S : St} {t j : Nat} {v : Int32} (ht : ¬ 2 = t) : caB (setT S t j v) = caB S := by
  funext q
  unfold caB
  rw [setT_nt ht]
theorem sum_arr {a : ClassId} {n : Nat} {f f' : Nat → Int32} (h : f = f') : (Sum.inl (a, n, .inl f) : va_E) = Sum.inl (a, n, .inl f') := by rw [h]
theorem RB.t_0 {E : EE} {S : St} {th : Int32} {g : Gh} {H H1 : Heap} {i k : Nat} {v : Int32} (h : RB E S th g H) (hi : i < S.np) (hk : k < 4) (hat : va_at E.1 vwCl (g.ad 13 i, .inl (eI E, 4, .inl (va_up (lmB S i) k v))) H1) (oq : ∀ q : Nat, q ≠ g.ad 13 i → H1[q]? = H[q]?) : RB E (setT S 0 (i * 4 + k) v) th g H1 := by
  refine h.put (k := 13) (i := i) hi hat oq (fun k' i' hv => by
    match k' with
    | 0 => exact hv
    | 1 => exact hv
    | 2 => exact hv
    | 3 => exact hv
    | 4 => exact hv
    | 5 => exact hv
    | 6 => exact hv
    | 7 => exact hv
    | 8 => exact hv
    | 9 => exact hv
    | 10 => exact hv
    | 11 => exact hv
    | 12 => exact hv
    | 13 => exact hv
    | 14 => exact hv
    | _ + 15 => exact hv) (sum_arr (lmB_s hk)) (fun k' i' hv hn => ?_) (fun j hj => by
      have := h.2.1 j hj
      match j with
      | 0 => exact this
      | 1 => exact this
      | 2 => exact this
      | _ + 3 => exact this)
  by_cases hk2 : k' = 13
  · subst hk2
    exact sum_arr (lmB_n hk (fun e => hn ⟨rfl, e⟩))
  · match k', hk2, hv with
    | 0, _, hv => exact hv.elim
    | 1, _, _ => exact rfl
    | 2, _, _ => exact rfl
    | 3, _, _ => exact rfl
    | 4, _, hv =>
      match i', hv with
      | 0, _ => exact rfl
      | _ + 1, _ => exact rfl
    | 5, _, _ => exact sum_arr (caB_t (by decide))
    | 6, _, _ => exact rfl
    | 7, _, _ => exact rfl
    | 8, _, _ => exact rfl
    | 9, _, _ => exact rfl
    | 10, _, _ => exact sum_arr (plB_t (by decide))
    | 11, _, _ => exact sum_arr (rtB_t (by decide))
    | 12, _, _ => exact rfl
    | 13, hk2, _ => exact absurd rfl hk2
    | 14, _, _ => exact rfl
    | _ + 15, _, hv => exact hv.elim
theorem RB.t_1 {E : EE} {S : St} {th : Int32} {g : Gh} {H H1 : Heap} {i k : Nat} {v : Int32} (h : RB E S th g H) (hi : i < 4) (hk : k < 4) (hat : va_at E.1 vwCl (g.ad 10 i, .inl (eI E, 4, .inl (va_up (plB S i) k v))) H1) (oq : ∀ q : Nat, q ≠ g.ad 10 i → H1[q]? = H[q]?) : RB E (setT S 1 (i * 4 + k) v) th g H1 := by
  refine h.put (k := 10) (i := i) hi hat oq (fun k' i' hv => by
    match k' with
    | 0 => exact hv
    | 1 => exact hv
    | 2 => exact hv
    | 3 => exact hv
    | 4 => exact hv
    | 5 => exact hv
    | 6 => exact hv
    | 7 => exact hv
    | 8 => exact hv
    | 9 => exact hv
    | 10 => exact hv
    | 11 => exact hv
    | 12 => exact hv
    | 13 => exact hv
    | 14 => exact hv
    | _ + 15 => exact hv) (sum_arr (plB_s hk)) (fun k' i' hv hn => ?_) (fun j hj => by
      have := h.2.1 j hj
      match j with
      | 0 => exact this
      | 1 => exact this
      | 2 => exact this
      | _ + 3 => exact this)
  by_cases hk2 : k' = 10
  · subst hk2
    exact sum_arr (plB_n hk (fun e => hn ⟨rfl, e⟩))
  · match k', hk2, hv with
    | 0, _, hv => exact hv.elim
    | 1, _, _ => exact rfl
    | 2, _, _ => exact rfl
    | 3, _, _ => exact rfl
    | 4, _, hv =>
      match i', hv with
      | 0, _ => exact rfl
      | _ + 1, _ => exact rfl
    | 5, _, _ => exact sum_arr (caB_t (by decide))
    | 6, _, _ => exact rfl
    | 7, _, _ => exact rfl
    | 8, _, _ => exact rfl
    | 9, _, _ => exact rfl
    | 10, hk2, _ => exact absurd rfl hk2
    | 11, _, _ => exact sum_arr (rtB_t (by decide))
    | 12, _, _ => exact rfl
    | 13, _, _ => exact sum_arr (lmB_t (by decide))
    | 14, _, _ => exact rfl
    | _ + 15, _, hv => exact hv.elim
theorem RB.t_2 {E : EE} {S : St} {th : Int32} {g : Gh} {H H1 : Heap} {k : Nat} {v : Int32} (h : RB E S th g H)  (hk : k < 4) (hat : va_at E.1 vwCl (g.ad 5 0, .inl (eI E, 4, .inl (va_up (caB S) k v))) H1) (oq : ∀ q : Nat, q ≠ g.ad 5 0 → H1[q]? = H[q]?) : RB E (setT S 2 (k * 1 + 0) v) th g H1 := by
  refine h.put (k := 5) (i := 0) rfl hat oq (fun k' i' hv => by
    match k' with
    | 0 => exact hv
    | 1 => exact hv
    | 2 => exact hv
    | 3 => exact hv
    | 4 => exact hv
    | 5 => exact hv
    | 6 => exact hv
    | 7 => exact hv
    | 8 => exact hv
    | 9 => exact hv
    | 10 => exact hv
    | 11 => exact hv
    | 12 => exact hv
    | 13 => exact hv
    | 14 => exact hv
    | _ + 15 => exact hv) (sum_arr (caB_s hk)) (fun k' i' hv hn => ?_) (fun j hj => by
      have := h.2.1 j hj
      match j with
      | 0 => exact this
      | 1 => exact this
      | 2 => exact this
      | _ + 3 => exact this)
  by_cases hk2 : k' = 5
  · subst hk2
    exact absurd ⟨rfl, hv⟩ hn
  · match k', hk2, hv with
    | 0, _, hv => exact hv.elim
    | 1, _, _ => exact rfl
    | 2, _, _ => exact rfl
    | 3, _, _ => exact rfl
    | 4, _, hv =>
      match i', hv with
      | 0, _ => exact rfl
      | _ + 1, _ => exact rfl
    | 5, hk2, _ => exact absurd rfl hk2
    | 6, _, _ => exact rfl
    | 7, _, _ => exact rfl
    | 8, _, _ => exact rfl
    | 9, _, _ => exact rfl
    | 10, _, _ => exact sum_arr (plB_t (by decide))
    | 11, _, _ => exact sum_arr (rtB_t (by decide))
    | 12, _, _ => exact rfl
    | 13, _, _ => exact sum_arr (lmB_t (by decide))
    | 14, _, _ => exact rfl
    | _ + 15, _, hv => exact hv.elim
theorem RB.t_3 {E : EE} {S : St} {th : Int32} {g : Gh} {H H1 : Heap} {i k : Nat} {v : Int32} (h : RB E S th g H) (hi : i < 3) (hk : k < 4) (hat : va_at E.1 vwCl (g.ad 11 i, .inl (eI E, 4, .inl (va_up (rtB S i) k v))) H1) (oq : ∀ q : Nat, q ≠ g.ad 11 i → H1[q]? = H[q]?) : RB E (setT S 3 (i * 4 + k) v) th g H1 := by
  refine h.put (k := 11) (i := i) hi hat oq (fun k' i' hv => by
    match k' with
    | 0 => exact hv
    | 1 => exact hv
    | 2 => exact hv
    | 3 => exact hv
    | 4 => exact hv
    | 5 => exact hv
    | 6 => exact hv
    | 7 => exact hv
    | 8 => exact hv
    | 9 => exact hv
    | 10 => exact hv
    | 11 => exact hv
    | 12 => exact hv
    | 13 => exact hv
    | 14 => exact hv
    | _ + 15 => exact hv) (sum_arr (rtB_s hk)) (fun k' i' hv hn => ?_) (fun j hj => by
      have := h.2.1 j hj
      match j with
      | 0 => exact this
      | 1 => exact this
      | 2 => exact this
      | _ + 3 => exact this)
  by_cases hk2 : k' = 11
  · subst hk2
    exact sum_arr (rtB_n hk (fun e => hn ⟨rfl, e⟩))
  · match k', hk2, hv with
    | 0, _, hv => exact hv.elim
    | 1, _, _ => exact rfl
    | 2, _, _ => exact rfl
    | 3, _, _ => exact rfl
    | 4, _, hv =>
      match i', hv with
      | 0, _ => exact rfl
      | _ + 1, _ => exact rfl
    | 5, _, _ => exact sum_arr (caB_t (by decide))
    | 6, _, _ => exact rfl
    | 7, _, _ => exact rfl
    | 8, _, _ => exact rfl
    | 9, _, _ => exact rfl
    | 10, _, _ => exact sum_arr (plB_t (by decide))
    | 11, hk2, _ => exact absurd rfl hk2
    | 12, _, _ => exact rfl
    | 13, _, _ => exact sum_arr (lmB_t (by decide))
    | 14, _, _ => exact rfl
    | _ + 15, _, hv => exact hv.elim
theorem spB_o : ∀ r, r < 31 → ∀ j, j < 31 → ((((1 : Int32) <<< (nI r &&& 31)) &&& ((1 : Int32) <<< (nI j &&& 31)) = 0) ↔ ¬ j = r) := by decide +kernel
theorem spB_i (x : Int32) (a b : Int32) : (x ||| a) &&& b = (x &&& b) ||| (a &&& b) := by
  apply Int32.toBitVec_inj.mp
  simp only [Int32.toBitVec_and, Int32.toBitVec_or]
  ext i
  simp
  cases x.toBitVec[i] <;> cases a.toBitVec[i] <;> cases b.toBitVec[i] <;> rfl
theorem or_0 {x y : Int32} : (x ||| y = 0) ↔ (x = 0 ∧ y = 0) := by
  constructor
  · intro h
    have h1 : (x ||| y) &&& x = 0 &&& x := by rw [h]
    have h2 : (x ||| y) &&& y = 0 &&& y := by rw [h]
    have e1 : (x ||| y) &&& x = x := by
      apply Int32.toBitVec_inj.mp
      simp only [Int32.toBitVec_and, Int32.toBitVec_or]
      ext i
      simp
      cases x.toBitVec[i] <;> cases y.toBitVec[i] <;> simp
    have e2 : (x ||| y) &&& y = y := by
      apply Int32.toBitVec_inj.mp
      simp only [Int32.toBitVec_and, Int32.toBitVec_or]
      ext i
      simp
      cases x.toBitVec[i] <;> cases y.toBitVec[i] <;> simp
    rw [e1, Int32.zero_and] at h1
    rw [e2, Int32.zero_and] at h2
    exact ⟨h1, h2⟩
  · rintro ⟨rfl, rfl⟩; rfl
theorem spB_s {S : St} {c r : Nat} (hr : r < 31) : spB (u_sp S c (S.sp c ||| ((1 : Int32) <<< (nI r &&& 31)))) c = va_up (spB S c) r 1 := by
  funext j
  unfold spB
  rw [show (u_sp S c (S.sp c ||| ((1 : Int32) <<< (nI r &&& 31)))).sp c = S.sp c ||| ((1 : Int32) <<< (nI r &&& 31)) from va_up_self _ _ _]
  by_cases hj : j < 31
  · rw [if_pos hj, spB_i]
    by_cases e : j = r
    · subst e
      rw [va_up_self, if_neg (fun h => absurd rfl ((spB_o j hj j hj).mp (or_0.mp h).2))]
    · rw [va_up_ne _ _ e, if_pos hj]
      have h2 := (spB_o r hr j hj).mpr e
      by_cases h3 : S.sp c &&& ((1 : Int32) <<< (nI j &&& 31)) = 0
      · rw [if_pos h3, if_pos (or_0.mpr ⟨h3, h2⟩)]
      · rw [if_neg h3, if_neg (fun h => h3 (or_0.mp h).1)]
  · rw [if_neg hj, va_up_ne _ _ (by omega), if_neg hj]
theorem RB.s_sp {E : EE} {S : St} {th : Int32} {g : Gh} {H H1 : Heap} {i r : Nat} (h : RB E S th g H) (hi : i < S.nc) (hr : r < 31) (hat : va_at E.1 vwCl (g.ad 14 i, .inl (eZ E, 31, .inl (va_up (spB S i) r 1))) H1) (oq : ∀ q : Nat, q ≠ g.ad 14 i → H1[q]? = H[q]?) : RB E (u_sp S i (S.sp i ||| ((1 : Int32) <<< (nI r &&& 31)))) th g H1 := by
  refine h.put (k := 14) (i := i) hi hat oq (fun k' i' hv => by
    match k' with
    | 0 => exact hv
    | 1 => exact hv
    | 2 => exact hv
    | 3 => exact hv
    | 4 => exact hv
    | 5 => exact hv
    | 6 => exact hv
    | 7 => exact hv
    | 8 => exact hv
    | 9 => exact hv
    | 10 => exact hv
    | 11 => exact hv
    | 12 => exact hv
    | 13 => exact hv
    | 14 => exact hv
    | _ + 15 => exact hv) (sum_arr (spB_s hr)) (fun k' i' hv hn => ?_) (fun j hj => by
      have := h.2.1 j hj
      match j with
      | 0 => exact this
      | 1 => exact this
      | 2 => exact this
      | _ + 3 => exact this)
  by_cases hk : k' = 14
  · subst hk
    refine sum_arr ?_
    funext j
    unfold spB
    rw [show (u_sp S i (S.sp i ||| ((1 : Int32) <<< (nI r &&& 31)))).sp i' = S.sp i' from va_up_ne _ _ (fun e => hn ⟨rfl, e⟩)]
  · match k', hk, hv with
    | 0, _, hv => exact hv.elim
    | 1, _, _ => exact rfl
    | 2, _, _ => exact rfl
    | 3, _, _ => exact rfl
    | 4, _, hv =>
      match i', hv with
      | 0, _ => exact rfl
      | _ + 1, _ => exact rfl
    | 5, _, _ => exact rfl
    | 6, _, _ => exact rfl
    | 7, _, _ => exact rfl
    | 8, _, _ => exact rfl
    | 9, _, _ => exact rfl
    | 10, _, _ => exact rfl
    | 11, _, _ => exact rfl
    | 12, _, _ => exact rfl
    | 13, _, _ => exact rfl
    | 14, hk, _ => exact absurd rfl hk
    | _ + 15, _, hv => exact hv.elim
