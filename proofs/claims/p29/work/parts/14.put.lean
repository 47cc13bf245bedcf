/-! stores: the class's picture behind them -/
theorem RA.put {E : EE} {S S' : St} {g : Gh} {H H1 : Heap} {k i : Nat} {e : va_E} (h : RA E S g H) (hi : valA S g k i) (hat : va_at E.1 vwCl (g.ad k i, e) H1) (oq : ∀ q : Nat, q ≠ g.ad k i → H1[q]? = H[q]?) (hv : ∀ k' i', valA S' g k' i' → valA S g k' i') (he : cellA E S' g k i = e) (ho : ∀ k' i', valA S' g k' i' → ¬ (k' = k ∧ i' = i) → cellA E S' g k' i' = cellA E S g k' i') (hc : capOk S' g) : RA E S' g H1 := by
  refine ⟨fun k' i' hv' => ⟨(h.1 k' i' (hv k' i' hv')).1, ?_⟩, hc, h.2.2.1, h.2.2.2.kept (fun q hq => oq q (fun e => by have := h.2.2.1.1 _ (h.ow hi); omega))⟩
  by_cases hk : k' = k ∧ i' = i
  · obtain ⟨rfl, rfl⟩ := hk
    rw [he]; exact hat
  · rw [ho k' i' hv' hk]
    refine (h.1 k' i' (hv k' i' hv')).2.kept (oq _ (fun e => hk ?_))
    have e : g.ad k' i' = g.ad k i := e
    have h1 := (h.1 k' i' (hv k' i' hv')).1
    rw [e, (h.1 k i hi).1] at h1
    exact ⟨(Prod.mk.inj h1).1.symm, (Prod.mk.inj h1).2.symm⟩
theorem RA.s_tr {E : EE} {S : St} {g : Gh} {H H1 : Heap} {i : Nat} {v : Int32} (h : RA E S g H) (hi : i < S.np) (hat : va_at E.1 vwCl (g.ad 6 i, .inr (2, [.int (nI i), va_rf ((S.bo i).map (g.ad 6)), .int v, .int (S.po i), .int (S.aw i), va_rf ((S.si i).map (g.ad 6))])) H1) (oq : ∀ q : Nat, q ≠ g.ad 6 i → H1[q]? = H[q]?) : RA E (S.s_tr (va_up S.tr i v)) g H1 := by
  refine h.put (k := 6) (i := i) hi hat oq (fun k' i' hv => by
    match k' with
    | 0 => exact hv
    | 1 => exact hv
    | 2 => exact hv
    | 3 => exact hv
    | 4 => exact hv
    | 5 => exact hv
    | 6 => exact hv
    | 7 => exact hv
    | 8 => exact hv
    | 9 => exact hv
    | _ + 10 => exact hv) (congrArg (fun (x : Int32) => (Sum.inr (2, [.int (nI i), va_rf ((S.bo i).map (g.ad 6)), .int x, .int (S.po i), .int (S.aw i), va_rf ((S.si i).map (g.ad 6))]) : va_E)) (va_up_self S.tr i v)) (fun k' i' hv hn => ?_) (fun j hj => by
      have := h.2.1 j hj
      match j with
      | 0 => exact this
      | 1 => exact this
      | 2 => exact this
      | _ + 3 => exact this)
  by_cases hk : k' = 6
  · subst hk
    exact congrArg (fun (x : Int32) => (Sum.inr (2, [.int (nI i'), va_rf ((S.bo i').map (g.ad 6)), .int x, .int (S.po i'), .int (S.aw i'), va_rf ((S.si i').map (g.ad 6))]) : va_E)) (va_up_ne S.tr v (fun e => hn ⟨rfl, e⟩))
  · match k', hk, hv with
    | 0, _, hv => exact hv.elim
    | 1, _, _ => exact rfl
    | 2, _, _ => exact rfl
    | 3, _, _ => exact rfl
    | 4, _, _ => exact rfl
    | 5, _, _ => exact rfl
    | 6, hk, _ => exact absurd rfl hk
    | 7, _, _ => exact rfl
    | 8, _, _ => exact rfl
    | 9, _, _ => exact rfl
    | _ + 10, _, hv => exact hv.elim
theorem RA.s_po {E : EE} {S : St} {g : Gh} {H H1 : Heap} {i : Nat} {v : Int32} (h : RA E S g H) (hi : i < S.np) (hat : va_at E.1 vwCl (g.ad 6 i, .inr (2, [.int (nI i), va_rf ((S.bo i).map (g.ad 6)), .int (S.tr i), .int v, .int (S.aw i), va_rf ((S.si i).map (g.ad 6))])) H1) (oq : ∀ q : Nat, q ≠ g.ad 6 i → H1[q]? = H[q]?) : RA E (S.s_po (va_up S.po i v)) g H1 := by
  refine h.put (k := 6) (i := i) hi hat oq (fun k' i' hv => by
    match k' with
    | 0 => exact hv
    | 1 => exact hv
    | 2 => exact hv
    | 3 => exact hv
    | 4 => exact hv
    | 5 => exact hv
    | 6 => exact hv
    | 7 => exact hv
    | 8 => exact hv
    | 9 => exact hv
    | _ + 10 => exact hv) (congrArg (fun (x : Int32) => (Sum.inr (2, [.int (nI i), va_rf ((S.bo i).map (g.ad 6)), .int (S.tr i), .int x, .int (S.aw i), va_rf ((S.si i).map (g.ad 6))]) : va_E)) (va_up_self S.po i v)) (fun k' i' hv hn => ?_) (fun j hj => by
      have := h.2.1 j hj
      match j with
      | 0 => exact this
      | 1 => exact this
      | 2 => exact this
      | _ + 3 => exact this)
  by_cases hk : k' = 6
  · subst hk
    exact congrArg (fun (x : Int32) => (Sum.inr (2, [.int (nI i'), va_rf ((S.bo i').map (g.ad 6)), .int (S.tr i'), .int x, .int (S.aw i'), va_rf ((S.si i').map (g.ad 6))]) : va_E)) (va_up_ne S.po v (fun e => hn ⟨rfl, e⟩))
  · match k', hk, hv with
    | 0, _, hv => exact hv.elim
    | 1, _, _ => exact rfl
    | 2, _, _ => exact rfl
    | 3, _, _ => exact rfl
    | 4, _, _ => exact rfl
    | 5, _, _ => exact rfl
    | 6, hk, _ => exact absurd rfl hk
    | 7, _, _ => exact rfl
    | 8, _, _ => exact rfl
    | 9, _, _ => exact rfl
    | _ + 10, _, hv => exact hv.elim
theorem RA.s_aw {E : EE} {S : St} {g : Gh} {H H1 : Heap} {i : Nat} {v : Int32} (h : RA E S g H) (hi : i < S.np) (hat : va_at E.1 vwCl (g.ad 6 i, .inr (2, [.int (nI i), va_rf ((S.bo i).map (g.ad 6)), .int (S.tr i), .int (S.po i), .int v, va_rf ((S.si i).map (g.ad 6))])) H1) (oq : ∀ q : Nat, q ≠ g.ad 6 i → H1[q]? = H[q]?) : RA E (S.s_aw (va_up S.aw i v)) g H1 := by
  refine h.put (k := 6) (i := i) hi hat oq (fun k' i' hv => by
    match k' with
    | 0 => exact hv
    | 1 => exact hv
    | 2 => exact hv
    | 3 => exact hv
    | 4 => exact hv
    | 5 => exact hv
    | 6 => exact hv
    | 7 => exact hv
    | 8 => exact hv
    | 9 => exact hv
    | _ + 10 => exact hv) (congrArg (fun (x : Int32) => (Sum.inr (2, [.int (nI i), va_rf ((S.bo i).map (g.ad 6)), .int (S.tr i), .int (S.po i), .int x, va_rf ((S.si i).map (g.ad 6))]) : va_E)) (va_up_self S.aw i v)) (fun k' i' hv hn => ?_) (fun j hj => by
      have := h.2.1 j hj
      match j with
      | 0 => exact this
      | 1 => exact this
      | 2 => exact this
      | _ + 3 => exact this)
  by_cases hk : k' = 6
  · subst hk
    exact congrArg (fun (x : Int32) => (Sum.inr (2, [.int (nI i'), va_rf ((S.bo i').map (g.ad 6)), .int (S.tr i'), .int (S.po i'), .int x, va_rf ((S.si i').map (g.ad 6))]) : va_E)) (va_up_ne S.aw v (fun e => hn ⟨rfl, e⟩))
  · match k', hk, hv with
    | 0, _, hv => exact hv.elim
    | 1, _, _ => exact rfl
    | 2, _, _ => exact rfl
    | 3, _, _ => exact rfl
    | 4, _, _ => exact rfl
    | 5, _, _ => exact rfl
    | 6, hk, _ => exact absurd rfl hk
    | 7, _, _ => exact rfl
    | 8, _, _ => exact rfl
    | 9, _, _ => exact rfl
    | _ + 10, _, hv => exact hv.elim
theorem RA.s_si {E : EE} {S : St} {g : Gh} {H H1 : Heap} {i : Nat} {v : Option Nat} (h : RA E S g H) (hi : i < S.np) (hat : va_at E.1 vwCl (g.ad 6 i, .inr (2, [.int (nI i), va_rf ((S.bo i).map (g.ad 6)), .int (S.tr i), .int (S.po i), .int (S.aw i), va_rf (v.map (g.ad 6))])) H1) (oq : ∀ q : Nat, q ≠ g.ad 6 i → H1[q]? = H[q]?) : RA E (S.s_si (va_up S.si i v)) g H1 := by
  refine h.put (k := 6) (i := i) hi hat oq (fun k' i' hv => by
    match k' with
    | 0 => exact hv
    | 1 => exact hv
    | 2 => exact hv
    | 3 => exact hv
    | 4 => exact hv
    | 5 => exact hv
    | 6 => exact hv
    | 7 => exact hv
    | 8 => exact hv
    | 9 => exact hv
    | _ + 10 => exact hv) (congrArg (fun (x : Option Nat) => (Sum.inr (2, [.int (nI i), va_rf ((S.bo i).map (g.ad 6)), .int (S.tr i), .int (S.po i), .int (S.aw i), va_rf (x.map (g.ad 6))]) : va_E)) (va_up_self S.si i v)) (fun k' i' hv hn => ?_) (fun j hj => by
      have := h.2.1 j hj
      match j with
      | 0 => exact this
      | 1 => exact this
      | 2 => exact this
      | _ + 3 => exact this)
  by_cases hk : k' = 6
  · subst hk
    exact congrArg (fun (x : Option Nat) => (Sum.inr (2, [.int (nI i'), va_rf ((S.bo i').map (g.ad 6)), .int (S.tr i'), .int (S.po i'), .int (S.aw i'), va_rf (x.map (g.ad 6))]) : va_E)) (va_up_ne S.si v (fun e => hn ⟨rfl, e⟩))
  · match k', hk, hv with
    | 0, _, hv => exact hv.elim
    | 1, _, _ => exact rfl
    | 2, _, _ => exact rfl
    | 3, _, _ => exact rfl
    | 4, _, _ => exact rfl
    | 5, _, _ => exact rfl
    | 6, hk, _ => exact absurd rfl hk
    | 7, _, _ => exact rfl
    | 8, _, _ => exact rfl
    | 9, _, _ => exact rfl
    | _ + 10, _, hv => exact hv.elim
theorem RA.s_ct {E : EE} {S : St} {g : Gh} {H H1 : Heap} {i : Nat} {v : Option Nat} (h : RA E S g H) (hi : i < S.nc) (hat : va_at E.1 vwCl (g.ad 8 i, .inr (1, [.int (nI i), .ref (g.ad 6 (S.cp i)), .int (nI (S.ck i)), .int (nI (S.cl i)), .int (S.ca i), .int (S.cx i), .int (nI (S.cd i)), va_rf (v.map (g.ad 7)), .int (S.cs i), va_rf ((S.cr i).map (g.ad 9)), .int (nI (S.ce i)), .int (S.cm i), .int (S.sp i)])) H1) (oq : ∀ q : Nat, q ≠ g.ad 8 i → H1[q]? = H[q]?) : RA E (S.s_ct (va_up S.ct i v)) g H1 := by
  refine h.put (k := 8) (i := i) hi hat oq (fun k' i' hv => by
    match k' with
    | 0 => exact hv
    | 1 => exact hv
    | 2 => exact hv
    | 3 => exact hv
    | 4 => exact hv
    | 5 => exact hv
    | 6 => exact hv
    | 7 => exact hv
    | 8 => exact hv
    | 9 => exact hv
    | _ + 10 => exact hv) (congrArg (fun (x : Option Nat) => (Sum.inr (1, [.int (nI i), .ref (g.ad 6 (S.cp i)), .int (nI (S.ck i)), .int (nI (S.cl i)), .int (S.ca i), .int (S.cx i), .int (nI (S.cd i)), va_rf (x.map (g.ad 7)), .int (S.cs i), va_rf ((S.cr i).map (g.ad 9)), .int (nI (S.ce i)), .int (S.cm i), .int (S.sp i)]) : va_E)) (va_up_self S.ct i v)) (fun k' i' hv hn => ?_) (fun j hj => by
      have := h.2.1 j hj
      match j with
      | 0 => exact this
      | 1 => exact this
      | 2 => exact this
      | _ + 3 => exact this)
  by_cases hk : k' = 8
  · subst hk
    exact congrArg (fun (x : Option Nat) => (Sum.inr (1, [.int (nI i'), .ref (g.ad 6 (S.cp i')), .int (nI (S.ck i')), .int (nI (S.cl i')), .int (S.ca i'), .int (S.cx i'), .int (nI (S.cd i')), va_rf (x.map (g.ad 7)), .int (S.cs i'), va_rf ((S.cr i').map (g.ad 9)), .int (nI (S.ce i')), .int (S.cm i'), .int (S.sp i')]) : va_E)) (va_up_ne S.ct v (fun e => hn ⟨rfl, e⟩))
  · match k', hk, hv with
    | 0, _, hv => exact hv.elim
    | 1, _, _ => exact rfl
    | 2, _, _ => exact rfl
    | 3, _, _ => exact rfl
    | 4, _, _ => exact rfl
    | 5, _, _ => exact rfl
    | 6, _, _ => exact rfl
    | 7, _, _ => exact rfl
    | 8, hk, _ => exact absurd rfl hk
    | 9, _, _ => exact rfl
    | _ + 10, _, hv => exact hv.elim
theorem RA.s_cs {E : EE} {S : St} {g : Gh} {H H1 : Heap} {i : Nat} {v : Int32} (h : RA E S g H) (hi : i < S.nc) (hat : va_at E.1 vwCl (g.ad 8 i, .inr (1, [.int (nI i), .ref (g.ad 6 (S.cp i)), .int (nI (S.ck i)), .int (nI (S.cl i)), .int (S.ca i), .int (S.cx i), .int (nI (S.cd i)), va_rf ((S.ct i).map (g.ad 7)), .int v, va_rf ((S.cr i).map (g.ad 9)), .int (nI (S.ce i)), .int (S.cm i), .int (S.sp i)])) H1) (oq : ∀ q : Nat, q ≠ g.ad 8 i → H1[q]? = H[q]?) : RA E (S.s_cs (va_up S.cs i v)) g H1 := by
  refine h.put (k := 8) (i := i) hi hat oq (fun k' i' hv => by
    match k' with
    | 0 => exact hv
    | 1 => exact hv
    | 2 => exact hv
    | 3 => exact hv
    | 4 => exact hv
    | 5 => exact hv
    | 6 => exact hv
    | 7 => exact hv
    | 8 => exact hv
    | 9 => exact hv
    | _ + 10 => exact hv) (congrArg (fun (x : Int32) => (Sum.inr (1, [.int (nI i), .ref (g.ad 6 (S.cp i)), .int (nI (S.ck i)), .int (nI (S.cl i)), .int (S.ca i), .int (S.cx i), .int (nI (S.cd i)), va_rf ((S.ct i).map (g.ad 7)), .int x, va_rf ((S.cr i).map (g.ad 9)), .int (nI (S.ce i)), .int (S.cm i), .int (S.sp i)]) : va_E)) (va_up_self S.cs i v)) (fun k' i' hv hn => ?_) (fun j hj => by
      have := h.2.1 j hj
      match j with
      | 0 => exact this
      | 1 => exact this
      | 2 => exact this
      | _ + 3 => exact this)
  by_cases hk : k' = 8
  · subst hk
    exact congrArg (fun (x : Int32) => (Sum.inr (1, [.int (nI i'), .ref (g.ad 6 (S.cp i')), .int (nI (S.ck i')), .int (nI (S.cl i')), .int (S.ca i'), .int (S.cx i'), .int (nI (S.cd i')), va_rf ((S.ct i').map (g.ad 7)), .int x, va_rf ((S.cr i').map (g.ad 9)), .int (nI (S.ce i')), .int (S.cm i'), .int (S.sp i')]) : va_E)) (va_up_ne S.cs v (fun e => hn ⟨rfl, e⟩))
  · match k', hk, hv with
    | 0, _, hv => exact hv.elim
    | 1, _, _ => exact rfl
    | 2, _, _ => exact rfl
    | 3, _, _ => exact rfl
    | 4, _, _ => exact rfl
    | 5, _, _ => exact rfl
    | 6, _, _ => exact rfl
    | 7, _, _ => exact rfl
    | 8, hk, _ => exact absurd rfl hk
    | 9, _, _ => exact rfl
    | _ + 10, _, hv => exact hv.elim
theorem RA.s_cr {E : EE} {S : St} {g : Gh} {H H1 : Heap} {i : Nat} {v : Option Nat} (h : RA E S g H) (hi : i < S.nc) (hat : va_at E.1 vwCl (g.ad 8 i, .inr (1, [.int (nI i), .ref (g.ad 6 (S.cp i)), .int (nI (S.ck i)), .int (nI (S.cl i)), .int (S.ca i), .int (S.cx i), .int (nI (S.cd i)), va_rf ((S.ct i).map (g.ad 7)), .int (S.cs i), va_rf (v.map (g.ad 9)), .int (nI (S.ce i)), .int (S.cm i), .int (S.sp i)])) H1) (oq : ∀ q : Nat, q ≠ g.ad 8 i → H1[q]? = H[q]?) : RA E (S.s_cr (va_up S.cr i v)) g H1 := by
  refine h.put (k := 8) (i := i) hi hat oq (fun k' i' hv => by
    match k' with
    | 0 => exact hv
    | 1 => exact hv
    | 2 => exact hv
    | 3 => exact hv
    | 4 => exact hv
    | 5 => exact hv
    | 6 => exact hv
    | 7 => exact hv
    | 8 => exact hv
    | 9 => exact hv
    | _ + 10 => exact hv) (congrArg (fun (x : Option Nat) => (Sum.inr (1, [.int (nI i), .ref (g.ad 6 (S.cp i)), .int (nI (S.ck i)), .int (nI (S.cl i)), .int (S.ca i), .int (S.cx i), .int (nI (S.cd i)), va_rf ((S.ct i).map (g.ad 7)), .int (S.cs i), va_rf (x.map (g.ad 9)), .int (nI (S.ce i)), .int (S.cm i), .int (S.sp i)]) : va_E)) (va_up_self S.cr i v)) (fun k' i' hv hn => ?_) (fun j hj => by
      have := h.2.1 j hj
      match j with
      | 0 => exact this
      | 1 => exact this
      | 2 => exact this
      | _ + 3 => exact this)
  by_cases hk : k' = 8
  · subst hk
    exact congrArg (fun (x : Option Nat) => (Sum.inr (1, [.int (nI i'), .ref (g.ad 6 (S.cp i')), .int (nI (S.ck i')), .int (nI (S.cl i')), .int (S.ca i'), .int (S.cx i'), .int (nI (S.cd i')), va_rf ((S.ct i').map (g.ad 7)), .int (S.cs i'), va_rf (x.map (g.ad 9)), .int (nI (S.ce i')), .int (S.cm i'), .int (S.sp i')]) : va_E)) (va_up_ne S.cr v (fun e => hn ⟨rfl, e⟩))
  · match k', hk, hv with
    | 0, _, hv => exact hv.elim
    | 1, _, _ => exact rfl
    | 2, _, _ => exact rfl
    | 3, _, _ => exact rfl
    | 4, _, _ => exact rfl
    | 5, _, _ => exact rfl
    | 6, _, _ => exact rfl
    | 7, _, _ => exact rfl
    | 8, hk, _ => exact absurd rfl hk
    | 9, _, _ => exact rfl
    | _ + 10, _, hv => exact hv.elim
theorem RA.s_ce {E : EE} {S : St} {g : Gh} {H H1 : Heap} {i : Nat} {v : Nat} (h : RA E S g H) (hi : i < S.nc) (hat : va_at E.1 vwCl (g.ad 8 i, .inr (1, [.int (nI i), .ref (g.ad 6 (S.cp i)), .int (nI (S.ck i)), .int (nI (S.cl i)), .int (S.ca i), .int (S.cx i), .int (nI (S.cd i)), va_rf ((S.ct i).map (g.ad 7)), .int (S.cs i), va_rf ((S.cr i).map (g.ad 9)), .int (nI v), .int (S.cm i), .int (S.sp i)])) H1) (oq : ∀ q : Nat, q ≠ g.ad 8 i → H1[q]? = H[q]?) : RA E (S.s_ce (va_up S.ce i v)) g H1 := by
  refine h.put (k := 8) (i := i) hi hat oq (fun k' i' hv => by
    match k' with
    | 0 => exact hv
    | 1 => exact hv
    | 2 => exact hv
    | 3 => exact hv
    | 4 => exact hv
    | 5 => exact hv
    | 6 => exact hv
    | 7 => exact hv
    | 8 => exact hv
    | 9 => exact hv
    | _ + 10 => exact hv) (congrArg (fun (x : Nat) => (Sum.inr (1, [.int (nI i), .ref (g.ad 6 (S.cp i)), .int (nI (S.ck i)), .int (nI (S.cl i)), .int (S.ca i), .int (S.cx i), .int (nI (S.cd i)), va_rf ((S.ct i).map (g.ad 7)), .int (S.cs i), va_rf ((S.cr i).map (g.ad 9)), .int (nI x), .int (S.cm i), .int (S.sp i)]) : va_E)) (va_up_self S.ce i v)) (fun k' i' hv hn => ?_) (fun j hj => by
      have := h.2.1 j hj
      match j with
      | 0 => exact this
      | 1 => exact this
      | 2 => exact this
      | _ + 3 => exact this)
  by_cases hk : k' = 8
  · subst hk
    exact congrArg (fun (x : Nat) => (Sum.inr (1, [.int (nI i'), .ref (g.ad 6 (S.cp i')), .int (nI (S.ck i')), .int (nI (S.cl i')), .int (S.ca i'), .int (S.cx i'), .int (nI (S.cd i')), va_rf ((S.ct i').map (g.ad 7)), .int (S.cs i'), va_rf ((S.cr i').map (g.ad 9)), .int (nI x), .int (S.cm i'), .int (S.sp i')]) : va_E)) (va_up_ne S.ce v (fun e => hn ⟨rfl, e⟩))
  · match k', hk, hv with
    | 0, _, hv => exact hv.elim
    | 1, _, _ => exact rfl
    | 2, _, _ => exact rfl
    | 3, _, _ => exact rfl
    | 4, _, _ => exact rfl
    | 5, _, _ => exact rfl
    | 6, _, _ => exact rfl
    | 7, _, _ => exact rfl
    | 8, hk, _ => exact absurd rfl hk
    | 9, _, _ => exact rfl
    | _ + 10, _, hv => exact hv.elim
theorem RA.s_cm {E : EE} {S : St} {g : Gh} {H H1 : Heap} {i : Nat} {v : Int32} (h : RA E S g H) (hi : i < S.nc) (hat : va_at E.1 vwCl (g.ad 8 i, .inr (1, [.int (nI i), .ref (g.ad 6 (S.cp i)), .int (nI (S.ck i)), .int (nI (S.cl i)), .int (S.ca i), .int (S.cx i), .int (nI (S.cd i)), va_rf ((S.ct i).map (g.ad 7)), .int (S.cs i), va_rf ((S.cr i).map (g.ad 9)), .int (nI (S.ce i)), .int v, .int (S.sp i)])) H1) (oq : ∀ q : Nat, q ≠ g.ad 8 i → H1[q]? = H[q]?) : RA E (S.s_cm (va_up S.cm i v)) g H1 := by
  refine h.put (k := 8) (i := i) hi hat oq (fun k' i' hv => by
    match k' with
    | 0 => exact hv
    | 1 => exact hv
    | 2 => exact hv
    | 3 => exact hv
    | 4 => exact hv
    | 5 => exact hv
    | 6 => exact hv
    | 7 => exact hv
    | 8 => exact hv
    | 9 => exact hv
    | _ + 10 => exact hv) (congrArg (fun (x : Int32) => (Sum.inr (1, [.int (nI i), .ref (g.ad 6 (S.cp i)), .int (nI (S.ck i)), .int (nI (S.cl i)), .int (S.ca i), .int (S.cx i), .int (nI (S.cd i)), va_rf ((S.ct i).map (g.ad 7)), .int (S.cs i), va_rf ((S.cr i).map (g.ad 9)), .int (nI (S.ce i)), .int x, .int (S.sp i)]) : va_E)) (va_up_self S.cm i v)) (fun k' i' hv hn => ?_) (fun j hj => by
      have := h.2.1 j hj
      match j with
      | 0 => exact this
      | 1 => exact this
      | 2 => exact this
      | _ + 3 => exact this)
  by_cases hk : k' = 8
  · subst hk
    exact congrArg (fun (x : Int32) => (Sum.inr (1, [.int (nI i'), .ref (g.ad 6 (S.cp i')), .int (nI (S.ck i')), .int (nI (S.cl i')), .int (S.ca i'), .int (S.cx i'), .int (nI (S.cd i')), va_rf ((S.ct i').map (g.ad 7)), .int (S.cs i'), va_rf ((S.cr i').map (g.ad 9)), .int (nI (S.ce i')), .int x, .int (S.sp i')]) : va_E)) (va_up_ne S.cm v (fun e => hn ⟨rfl, e⟩))
  · match k', hk, hv with
    | 0, _, hv => exact hv.elim
    | 1, _, _ => exact rfl
    | 2, _, _ => exact rfl
    | 3, _, _ => exact rfl
    | 4, _, _ => exact rfl
    | 5, _, _ => exact rfl
    | 6, _, _ => exact rfl
    | 7, _, _ => exact rfl
    | 8, hk, _ => exact absurd rfl hk
    | 9, _, _ => exact rfl
    | _ + 10, _, hv => exact hv.elim
theorem RA.s_sp {E : EE} {S : St} {g : Gh} {H H1 : Heap} {i : Nat} {v : Int32} (h : RA E S g H) (hi : i < S.nc) (hat : va_at E.1 vwCl (g.ad 8 i, .inr (1, [.int (nI i), .ref (g.ad 6 (S.cp i)), .int (nI (S.ck i)), .int (nI (S.cl i)), .int (S.ca i), .int (S.cx i), .int (nI (S.cd i)), va_rf ((S.ct i).map (g.ad 7)), .int (S.cs i), va_rf ((S.cr i).map (g.ad 9)), .int (nI (S.ce i)), .int (S.cm i), .int v])) H1) (oq : ∀ q : Nat, q ≠ g.ad 8 i → H1[q]? = H[q]?) : RA E (S.s_sp (va_up S.sp i v)) g H1 := by
  refine h.put (k := 8) (i := i) hi hat oq (fun k' i' hv => by
    match k' with
    | 0 => exact hv
    | 1 => exact hv
    | 2 => exact hv
    | 3 => exact hv
    | 4 => exact hv
    | 5 => exact hv
    | 6 => exact hv
    | 7 => exact hv
    | 8 => exact hv
    | 9 => exact hv
    | _ + 10 => exact hv) (congrArg (fun (x : Int32) => (Sum.inr (1, [.int (nI i), .ref (g.ad 6 (S.cp i)), .int (nI (S.ck i)), .int (nI (S.cl i)), .int (S.ca i), .int (S.cx i), .int (nI (S.cd i)), va_rf ((S.ct i).map (g.ad 7)), .int (S.cs i), va_rf ((S.cr i).map (g.ad 9)), .int (nI (S.ce i)), .int (S.cm i), .int x]) : va_E)) (va_up_self S.sp i v)) (fun k' i' hv hn => ?_) (fun j hj => by
      have := h.2.1 j hj
      match j with
      | 0 => exact this
      | 1 => exact this
      | 2 => exact this
      | _ + 3 => exact this)
  by_cases hk : k' = 8
  · subst hk
    exact congrArg (fun (x : Int32) => (Sum.inr (1, [.int (nI i'), .ref (g.ad 6 (S.cp i')), .int (nI (S.ck i')), .int (nI (S.cl i')), .int (S.ca i'), .int (S.cx i'), .int (nI (S.cd i')), va_rf ((S.ct i').map (g.ad 7)), .int (S.cs i'), va_rf ((S.cr i').map (g.ad 9)), .int (nI (S.ce i')), .int (S.cm i'), .int x]) : va_E)) (va_up_ne S.sp v (fun e => hn ⟨rfl, e⟩))
  · match k', hk, hv with
    | 0, _, hv => exact hv.elim
    | 1, _, _ => exact rfl
    | 2, _, _ => exact rfl
    | 3, _, _ => exact rfl
    | 4, _, _ => exact rfl
    | 5, _, _ => exact rfl
    | 6, _, _ => exact rfl
    | 7, _, _ => exact rfl
    | 8, hk, _ => exact absurd rfl hk
    | 9, _, _ => exact rfl
    | _ + 10, _, hv => exact hv.elim
theorem RA.s_ro {E : EE} {S : St} {g : Gh} {H H1 : Heap} {i : Nat} {v : Option Nat} (h : RA E S g H) (hi : i < S.nr) (hat : va_at E.1 vwCl (g.ad 9 i, .inr (3, [.int (nI i), .int (S.ra i), .int (S.rd i), .int (S.rx i), va_rf (v.map (g.ad 8))])) H1) (oq : ∀ q : Nat, q ≠ g.ad 9 i → H1[q]? = H[q]?) : RA E (S.s_ro (va_up S.ro i v)) g H1 := by
  refine h.put (k := 9) (i := i) hi hat oq (fun k' i' hv => by
    match k' with
    | 0 => exact hv
    | 1 => exact hv
    | 2 => exact hv
    | 3 => exact hv
    | 4 => exact hv
    | 5 => exact hv
    | 6 => exact hv
    | 7 => exact hv
    | 8 => exact hv
    | 9 => exact hv
    | _ + 10 => exact hv) (congrArg (fun (x : Option Nat) => (Sum.inr (3, [.int (nI i), .int (S.ra i), .int (S.rd i), .int (S.rx i), va_rf (x.map (g.ad 8))]) : va_E)) (va_up_self S.ro i v)) (fun k' i' hv hn => ?_) (fun j hj => by
      have := h.2.1 j hj
      match j with
      | 0 => exact this
      | 1 => exact this
      | 2 => exact this
      | _ + 3 => exact this)
  by_cases hk : k' = 9
  · subst hk
    exact congrArg (fun (x : Option Nat) => (Sum.inr (3, [.int (nI i'), .int (S.ra i'), .int (S.rd i'), .int (S.rx i'), va_rf (x.map (g.ad 8))]) : va_E)) (va_up_ne S.ro v (fun e => hn ⟨rfl, e⟩))
  · match k', hk, hv with
    | 0, _, hv => exact hv.elim
    | 1, _, _ => exact rfl
    | 2, _, _ => exact rfl
    | 3, _, _ => exact rfl
    | 4, _, _ => exact rfl
    | 5, _, _ => exact rfl
    | 6, _, _ => exact rfl
    | 7, _, _ => exact rfl
    | 8, _, _ => exact rfl
    | 9, hk, _ => exact absurd rfl hk
    | _ + 10, _, hv => exact hv.elim
theorem RA.s_td {E : EE} {S : St} {g : Gh} {H H1 : Heap} {v : Nat} (h : RA E S g H) (hat : va_at E.1 vwCl (g.ad 1 0, .inr (6, [.ref (g.ad 2 0), .ref (g.ad 2 1), .ref (g.ad 2 2), .ref (g.ad 2 3), .ref (g.ad 4 0), .ref (g.ad 4 1), .ref (g.ad 4 2), .ref (g.ad 4 3), .int (nI v)])) H1) (oq : ∀ q : Nat, q ≠ g.ad 1 0 → H1[q]? = H[q]?) : RA E (S.s_td v) g H1 := by
  refine h.put (k := 1) (i := 0) rfl hat oq (fun k' i' hv => by
    match k' with
    | 0 => exact hv
    | 1 => exact hv
    | 2 => exact hv
    | 3 => exact hv
    | 4 => exact hv
    | 5 => exact hv
    | 6 => exact hv
    | 7 => exact hv
    | 8 => exact hv
    | 9 => exact hv
    | _ + 10 => exact hv) rfl (fun k' i' hv hn => ?_) (fun j hj => by
      have := h.2.1 j hj
      match j with
      | 0 => exact this
      | 1 => exact this
      | 2 => exact this
      | _ + 3 => exact this)
  match k', hv with
  | 0, _ => exact rfl
  | 1, hv => exact absurd ⟨rfl, hv⟩ hn
  | 2, _ => exact rfl
  | 3, _ => exact rfl
  | 4, _ => exact rfl
  | 5, _ => exact rfl
  | 6, _ => exact rfl
  | 7, _ => exact rfl
  | 8, _ => exact rfl
  | 9, _ => exact rfl
  | _ + 10, _ => exact rfl
theorem RA.s_tb {E : EE} {S : St} {g : Gh} {H H1 : Heap} {t : Nat} {f : Nat → Int32} (h : RA E S g H) (ht : t < 4) (hat : va_at E.1 vwCl (g.ad 5 t, .inl (eI E, tR t * tC t, .inl f)) H1) (oq : ∀ q : Nat, q ≠ g.ad 5 t → H1[q]? = H[q]?) : RA E (S.s_tb (va_up S.tb t f)) g H1 := by
  refine h.put (k := 5) (i := t) ht hat oq (fun k' i' hv => by
    match k' with
    | 0 => exact hv
    | 1 => exact hv
    | 2 => exact hv
    | 3 => exact hv
    | 4 => exact hv
    | 5 => exact hv
    | 6 => exact hv
    | 7 => exact hv
    | 8 => exact hv
    | 9 => exact hv
    | _ + 10 => exact hv) (congrArg (fun (x : Nat → Int32) => (Sum.inl (eI E, tR t * tC t, .inl x) : va_E)) (va_up_self S.tb t f)) (fun k' i' hv hn => ?_) (fun j hj => by
      have := h.2.1 j hj
      match j with
      | 0 => exact this
      | 1 => exact this
      | 2 => exact this
      | _ + 3 => exact this)
  by_cases hk : k' = 5
  · subst hk
    exact congrArg (fun (x : Nat → Int32) => (Sum.inl (eI E, tR i' * tC i', .inl x) : va_E)) (va_up_ne S.tb f (fun e => hn ⟨rfl, e⟩))
  · match k', hk with
    | 0, _ => exact rfl
    | 1, _ => exact rfl
    | 2, _ => exact rfl
    | 3, _ => exact rfl
    | 4, _ => exact rfl
    | 5, hk => exact absurd rfl hk
    | 6, _ => exact rfl
    | 7, _ => exact rfl
    | 8, _ => exact rfl
    | 9, _ => exact rfl
    | _ + 10, _ => exact rfl

