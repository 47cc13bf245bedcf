theorem wcx_IN {p : Program} {l : Launch} {e : Env} {R : Room} {s : State} {m : MethodId} {args : Array Value} {below : List Frame} {meth : Method} {c : Code} {H : Heap} {locs : List Loc} {cells slots : Nat} {Q : State → Prop} {cc : ByteArray} {pc : Nat} {ls : Array Slot} {rest : List Value} {E : EE} {own host : String} {y : MethodName} {b : ByteArray} {n nL k index : Nat} {rm : Room} {a : Nat} {As st : List Value} {lv : List (Nat × Value)} {Pre : Heap → Prop} {A ow : Nat → Prop} {H0 : Heap} {Post : Nat → Option Value → Heap → Prop} (hx : p.tables.exec = Jvm.exec) (hb : c.code = cc) (hml : c.maxLocals = nL) (hown : s.vm.findClass own = some m.cls) (hC : CX E s) (hAO : XN s) (hl : lv_has ls nL lv) (hM : WMX l E y b n none rm (.ref a :: As) Pre ow Post) (zm : (Cond.methodLinkNest own index y host).before args s = true) (kv : KI y b n k) (hPre : Pre H) (hS : va_S A H0 H locs) (hA : ∀ q, ow q ∨ H.size ≤ q → A q) (hn : As.length = k) (hst : st = As.reverse ++ .ref a :: rest) (hR : rm.frames + 1 ≤ R.frames ∧ 8 + (n + 11) + rm.locals ≤ R.locals) (hW : (rest.map fun v => v.category).sum ≤ 8) (hcs : cells + rm.cells ≤ R.cells ∧ slots + rm.slots ≤ R.slots) (hdg : decode cc pc = .ok (.invokespecial index, 3))
    (kk : ∀ (v : Option Value) (H1 : Heap) (locs1 : List Loc), Post H.size v H1 → H.size ≤ H1.size → (∀ q : Nat, q < H.size → ¬ ow q → H1[q]? = H[q]?) → va_S A H0 H1 locs1 → W p l e R s m args below meth c H1 locs1 (cells + rm.cells) (slots + rm.slots) Q (F0 m (pc + 3) ls (v.toList ++ rest))) : W p l e R s m args below meth c H locs cells slots Q (F0 m pc ls st) := by
  subst hst
  have k1 := kv.1 s args hC.1
  refine wc_go (Post := Post H.size) (va_runIN (g := F0 m pc ls (As.reverse ++ .ref a :: rest)) (As := As) (b := a) (rest := rest) (Ts := []) (n := k) (host := host) ⟨hx, hb, hml, hown, fun w h => by cases h⟩ (hM H.size) ⟨⟨⟨rfl, rfl, hR.1, hR.2, fun w hw a' U hW => by rw [List.mem_singleton.mp hw]; exact (kv.1 U a' (hC.1.moved hW)).1, List.mem_singleton.mpr rfl⟩, k1.1, k1.2.1, kv.2.1, fun sig h => by have hd := kv.2.2.1; rw [h] at hd; exact (Option.some.inj hd).symm, zm⟩, kv.2.2.2, k1.2.2⟩ ⟨fun a U g mk q => ⟨q.1, q.2.1, q.2.2.1.calling, q.2.2.2.1.calling, q.2.2.2.2⟩, fun U hU hW => ⟨rfl, by rw [hU], hC.moved hW, hAO.moved hW, by rw [hU]; exact hPre⟩⟩ rfl hn hl.1 rfl (lv_room hW) hdg hcs) hS hA kk
/-! a new model's picture -/
def g0B (m9 d9 a0 a1 a2 a3 z0 c5 w0 z : Nat) : Gh := (fun k i => match k with | 1 => m9 | 2 => (match i with | 0 => a0 | 1 => a1 | 2 => a2 | _ => a3) | 3 => z | 4 => (match i with | 0 => z0 | _ => w0) | 5 => c5 | 10 => z0 + 1 + i | 11 => w0 + 1 + i | 12 => d9 | _ => 0, fun x => if x = m9 then (1, 0) else if x = d9 then (12, 0) else if x = a0 then (2, 0) else if x = a1 then (2, 1) else if x = a2 then (2, 2) else if x = a3 then (2, 3) else if x = z0 then (4, 0) else if z0 + 1 ≤ x ∧ x < z0 + 5 then (10, x - (z0 + 1)) else if x = c5 then (5, 0) else if x = w0 then (4, 1) else if w0 + 1 ≤ x ∧ x < w0 + 4 then (11, x - (w0 + 1)) else (0, 0), fun _ => 0, fun _ => 0)
theorem RB.init {E : EE} {H : Heap} {m9 d9 a0 a1 a2 a3 z0 c5 w0 : Nat} (o : m9 < d9 ∧ d9 < a0 ∧ a0 < a1 ∧ a1 < a2 ∧ a2 < a3 ∧ a3 < z0 ∧ z0 + 1 + 3 < c5 ∧ c5 < w0) (hN : eN E ≤ m9) (hX : ZE E H) (hM : va_at E.1 vwCl (m9, .inr (12, [.int 0, .ref d9])) H) (hO : va_at E.1 vwCl (d9, .inr (8, [.ref a0, .ref a1, .ref a2, .ref a3, .ref z0, .ref c5, .ref w0, .int 0])) H) (hL0 : va_at E.1 vwCl (a0, .inr (0, [.int 0, .ref (eE E), .int 0])) H) (hL1 : va_at E.1 vwCl (a1, .inr (0, [.int 0, .ref (eE E), .int 0])) H) (hL2 : va_at E.1 vwCl (a2, .inr (0, [.int 0, .ref (eE E), .int 0])) H) (hL3 : va_at E.1 vwCl (a3, .inr (0, [.int 0, .ref (eE E), .int 0])) H) (hZ : va_at E.1 vwCl (z0, .inl (eM E, 4, .inr (.inr (.inr (.inr (fun i => if i < 4 then some (z0 + 1 + i) else none)))))) H) (hZr : ∀ i, i < 4 → va_at E.1 vwCl (z0 + 1 + i, .inl (eI E, 4, .inl (fun _ => 0))) H) (hC5 : va_at E.1 vwCl (c5, .inl (eI E, 4, .inl (fun _ => 0))) H) (hW : va_at E.1 vwCl (w0, .inl (eM E, 3, .inr (.inr (.inr (.inr (fun i => if i < 3 then some (w0 + 1 + i) else none)))))) H) (hWr : ∀ i, i < 3 → va_at E.1 vwCl (w0 + 1 + i, .inl (eI E, 4, .inl (fun _ => 0))) H) : RB E S0 0 (g0B m9 d9 a0 a1 a2 a3 z0 c5 w0 (eE E)) H := by
  refine ⟨fun k i hv => ?_, fun i _ => ⟨?_, (by decide : (0 : Nat) < 2 ^ 20)⟩, ⟨fun q hw => Nat.le_of_not_lt fun hlt => hw ?_, fun i _ _ => rfl⟩, hX⟩
  · match k, hv with
    | 0, hv => exact hv.elim
    | 1, hv =>
      have hv : i = 0 := hv
      subst hv
      exact ⟨(by show (if m9 = m9 then (1, 0) else if m9 = d9 then (12, 0) else if m9 = a0 then (2, 0) else if m9 = a1 then (2, 1) else if m9 = a2 then (2, 2) else if m9 = a3 then (2, 3) else if m9 = z0 then (4, 0) else if z0 + 1 ≤ m9 ∧ m9 < z0 + 5 then (10, m9 - (z0 + 1)) else if m9 = c5 then (5, 0) else if m9 = w0 then (4, 1) else if w0 + 1 ≤ m9 ∧ m9 < w0 + 4 then (11, m9 - (w0 + 1)) else (0, 0)) = ((1, 0) : Nat × Nat); rw [if_pos (show m9 = m9 by omega)]), hM⟩
    | 2, hv =>
      have hv : i < 4 := hv
      match i, hv with
      | 0, _ => exact ⟨(by show (if a0 = m9 then (1, 0) else if a0 = d9 then (12, 0) else if a0 = a0 then (2, 0) else if a0 = a1 then (2, 1) else if a0 = a2 then (2, 2) else if a0 = a3 then (2, 3) else if a0 = z0 then (4, 0) else if z0 + 1 ≤ a0 ∧ a0 < z0 + 5 then (10, a0 - (z0 + 1)) else if a0 = c5 then (5, 0) else if a0 = w0 then (4, 1) else if w0 + 1 ≤ a0 ∧ a0 < w0 + 4 then (11, a0 - (w0 + 1)) else (0, 0)) = ((2, 0) : Nat × Nat); rw [if_neg (show ¬ (a0 = m9) by omega), if_neg (show ¬ (a0 = d9) by omega), if_pos (show a0 = a0 by omega)]), hL0⟩
      | 1, _ => exact ⟨(by show (if a1 = m9 then (1, 0) else if a1 = d9 then (12, 0) else if a1 = a0 then (2, 0) else if a1 = a1 then (2, 1) else if a1 = a2 then (2, 2) else if a1 = a3 then (2, 3) else if a1 = z0 then (4, 0) else if z0 + 1 ≤ a1 ∧ a1 < z0 + 5 then (10, a1 - (z0 + 1)) else if a1 = c5 then (5, 0) else if a1 = w0 then (4, 1) else if w0 + 1 ≤ a1 ∧ a1 < w0 + 4 then (11, a1 - (w0 + 1)) else (0, 0)) = ((2, 1) : Nat × Nat); rw [if_neg (show ¬ (a1 = m9) by omega), if_neg (show ¬ (a1 = d9) by omega), if_neg (show ¬ (a1 = a0) by omega), if_pos (show a1 = a1 by omega)]), hL1⟩
      | 2, _ => exact ⟨(by show (if a2 = m9 then (1, 0) else if a2 = d9 then (12, 0) else if a2 = a0 then (2, 0) else if a2 = a1 then (2, 1) else if a2 = a2 then (2, 2) else if a2 = a3 then (2, 3) else if a2 = z0 then (4, 0) else if z0 + 1 ≤ a2 ∧ a2 < z0 + 5 then (10, a2 - (z0 + 1)) else if a2 = c5 then (5, 0) else if a2 = w0 then (4, 1) else if w0 + 1 ≤ a2 ∧ a2 < w0 + 4 then (11, a2 - (w0 + 1)) else (0, 0)) = ((2, 2) : Nat × Nat); rw [if_neg (show ¬ (a2 = m9) by omega), if_neg (show ¬ (a2 = d9) by omega), if_neg (show ¬ (a2 = a0) by omega), if_neg (show ¬ (a2 = a1) by omega), if_pos (show a2 = a2 by omega)]), hL2⟩
      | 3, _ => exact ⟨(by show (if a3 = m9 then (1, 0) else if a3 = d9 then (12, 0) else if a3 = a0 then (2, 0) else if a3 = a1 then (2, 1) else if a3 = a2 then (2, 2) else if a3 = a3 then (2, 3) else if a3 = z0 then (4, 0) else if z0 + 1 ≤ a3 ∧ a3 < z0 + 5 then (10, a3 - (z0 + 1)) else if a3 = c5 then (5, 0) else if a3 = w0 then (4, 1) else if w0 + 1 ≤ a3 ∧ a3 < w0 + 4 then (11, a3 - (w0 + 1)) else (0, 0)) = ((2, 3) : Nat × Nat); rw [if_neg (show ¬ (a3 = m9) by omega), if_neg (show ¬ (a3 = d9) by omega), if_neg (show ¬ (a3 = a0) by omega), if_neg (show ¬ (a3 = a1) by omega), if_neg (show ¬ (a3 = a2) by omega), if_pos (show a3 = a3 by omega)]), hL3⟩
    | 3, hv => exact absurd hv.2 (Nat.lt_irrefl 0)
    | 4, hv =>
      have hv : i < 2 := hv
      match i, hv with
      | 0, _ => exact ⟨(by show (if z0 = m9 then (1, 0) else if z0 = d9 then (12, 0) else if z0 = a0 then (2, 0) else if z0 = a1 then (2, 1) else if z0 = a2 then (2, 2) else if z0 = a3 then (2, 3) else if z0 = z0 then (4, 0) else if z0 + 1 ≤ z0 ∧ z0 < z0 + 5 then (10, z0 - (z0 + 1)) else if z0 = c5 then (5, 0) else if z0 = w0 then (4, 1) else if w0 + 1 ≤ z0 ∧ z0 < w0 + 4 then (11, z0 - (w0 + 1)) else (0, 0)) = ((4, 0) : Nat × Nat); rw [if_neg (show ¬ (z0 = m9) by omega), if_neg (show ¬ (z0 = d9) by omega), if_neg (show ¬ (z0 = a0) by omega), if_neg (show ¬ (z0 = a1) by omega), if_neg (show ¬ (z0 = a2) by omega), if_neg (show ¬ (z0 = a3) by omega), if_pos (show z0 = z0 by omega)]), hZ⟩
      | 1, _ => exact ⟨(by show (if w0 = m9 then (1, 0) else if w0 = d9 then (12, 0) else if w0 = a0 then (2, 0) else if w0 = a1 then (2, 1) else if w0 = a2 then (2, 2) else if w0 = a3 then (2, 3) else if w0 = z0 then (4, 0) else if z0 + 1 ≤ w0 ∧ w0 < z0 + 5 then (10, w0 - (z0 + 1)) else if w0 = c5 then (5, 0) else if w0 = w0 then (4, 1) else if w0 + 1 ≤ w0 ∧ w0 < w0 + 4 then (11, w0 - (w0 + 1)) else (0, 0)) = ((4, 1) : Nat × Nat); rw [if_neg (show ¬ (w0 = m9) by omega), if_neg (show ¬ (w0 = d9) by omega), if_neg (show ¬ (w0 = a0) by omega), if_neg (show ¬ (w0 = a1) by omega), if_neg (show ¬ (w0 = a2) by omega), if_neg (show ¬ (w0 = a3) by omega), if_neg (show ¬ (w0 = z0) by omega), if_neg (show ¬ (z0 + 1 ≤ w0 ∧ w0 < z0 + 5) by omega), if_neg (show ¬ (w0 = c5) by omega), if_pos (show w0 = w0 by omega)]), hW⟩
    | 5, hv =>
      have hv : i = 0 := hv
      subst hv
      exact ⟨(by show (if c5 = m9 then (1, 0) else if c5 = d9 then (12, 0) else if c5 = a0 then (2, 0) else if c5 = a1 then (2, 1) else if c5 = a2 then (2, 2) else if c5 = a3 then (2, 3) else if c5 = z0 then (4, 0) else if z0 + 1 ≤ c5 ∧ c5 < z0 + 5 then (10, c5 - (z0 + 1)) else if c5 = c5 then (5, 0) else if c5 = w0 then (4, 1) else if w0 + 1 ≤ c5 ∧ c5 < w0 + 4 then (11, c5 - (w0 + 1)) else (0, 0)) = ((5, 0) : Nat × Nat); rw [if_neg (show ¬ (c5 = m9) by omega), if_neg (show ¬ (c5 = d9) by omega), if_neg (show ¬ (c5 = a0) by omega), if_neg (show ¬ (c5 = a1) by omega), if_neg (show ¬ (c5 = a2) by omega), if_neg (show ¬ (c5 = a3) by omega), if_neg (show ¬ (c5 = z0) by omega), if_neg (show ¬ (z0 + 1 ≤ c5 ∧ c5 < z0 + 5) by omega), if_pos (show c5 = c5 by omega)]), by
        show va_at E.1 vwCl (c5, .inl (eI E, 4, .inl (caB S0))) H
        rw [show caB S0 = (fun _ => (0 : Int32)) from funext fun q => by unfold caB; split <;> rfl]
        exact hC5⟩
    | 6, hv => exact absurd hv (Nat.not_lt_zero i)
    | 7, hv => exact absurd hv (Nat.not_lt_zero i)
    | 8, hv => exact absurd hv (Nat.not_lt_zero i)
    | 9, hv => exact absurd hv (Nat.not_lt_zero i)
    | 10, hv =>
      have hv : i < 4 := hv
      exact ⟨(by show (if (z0 + 1 + i) = m9 then (1, 0) else if (z0 + 1 + i) = d9 then (12, 0) else if (z0 + 1 + i) = a0 then (2, 0) else if (z0 + 1 + i) = a1 then (2, 1) else if (z0 + 1 + i) = a2 then (2, 2) else if (z0 + 1 + i) = a3 then (2, 3) else if (z0 + 1 + i) = z0 then (4, 0) else if z0 + 1 ≤ (z0 + 1 + i) ∧ (z0 + 1 + i) < z0 + 5 then (10, (z0 + 1 + i) - (z0 + 1)) else if (z0 + 1 + i) = c5 then (5, 0) else if (z0 + 1 + i) = w0 then (4, 1) else if w0 + 1 ≤ (z0 + 1 + i) ∧ (z0 + 1 + i) < w0 + 4 then (11, (z0 + 1 + i) - (w0 + 1)) else (0, 0)) = ((10, i) : Nat × Nat); rw [if_neg (show ¬ ((z0 + 1 + i) = m9) by omega), if_neg (show ¬ ((z0 + 1 + i) = d9) by omega), if_neg (show ¬ ((z0 + 1 + i) = a0) by omega), if_neg (show ¬ ((z0 + 1 + i) = a1) by omega), if_neg (show ¬ ((z0 + 1 + i) = a2) by omega), if_neg (show ¬ ((z0 + 1 + i) = a3) by omega), if_neg (show ¬ ((z0 + 1 + i) = z0) by omega), if_pos (show z0 + 1 ≤ (z0 + 1 + i) ∧ (z0 + 1 + i) < z0 + 5 by omega)]; exact congrArg (fun n => ((10 : Nat), n)) (show z0 + 1 + i - (z0 + 1) = i by omega)), by
        show va_at E.1 vwCl (z0 + 1 + i, .inl (eI E, 4, .inl (plB S0 i))) H
        rw [show plB S0 i = (fun _ => (0 : Int32)) from funext fun q => by unfold plB; split <;> rfl]
        exact hZr i hv⟩
    | 11, hv =>
      have hv : i < 3 := hv
      exact ⟨(by show (if (w0 + 1 + i) = m9 then (1, 0) else if (w0 + 1 + i) = d9 then (12, 0) else if (w0 + 1 + i) = a0 then (2, 0) else if (w0 + 1 + i) = a1 then (2, 1) else if (w0 + 1 + i) = a2 then (2, 2) else if (w0 + 1 + i) = a3 then (2, 3) else if (w0 + 1 + i) = z0 then (4, 0) else if z0 + 1 ≤ (w0 + 1 + i) ∧ (w0 + 1 + i) < z0 + 5 then (10, (w0 + 1 + i) - (z0 + 1)) else if (w0 + 1 + i) = c5 then (5, 0) else if (w0 + 1 + i) = w0 then (4, 1) else if w0 + 1 ≤ (w0 + 1 + i) ∧ (w0 + 1 + i) < w0 + 4 then (11, (w0 + 1 + i) - (w0 + 1)) else (0, 0)) = ((11, i) : Nat × Nat); rw [if_neg (show ¬ ((w0 + 1 + i) = m9) by omega), if_neg (show ¬ ((w0 + 1 + i) = d9) by omega), if_neg (show ¬ ((w0 + 1 + i) = a0) by omega), if_neg (show ¬ ((w0 + 1 + i) = a1) by omega), if_neg (show ¬ ((w0 + 1 + i) = a2) by omega), if_neg (show ¬ ((w0 + 1 + i) = a3) by omega), if_neg (show ¬ ((w0 + 1 + i) = z0) by omega), if_neg (show ¬ (z0 + 1 ≤ (w0 + 1 + i) ∧ (w0 + 1 + i) < z0 + 5) by omega), if_neg (show ¬ ((w0 + 1 + i) = c5) by omega), if_neg (show ¬ ((w0 + 1 + i) = w0) by omega), if_pos (show w0 + 1 ≤ (w0 + 1 + i) ∧ (w0 + 1 + i) < w0 + 4 by omega)]; exact congrArg (fun n => ((11 : Nat), n)) (show w0 + 1 + i - (w0 + 1) = i by omega)), by
        show va_at E.1 vwCl (w0 + 1 + i, .inl (eI E, 4, .inl (rtB S0 i))) H
        rw [show rtB S0 i = (fun _ => (0 : Int32)) from funext fun q => by unfold rtB; split <;> rfl]
        exact hWr i hv⟩
    | 12, hv =>
      have hv : i = 0 := hv
      subst hv
      exact ⟨(by show (if d9 = m9 then (1, 0) else if d9 = d9 then (12, 0) else if d9 = a0 then (2, 0) else if d9 = a1 then (2, 1) else if d9 = a2 then (2, 2) else if d9 = a3 then (2, 3) else if d9 = z0 then (4, 0) else if z0 + 1 ≤ d9 ∧ d9 < z0 + 5 then (10, d9 - (z0 + 1)) else if d9 = c5 then (5, 0) else if d9 = w0 then (4, 1) else if w0 + 1 ≤ d9 ∧ d9 < w0 + 4 then (11, d9 - (w0 + 1)) else (0, 0)) = ((12, 0) : Nat × Nat); rw [if_neg (show ¬ (d9 = m9) by omega), if_pos (show d9 = d9 by omega)]), hO⟩
    | 13, hv => exact absurd hv (Nat.not_lt_zero i)
    | 14, hv => exact absurd hv (Nat.not_lt_zero i)
    | _ + 15, hv => exact hv.elim
  · match i with
    | 0 => exact Nat.le_refl 0
    | 1 => exact Nat.le_refl 0
    | 2 => exact Nat.le_refl 0
    | _ + 3 => exact Nat.le_refl 0
  · show ((if q = m9 then (1, 0) else if q = d9 then (12, 0) else if q = a0 then (2, 0) else if q = a1 then (2, 1) else if q = a2 then (2, 2) else if q = a3 then (2, 3) else if q = z0 then (4, 0) else if z0 + 1 ≤ q ∧ q < z0 + 5 then (10, q - (z0 + 1)) else if q = c5 then (5, 0) else if q = w0 then (4, 1) else if w0 + 1 ≤ q ∧ q < w0 + 4 then (11, q - (w0 + 1)) else (0, 0)) : Nat × Nat).1 = 0
    rw [if_neg (show ¬ (q = m9) by omega), if_neg (show ¬ (q = d9) by omega), if_neg (show ¬ (q = a0) by omega), if_neg (show ¬ (q = a1) by omega), if_neg (show ¬ (q = a2) by omega), if_neg (show ¬ (q = a3) by omega), if_neg (show ¬ (q = z0) by omega), if_neg (show ¬ (z0 + 1 ≤ q ∧ q < z0 + 5) by omega), if_neg (show ¬ (q = c5) by omega), if_neg (show ¬ (q = w0) by omega), if_neg (show ¬ (w0 + 1 ≤ q ∧ q < w0 + 4) by omega)]
theorem g0B_ow {m9 d9 a0 a1 a2 a3 z0 c5 w0 z : Nat} (o : m9 < d9 ∧ d9 < a0 ∧ a0 < a1 ∧ a1 < a2 ∧ a2 < a3 ∧ a3 < z0 ∧ z0 + 1 + 3 < c5 ∧ c5 < w0) {x : Nat} (h : ow (g0B m9 d9 a0 a1 a2 a3 z0 c5 w0 z) x) : x = m9 ∨ (d9 ≤ x ∧ x ≤ w0 + 3) := by
  have hw : ((if x = m9 then (1, 0) else if x = d9 then (12, 0) else if x = a0 then (2, 0) else if x = a1 then (2, 1) else if x = a2 then (2, 2) else if x = a3 then (2, 3) else if x = z0 then (4, 0) else if z0 + 1 ≤ x ∧ x < z0 + 5 then (10, x - (z0 + 1)) else if x = c5 then (5, 0) else if x = w0 then (4, 1) else if w0 + 1 ≤ x ∧ x < w0 + 4 then (11, x - (w0 + 1)) else (0, 0)) : Nat × Nat).1 ≠ 0 := h
  by_cases h1 : x = m9
  · exact Or.inl h1
  · refine Or.inr ?_
    rcases Nat.lt_or_ge x d9 with h2 | h2
    · exact absurd (by rw [if_neg (show ¬ (x = m9) by omega), if_neg (show ¬ (x = d9) by omega), if_neg (show ¬ (x = a0) by omega), if_neg (show ¬ (x = a1) by omega), if_neg (show ¬ (x = a2) by omega), if_neg (show ¬ (x = a3) by omega), if_neg (show ¬ (x = z0) by omega), if_neg (show ¬ (z0 + 1 ≤ x ∧ x < z0 + 5) by omega), if_neg (show ¬ (x = c5) by omega), if_neg (show ¬ (x = w0) by omega), if_neg (show ¬ (w0 + 1 ≤ x ∧ x < w0 + 4) by omega)]) hw
    · rcases Nat.lt_or_ge (w0 + 3) x with h3 | h3
      · exact absurd (by rw [if_neg (show ¬ (x = m9) by omega), if_neg (show ¬ (x = d9) by omega), if_neg (show ¬ (x = a0) by omega), if_neg (show ¬ (x = a1) by omega), if_neg (show ¬ (x = a2) by omega), if_neg (show ¬ (x = a3) by omega), if_neg (show ¬ (x = z0) by omega), if_neg (show ¬ (z0 + 1 ≤ x ∧ x < z0 + 5) by omega), if_neg (show ¬ (x = c5) by omega), if_neg (show ¬ (x = w0) by omega), if_neg (show ¬ (w0 + 1 ≤ x ∧ x < w0 + 4) by omega)]) hw
      · exact ⟨h2, by omega⟩
set_option maxRecDepth 100000 in
set_option maxHeartbeats 4000000 in
theorem c_X12_init (l : Launch) (E : EE) {q9 : Nat} (hN9 : eN E ≤ q9) : WMX l E yX12_init cX12_init 1 none (wD 6 15 59) [.ref (q9)] (fun H => va_at E.1 vwCl (q9, .inr (12, [.int (0), .null])) H ∧ ZE E H) (fun x => x = q9) (fun sz v H => (∃ g, RB E S0 0 g H ∧ g.ad 1 0 = q9 ∧ ∀ x, ow g x → (x = q9 ∨ sz ≤ x) ∧ x < H.size) ∧ v = none) := by
  refine wmx_of rfl (Nat.le_of_ble_eq_true rfl) (fun p e s m below meth c ls hx hb hr hml (hown : s.vm.findClass RX12 = some m.cls) hC hAO hlocks ⟨hO, hX⟩ hl hini => ?_)
  have hS : va_S (fun q => (fun x => x = q9) q ∨ s.heap.size ≤ q) s.heap s.heap [] := va_S.rf
  have hl : lv_has ls 1 [(0, .ref (q9))] := hl
  refine lv_aload_n hx hb dX12_init_0 rfl (lv_at hl 0 rfl) ?_
  refine W.objInit hx hb hown (zm_X12_1 hC.1) (zi_Object_init hC.1) (zk_Object_init hC.1) rfl (hl.1.trans hml.symm) rfl dX12_init_1 (Nat.le_of_ble_eq_true rfl) (Nat.le_of_ble_eq_true rfl) ?_
  refine lv_aload_n hx hb dX12_init_4 rfl (lv_at hl 0 rfl) ?_
  obtain ⟨d9, hd9⟩ : ∃ a, a = s.heap.size := ⟨_, rfl⟩
  have o0 : q9 < d9 := by rw [hd9]; exact hO.lt
  refine nw_X8 hx hb hown hC (zc_X12_7 hC.1) hS (Nat.le_of_ble_eq_true rfl) (Nat.le_of_ble_eq_true rfl) dX12_init_5 (fun H1 hD hz hq hS => ?_)
  rw [← hd9] at hD hz hS ⊢
  have hX := hX.kept (fun q h => hq q (Nat.lt_trans (Nat.lt_of_lt_of_le h hN9) hO.lt))
  have hO := hO.kept (hq _ hO.lt)
  refine lv_dup hx hb dX12_init_8 rfl ?_
  refine wcx_IN (As := []) hx hb hml hown hC hAO hl (c_X8_init l E (q9 := d9) (by omega)) (va_Nw.use rfl hAO.2) kv_X8_init ⟨hD, hX⟩ hS (fun q h => h.elim (fun e => Or.inr (by have e : q = d9 := e; have := hd9; omega)) (fun e => Or.inr (by have := hS.1; omega))) rfl rfl (wD_le (by decide) (by decide)) (Nat.le_of_ble_eq_true rfl) ⟨(Nat.le_of_ble_eq_true rfl), (Nat.le_of_ble_eq_true rfl)⟩ dX12_init_9 (fun v H1 locs1 h9 hz2 hq hS => ?_)
  obtain ⟨⟨a0, a1, a2, a3, z0, c5, w0, hsa, ho, hwl, hD, ⟨hL0, hL1, hL2, hL3⟩, ⟨hZ, hZr⟩, hC5, ⟨hW, hWr⟩, hX⟩, rfl⟩ := h9
  have hO := hO.kept (hq _ hO.lt (show ¬ q9 = d9 by omega))
  have hsz9 : d9 < a0 := by omega
  refine pf_X12_1 hx hb hown hC hO hS (Or.inl rfl) (zf_X12_10 hC.1) (hini rfl) rfl rfl rfl dX12_init_12 (fun H1 locs1 hO hz3 hq hS => ?_)
  have hX := hX.kept (fun q h => hq q (fun e => by omega))
  have hD := hD.kept (hq _ (show ¬ d9 = q9 by omega))
  have hL0 := hL0.kept (hq _ (show ¬ a0 = q9 by omega))
  have hL1 := hL1.kept (hq _ (show ¬ a1 = q9 by omega))
  have hL2 := hL2.kept (hq _ (show ¬ a2 = q9 by omega))
  have hL3 := hL3.kept (hq _ (show ¬ a3 = q9 by omega))
  have hZ := hZ.kept (hq _ (show ¬ z0 = q9 by omega))
  have hC5 := hC5.kept (hq _ (show ¬ c5 = q9 by omega))
  have hW := hW.kept (hq _ (show ¬ w0 = q9 by omega))
  have hZr := fun i hi => (hZr i hi).kept (hq _ (show ¬ z0 + 1 + i = q9 by omega))
  have hWr := fun i hi => (hWr i hi).kept (hq _ (show ¬ w0 + 1 + i = q9 by omega))
  have ord : q9 < d9 ∧ d9 < a0 ∧ a0 < a1 ∧ a1 < a2 ∧ a2 < a3 ∧ a3 < z0 ∧ z0 + 1 + 3 < c5 ∧ c5 < w0 := ⟨o0, hsz9, ho.2⟩
  have hfin := RB.init ord hN9 hX hO hD hL0 hL1 hL2 hL3 hZ hZr hC5 hW hWr
  subst hd9
  have hq9 : q9 < H1.size := hO.lt
  have hwl2 := (hWr 2 (by decide)).lt
  refine wr_v hx hb hr hlocks hS ?_ ?_ ?_ dX12_init_15
  · refine ⟨⟨_, hfin, rfl, fun x hw => ?_⟩, rfl⟩
    rcases g0B_ow ord hw with h | h
    · exact ⟨Or.inl h, by omega⟩
    · exact ⟨Or.inr (by omega), by omega⟩
  · exact (Nat.le_of_ble_eq_true rfl)
  · exact (Nat.le_of_ble_eq_true rfl)
