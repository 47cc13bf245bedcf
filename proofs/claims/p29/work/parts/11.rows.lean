/-! more rows: arrays, null -/
theorem va_rf_cat (r : Option Nat) : (va_rf r).category = 1 := by cases r <;> rfl
section Rows2
variable {p : Program} {l : Launch} {e : Env} {R : Room} {s : State} {m : MethodId} {args : Array Value} {below : List Frame} {meth : Method} {c : Code} {H : Heap} {locs : List Loc} {cells slots : Nat} {Q : State → Prop}
variable {cc : ByteArray} {pc : Nat} {ls : Array Slot} {rest : List Value} {E : EE} {own : String}
theorem lw_none {o : Option Nat} {f : Nat → Nat} (h : o = none) (k : W p l e R s m args below meth c H locs cells slots Q (F0 m pc ls (.null :: rest))) : W p l e R s m args below meth c H locs cells slots Q (F0 m pc ls (va_rf (o.map f) :: rest)) := by
  subst h; exact k
theorem g_iald (hx : p.tables.exec = Jvm.exec) (hb : c.code = cc) (hC : CX E s) {a n j : Nat} {f : Nat → Int32} {i : Int32} (hat : va_at E.1 vwCl (a, .inl (eI E, n, .inl f)) H) (hi : i = nI j ∧ j < n ∧ n < 2 ^ 31) (hdg : decode cc pc = .ok (.iaload, 1)) (kk : W p l e R s m args below meth c H locs cells slots Q (F0 m (pc + 1) ls (.int (f j) :: rest))) : W p l e R s m args below meth c H locs cells slots Q (F0 m pc ls (.int i :: .ref a :: rest)) := by
  obtain ⟨rfl, h1, h2⟩ := hi
  refine va_iald hx hb hC.2.1 (P1 hat) 0 0 rfl rfl (vp_in_nI h1 h2) hdg ?_
  rw [nI_clamp (Nat.lt_trans h1 h2)]
  exact kk
theorem g_aald (hx : p.tables.exec = Jvm.exec) (hb : c.code = cc) (hC : CX E s) {a n j q : Nat} {f : Nat → Option Nat} {i : Int32} (hat : va_at E.1 vwCl (a, .inl (eO E, n, .inr (.inr (.inr (.inr f))))) H) (hi : i = nI j ∧ j < n ∧ n < 2 ^ 31) (hf : f j = some q) (hdg : decode cc pc = .ok (.aaload, 1)) (kk : W p l e R s m args below meth c H locs cells slots Q (F0 m (pc + 1) ls (.ref q :: rest))) : W p l e R s m args below meth c H locs cells slots Q (F0 m pc ls (.int i :: .ref a :: rest)) := by
  obtain ⟨rfl, h1, h2⟩ := hi
  refine va_aldq hx hb hC.2.1 (P1 hat) 0 2 rfl rfl (vp_in_nI h1 h2) hdg ?_
  rw [nI_clamp (Nat.lt_trans h1 h2), hf]
  exact kk
theorem g_alenI (hx : p.tables.exec = Jvm.exec) (hb : c.code = cc) (hC : CX E s) {a n : Nat} {f : Nat → Int32} (hat : va_at E.1 vwCl (a, .inl (eI E, n, .inl f)) H) (hdg : decode cc pc = .ok (.arraylength, 1)) (kk : W p l e R s m args below meth c H locs cells slots Q (F0 m (pc + 1) ls (.int (nI n) :: rest))) : W p l e R s m args below meth c H locs cells slots Q (F0 m pc ls (.ref a :: rest)) :=
  va_alen hx hb hC.2.1 (P1 hat) 0 0 rfl (ty := .int) rfl rfl hdg kk
theorem g_alenO (hx : p.tables.exec = Jvm.exec) (hb : c.code = cc) (hC : CX E s) {a n : Nat} {f : Nat → Option Nat} (hat : va_at E.1 vwCl (a, .inl (eO E, n, .inr (.inr (.inr (.inr f))))) H) (hdg : decode cc pc = .ok (.arraylength, 1)) (kk : W p l e R s m args below meth c H locs cells slots Q (F0 m (pc + 1) ls (.int (nI n) :: rest))) : W p l e R s m args below meth c H locs cells slots Q (F0 m pc ls (.ref a :: rest)) :=
  va_alen hx hb hC.2.1 (P1 hat) 0 2 rfl (ty := .object "java/lang/Object") rfl rfl hdg kk
theorem g_alenZ (hx : p.tables.exec = Jvm.exec) (hb : c.code = cc) (hC : CX E s) (hZ : zEm E H) (hdg : decode cc pc = .ok (.arraylength, 1)) (kk : W p l e R s m args below meth c H locs cells slots Q (F0 m (pc + 1) ls (.int (nI 0) :: rest))) : W p l e R s m args below meth c H locs cells slots Q (F0 m pc ls (.ref (eE E) :: rest)) := by
  obtain ⟨cell, h1, h2, h3, h4⟩ := hZ
  obtain ⟨-, kA, comp, f1, f2, -⟩ := hC.2.1.2 2 _ rfl
  exact W.alen (n := Int32.ofNat 0) hx hb h1 ⟨fun k e => (by rw [e] at h4; cases h4), kA, by rw [h2]; exact f1, comp, f2⟩ (by rw [h3] <;> rfl) rfl rfl hdg kk
/-- two references of one kind are one if their numbers are -/
theorem lw_acmp_ne {a b i j : Nat} {off : Int} {tgt : Nat} (hx : p.tables.exec = Jvm.exec) (hb : c.code = cc) (hi : a = b ↔ i = j) (hdg : decode cc pc = .ok (.if_acmp .ne off, 3)) (ht : (pc : Int) + off = (tgt : Int)) (kt : ¬ i = j → W p l e R s m args below meth c H locs cells slots Q (F0 m tgt ls rest)) (kf : i = j → W p l e R s m args below meth c H locs cells slots Q (F0 m (pc + 3) ls rest)) : W p l e R s m args below meth c H locs cells slots Q (F0 m pc ls (.ref b :: .ref a :: rest)) :=
  lv_acmp_ne (rx := some a) (ry := some b) hx hb hdg ht (fun h => kt (fun h2 => h (by rw [hi.mpr h2]))) (fun h => kf (hi.mp (Option.some.inj h)))
theorem lw_acmp_eq {a b i j : Nat} {off : Int} {tgt : Nat} (hx : p.tables.exec = Jvm.exec) (hb : c.code = cc) (hi : a = b ↔ i = j) (hdg : decode cc pc = .ok (.if_acmp .eq off, 3)) (ht : (pc : Int) + off = (tgt : Int)) (kt : i = j → W p l e R s m args below meth c H locs cells slots Q (F0 m tgt ls rest)) (kf : ¬ i = j → W p l e R s m args below meth c H locs cells slots Q (F0 m (pc + 3) ls rest)) : W p l e R s m args below meth c H locs cells slots Q (F0 m pc ls (.ref b :: .ref a :: rest)) :=
  lv_acmp_eq (rx := some a) (ry := some b) hx hb hdg ht (fun h => kt (hi.mp (Option.some.inj h))) (fun h => kf (fun h2 => h (by rw [hi.mpr h2])))
/-- a reference that may be null against one that isn't -/
theorem lw_acmpo_ne {o : Option Nat} {f : Nat → Nat} {b j : Nat} {off : Int} {tgt : Nat} (hx : p.tables.exec = Jvm.exec) (hb : c.code = cc) (hi : o.map f = some b ↔ o = some j) (hdg : decode cc pc = .ok (.if_acmp .ne off, 3)) (ht : (pc : Int) + off = (tgt : Int)) (kt : ¬ o = some j → W p l e R s m args below meth c H locs cells slots Q (F0 m tgt ls rest)) (kf : o = some j → W p l e R s m args below meth c H locs cells slots Q (F0 m (pc + 3) ls rest)) : W p l e R s m args below meth c H locs cells slots Q (F0 m pc ls (.ref b :: va_rf (o.map f) :: rest)) :=
  lv_acmp_ne (rx := o.map f) (ry := some b) hx hb hdg ht (fun h => kt (fun h2 => h (hi.mpr h2))) (fun h => kf (hi.mp h))
theorem lw_acmpo_eq {o : Option Nat} {f : Nat → Nat} {b j : Nat} {off : Int} {tgt : Nat} (hx : p.tables.exec = Jvm.exec) (hb : c.code = cc) (hi : o.map f = some b ↔ o = some j) (hdg : decode cc pc = .ok (.if_acmp .eq off, 3)) (ht : (pc : Int) + off = (tgt : Int)) (kt : o = some j → W p l e R s m args below meth c H locs cells slots Q (F0 m tgt ls rest)) (kf : ¬ o = some j → W p l e R s m args below meth c H locs cells slots Q (F0 m (pc + 3) ls rest)) : W p l e R s m args below meth c H locs cells slots Q (F0 m pc ls (.ref b :: va_rf (o.map f) :: rest)) :=
  lv_acmp_eq (rx := o.map f) (ry := some b) hx hb hdg ht (fun h => kt (hi.mp h)) (fun h => kf (fun h2 => h (hi.mpr h2)))
end Rows2
/-- numbers of one kind by their addresses -/
theorem RA.iff {E : EE} {S : St} {g : Gh} {H : Heap} (h : RA E S g H) (k : Nat) {i j : Nat} (hi : valA S g k i) (hj : valA S g k j) : g.ad k i = g.ad k j ↔ i = j := ⟨h.inj hi hj, fun e => by rw [e]⟩
theorem RA.iffo {E : EE} {S : St} {g : Gh} {H : Heap} (h : RA E S g H) (k : Nat) {o : Option Nat} {j : Nat} (hi : ∀ i, o = some i → valA S g k i) (hj : valA S g k j) : o.map (g.ad k) = some (g.ad k j) ↔ o = some j := by
  cases o with
  | none => simp
  | some i =>
    constructor
    · intro e
      have : g.ad k i = g.ad k j := Option.some.inj e
      rw [h.inj (hi i rfl) hj this]
    · intro e
      rw [Option.some.inj e]; rfl
theorem nsome {α : Type} {o : Option α} {j : α} (h : o = some j) : ¬ o = none := by rw [h]; exact fun e => by cases e

