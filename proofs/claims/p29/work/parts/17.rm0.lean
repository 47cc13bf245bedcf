/-! methods that only read and answer nothing -/
def RQ0 : Array Value → State → Outcome → State → Prop := fun _ st o t => o = .returned none ∧ t.heap = st.heap
def RM0 (l : Launch) (E : EE) (y : MethodName) (b : ByteArray) (n : Nat) (rm : Room) (As : List Value) (Pre : Heap → Prop) : Prop :=
  Met l y [Cond.code y b n none] rm (va_Pc As (fun U => CX E U ∧ Pre U.heap)) RQ0 0 0 (fun _ => False)
section RM0s
variable {p : Program} {l : Launch} {e : Env} {R : Room} {s : State} {m : MethodId} {args : Array Value} {below : List Frame} {meth : Method} {c : Code} {H : Heap} {locs : List Loc} {cells slots : Nat} {Q : State → Prop}
variable {cc : ByteArray} {pc : Nat} {ls : Array Slot} {rest : List Value} {E : EE} {own : String}
theorem rm0_of {y : MethodName} {b : ByteArray} {n : Nat} {rm : Room} {As : List Value} {Pre : Heap → Prop} (hy : plainName y.cls = true) (hlen : (lg_sl As).length ≤ n)
    (body : ∀ (p : Program) (e : Env) (s : State) (m : MethodId) (below : List Frame) (meth : Method) (c : Code) (ls : Array Slot), p.tables.exec = Jvm.exec → c.code = b → meth.sig.returnType = none → c.maxLocals = n → s.vm.findClass y.cls = some m.cls → CX E s → meth.locks = false → Pre s.heap → lv_has ls n (lv_args 0 As) → W p l e rm s m As.toArray below meth c s.heap [] 0 0 (MQ below RQ0 As.toArray s 0 0 (fun _ => False)) (F0 m 0 ls [])) : RM0 l E y b n rm As Pre := by
  refine Met.ofW (cc := b) (maxL := n) (ret := none) hy rfl ?_
  intro p e s m args below meth c s₁ B hml hv
  obtain ⟨rfl, hC, hP⟩ := hv
  rw [lg_entry_eq]
  exact body p e s m below meth c _ B.exec B.bytes B.returns hml (findClass_of_methodNamed B.named) hC B.notSynchronized hP (lv_entry As hlen)
theorem rr_v {free : Addr → Prop} (hx : p.tables.exec = Jvm.exec) (hb : c.code = cc) (hr : meth.sig.returnType = none) (hlocks : meth.locks = false) (hdg : decode cc pc = .ok (.return_, 1)) : W p l e R s m args below meth c s.heap [] 0 0 (MQ below RQ0 args s 0 0 free) (F0 m pc ls []) :=
  W.vret hx hb hr (fun t ht _ => ⟨rfl, ht⟩) (fun _ h => by cases h) hdg hlocks
theorem rc_go0 {a : Array Value} {st0 : List Value} (hr : va_Run p l e R s m args below meth c H locs cells slots 0 0 (F0 m pc ls st0) rest (RQ0 a) (fun _ => False)) (kk : W p l e R s m args below meth c H locs cells slots Q (F0 m (pc + 3) ls rest)) : W p l e R s m args below meth c H locs cells slots Q (F0 m pc ls st0) := by
  intro T hT X
  obtain ⟨v, st₀, t, T', L, h0, X', hL, e1, -, ⟨hv, hh⟩, st⟩ := hr T hT X
  cases hv
  obtain ⟨t2, a1, b1⟩ := kk T' (by rw [e1, hh, h0]) (Stand.forget X' (fun q h => (hL q h).elim))
  exact ⟨t2, st t2 a1, b1⟩
theorem rc_V0 {C : String} {y : MethodName} {b : ByteArray} {n nL k index : Nat} {rm : Room} {a : Nat} {As st : List Value} {lv : List (Nat × Value)} {Pre : Heap → Prop} (hx : p.tables.exec = Jvm.exec) (hb : c.code = cc) (hml : c.maxLocals = nL) (hown : s.vm.findClass own = some m.cls) (hC : CX E s) (hl : lv_has ls nL lv) (hM : RM0 l E y b n rm (.ref a :: As) Pre) (hrec : ∃ cell : Cell, H[a]? = some cell ∧ cell.vm.isStatics = false ∧ s.vm.findClass C = some cell.cls) (zm : (Cond.methodLink own index y).before args s = true) (kv : KV C y b n none k) (hPre : Pre H) (hn : As.length = k) (hst : st = As.reverse ++ .ref a :: rest) (hR : rm.frames + 1 ≤ R.frames ∧ 8 + (n + 11) + rm.locals ≤ R.locals) (hrm : rm.cells = 0 ∧ rm.slots = 0) (hW : (rest.map fun v => v.category).sum ≤ 8) (hcs : cells ≤ R.cells ∧ slots ≤ R.slots) (hdg : decode cc pc = .ok (.invokevirtual index, 3))
    (kk : W p l e R s m args below meth c H locs cells slots Q (F0 m (pc + 3) ls rest)) : W p l e R s m args below meth c H locs cells slots Q (F0 m pc ls st) := by
  subst hst
  have k1 := kv.1 s args hC.1
  refine rc_go0 (va_runV (g := F0 m pc ls (As.reverse ++ .ref a :: rest)) (C := C) (As := As) (b := a) (rest := rest) (Ts := []) (n := k) ⟨hx, hb, hml, hown, fun w h => by cases h⟩ hM ⟨kb_of hC.1 (fun U a h => (kv.1 U a h).1) k1.2.1 kv.2.1 kv.2.2 zm hrm.1 hrm.2 hR, k1.2.2.1, k1.2.2.2⟩ ⟨fun a U g mk q => ⟨q.1, q.2.1.calling, q.2.2⟩, hrec, fun U hU hW => ⟨rfl, hC.moved hW, by rw [hU]; exact hPre⟩⟩ rfl hn hl.1 rfl (lv_room hW) hdg ⟨hcs.1, hcs.2⟩) kk
theorem rc_S0 {y : MethodName} {b : ByteArray} {n nL k index : Nat} {rm : Room} {As st : List Value} {lv : List (Nat × Value)} {Pre : Heap → Prop} (hx : p.tables.exec = Jvm.exec) (hb : c.code = cc) (hml : c.maxLocals = nL) (hown : s.vm.findClass own = some m.cls) (hC : CX E s) (hl : lv_has ls nL lv) (hM : RM0 l E y b n rm As Pre) (zm : (Cond.methodLink own index y).before args s = true) (kv : KS y b n none k) (hPre : Pre H) (hn : As.length = k) (hst : st = As.reverse ++ rest) (hR : rm.frames + 1 ≤ R.frames ∧ 8 + (n + 11) + rm.locals ≤ R.locals) (hrm : rm.cells = 0 ∧ rm.slots = 0) (hW : (rest.map fun v => v.category).sum ≤ 8) (hcs : cells ≤ R.cells ∧ slots ≤ R.slots) (hdg : decode cc pc = .ok (.invokestatic index, 3))
    (kk : W p l e R s m args below meth c H locs cells slots Q (F0 m (pc + 3) ls rest)) : W p l e R s m args below meth c H locs cells slots Q (F0 m pc ls st) := by
  subst hst
  have k1 := kv.1 s args hC.1
  refine rc_go0 (va_runS (g := F0 m pc ls (As.reverse ++ rest)) (As := As) (rest := rest) (Ts := []) (n := k) ⟨hx, hb, hml, hown, fun w h => by cases h⟩ hM ⟨kb_of hC.1 (fun U a h => (kv.1 U a h).1) k1.2.1 kv.2.1 kv.2.2 zm hrm.1 hrm.2 hR, k1.2.2⟩ ⟨fun a U g mk q => ⟨q.1, q.2.1.calling, q.2.2⟩, fun U hU hW => ⟨rfl, hC.moved hW, by rw [hU]; exact hPre⟩⟩ rfl hn hl.1 rfl (lv_room hW) hdg ⟨hcs.1, hcs.2⟩) kk
end RM0s
section TMw
variable {p : Program} {l : Launch} {e : Env} {R : Room} {s : State} {m : MethodId} {args : Array Value} {below : List Frame} {meth : Method} {c : Code} {cc : ByteArray} {pc : Nat} {ls : Array Slot} {E : EE}
theorem xw_ISE {nL : Nat} {lv : List (Nat × Value)} {is : Nat} {text : String} (hst : l.stackTraces = false) (hx : p.tables.exec = Jvm.exec) (hb : c.code = cc) (hml : c.maxLocals = nL) (hown : s.vm.findClass RX6 = some m.cls) (hY : CY E s) (hZ : XZ (fun q => s.heap.size ≤ q) s s.heap) (hnt : ∀ x ∈ c.exceptionTable.toList, False) (hlocks : meth.locks = false) (hl : lv_has ls nL lv) (hs : (is, text) ∈ sgl) (d0 : decode cc pc = .ok (.new 55, 3)) (d3 : decode cc (pc + 3) = .ok (.dup, 1)) (d4 : decode cc (pc + 4) = .ok (.ldc_w is, 3)) (d7 : decode cc (pc + 7) = .ok (.invokespecial 59, 3)) (d10 : decode cc (pc + 10) = .ok (.athrow, 1)) {d : Nat} : W p l e (tD d) s m args below meth c s.heap [] 0 0 (TQ below "java/lang/IllegalStateException" args s) (F0 m pc ls []) := by
  obtain ⟨sa, hsa⟩ := hY.2.2 _ hs
  exact vx_throwSW (names := ["java/lang/RuntimeException", "java/lang/Exception"]) (A := fun q => s.heap.size ≤ q) hx hb hst hown (by decide +kernel) (by decide +kernel) (zc_X6_55 hY.1.1) (zn_IllegalStateException hY.1.1) hsa (xa_ISE hY) (by decide +kernel) hZ.1 hZ.2 va_S.rf (hl.1.trans hml.symm) d0 d3 d4 d7 d10 (fun x h => (hnt x h).elim) (by show 2 + 3 < d + 6; omega) (by show 0 + (13 * (2 + 1) + 43) ≤ 44 * d + 90; omega) (Nat.le_refl 1) (Nat.le_refl 6) hlocks (fun t _ h1 h2 => ⟨rfl, h1, h2⟩) (fun z h => by cases h) (Nat.le_refl 1) (Nat.le_refl 6)
theorem xw_IAE {nL : Nat} {lv : List (Nat × Value)} {is : Nat} {text : String} (hst : l.stackTraces = false) (hx : p.tables.exec = Jvm.exec) (hb : c.code = cc) (hml : c.maxLocals = nL) (hown : s.vm.findClass RX6 = some m.cls) (hY : CY E s) (hZ : XZ (fun q => s.heap.size ≤ q) s s.heap) (hnt : ∀ x ∈ c.exceptionTable.toList, False) (hlocks : meth.locks = false) (hl : lv_has ls nL lv) (hs : (is, text) ∈ sgl) (d0 : decode cc pc = .ok (.new 86, 3)) (d3 : decode cc (pc + 3) = .ok (.dup, 1)) (d4 : decode cc (pc + 4) = .ok (.ldc_w is, 3)) (d7 : decode cc (pc + 7) = .ok (.invokespecial 90, 3)) (d10 : decode cc (pc + 10) = .ok (.athrow, 1)) {d : Nat} : W p l e (tD d) s m args below meth c s.heap [] 0 0 (TQ below "java/lang/IllegalArgumentException" args s) (F0 m pc ls []) := by
  obtain ⟨sa, hsa⟩ := hY.2.2 _ hs
  exact vx_throwSW (names := ["java/lang/RuntimeException", "java/lang/Exception"]) (A := fun q => s.heap.size ≤ q) hx hb hst hown (by decide +kernel) (by decide +kernel) (zc_X6_86 hY.1.1) (zn_IllegalArgumentException hY.1.1) hsa (xa_IAE hY) (by decide +kernel) hZ.1 hZ.2 va_S.rf (hl.1.trans hml.symm) d0 d3 d4 d7 d10 (fun x h => (hnt x h).elim) (by show 2 + 3 < d + 6; omega) (by show 0 + (13 * (2 + 1) + 43) ≤ 44 * d + 90; omega) (Nat.le_refl 1) (Nat.le_refl 6) hlocks (fun t _ h1 h2 => ⟨rfl, h1, h2⟩) (fun z h => by cases h) (Nat.le_refl 1) (Nat.le_refl 6)
theorem xw_IOOBE {nL : Nat} {lv : List (Nat × Value)} {is : Nat} {text : String} (hst : l.stackTraces = false) (hx : p.tables.exec = Jvm.exec) (hb : c.code = cc) (hml : c.maxLocals = nL) (hown : s.vm.findClass RX6 = some m.cls) (hY : CY E s) (hZ : XZ (fun q => s.heap.size ≤ q) s s.heap) (hnt : ∀ x ∈ c.exceptionTable.toList, False) (hlocks : meth.locks = false) (hl : lv_has ls nL lv) (hs : (is, text) ∈ sgl) (d0 : decode cc pc = .ok (.new 320, 3)) (d3 : decode cc (pc + 3) = .ok (.dup, 1)) (d4 : decode cc (pc + 4) = .ok (.ldc_w is, 3)) (d7 : decode cc (pc + 7) = .ok (.invokespecial 324, 3)) (d10 : decode cc (pc + 10) = .ok (.athrow, 1)) {d : Nat} : W p l e (tD d) s m args below meth c s.heap [] 0 0 (TQ below "java/lang/IndexOutOfBoundsException" args s) (F0 m pc ls []) := by
  obtain ⟨sa, hsa⟩ := hY.2.2 _ hs
  exact vx_throwSW (names := ["java/lang/RuntimeException", "java/lang/Exception"]) (A := fun q => s.heap.size ≤ q) hx hb hst hown (by decide +kernel) (by decide +kernel) (zc_X6_320 hY.1.1) (zn_IndexOutOfBoundsException hY.1.1) hsa (xa_IOOBE hY) (by decide +kernel) hZ.1 hZ.2 va_S.rf (hl.1.trans hml.symm) d0 d3 d4 d7 d10 (fun x h => (hnt x h).elim) (by show 2 + 3 < d + 6; omega) (by show 0 + (13 * (2 + 1) + 43) ≤ 44 * d + 90; omega) (Nat.le_refl 1) (Nat.le_refl 6) hlocks (fun t _ h1 h2 => ⟨rfl, h1, h2⟩) (fun z h => by cases h) (Nat.le_refl 1) (Nat.le_refl 6)
end TMw
theorem i_ltle {a b : Int32} (h : a < b) (h2 : b ≤ a) : False := by
  rw [Int32.lt_iff_toInt_lt] at h
  rw [Int32.le_iff_toInt_le] at h2
  omega
theorem i_nle {a b : Int32} (h : ¬ a ≤ b) : b < a := by
  rw [Int32.le_iff_toInt_le] at h
  rw [Int32.lt_iff_toInt_lt]
  omega
theorem i_nlt {a b : Int32} (h : ¬ a < b) : b ≤ a := by
  rw [Int32.lt_iff_toInt_lt] at h
  rw [Int32.le_iff_toInt_le]
  omega

