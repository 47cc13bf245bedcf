/-! methods that throw: what they need, what is behind them -/
def TF (U : State) : Prop := ∀ (a : Array Value) (w : Cond), w ∈ lw_tbl → (w.onTables && w.keepsFace) = true → w.before a U = true
theorem TF.moved {s U : State} (hW : s.WarmedH U.vm) (h : TF s) : TF U := by
  intro a w hm hg
  have hg2 := hg
  simp only [Bool.and_eq_true] at hg2
  have h1 : w.before #[] (s.setVm U.vm) = true := Cond.before_shiftedFace (State.Shifted.of_warmed hW) w hg2.2 (h #[] w hm hg)
  rw [Cond.onTables_vm (A' := a) (U' := U) U.vm w hg2.1, State.setVm_self] at h1
  exact h1
/-- the class's texts, by their places -/
def sgl : List (Nat × String) := [(335, "a value is out of its range"), (322, "no such person"), (329, "no such kind"), (331, "no such land"), (325, "no such charge"), (327, "no such receipt"), (57, "there are 8 people"), (88, "nobody stands in for oneself"), (108, "there are 8 trips"), (333, "no such period"), (151, "there are 30 charges"), (153, "the amount is more than there is"), (175, "there are 30 receipts"), (337, "the charge is in another state"), (339, "the charge is not matched, or somebody else has to"), (251, "it is the last day")]
def SG (U : State) : Prop := ∀ x ∈ sgl, ∃ a, vk_R RX6 x.1 x.2 a U
theorem SG.moved {s U : State} (hW : s.WarmedH U.vm) (h : SG s) : SG U := fun x hx => by
  obtain ⟨a, ha⟩ := h x hx
  exact ⟨a, ha.warm hW⟩
def CY (E : EE) (U : State) : Prop := CX E U ∧ TF U ∧ SG U
theorem CY.moved {E : EE} {s U : State} (hW : s.WarmedH U.vm) (h : CY E s) : CY E U := ⟨h.1.moved hW, h.2.1.moved hW, h.2.2.moved hW⟩
theorem CY.calling {E : EE} {U : State} {g : JFrame} {mk : MethodId} {a : Array Value} (h : CY E U) : CY E (U.calling g mk a) := h.moved (State.WarmedH.refl U)
/-- the statics that a new exception reads: nobody's own -/
def XZ (A : Nat → Prop) (U : State) (H : Heap) : Prop := vx_Zq Bundle.tN "UNASSIGNED_STACK" Bundle.steD A U H ∧ vx_Zq Bundle.tN "SUPPRESSED_SENTINEL" Bundle.listD A U H
theorem XZ.moved {A : Nat → Prop} {u U : State} {H : Heap} (hvm : u.vm.Alike U.vm) (h : XZ A u H) : XZ A U H := ⟨h.1.moved hvm, h.2.moved hvm⟩
theorem XZ.kept {A : Nat → Prop} {U : State} {H H1 : Heap} (h : XZ A U H) (hq : ∀ a : Nat, a < H.size → ¬ A a → H1[a]? = H[a]?) : XZ A U H1 := ⟨h.1.kept hq, h.2.kept hq⟩
theorem XZ.narrow {A B : Nat → Prop} {U : State} {H : Heap} (h : XZ A U H) (hAB : ∀ q, B q → A q) : XZ B U H := ⟨h.1.narrow hAB, h.2.narrow hAB⟩
def TX (Ex : String) : String → State → State → Prop := fun Ex' st t => Ex' = Ex ∧ st.heap.size ≤ t.heap.size ∧ ∀ q : Nat, q < st.heap.size → t.heap[q]? = st.heap[q]?
/-- a method that throws, for sure; nothing that was there before is changed -/
def TM (l : Launch) (E : EE) (y : MethodName) (b : ByteArray) (n : Nat) (ret : Option FieldType) (rm : Room) (As : List Value) (Pre : Heap → Prop) (Ex : String) : Prop :=
  ∀ sz : Nat, vx_Met l y [Cond.code y b n ret] rm (va_Pc As (fun U => U.heap.size = sz ∧ CY E U ∧ XZ (fun q => sz ≤ q) U U.heap ∧ Pre U.heap)) (fun _ _ _ _ => False) (TX Ex) 1 6 (fun q => sz ≤ q)
/-- a thrower's room -/
abbrev tD (d : Nat) : Room := { frames := d + 6, cells := 1, slots := 6, locals := 44 * d + 90 }
theorem rtD_le {n a b : Nat} (hab : a ≤ b) (h : n ≤ 25) : (rD a).frames + 1 ≤ (tD b).frames ∧ 8 + (n + 11) + (rD a).locals ≤ (tD b).locals := ⟨by show a + 1 ≤ b + 6; omega, by show 8 + (n + 11) + 44 * a ≤ 44 * b + 90; omega⟩
theorem ttD_le {n a b : Nat} (hab : a < b) (h : n ≤ 25) : (tD a).frames + 1 ≤ (tD b).frames ∧ 8 + (n + 11) + (tD a).locals ≤ (tD b).locals := ⟨by show a + 6 + 1 ≤ b + 6; omega, by show 8 + (n + 11) + (44 * a + 90) ≤ 44 * b + 90; omega⟩
section TMs
variable {p : Program} {l : Launch} {e : Env} {R : Room} {s : State} {m : MethodId} {args : Array Value} {below : List Frame} {meth : Method} {c : Code} {H : Heap} {locs : List Loc} {cells slots : Nat} {Q : State → Prop}
variable {cc : ByteArray} {pc : Nat} {ls : Array Slot} {rest : List Value} {E : EE} {own : String}
abbrev TQ (below : List Frame) (Ex : String) (args : Array Value) (s : State) : State → Prop := vx_MQ below (fun _ _ _ _ => False) (TX Ex) args s 1 6 (fun q => s.heap.size ≤ q)
theorem tm_of {y : MethodName} {b : ByteArray} {n : Nat} {ret : Option FieldType} {rm : Room} {As : List Value} {Pre : Heap → Prop} {Ex : String} (hy : plainName y.cls = true) (hlen : (lg_sl As).length ≤ n)
    (body : ∀ (p : Program) (e : Env) (s : State) (m : MethodId) (below : List Frame) (meth : Method) (c : Code) (ls : Array Slot), p.tables.exec = Jvm.exec → c.code = b → meth.sig.returnType = ret → c.maxLocals = n → s.vm.findClass y.cls = some m.cls → CY E s → XZ (fun q => s.heap.size ≤ q) s s.heap → (∀ x ∈ c.exceptionTable.toList, False) → meth.locks = false → Pre s.heap → lv_has ls n (lv_args 0 As) → W p l e rm s m As.toArray below meth c s.heap [] 0 0 (TQ below Ex As.toArray s) (F0 m 0 ls [])) : TM l E y b n ret rm As Pre Ex := by
  intro sz
  refine vx_ofW (cc := b) (maxL := n) (ret := ret) hy rfl ?_
  intro p e s m args below meth c s₁ B hml hnt hv
  obtain ⟨rfl, hsz, hY, hZ, hP⟩ := hv
  subst hsz
  rw [lg_entry_eq]
  exact body p e s m below meth c _ B.exec B.bytes B.returns hml (findClass_of_methodNamed B.named) hY hZ hnt B.notSynchronized hP (lv_entry As hlen)
theorem tc_go {Ex : String} {a : Array Value} {st0 : List Value} (hr : vx_Run p l e R s m args below meth c s.heap [] 0 0 1 6 (F0 m pc ls st0) rest (fun _ _ _ => False) (TX Ex) (fun q => s.heap.size ≤ q)) (hnt : ∀ x ∈ c.exceptionTable.toList, False) (hlocks : meth.locks = false) : W p l e R s m args below meth c s.heap [] 0 0 (TQ below Ex args s) (F0 m pc ls st0) := by
  intro T hT X
  rcases hr T hT X with ⟨v, st₀, t, T', L, h0, X', hL, e1, e2, hf, st⟩ | ⟨q, st₀, t, T', L, E', ce, h0, X', hL, e1, e2, hx, hce, hcv, hcl, st⟩
  · exact hf.elim
  · have k := vx_out (p := p) (l := l) (e := e) (R := R) (s := s) (m := m) (args := args) (below := below) (meth := meth) (c := c) (H := T'.heap) (locs := [] ++ L) (cells := 0 + 1) (slots := 0 + 6) (Qc := fun _ _ _ _ => False) (XC := TX Ex) (free := fun q => s.heap.size ≤ q) (pc := pc) (ls := ls) (rest := rest) (E := E') (ce := ce) (q := q) (mc := 1) (ms := 6) (fun x h => (hnt x h).elim) hlocks (by rw [e1]; exact hce) hcv hcl (fun t' ht' _ => ⟨hx.1, by rw [ht', e1, ← h0]; exact hx.2.1, fun z hz => by rw [ht', e1]; rw [← h0] at hz ⊢; exact hx.2.2 z hz⟩) (fun z hz => by rw [List.nil_append] at hz; exact hL z hz) (Nat.le_refl _) (Nat.le_refl _)
    obtain ⟨t2, a1, b1⟩ := k T' rfl X'
    exact ⟨t2, st.trans a1, b1⟩
theorem tc_V {C : String} {y : MethodName} {b : ByteArray} {n nL k index : Nat} {ret : Option FieldType} {rm : Room} {a : Nat} {As st : List Value} {lv : List (Nat × Value)} {Pre : Heap → Prop} {Ex : String} (hx : p.tables.exec = Jvm.exec) (hb : c.code = cc) (hml : c.maxLocals = nL) (hown : s.vm.findClass own = some m.cls) (hY : CY E s) (hZ : XZ (fun q => s.heap.size ≤ q) s s.heap) (hnt : ∀ x ∈ c.exceptionTable.toList, False) (hlocks : meth.locks = false) (hl : lv_has ls nL lv) (hM : TM l E y b n ret rm (.ref a :: As) Pre Ex) (hrec : ∃ cell : Cell, s.heap[a]? = some cell ∧ cell.vm.isStatics = false ∧ s.vm.findClass C = some cell.cls) (zm : (Cond.methodLink own index y).before args s = true) (kv : KV C y b n ret k) (hPre : Pre s.heap) (hn : As.length = k) (hst : st = As.reverse ++ .ref a :: rest) (hR : rm.frames + 1 ≤ R.frames ∧ 8 + (n + 11) + rm.locals ≤ R.locals) (hrm : rm.cells = 1 ∧ rm.slots = 6) (hW : (rest.map fun v => v.category).sum ≤ 8) (hcs : 0 + 1 ≤ R.cells ∧ 0 + 6 ≤ R.slots) (hdg : decode cc pc = .ok (.invokevirtual index, 3)) : W p l e R s m args below meth c s.heap [] 0 0 (TQ below Ex args s) (F0 m pc ls st) := by
  subst hst
  have k1 := kv.1 s args hY.1.1
  refine tc_go (a := args) (vx_runV (g := F0 m pc ls (As.reverse ++ .ref a :: rest)) (C := C) (As := As) (b := a) (rest := rest) (Ts := []) (n := k) ⟨hx, hb, hml, hown, fun w h => by cases h⟩ (hM s.heap.size) ⟨kb_of hY.1.1 (fun U a h => (kv.1 U a h).1) k1.2.1 kv.2.1 kv.2.2 zm hrm.1 hrm.2 hR, k1.2.2.1, k1.2.2.2⟩ ⟨fun a U g mk q => ⟨q.1, q.2.1, q.2.2.1.calling, XZ.moved (u := U) (U := U.calling g mk a) (Vm.Alike.refl U.vm) q.2.2.2.1, q.2.2.2.2⟩, hrec, fun U hU hW => ⟨rfl, by rw [hU], hY.moved hW, by rw [hU]; exact hZ.moved hW.alike, by rw [hU]; exact hPre⟩⟩ rfl hn hl.1 rfl (lv_room hW) hdg hcs) hnt hlocks
theorem tc_S {y : MethodName} {b : ByteArray} {n nL k index : Nat} {ret : Option FieldType} {rm : Room} {As st : List Value} {lv : List (Nat × Value)} {Pre : Heap → Prop} {Ex : String} (hx : p.tables.exec = Jvm.exec) (hb : c.code = cc) (hml : c.maxLocals = nL) (hown : s.vm.findClass own = some m.cls) (hY : CY E s) (hZ : XZ (fun q => s.heap.size ≤ q) s s.heap) (hnt : ∀ x ∈ c.exceptionTable.toList, False) (hlocks : meth.locks = false) (hl : lv_has ls nL lv) (hM : TM l E y b n ret rm As Pre Ex) (zm : (Cond.methodLink own index y).before args s = true) (kv : KS y b n ret k) (hPre : Pre s.heap) (hn : As.length = k) (hst : st = As.reverse ++ rest) (hR : rm.frames + 1 ≤ R.frames ∧ 8 + (n + 11) + rm.locals ≤ R.locals) (hrm : rm.cells = 1 ∧ rm.slots = 6) (hW : (rest.map fun v => v.category).sum ≤ 8) (hcs : 0 + 1 ≤ R.cells ∧ 0 + 6 ≤ R.slots) (hdg : decode cc pc = .ok (.invokestatic index, 3)) : W p l e R s m args below meth c s.heap [] 0 0 (TQ below Ex args s) (F0 m pc ls st) := by
  subst hst
  have k1 := kv.1 s args hY.1.1
  refine tc_go (a := args) (vx_runS (g := F0 m pc ls (As.reverse ++ rest)) (As := As) (rest := rest) (Ts := []) (n := k) ⟨hx, hb, hml, hown, fun w h => by cases h⟩ (hM s.heap.size) ⟨kb_of hY.1.1 (fun U a h => (kv.1 U a h).1) k1.2.1 kv.2.1 kv.2.2 zm hrm.1 hrm.2 hR, k1.2.2⟩ ⟨fun a U g mk q => ⟨q.1, q.2.1, q.2.2.1.calling, XZ.moved (u := U) (U := U.calling g mk a) (Vm.Alike.refl U.vm) q.2.2.2.1, q.2.2.2.2⟩, fun U hU hW => ⟨rfl, by rw [hU], hY.moved hW, by rw [hU]; exact hZ.moved hW.alike, by rw [hU]; exact hPre⟩⟩ rfl hn hl.1 rfl (lv_room hW) hdg hcs) hnt hlocks
theorem xa_ISE {E : EE} {U : State} {a : Array Value} (hY : CY E U) : ∀ w ∈ vx_atS RX6 59 "java/lang/IllegalStateException" ["java/lang/RuntimeException", "java/lang/Exception"], w.before a U = true := by
  have h : (vx_atS RX6 59 "java/lang/IllegalStateException" ["java/lang/RuntimeException", "java/lang/Exception"]).all (fun w => decide (w ∈ lw_tbl) && (goodWord w || (w.onTables && w.keepsFace))) = true := by decide +kernel
  intro w hw
  have h1 := List.all_eq_true.mp h w hw
  rw [Bool.and_eq_true, Bool.or_eq_true, decide_eq_true_eq] at h1
  rcases h1.2 with h2 | h2
  · exact hY.1.1 a w h1.1 h2
  · exact hY.2.1 a w h1.1 h2
theorem xt_ISE {nL : Nat} {lv : List (Nat × Value)} {is : Nat} {text : String} (hst : l.stackTraces = false) (hx : p.tables.exec = Jvm.exec) (hb : c.code = cc) (hml : c.maxLocals = nL) (hown : s.vm.findClass RX6 = some m.cls) (hY : CY E s) (hZ : XZ (fun q => s.heap.size ≤ q) s s.heap) (hnt : ∀ x ∈ c.exceptionTable.toList, False) (hlocks : meth.locks = false) (hl : lv_has ls nL lv) (hs : (is, text) ∈ sgl) (d0 : decode cc pc = .ok (.new 55, 3)) (d3 : decode cc (pc + 3) = .ok (.dup, 1)) (d4 : decode cc (pc + 4) = .ok (.ldc is, 2)) (d6 : decode cc (pc + 6) = .ok (.invokespecial 59, 3)) (d9 : decode cc (pc + 9) = .ok (.athrow, 1)) {d : Nat} : W p l e (tD d) s m args below meth c s.heap [] 0 0 (TQ below "java/lang/IllegalStateException" args s) (F0 m pc ls []) := by
  obtain ⟨sa, hsa⟩ := hY.2.2 _ hs
  exact vx_throwS (names := ["java/lang/RuntimeException", "java/lang/Exception"]) (A := fun q => s.heap.size ≤ q) hx hb hst hown (by decide +kernel) (by decide +kernel) (zc_X6_55 hY.1.1) (zn_IllegalStateException hY.1.1) hsa (xa_ISE hY) (by decide +kernel) hZ.1 hZ.2 va_S.rf (hl.1.trans hml.symm) d0 d3 d4 d6 d9 (fun x h => (hnt x h).elim) (by show 2 + 3 < d + 6; omega) (by show 0 + (13 * (2 + 1) + 43) ≤ 44 * d + 90; omega) (Nat.le_refl 1) (Nat.le_refl 6) hlocks (fun t _ h1 h2 => ⟨rfl, h1, h2⟩) (fun z h => by cases h) (Nat.le_refl 1) (Nat.le_refl 6)
theorem xa_IAE {E : EE} {U : State} {a : Array Value} (hY : CY E U) : ∀ w ∈ vx_atS RX6 90 "java/lang/IllegalArgumentException" ["java/lang/RuntimeException", "java/lang/Exception"], w.before a U = true := by
  have h : (vx_atS RX6 90 "java/lang/IllegalArgumentException" ["java/lang/RuntimeException", "java/lang/Exception"]).all (fun w => decide (w ∈ lw_tbl) && (goodWord w || (w.onTables && w.keepsFace))) = true := by decide +kernel
  intro w hw
  have h1 := List.all_eq_true.mp h w hw
  rw [Bool.and_eq_true, Bool.or_eq_true, decide_eq_true_eq] at h1
  rcases h1.2 with h2 | h2
  · exact hY.1.1 a w h1.1 h2
  · exact hY.2.1 a w h1.1 h2
theorem xt_IAE {nL : Nat} {lv : List (Nat × Value)} {is : Nat} {text : String} (hst : l.stackTraces = false) (hx : p.tables.exec = Jvm.exec) (hb : c.code = cc) (hml : c.maxLocals = nL) (hown : s.vm.findClass RX6 = some m.cls) (hY : CY E s) (hZ : XZ (fun q => s.heap.size ≤ q) s s.heap) (hnt : ∀ x ∈ c.exceptionTable.toList, False) (hlocks : meth.locks = false) (hl : lv_has ls nL lv) (hs : (is, text) ∈ sgl) (d0 : decode cc pc = .ok (.new 86, 3)) (d3 : decode cc (pc + 3) = .ok (.dup, 1)) (d4 : decode cc (pc + 4) = .ok (.ldc is, 2)) (d6 : decode cc (pc + 6) = .ok (.invokespecial 90, 3)) (d9 : decode cc (pc + 9) = .ok (.athrow, 1)) {d : Nat} : W p l e (tD d) s m args below meth c s.heap [] 0 0 (TQ below "java/lang/IllegalArgumentException" args s) (F0 m pc ls []) := by
  obtain ⟨sa, hsa⟩ := hY.2.2 _ hs
  exact vx_throwS (names := ["java/lang/RuntimeException", "java/lang/Exception"]) (A := fun q => s.heap.size ≤ q) hx hb hst hown (by decide +kernel) (by decide +kernel) (zc_X6_86 hY.1.1) (zn_IllegalArgumentException hY.1.1) hsa (xa_IAE hY) (by decide +kernel) hZ.1 hZ.2 va_S.rf (hl.1.trans hml.symm) d0 d3 d4 d6 d9 (fun x h => (hnt x h).elim) (by show 2 + 3 < d + 6; omega) (by show 0 + (13 * (2 + 1) + 43) ≤ 44 * d + 90; omega) (Nat.le_refl 1) (Nat.le_refl 6) hlocks (fun t _ h1 h2 => ⟨rfl, h1, h2⟩) (fun z h => by cases h) (Nat.le_refl 1) (Nat.le_refl 6)
theorem xa_IOOBE {E : EE} {U : State} {a : Array Value} (hY : CY E U) : ∀ w ∈ vx_atS RX6 324 "java/lang/IndexOutOfBoundsException" ["java/lang/RuntimeException", "java/lang/Exception"], w.before a U = true := by
  have h : (vx_atS RX6 324 "java/lang/IndexOutOfBoundsException" ["java/lang/RuntimeException", "java/lang/Exception"]).all (fun w => decide (w ∈ lw_tbl) && (goodWord w || (w.onTables && w.keepsFace))) = true := by decide +kernel
  intro w hw
  have h1 := List.all_eq_true.mp h w hw
  rw [Bool.and_eq_true, Bool.or_eq_true, decide_eq_true_eq] at h1
  rcases h1.2 with h2 | h2
  · exact hY.1.1 a w h1.1 h2
  · exact hY.2.1 a w h1.1 h2
theorem xt_IOOBE {nL : Nat} {lv : List (Nat × Value)} {is : Nat} {text : String} (hst : l.stackTraces = false) (hx : p.tables.exec = Jvm.exec) (hb : c.code = cc) (hml : c.maxLocals = nL) (hown : s.vm.findClass RX6 = some m.cls) (hY : CY E s) (hZ : XZ (fun q => s.heap.size ≤ q) s s.heap) (hnt : ∀ x ∈ c.exceptionTable.toList, False) (hlocks : meth.locks = false) (hl : lv_has ls nL lv) (hs : (is, text) ∈ sgl) (d0 : decode cc pc = .ok (.new 320, 3)) (d3 : decode cc (pc + 3) = .ok (.dup, 1)) (d4 : decode cc (pc + 4) = .ok (.ldc is, 2)) (d6 : decode cc (pc + 6) = .ok (.invokespecial 324, 3)) (d9 : decode cc (pc + 9) = .ok (.athrow, 1)) {d : Nat} : W p l e (tD d) s m args below meth c s.heap [] 0 0 (TQ below "java/lang/IndexOutOfBoundsException" args s) (F0 m pc ls []) := by
  obtain ⟨sa, hsa⟩ := hY.2.2 _ hs
  exact vx_throwS (names := ["java/lang/RuntimeException", "java/lang/Exception"]) (A := fun q => s.heap.size ≤ q) hx hb hst hown (by decide +kernel) (by decide +kernel) (zc_X6_320 hY.1.1) (zn_IndexOutOfBoundsException hY.1.1) hsa (xa_IOOBE hY) (by decide +kernel) hZ.1 hZ.2 va_S.rf (hl.1.trans hml.symm) d0 d3 d4 d6 d9 (fun x h => (hnt x h).elim) (by show 2 + 3 < d + 6; omega) (by show 0 + (13 * (2 + 1) + 43) ≤ 44 * d + 90; omega) (Nat.le_refl 1) (Nat.le_refl 6) hlocks (fun t _ h1 h2 => ⟨rfl, h1, h2⟩) (fun z h => by cases h) (Nat.le_refl 1) (Nat.le_refl 6)
end TMs
