/-! stores by name; behind a writer, by its answer -/
def u_tr (S : St) (i : Nat) (v : Int32) : St := S.s_tr (va_up S.tr i v)
def u_po (S : St) (i : Nat) (v : Int32) : St := S.s_po (va_up S.po i v)
def u_aw (S : St) (i : Nat) (v : Int32) : St := S.s_aw (va_up S.aw i v)
def u_si (S : St) (i : Nat) (v : Option Nat) : St := S.s_si (va_up S.si i v)
def u_ct (S : St) (i : Nat) (v : Option Nat) : St := S.s_ct (va_up S.ct i v)
def u_cs (S : St) (i : Nat) (v : Int32) : St := S.s_cs (va_up S.cs i v)
def u_cr (S : St) (i : Nat) (v : Option Nat) : St := S.s_cr (va_up S.cr i v)
def u_ce (S : St) (i : Nat) (v : Nat) : St := S.s_ce (va_up S.ce i v)
def u_cm (S : St) (i : Nat) (v : Int32) : St := S.s_cm (va_up S.cm i v)
def u_sp (S : St) (i : Nat) (v : Int32) : St := S.s_sp (va_up S.sp i v)
def u_ro (S : St) (i : Nat) (v : Option Nat) : St := S.s_ro (va_up S.ro i v)
theorem va_rf_nar {n : String} (o : Option Nat) : narrow (.object n) (va_rf o) = va_rf o := by cases o <;> rfl
theorem va_rf_fit {n : String} (o : Option Nat) : fits (.object n) (va_rf o) = true := by cases o <;> rfl
section W2
variable {p : Program} {l : Launch} {e : Env} {R : Room} {s : State} {m : MethodId} {args : Array Value} {below : List Frame} {meth : Method} {c : Code} {H : Heap} {locs : List Loc} {cells slots : Nat} {Q : State → Prop}
variable {cc : ByteArray} {pc : Nat} {ls : Array Slot} {rest : List Value} {E : EE} {own : String}
theorem wcv_V {C : String} {y : MethodName} {b : ByteArray} {n nL k index : Nat} {ret : Option FieldType} {rm : Room} {a : Nat} {As st : List Value} {lv : List (Nat × Value)} {Pre Po : Heap → Prop} {A ow : Nat → Prop} {H0 : Heap} (hx : p.tables.exec = Jvm.exec) (hb : c.code = cc) (hml : c.maxLocals = nL) (hown : s.vm.findClass own = some m.cls) (hC : CX E s) (hl : lv_has ls nL lv) (hM : WM l E y b n ret rm (.ref a :: As) Pre ow (fun _ v H => Po H ∧ v = none)) (hrec : ∃ cell : Cell, H[a]? = some cell ∧ cell.vm.isStatics = false ∧ s.vm.findClass C = some cell.cls) (zm : (Cond.methodLink own index y).before args s = true) (kv : KV C y b n ret k) (hPre : Pre H) (hS : va_S A H0 H locs) (hA : ∀ q, ow q ∨ H.size ≤ q → A q) (hn : As.length = k) (hst : st = As.reverse ++ .ref a :: rest) (hR : rm.frames + 1 ≤ R.frames ∧ 8 + (n + 11) + rm.locals ≤ R.locals) (hW : (rest.map fun v => v.category).sum ≤ 8) (hcs : cells + rm.cells ≤ R.cells ∧ slots + rm.slots ≤ R.slots) (hdg : decode cc pc = .ok (.invokevirtual index, 3))
    (kk : ∀ (H1 : Heap) (locs1 : List Loc), Po H1 → H.size ≤ H1.size → (∀ q : Nat, q < H.size → ¬ ow q → H1[q]? = H[q]?) → va_S A H0 H1 locs1 → W p l e R s m args below meth c H1 locs1 (cells + rm.cells) (slots + rm.slots) Q (F0 m (pc + 3) ls rest)) : W p l e R s m args below meth c H locs cells slots Q (F0 m pc ls st) :=
  wc_V hx hb hml hown hC hl hM hrec zm kv hPre hS hA hn hst hR hW hcs hdg (fun v H1 locs1 hP hz hq hS => by
    obtain ⟨h, rfl⟩ := hP
    exact kk H1 locs1 h hz hq hS)
theorem wcv_S {y : MethodName} {b : ByteArray} {n nL k index : Nat} {ret : Option FieldType} {rm : Room} {As st : List Value} {lv : List (Nat × Value)} {Pre Po : Heap → Prop} {A ow : Nat → Prop} {H0 : Heap} (hx : p.tables.exec = Jvm.exec) (hb : c.code = cc) (hml : c.maxLocals = nL) (hown : s.vm.findClass own = some m.cls) (hC : CX E s) (hl : lv_has ls nL lv) (hM : WM l E y b n ret rm As Pre ow (fun _ v H => Po H ∧ v = none)) (zm : (Cond.methodLink own index y).before args s = true) (kv : KS y b n ret k) (hPre : Pre H) (hS : va_S A H0 H locs) (hA : ∀ q, ow q ∨ H.size ≤ q → A q) (hn : As.length = k) (hst : st = As.reverse ++ rest) (hR : rm.frames + 1 ≤ R.frames ∧ 8 + (n + 11) + rm.locals ≤ R.locals) (hW : (rest.map fun v => v.category).sum ≤ 8) (hcs : cells + rm.cells ≤ R.cells ∧ slots + rm.slots ≤ R.slots) (hdg : decode cc pc = .ok (.invokestatic index, 3))
    (kk : ∀ (H1 : Heap) (locs1 : List Loc), Po H1 → H.size ≤ H1.size → (∀ q : Nat, q < H.size → ¬ ow q → H1[q]? = H[q]?) → va_S A H0 H1 locs1 → W p l e R s m args below meth c H1 locs1 (cells + rm.cells) (slots + rm.slots) Q (F0 m (pc + 3) ls rest)) : W p l e R s m args below meth c H locs cells slots Q (F0 m pc ls st) :=
  wc_S hx hb hml hown hC hl hM zm kv hPre hS hA hn hst hR hW hcs hdg (fun v H1 locs1 hP hz hq hS => by
    obtain ⟨h, rfl⟩ := hP
    exact kk H1 locs1 h hz hq hS)
theorem wcv_I {y : MethodName} {b : ByteArray} {n nL k index : Nat} {rm : Room} {a : Nat} {As st : List Value} {lv : List (Nat × Value)} {Pre Po : Heap → Prop} {A ow : Nat → Prop} {H0 : Heap} (hx : p.tables.exec = Jvm.exec) (hb : c.code = cc) (hml : c.maxLocals = nL) (hown : s.vm.findClass own = some m.cls) (hC : CX E s) (hl : lv_has ls nL lv) (hM : WM l E y b n none rm (.ref a :: As) Pre ow (fun _ v H => Po H ∧ v = none)) (zm : (Cond.methodLink own index y).before args s = true) (kv : KI y b n k) (hPre : Pre H) (hS : va_S A H0 H locs) (hA : ∀ q, ow q ∨ H.size ≤ q → A q) (hn : As.length = k) (hst : st = As.reverse ++ .ref a :: rest) (hR : rm.frames + 1 ≤ R.frames ∧ 8 + (n + 11) + rm.locals ≤ R.locals) (hW : (rest.map fun v => v.category).sum ≤ 8) (hcs : cells + rm.cells ≤ R.cells ∧ slots + rm.slots ≤ R.slots) (hdg : decode cc pc = .ok (.invokespecial index, 3))
    (kk : ∀ (H1 : Heap) (locs1 : List Loc), Po H1 → H.size ≤ H1.size → (∀ q : Nat, q < H.size → ¬ ow q → H1[q]? = H[q]?) → va_S A H0 H1 locs1 → W p l e R s m args below meth c H1 locs1 (cells + rm.cells) (slots + rm.slots) Q (F0 m (pc + 3) ls rest)) : W p l e R s m args below meth c H locs cells slots Q (F0 m pc ls st) :=
  wc_I hx hb hml hown hC hl hM zm kv hPre hS hA hn hst hR hW hcs hdg (fun v H1 locs1 hP hz hq hS => by
    obtain ⟨h, rfl⟩ := hP
    exact kk H1 locs1 h hz hq hS)
theorem wcw_V {C : String} {w : Value} {y : MethodName} {b : ByteArray} {n nL k index : Nat} {ret : Option FieldType} {rm : Room} {a : Nat} {As st : List Value} {lv : List (Nat × Value)} {Pre Po : Heap → Prop} {A ow : Nat → Prop} {H0 : Heap} (hx : p.tables.exec = Jvm.exec) (hb : c.code = cc) (hml : c.maxLocals = nL) (hown : s.vm.findClass own = some m.cls) (hC : CX E s) (hl : lv_has ls nL lv) (hM : WM l E y b n ret rm (.ref a :: As) Pre ow (fun _ v H => Po H ∧ v = some w)) (hrec : ∃ cell : Cell, H[a]? = some cell ∧ cell.vm.isStatics = false ∧ s.vm.findClass C = some cell.cls) (zm : (Cond.methodLink own index y).before args s = true) (kv : KV C y b n ret k) (hPre : Pre H) (hS : va_S A H0 H locs) (hA : ∀ q, ow q ∨ H.size ≤ q → A q) (hn : As.length = k) (hst : st = As.reverse ++ .ref a :: rest) (hR : rm.frames + 1 ≤ R.frames ∧ 8 + (n + 11) + rm.locals ≤ R.locals) (hW : (rest.map fun v => v.category).sum ≤ 8) (hcs : cells + rm.cells ≤ R.cells ∧ slots + rm.slots ≤ R.slots) (hdg : decode cc pc = .ok (.invokevirtual index, 3))
    (kk : ∀ (H1 : Heap) (locs1 : List Loc), Po H1 → H.size ≤ H1.size → (∀ q : Nat, q < H.size → ¬ ow q → H1[q]? = H[q]?) → va_S A H0 H1 locs1 → W p l e R s m args below meth c H1 locs1 (cells + rm.cells) (slots + rm.slots) Q (F0 m (pc + 3) ls (w :: rest))) : W p l e R s m args below meth c H locs cells slots Q (F0 m pc ls st) :=
  wc_V hx hb hml hown hC hl hM hrec zm kv hPre hS hA hn hst hR hW hcs hdg (fun v H1 locs1 hP hz hq hS => by
    obtain ⟨h, rfl⟩ := hP
    exact kk H1 locs1 h hz hq hS)
theorem wcw_S {w : Value} {y : MethodName} {b : ByteArray} {n nL k index : Nat} {ret : Option FieldType} {rm : Room} {As st : List Value} {lv : List (Nat × Value)} {Pre Po : Heap → Prop} {A ow : Nat → Prop} {H0 : Heap} (hx : p.tables.exec = Jvm.exec) (hb : c.code = cc) (hml : c.maxLocals = nL) (hown : s.vm.findClass own = some m.cls) (hC : CX E s) (hl : lv_has ls nL lv) (hM : WM l E y b n ret rm As Pre ow (fun _ v H => Po H ∧ v = some w)) (zm : (Cond.methodLink own index y).before args s = true) (kv : KS y b n ret k) (hPre : Pre H) (hS : va_S A H0 H locs) (hA : ∀ q, ow q ∨ H.size ≤ q → A q) (hn : As.length = k) (hst : st = As.reverse ++ rest) (hR : rm.frames + 1 ≤ R.frames ∧ 8 + (n + 11) + rm.locals ≤ R.locals) (hW : (rest.map fun v => v.category).sum ≤ 8) (hcs : cells + rm.cells ≤ R.cells ∧ slots + rm.slots ≤ R.slots) (hdg : decode cc pc = .ok (.invokestatic index, 3))
    (kk : ∀ (H1 : Heap) (locs1 : List Loc), Po H1 → H.size ≤ H1.size → (∀ q : Nat, q < H.size → ¬ ow q → H1[q]? = H[q]?) → va_S A H0 H1 locs1 → W p l e R s m args below meth c H1 locs1 (cells + rm.cells) (slots + rm.slots) Q (F0 m (pc + 3) ls (w :: rest))) : W p l e R s m args below meth c H locs cells slots Q (F0 m pc ls st) :=
  wc_S hx hb hml hown hC hl hM zm kv hPre hS hA hn hst hR hW hcs hdg (fun v H1 locs1 hP hz hq hS => by
    obtain ⟨h, rfl⟩ := hP
    exact kk H1 locs1 h hz hq hS)
theorem g_iast (hx : p.tables.exec = Jvm.exec) (hb : c.code = cc) (hC : CX E s) {A : Nat → Prop} {H0 : Heap} {a n j : Nat} {f : Nat → Int32} {i x : Int32} (hat : va_at E.1 vwCl (a, .inl (eI E, n, .inl f)) H) (hS : va_S A H0 H locs) (hA : A a) (hi : i = nI j ∧ j < n ∧ n < 2 ^ 31) (hdg : decode cc pc = .ok (.iastore, 1))
    (kk : ∀ (H1 : Heap) (locs1 : List Loc), va_at E.1 vwCl (a, .inl (eI E, n, .inl (va_up f j x))) H1 → H1.size = H.size → (∀ q : Nat, q ≠ a → H1[q]? = H[q]?) → va_S A H0 H1 locs1 → W p l e R s m args below meth c H1 locs1 cells slots Q (F0 m (pc + 1) ls rest)) : W p l e R s m args below meth c H locs cells slots Q (F0 m pc ls (.int x :: .int i :: .ref a :: rest)) := by
  obtain ⟨rfl, h1, h2⟩ := hi
  have hcl : (nI j).toNatClampNeg = j := nI_clamp (Nat.lt_trans h1 h2)
  have hin := vp_in_nI h1 h2
  refine W.iast hx hb hat ((hC.2.1.2 0 _ rfl).1 n (fun j => .int (f j))) (fun q => by cases q) (by show ¬ (nI j < 0 ∨ (arrV _ _ _).slots.size ≤ _); rw [arrV_size]; exact hin) rfl rfl hdg fun H1 e z oq => ?_
  refine kk H1 _ ?_ z oq (hS.put z oq hA)
  show H1[a]? = some (vp_cell _ _)
  rw [e]
  rw [vp_cell_i, vp_cell_i, arrV_store]
  congr 2
  funext q
  by_cases hq : q = j
  · subst hq
    simp [updV, va_up, hcl]
  · simp [updV, va_up, hcl, hq]
end W2

