/-! the law's helpers: one call of the class each, what it throws is caught -/
abbrev HRm : Room := { frames := 16, cells := 2, slots := 60, locals := 520 }
def NX (U : State) : Prop := va_Nc "java/lang/IllegalArgumentException" "java/lang/IndexOutOfBoundsException" U ∧ va_Nc "java/lang/IllegalStateException" "java/lang/IndexOutOfBoundsException" U ∧ va_Nc "java/lang/IllegalStateException" "java/lang/IllegalArgumentException" U
theorem NX.moved {u U : State} (h : u.vm.Alike U.vm) (x : NX u) : NX U := ⟨x.1.moved h, x.2.1.moved h, x.2.2.moved h⟩
def CZ (E : EE) (U : State) : Prop := CY E U ∧ NX U
theorem CZ.moved {E : EE} {s U : State} (hW : s.WarmedH U.vm) (h : CZ E s) : CZ E U := ⟨h.1.moved hW, h.2.moved hW.alike⟩
theorem CZ.calling {E : EE} {U : State} {g : JFrame} {mk : MethodId} {a : Array Value} (h : CZ E U) : CZ E (U.calling g mk a) := h.moved (State.WarmedH.refl U)
/-- the law's row of one long -/
def outA (E : EE) (o9 : Nat) (f : Nat → Int64) (H : Heap) : Prop := va_at E.1 vwCl (o9, .inl (eJ E, 1, .inr (.inl f))) H
def HQ (E : EE) (g : Gh) (S' : St) (o9 : Nat) (code : Int32) (ans : Int64) : Nat → Option Value → Heap → Prop := fun sz v H => ∃ (g1 : Gh) (f1 : Nat → Int64), RA E S' g1 H ∧ gX g g1 sz H.size ∧ outA E o9 f1 H ∧ v = some (.int code) ∧ (code = 0 → f1 0 = ans)
def HM (l : Launch) (E : EE) (y : MethodName) (b : ByteArray) (n : Nat) (hh : List (Nat × Nat × Nat × Nat)) (As : List Value) (g : Gh) (S S' : St) (o9 : Nat) (code : Int32) (ans : Int64) : Prop :=
  ∀ (sz : Nat) (f : Nat → Int64), Met l y [Cond.codeWith y b n (some .int) hh] HRm (va_Pc As (fun U => U.heap.size = sz ∧ CZ E U ∧ XZ (fun q => sz ≤ q) U U.heap ∧ RA E S g U.heap ∧ outA E o9 f U.heap ∧ eN E ≤ o9 ∧ ¬ ow g o9)) (WQ (fun q => ow g q ∨ q = o9) sz (HQ E g S' o9 code ans sz)) 2 60 (fun q => (ow g q ∨ q = o9) ∨ sz ≤ q)
/-- a reader as a writer -/
theorem wm_rm {l : Launch} {E : EE} {y : MethodName} {b : ByteArray} {n : Nat} {ret : FieldType} {d : Nat} {As : List Value} {S : St} {g : Gh} {val : Value} (h : RM l E y b n ret (rD d) As (RA E S g) val) : WM l E y b n (some ret) (rD d) As (RA E S g) (ow g) (fun _ v H => RA E S g H ∧ v = some val) := by
  intro sz p e ha hc hk s m args below hf hap hP hK
  obtain ⟨rfl, hsz, hC, hR⟩ := hP
  obtain ⟨k, o, h1, h2, h3, ⟨hq, L, hF, hL⟩⟩ := h p e ha hc hk s m _ below hf hap ⟨rfl, hC, hR⟩ hK
  obtain ⟨ho, hh⟩ := hq
  exact ⟨k, o, h1, h2, h3, ⟨⟨⟨_, ho, by rw [hh]; exact hR, rfl⟩, by rw [hh]; exact Nat.le_refl _, fun q _ _ => by rw [hh]⟩, L, hF, fun q hq => (hL q hq).elim⟩⟩
/-- a writer's end, weaker -/
theorem wm_weak {l : Launch} {E : EE} {y : MethodName} {b : ByteArray} {n : Nat} {ret : Option FieldType} {rm : Room} {As : List Value} {Pre : Heap → Prop} {own : Nat → Prop} {P Q : Nat → Option Value → Heap → Prop} (h : WM l E y b n ret rm As Pre own P) (hPQ : ∀ sz v H, P sz v H → Q sz v H) : WM l E y b n ret rm As Pre own Q := by
  intro sz p e ha hc hk s m args below hf hap hP hK
  obtain ⟨k, o, h1, h2, h3, ⟨⟨⟨v, hv, hp⟩, hF0⟩, L, hF, hL⟩⟩ := h sz p e ha hc hk s m _ below hf hap hP hK
  exact ⟨k, o, h1, h2, h3, ⟨⟨⟨v, hv, hPQ _ _ _ hp⟩, hF0⟩, L, hF, hL⟩⟩
def CAp (E : EE) (S' : St) (g : Gh) (a : Int32) : Nat → Option Value → Heap → Prop := fun sz v H => (∃ g1, RA E S' g1 H ∧ gX g g1 sz H.size) ∧ v = some (.int a)
theorem wm_A {l : Launch} {E : EE} {y : MethodName} {b : ByteArray} {n : Nat} {ret : Option FieldType} {rm : Room} {As : List Value} {Pre : Heap → Prop} {own : Nat → Prop} {S' : St} {g : Gh} {a : Int32} (h : WM l E y b n ret rm As Pre own (fun _ v H => RA E S' g H ∧ v = some (.int a))) : WM l E y b n ret rm As Pre own (CAp E S' g a) :=
  wm_weak h (fun sz v H hp => ⟨⟨g, hp.1, gX.refl g _ _⟩, hp.2⟩)
section HMs
variable {p : Program} {l : Launch} {e : Env} {R : Room} {s : State} {m : MethodId} {args : Array Value} {below : List Frame} {meth : Method} {c : Code} {H : Heap} {locs : List Loc} {cells slots : Nat} {Q : State → Prop}
variable {cc : ByteArray} {pc : Nat} {ls : Array Slot} {rest : List Value} {E : EE} {own : String}
theorem hm_of {y : MethodName} {b : ByteArray} {n : Nat} {hh : List (Nat × Nat × Nat × Nat)} {As : List Value} {g : Gh} {S S' : St} {o9 : Nat} {code : Int32} {ans : Int64} (hy : plainName y.cls = true) (hlen : (lg_sl As).length ≤ n)
    (body : ∀ (p : Program) (e : Env) (s : State) (m : MethodId) (below : List Frame) (meth : Method) (c : Code) (ls : Array Slot) (f : Nat → Int64), p.tables.exec = Jvm.exec → c.code = b → meth.sig.returnType = some .int → c.maxLocals = n → s.vm.findClass y.cls = some m.cls → CZ E s → XZ (fun q => s.heap.size ≤ q) s s.heap → c.exceptionTable.toList = tableOf hh → meth.locks = false → RA E S g s.heap → outA E o9 f s.heap → (eN E ≤ o9 ∧ ¬ ow g o9) → lv_has ls n (lv_args 0 As) → W p l e HRm s m As.toArray below meth c s.heap [] 0 0 (MQ below (WQ (fun q => ow g q ∨ q = o9) s.heap.size (HQ E g S' o9 code ans s.heap.size)) As.toArray s 2 60 (fun q => (ow g q ∨ q = o9) ∨ s.heap.size ≤ q)) (F0 m 0 ls [])) : HM l E y b n hh As g S S' o9 code ans := by
  intro sz f
  refine va_MetW (cc := b) (maxL := n) (ret := some .int) (hh := hh) hy rfl ?_
  intro p e s m args below meth c s₁ B hml hv
  obtain ⟨rfl, hsz, hZ, hX, hR, hO, hN⟩ := hv
  subst hsz
  rw [lg_entry_eq]
  exact body p e s m below meth c _ f B.exec B.bytes B.returns hml (findClass_of_methodNamed B.named) hZ hX (vx_table (x := y) B (atoms_spec (ws := [Cond.codeWith y b n (some .int) hh]) B.pre _ List.mem_cons_self)) B.notSynchronized hR hO hN (lv_entry As hlen)
theorem hc_V {C : String} {y : MethodName} {b : ByteArray} {n nL k index : Nat} {ret : Option FieldType} {rm : Room} {a : Nat} {As st : List Value} {lv : List (Nat × Value)} {Pre : Heap → Prop} {Ex : String} (hx : p.tables.exec = Jvm.exec) (hb : c.code = cc) (hml : c.maxLocals = nL) (hown : s.vm.findClass own = some m.cls) (hY : CY E s) (hZ : XZ (fun q => s.heap.size ≤ q) s s.heap) (hl : lv_has ls nL lv) (hM : TM l E y b n ret rm (.ref a :: As) Pre Ex) (hrec : ∃ cell : Cell, s.heap[a]? = some cell ∧ cell.vm.isStatics = false ∧ s.vm.findClass C = some cell.cls) (zm : (Cond.methodLink own index y).before args s = true) (kv : KV C y b n ret k) (hPre : Pre s.heap) (hn : As.length = k) (hst : st = As.reverse ++ .ref a :: rest) (hR : rm.frames + 1 ≤ R.frames ∧ 8 + (n + 11) + rm.locals ≤ R.locals) (hrm : rm.cells = 1 ∧ rm.slots = 6) (hW : (rest.map fun v => v.category).sum ≤ 8) (hcs : 0 + 1 ≤ R.cells ∧ 0 + 6 ≤ R.slots) (hdg : decode cc pc = .ok (.invokevirtual index, 3))
    (kk : ∀ (q : Addr) (H1 : Heap) (locs1 : List Loc) (ce : Cell), s.heap.size ≤ H1.size → (∀ z : Nat, z < s.heap.size → H1[z]? = s.heap[z]?) → (∀ z ∈ locs1, s.heap.size ≤ z.base) → H1[q]? = some ce → ce.vm = .none → s.vm.findClass Ex = some ce.cls → vx_W p l e R s m args below meth c H1 locs1 (0 + 1) (0 + 6) Q (F0 m pc ls rest) q) : W p l e R s m args below meth c s.heap [] 0 0 Q (F0 m pc ls st) := by
  subst hst
  have k1 := kv.1 s args hY.1.1
  have hr := vx_runV (p := p) (l := l) (e := e) (R := R) (s := s) (m := m) (args := args) (below := below) (meth := meth) (c := c) (H := s.heap) (locs := []) (cells := 0) (slots := 0) (g := F0 m pc ls (As.reverse ++ .ref a :: rest)) (C := C) (As := As) (b := a) (rest := rest) (Ts := []) (n := k) ⟨hx, hb, hml, hown, fun w h => by cases h⟩ (hM s.heap.size) ⟨kb_of hY.1.1 (fun U a h => (kv.1 U a h).1) k1.2.1 kv.2.1 kv.2.2 zm hrm.1 hrm.2 hR, k1.2.2.1, k1.2.2.2⟩ ⟨fun a U g mk q => ⟨q.1, q.2.1, q.2.2.1.calling, XZ.moved (u := U) (U := U.calling g mk a) (Vm.Alike.refl U.vm) q.2.2.2.1, q.2.2.2.2⟩, hrec, fun U hU hW => ⟨rfl, by rw [hU], hY.moved hW, by rw [hU]; exact hZ.moved hW.alike, by rw [hU]; exact hPre⟩⟩ rfl hn hl.1 rfl (lv_room hW) hdg hcs
  intro T hT X
  rcases hr T hT X with ⟨v, st₀, t, T', L, h0, X', hL, e1, e2, hf, st⟩ | ⟨q, st₀, t, T', L, E', ce, h0, X', hL, e1, e2, hx9, hce, hcv, hcl, st⟩
  · exact hf.elim
  · obtain ⟨hE, hz, hq⟩ := hx9
    subst hE
    rw [h0] at hz hq
    obtain ⟨t2, a1, b1⟩ := kk q T'.heap ([] ++ L) ce (by rw [e1]; exact hz) (fun z h => by rw [e1]; exact hq z h) (fun z hz => by rw [List.nil_append] at hz; exact hL z hz) (by rw [e1]; exact hce) hcv hcl T' rfl X'
    exact ⟨t2, st.trans a1, b1⟩
theorem g_last (hx : p.tables.exec = Jvm.exec) (hb : c.code = cc) (hC : CX E s) {A : Nat → Prop} {H0 : Heap} {a n j : Nat} {f : Nat → Int64} {i : Int32} {x : Int64} (hat : va_at E.1 vwCl (a, .inl (eJ E, n, .inr (.inl f))) H) (hS : va_S A H0 H locs) (hA : A a) (hi : i = nI j ∧ j < n ∧ n < 2 ^ 31) (hdg : decode cc pc = .ok (.lastore, 1))
    (kk : ∀ (H1 : Heap) (locs1 : List Loc), va_at E.1 vwCl (a, .inl (eJ E, n, .inr (.inl (vp_updL f j x)))) H1 → H1.size = H.size → (∀ q : Nat, q ≠ a → H1[q]? = H[q]?) → va_S A H0 H1 locs1 → W p l e R s m args below meth c H1 locs1 cells slots Q (F0 m (pc + 1) ls rest)) : W p l e R s m args below meth c H locs cells slots Q (F0 m pc ls (.long x :: .int i :: .ref a :: rest)) := by
  obtain ⟨rfl, h1, h2⟩ := hi
  have hcl : (nI j).toNatClampNeg = j := nI_clamp (Nat.lt_trans h1 h2)
  have hin := vp_in_nI h1 h2
  refine W.last hx hb hat ((hC.2.1.2 4 _ rfl).1 n (fun j => .long (f j))) (fun q => by cases q) (by show ¬ (nI j < 0 ∨ (arrV _ _ _).slots.size ≤ _); rw [arrV_size]; exact hin) rfl rfl hdg fun H1 e z oq => ?_
  refine kk H1 _ ?_ z oq (hS.put z oq hA)
  show H1[a]? = some (vp_cell _ _)
  rw [e]
  rw [vp_cell_l, vp_cell_l, arrV_store]
  congr 2
  funext q
  by_cases hq : q = j
  · subst hq
    simp [updV, vp_updL, hcl]
  · simp [updV, vp_updL, hcl, hq]
end HMs
theorem ra_keptO {E : EE} {S : St} {g g1 : Gh} {H H1 : Heap} {o9 sz sz1 : Nat} (h : RA E S g1 H) (hgx : gX g g1 sz sz1) (hN : eN E ≤ o9 ∧ ¬ ow g o9) (ho : o9 < sz) (hq : ∀ q : Nat, q ≠ o9 → H1[q]? = H[q]?) : RA E S g1 H1 :=
  h.kept1 (a := o9) (fun k i hv e => by
    have h1 := h.ow hv
    rw [e] at h1
    rcases hgx.1 _ h1 with h2 | h2
    · exact hN.2 h2
    · omega) hN.1 (fun q _ h2 => hq q h2)
theorem cast_IOOBE {E : EE} {U : State} {a : Array Value} (h : CY E U) : (Cond.castable "java/lang/IndexOutOfBoundsException" "java/lang/IndexOutOfBoundsException").before a U = true := h.2.1 a _ (List.mem_of_getElem? (i := 323) (by decide +kernel)) rfl
theorem cast_IAE {E : EE} {U : State} {a : Array Value} (h : CY E U) : (Cond.castable "java/lang/IllegalArgumentException" "java/lang/IllegalArgumentException").before a U = true := h.2.1 a _ (List.mem_of_getElem? (i := 209) (by decide +kernel)) rfl
theorem cast_ISE {E : EE} {U : State} {a : Array Value} (h : CY E U) : (Cond.castable "java/lang/IllegalStateException" "java/lang/IllegalStateException").before a U = true := h.2.1 a _ (List.mem_of_getElem? (i := 454) (by decide +kernel)) rfl
set_option maxRecDepth 100000 in
set_option maxHeartbeats 4000000 in
theorem hok_person {l : Launch} {E : EE} {S S' : St} {g : Gh} {rm : Room} {b0 : Int32} {a9 : Int32} {o9 : Nat} (hM : WM l E yX6_person cX6_person 4 (some .int) rm [.ref (g.ad 1 0), .int (b0)] (RA E S g) (ow g) (CAp E S' g a9)) (hrm : rm.frames ≤ 15 ∧ rm.locals ≤ 480 ∧ rm.cells ≤ 2 ∧ rm.slots ≤ 60) : HM l E yL_person cL_person 4 [(0, 9, 12, 13), (0, 9, 15, 15)] [.ref (g.ad 1 0), .int (b0), .ref (o9)] g S S' o9 0 a9.toInt64 := by
  refine hm_of rfl (Nat.le_of_ble_eq_true rfl) (fun p e s m below meth c ls f hx hb hr hml (hown : s.vm.findClass RL = some m.cls) hZ hX hT hlocks hR hO hN hl => ?_)
  have hC := hZ.1.1
  have hS : va_S (fun q => (ow g q ∨ q = o9) ∨ s.heap.size ≤ q) s.heap s.heap [] := va_S.rf
  have ho9 := hO.lt
  have hl : lv_has ls 4 [(0, .ref (g.ad 1 0)), (1, .int (b0)), (2, .ref (o9))] := hl
  refine lv_aload_n hx hb dL_person_0 rfl (lv_at hl 2 rfl) ?_
  refine lv_iconst (v := 0) hx hb dL_person_1 (by decide) ?_
  refine lv_aload_n hx hb dL_person_2 rfl (lv_at hl 0 rfl) ?_
  refine lv_iload_n hx hb dL_person_3 rfl (lv_at hl 1 rfl) ?_
  refine wc_V (As := [.int (b0)]) hx hb hml hown hC hl hM (rec_of hC (RA.x hR) rfl) (zm_L_7 hC.1) kv_X6_person hR hS (fun q h => h.elim (fun w => Or.inl (Or.inl w)) Or.inr) rfl rfl ⟨by show rm.frames + 1 ≤ 16; omega, by show 8 + (4 + 11) + rm.locals ≤ 520; omega⟩ (Nat.le_of_ble_eq_true rfl) ⟨by show 0 + rm.cells ≤ 2; omega, by show 0 + rm.slots ≤ 60; omega⟩ dL_person_4 (fun v H1 locs1 hP hz hq hS => ?_)
  obtain ⟨⟨g1, hR1, hgx⟩, rfl⟩ := hP
  have hO : outA E o9 f H1 := hO.kept (hq _ ho9 hN.2)
  refine lv_i2l hx hb dL_person_7 rfl ?_
  refine g_last (j := 0) hx hb hC hO hS (Or.inl (Or.inr rfl)) ⟨rfl, by decide, by decide⟩ dL_person_8 (fun H2 locs2 hO hz2 hq2 hS => ?_)
  have hR2 := ra_keptO hR1 hgx hN ho9 hq2
  refine lv_goto (tgt := 18) hx hb dL_person_9 (by decide) ?_
  refine lv_iconst (v := 0) hx hb dL_person_18 (by decide) ?_
  exact wr_i hx hb hr hlocks hS ⟨g1, _, hR2, by rw [hz2]; exact hgx, hO, rfl, (fun _ => rfl)⟩ (by show 0 + rm.cells ≤ 2; omega) (by show 0 + rm.slots ≤ 60; omega) dL_person_19
set_option maxRecDepth 100000 in
set_option maxHeartbeats 4000000 in
theorem hth_person_1 {l : Launch} {E : EE} {S : St} {g : Gh} {b0 : Int32} {o9 : Nat} (hM : TM l E yX6_person cX6_person 4 (some .int) (tD 8) [.ref (g.ad 1 0), .int (b0)] (RA E S g) "java/lang/IndexOutOfBoundsException") : HM l E yL_person cL_person 4 [(0, 9, 12, 13), (0, 9, 15, 15)] [.ref (g.ad 1 0), .int (b0), .ref (o9)] g S S o9 1 0 := by
  refine hm_of rfl (Nat.le_of_ble_eq_true rfl) (fun p e s m below meth c ls f hx hb hr hml (hown : s.vm.findClass RL = some m.cls) hZ hX hT hlocks hR hO hN hl => ?_)
  have hC := hZ.1.1
  have hS : va_S (fun q => (ow g q ∨ q = o9) ∨ s.heap.size ≤ q) s.heap s.heap [] := va_S.rf
  have ho9 := hO.lt
  have hl : lv_has ls 4 [(0, .ref (g.ad 1 0)), (1, .int (b0)), (2, .ref (o9))] := hl
  refine lv_aload_n hx hb dL_person_0 rfl (lv_at hl 2 rfl) ?_
  refine lv_iconst (v := 0) hx hb dL_person_1 (by decide) ?_
  refine lv_aload_n hx hb dL_person_2 rfl (lv_at hl 0 rfl) ?_
  refine lv_iload_n hx hb dL_person_3 rfl (lv_at hl 1 rfl) ?_
  refine hc_V (As := [.int (b0)]) hx hb hml hown hZ.1 hX hl hM (rec_of hC (RA.x hR) rfl) (zm_L_7 hC.1) kv_X6_person hR rfl rfl ⟨(Nat.le_of_ble_eq_true rfl), (Nat.le_of_ble_eq_true rfl)⟩ ⟨rfl, rfl⟩ (Nat.le_of_ble_eq_true rfl) ⟨(Nat.le_of_ble_eq_true rfl), (Nat.le_of_ble_eq_true rfl)⟩ dL_person_4 (fun q H1 locs1 ce hz hq hL hce hcv hcl => ?_)
  refine vx_catch (own := RL) hown [] ⟨0, 9, 12, 13⟩ [⟨0, 9, 15, 15⟩] (hT.trans rfl) (fun z h => by cases h) (by decide) (by decide) (zc_L_13 hC.1) (cast_IOOBE hZ.1) hce hcv hcl ?_
  have hS : va_S (fun q => (ow g q ∨ q = o9) ∨ s.heap.size ≤ q) s.heap H1 locs1 := ⟨hz, fun q h1 _ => hq q h1, fun q h => Or.inr (hL q h)⟩
  refine lv_astore_n (lv' := [(3, .ref (q)), (0, .ref (g.ad 1 0)), (1, .int (b0)), (2, .ref (o9))]) hx hb dL_person_12 rfl hl (by decide) rfl (fun ls hl => ?_)
  refine lv_iconst (v := 1) hx hb dL_person_13 (by decide) ?_
  exact wr_i hx hb hr hlocks hS ⟨g, f, hR.kept hq, gX.refl g _ _, hO.kept (hq _ ho9), rfl, fun h => absurd h (by decide)⟩ (Nat.le_of_ble_eq_true rfl) (Nat.le_of_ble_eq_true rfl) dL_person_14
set_option maxRecDepth 100000 in
set_option maxHeartbeats 4000000 in
theorem hth_person_2 {l : Launch} {E : EE} {S : St} {g : Gh} {b0 : Int32} {o9 : Nat} (hM : TM l E yX6_person cX6_person 4 (some .int) (tD 8) [.ref (g.ad 1 0), .int (b0)] (RA E S g) "java/lang/IllegalStateException") : HM l E yL_person cL_person 4 [(0, 9, 12, 13), (0, 9, 15, 15)] [.ref (g.ad 1 0), .int (b0), .ref (o9)] g S S o9 2 0 := by
  refine hm_of rfl (Nat.le_of_ble_eq_true rfl) (fun p e s m below meth c ls f hx hb hr hml (hown : s.vm.findClass RL = some m.cls) hZ hX hT hlocks hR hO hN hl => ?_)
  have hC := hZ.1.1
  have hS : va_S (fun q => (ow g q ∨ q = o9) ∨ s.heap.size ≤ q) s.heap s.heap [] := va_S.rf
  have ho9 := hO.lt
  have hl : lv_has ls 4 [(0, .ref (g.ad 1 0)), (1, .int (b0)), (2, .ref (o9))] := hl
  refine lv_aload_n hx hb dL_person_0 rfl (lv_at hl 2 rfl) ?_
  refine lv_iconst (v := 0) hx hb dL_person_1 (by decide) ?_
  refine lv_aload_n hx hb dL_person_2 rfl (lv_at hl 0 rfl) ?_
  refine lv_iload_n hx hb dL_person_3 rfl (lv_at hl 1 rfl) ?_
  refine hc_V (As := [.int (b0)]) hx hb hml hown hZ.1 hX hl hM (rec_of hC (RA.x hR) rfl) (zm_L_7 hC.1) kv_X6_person hR rfl rfl ⟨(Nat.le_of_ble_eq_true rfl), (Nat.le_of_ble_eq_true rfl)⟩ ⟨rfl, rfl⟩ (Nat.le_of_ble_eq_true rfl) ⟨(Nat.le_of_ble_eq_true rfl), (Nat.le_of_ble_eq_true rfl)⟩ dL_person_4 (fun q H1 locs1 ce hz hq hL hce hcv hcl => ?_)
  refine vx_catch (own := RL) hown [⟨0, 9, 12, 13⟩] ⟨0, 9, 15, 15⟩ [] (hT.trans rfl) (fun z h => by rw [List.mem_singleton.mp h]; exact Or.inr ⟨by decide, _, zc_L_13 hC.1, hZ.2.2.1⟩) (by decide) (by decide) (zc_L_15 hC.1) (cast_ISE hZ.1) hce hcv hcl ?_
  have hS : va_S (fun q => (ow g q ∨ q = o9) ∨ s.heap.size ≤ q) s.heap H1 locs1 := ⟨hz, fun q h1 _ => hq q h1, fun q h => Or.inr (hL q h)⟩
  refine lv_astore_n (lv' := [(3, .ref (q)), (0, .ref (g.ad 1 0)), (1, .int (b0)), (2, .ref (o9))]) hx hb dL_person_15 rfl hl (by decide) rfl (fun ls hl => ?_)
  refine lv_iconst (v := 2) hx hb dL_person_16 (by decide) ?_
  exact wr_i hx hb hr hlocks hS ⟨g, f, hR.kept hq, gX.refl g _ _, hO.kept (hq _ ho9), rfl, fun h => absurd h (by decide)⟩ (Nat.le_of_ble_eq_true rfl) (Nat.le_of_ble_eq_true rfl) dL_person_17
set_option maxRecDepth 100000 in
set_option maxHeartbeats 4000000 in
theorem hok_limit {l : Launch} {E : EE} {S S' : St} {g : Gh} {rm : Room} {b0 b1 b2 : Int32} {a9 : Int32} {o9 : Nat} (hM : WM l E yX6_limit cX6_limit 5 (some .int) rm [.ref (g.ad 1 0), .int (b0), .int (b1), .int (b2)] (RA E S g) (ow g) (CAp E S' g a9)) (hrm : rm.frames ≤ 15 ∧ rm.locals ≤ 480 ∧ rm.cells ≤ 2 ∧ rm.slots ≤ 60) : HM l E yL_limit cL_limit 6 [(0, 12, 15, 13), (0, 12, 19, 21)] [.ref (g.ad 1 0), .int (b0), .int (b1), .int (b2), .ref (o9)] g S S' o9 0 a9.toInt64 := by
  refine hm_of rfl (Nat.le_of_ble_eq_true rfl) (fun p e s m below meth c ls f hx hb hr hml (hown : s.vm.findClass RL = some m.cls) hZ hX hT hlocks hR hO hN hl => ?_)
  have hC := hZ.1.1
  have hS : va_S (fun q => (ow g q ∨ q = o9) ∨ s.heap.size ≤ q) s.heap s.heap [] := va_S.rf
  have ho9 := hO.lt
  have hl : lv_has ls 6 [(0, .ref (g.ad 1 0)), (1, .int (b0)), (2, .int (b1)), (3, .int (b2)), (4, .ref (o9))] := hl
  refine lv_aload hx hb dL_limit_0 (lv_at hl 4 rfl) ?_
  refine lv_iconst (v := 0) hx hb dL_limit_2 (by decide) ?_
  refine lv_aload_n hx hb dL_limit_3 rfl (lv_at hl 0 rfl) ?_
  refine lv_iload_n hx hb dL_limit_4 rfl (lv_at hl 1 rfl) ?_
  refine lv_iload_n hx hb dL_limit_5 rfl (lv_at hl 2 rfl) ?_
  refine lv_iload_n hx hb dL_limit_6 rfl (lv_at hl 3 rfl) ?_
  refine wc_V (As := [.int (b0), .int (b1), .int (b2)]) hx hb hml hown hC hl hM (rec_of hC (RA.x hR) rfl) (zm_L_17 hC.1) kv_X6_limit hR hS (fun q h => h.elim (fun w => Or.inl (Or.inl w)) Or.inr) rfl rfl ⟨by show rm.frames + 1 ≤ 16; omega, by show 8 + (5 + 11) + rm.locals ≤ 520; omega⟩ (Nat.le_of_ble_eq_true rfl) ⟨by show 0 + rm.cells ≤ 2; omega, by show 0 + rm.slots ≤ 60; omega⟩ dL_limit_7 (fun v H1 locs1 hP hz hq hS => ?_)
  obtain ⟨⟨g1, hR1, hgx⟩, rfl⟩ := hP
  have hO : outA E o9 f H1 := hO.kept (hq _ ho9 hN.2)
  refine lv_i2l hx hb dL_limit_10 rfl ?_
  refine g_last (j := 0) hx hb hC hO hS (Or.inl (Or.inr rfl)) ⟨rfl, by decide, by decide⟩ dL_limit_11 (fun H2 locs2 hO hz2 hq2 hS => ?_)
  have hR2 := ra_keptO hR1 hgx hN ho9 hq2
  refine lv_goto (tgt := 23) hx hb dL_limit_12 (by decide) ?_
  refine lv_iconst (v := 0) hx hb dL_limit_23 (by decide) ?_
  exact wr_i hx hb hr hlocks hS ⟨g1, _, hR2, by rw [hz2]; exact hgx, hO, rfl, (fun _ => rfl)⟩ (by show 0 + rm.cells ≤ 2; omega) (by show 0 + rm.slots ≤ 60; omega) dL_limit_24
set_option maxRecDepth 100000 in
set_option maxHeartbeats 4000000 in
theorem hth_limit_1 {l : Launch} {E : EE} {S : St} {g : Gh} {b0 b1 b2 : Int32} {o9 : Nat} (hM : TM l E yX6_limit cX6_limit 5 (some .int) (tD 8) [.ref (g.ad 1 0), .int (b0), .int (b1), .int (b2)] (RA E S g) "java/lang/IndexOutOfBoundsException") : HM l E yL_limit cL_limit 6 [(0, 12, 15, 13), (0, 12, 19, 21)] [.ref (g.ad 1 0), .int (b0), .int (b1), .int (b2), .ref (o9)] g S S o9 1 0 := by
  refine hm_of rfl (Nat.le_of_ble_eq_true rfl) (fun p e s m below meth c ls f hx hb hr hml (hown : s.vm.findClass RL = some m.cls) hZ hX hT hlocks hR hO hN hl => ?_)
  have hC := hZ.1.1
  have hS : va_S (fun q => (ow g q ∨ q = o9) ∨ s.heap.size ≤ q) s.heap s.heap [] := va_S.rf
  have ho9 := hO.lt
  have hl : lv_has ls 6 [(0, .ref (g.ad 1 0)), (1, .int (b0)), (2, .int (b1)), (3, .int (b2)), (4, .ref (o9))] := hl
  refine lv_aload hx hb dL_limit_0 (lv_at hl 4 rfl) ?_
  refine lv_iconst (v := 0) hx hb dL_limit_2 (by decide) ?_
  refine lv_aload_n hx hb dL_limit_3 rfl (lv_at hl 0 rfl) ?_
  refine lv_iload_n hx hb dL_limit_4 rfl (lv_at hl 1 rfl) ?_
  refine lv_iload_n hx hb dL_limit_5 rfl (lv_at hl 2 rfl) ?_
  refine lv_iload_n hx hb dL_limit_6 rfl (lv_at hl 3 rfl) ?_
  refine hc_V (As := [.int (b0), .int (b1), .int (b2)]) hx hb hml hown hZ.1 hX hl hM (rec_of hC (RA.x hR) rfl) (zm_L_17 hC.1) kv_X6_limit hR rfl rfl ⟨(Nat.le_of_ble_eq_true rfl), (Nat.le_of_ble_eq_true rfl)⟩ ⟨rfl, rfl⟩ (Nat.le_of_ble_eq_true rfl) ⟨(Nat.le_of_ble_eq_true rfl), (Nat.le_of_ble_eq_true rfl)⟩ dL_limit_7 (fun q H1 locs1 ce hz hq hL hce hcv hcl => ?_)
  refine vx_catch (own := RL) hown [] ⟨0, 12, 15, 13⟩ [⟨0, 12, 19, 21⟩] (hT.trans rfl) (fun z h => by cases h) (by decide) (by decide) (zc_L_13 hC.1) (cast_IOOBE hZ.1) hce hcv hcl ?_
  have hS : va_S (fun q => (ow g q ∨ q = o9) ∨ s.heap.size ≤ q) s.heap H1 locs1 := ⟨hz, fun q h1 _ => hq q h1, fun q h => Or.inr (hL q h)⟩
  refine lv_astore (lv' := [(5, .ref (q)), (0, .ref (g.ad 1 0)), (1, .int (b0)), (2, .int (b1)), (3, .int (b2)), (4, .ref (o9))]) hx hb dL_limit_15 hl (by decide) rfl (fun ls hl => ?_)
  refine lv_iconst (v := 1) hx hb dL_limit_17 (by decide) ?_
  exact wr_i hx hb hr hlocks hS ⟨g, f, hR.kept hq, gX.refl g _ _, hO.kept (hq _ ho9), rfl, fun h => absurd h (by decide)⟩ (Nat.le_of_ble_eq_true rfl) (Nat.le_of_ble_eq_true rfl) dL_limit_18
set_option maxRecDepth 100000 in
set_option maxHeartbeats 4000000 in
theorem hth_limit_2 {l : Launch} {E : EE} {S : St} {g : Gh} {b0 b1 b2 : Int32} {o9 : Nat} (hM : TM l E yX6_limit cX6_limit 5 (some .int) (tD 8) [.ref (g.ad 1 0), .int (b0), .int (b1), .int (b2)] (RA E S g) "java/lang/IllegalArgumentException") : HM l E yL_limit cL_limit 6 [(0, 12, 15, 13), (0, 12, 19, 21)] [.ref (g.ad 1 0), .int (b0), .int (b1), .int (b2), .ref (o9)] g S S o9 2 0 := by
  refine hm_of rfl (Nat.le_of_ble_eq_true rfl) (fun p e s m below meth c ls f hx hb hr hml (hown : s.vm.findClass RL = some m.cls) hZ hX hT hlocks hR hO hN hl => ?_)
  have hC := hZ.1.1
  have hS : va_S (fun q => (ow g q ∨ q = o9) ∨ s.heap.size ≤ q) s.heap s.heap [] := va_S.rf
  have ho9 := hO.lt
  have hl : lv_has ls 6 [(0, .ref (g.ad 1 0)), (1, .int (b0)), (2, .int (b1)), (3, .int (b2)), (4, .ref (o9))] := hl
  refine lv_aload hx hb dL_limit_0 (lv_at hl 4 rfl) ?_
  refine lv_iconst (v := 0) hx hb dL_limit_2 (by decide) ?_
  refine lv_aload_n hx hb dL_limit_3 rfl (lv_at hl 0 rfl) ?_
  refine lv_iload_n hx hb dL_limit_4 rfl (lv_at hl 1 rfl) ?_
  refine lv_iload_n hx hb dL_limit_5 rfl (lv_at hl 2 rfl) ?_
  refine lv_iload_n hx hb dL_limit_6 rfl (lv_at hl 3 rfl) ?_
  refine hc_V (As := [.int (b0), .int (b1), .int (b2)]) hx hb hml hown hZ.1 hX hl hM (rec_of hC (RA.x hR) rfl) (zm_L_17 hC.1) kv_X6_limit hR rfl rfl ⟨(Nat.le_of_ble_eq_true rfl), (Nat.le_of_ble_eq_true rfl)⟩ ⟨rfl, rfl⟩ (Nat.le_of_ble_eq_true rfl) ⟨(Nat.le_of_ble_eq_true rfl), (Nat.le_of_ble_eq_true rfl)⟩ dL_limit_7 (fun q H1 locs1 ce hz hq hL hce hcv hcl => ?_)
  refine vx_catch (own := RL) hown [⟨0, 12, 15, 13⟩] ⟨0, 12, 19, 21⟩ [] (hT.trans rfl) (fun z h => by rw [List.mem_singleton.mp h]; exact Or.inr ⟨by decide, _, zc_L_13 hC.1, hZ.2.1⟩) (by decide) (by decide) (zc_L_21 hC.1) (cast_IAE hZ.1) hce hcv hcl ?_
  have hS : va_S (fun q => (ow g q ∨ q = o9) ∨ s.heap.size ≤ q) s.heap H1 locs1 := ⟨hz, fun q h1 _ => hq q h1, fun q h => Or.inr (hL q h)⟩
  refine lv_astore (lv' := [(5, .ref (q)), (0, .ref (g.ad 1 0)), (1, .int (b0)), (2, .int (b1)), (3, .int (b2)), (4, .ref (o9))]) hx hb dL_limit_19 hl (by decide) rfl (fun ls hl => ?_)
  refine lv_iconst (v := 2) hx hb dL_limit_21 (by decide) ?_
  exact wr_i hx hb hr hlocks hS ⟨g, f, hR.kept hq, gX.refl g _ _, hO.kept (hq _ ho9), rfl, fun h => absurd h (by decide)⟩ (Nat.le_of_ble_eq_true rfl) (Nat.le_of_ble_eq_true rfl) dL_limit_22
set_option maxRecDepth 100000 in
set_option maxHeartbeats 4000000 in
theorem hok_away {l : Launch} {E : EE} {S S' : St} {g : Gh} {rm : Room} {b0 b1 b2 : Int32} {a9 : Int32} {o9 : Nat} (hM : WM l E yX6_away cX6_away 7 (some .boolean) rm [.ref (g.ad 1 0), .int (b0), .int (b1), .int (b2)] (RA E S g) (ow g) (CAp E S' g a9)) (hrm : rm.frames ≤ 15 ∧ rm.locals ≤ 480 ∧ rm.cells ≤ 2 ∧ rm.slots ≤ 60) : HM l E yL_away cL_away 6 [(0, 19, 22, 13), (0, 19, 26, 21)] [.ref (g.ad 1 0), .int (b0), .int (b1), .int (b2), .ref (o9)] g S S' o9 0 (if a9 = 0 then (0 : Int64) else 1) := by
  refine hm_of rfl (Nat.le_of_ble_eq_true rfl) (fun p e s m below meth c ls f hx hb hr hml (hown : s.vm.findClass RL = some m.cls) hZ hX hT hlocks hR hO hN hl => ?_)
  have hC := hZ.1.1
  have hS : va_S (fun q => (ow g q ∨ q = o9) ∨ s.heap.size ≤ q) s.heap s.heap [] := va_S.rf
  have ho9 := hO.lt
  have hl : lv_has ls 6 [(0, .ref (g.ad 1 0)), (1, .int (b0)), (2, .int (b1)), (3, .int (b2)), (4, .ref (o9))] := hl
  refine lv_aload hx hb dL_away_0 (lv_at hl 4 rfl) ?_
  refine lv_iconst (v := 0) hx hb dL_away_2 (by decide) ?_
  refine lv_aload_n hx hb dL_away_3 rfl (lv_at hl 0 rfl) ?_
  refine lv_iload_n hx hb dL_away_4 rfl (lv_at hl 1 rfl) ?_
  refine lv_iload_n hx hb dL_away_5 rfl (lv_at hl 2 rfl) ?_
  refine lv_iload_n hx hb dL_away_6 rfl (lv_at hl 3 rfl) ?_
  refine wc_V (As := [.int (b0), .int (b1), .int (b2)]) hx hb hml hown hC hl hM (rec_of hC (RA.x hR) rfl) (zm_L_23 hC.1) kv_X6_away hR hS (fun q h => h.elim (fun w => Or.inl (Or.inl w)) Or.inr) rfl rfl ⟨by show rm.frames + 1 ≤ 16; omega, by show 8 + (7 + 11) + rm.locals ≤ 520; omega⟩ (Nat.le_of_ble_eq_true rfl) ⟨by show 0 + rm.cells ≤ 2; omega, by show 0 + rm.slots ≤ 60; omega⟩ dL_away_7 (fun v H1 locs1 hP hz hq hS => ?_)
  obtain ⟨⟨g1, hR1, hgx⟩, rfl⟩ := hP
  have hO : outA E o9 f H1 := hO.kept (hq _ ho9 hN.2)
  refine lv_if_eq (tgt := 17) hx hb dL_away_10 (by decide) (fun c_10 => ?_) (fun c_10 => ?_)
  ·
    refine lv_lconst (v := 0) hx hb dL_away_17 rfl ?_
    refine g_last (j := 0) hx hb hC hO hS (Or.inl (Or.inr rfl)) ⟨rfl, by decide, by decide⟩ dL_away_18 (fun H2 locs2 hO hz2 hq2 hS => ?_)
    have hR2 := ra_keptO hR1 hgx hN ho9 hq2
    refine lv_goto (tgt := 30) hx hb dL_away_19 (by decide) ?_
    refine lv_iconst (v := 0) hx hb dL_away_30 (by decide) ?_
    exact wr_i hx hb hr hlocks hS ⟨g1, _, hR2, by rw [hz2]; exact hgx, hO, rfl, (fun _ => by rw [if_pos c_10]; rfl)⟩ (by show 0 + rm.cells ≤ 2; omega) (by show 0 + rm.slots ≤ 60; omega) dL_away_31
  ·
    refine lv_lconst (v := 1) hx hb dL_away_13 rfl ?_
    refine lv_goto (tgt := 18) hx hb dL_away_14 (by decide) ?_
    refine g_last (j := 0) hx hb hC hO hS (Or.inl (Or.inr rfl)) ⟨rfl, by decide, by decide⟩ dL_away_18 (fun H2 locs2 hO hz2 hq2 hS => ?_)
    have hR2 := ra_keptO hR1 hgx hN ho9 hq2
    refine lv_goto (tgt := 30) hx hb dL_away_19 (by decide) ?_
    refine lv_iconst (v := 0) hx hb dL_away_30 (by decide) ?_
    exact wr_i hx hb hr hlocks hS ⟨g1, _, hR2, by rw [hz2]; exact hgx, hO, rfl, (fun _ => by rw [if_neg c_10]; rfl)⟩ (by show 0 + rm.cells ≤ 2; omega) (by show 0 + rm.slots ≤ 60; omega) dL_away_31
set_option maxRecDepth 100000 in
set_option maxHeartbeats 4000000 in
theorem hth_away_1 {l : Launch} {E : EE} {S : St} {g : Gh} {b0 b1 b2 : Int32} {o9 : Nat} (hM : TM l E yX6_away cX6_away 7 (some .boolean) (tD 8) [.ref (g.ad 1 0), .int (b0), .int (b1), .int (b2)] (RA E S g) "java/lang/IndexOutOfBoundsException") : HM l E yL_away cL_away 6 [(0, 19, 22, 13), (0, 19, 26, 21)] [.ref (g.ad 1 0), .int (b0), .int (b1), .int (b2), .ref (o9)] g S S o9 1 0 := by
  refine hm_of rfl (Nat.le_of_ble_eq_true rfl) (fun p e s m below meth c ls f hx hb hr hml (hown : s.vm.findClass RL = some m.cls) hZ hX hT hlocks hR hO hN hl => ?_)
  have hC := hZ.1.1
  have hS : va_S (fun q => (ow g q ∨ q = o9) ∨ s.heap.size ≤ q) s.heap s.heap [] := va_S.rf
  have ho9 := hO.lt
  have hl : lv_has ls 6 [(0, .ref (g.ad 1 0)), (1, .int (b0)), (2, .int (b1)), (3, .int (b2)), (4, .ref (o9))] := hl
  refine lv_aload hx hb dL_away_0 (lv_at hl 4 rfl) ?_
  refine lv_iconst (v := 0) hx hb dL_away_2 (by decide) ?_
  refine lv_aload_n hx hb dL_away_3 rfl (lv_at hl 0 rfl) ?_
  refine lv_iload_n hx hb dL_away_4 rfl (lv_at hl 1 rfl) ?_
  refine lv_iload_n hx hb dL_away_5 rfl (lv_at hl 2 rfl) ?_
  refine lv_iload_n hx hb dL_away_6 rfl (lv_at hl 3 rfl) ?_
  refine hc_V (As := [.int (b0), .int (b1), .int (b2)]) hx hb hml hown hZ.1 hX hl hM (rec_of hC (RA.x hR) rfl) (zm_L_23 hC.1) kv_X6_away hR rfl rfl ⟨(Nat.le_of_ble_eq_true rfl), (Nat.le_of_ble_eq_true rfl)⟩ ⟨rfl, rfl⟩ (Nat.le_of_ble_eq_true rfl) ⟨(Nat.le_of_ble_eq_true rfl), (Nat.le_of_ble_eq_true rfl)⟩ dL_away_7 (fun q H1 locs1 ce hz hq hL hce hcv hcl => ?_)
  refine vx_catch (own := RL) hown [] ⟨0, 19, 22, 13⟩ [⟨0, 19, 26, 21⟩] (hT.trans rfl) (fun z h => by cases h) (by decide) (by decide) (zc_L_13 hC.1) (cast_IOOBE hZ.1) hce hcv hcl ?_
  have hS : va_S (fun q => (ow g q ∨ q = o9) ∨ s.heap.size ≤ q) s.heap H1 locs1 := ⟨hz, fun q h1 _ => hq q h1, fun q h => Or.inr (hL q h)⟩
  refine lv_astore (lv' := [(5, .ref (q)), (0, .ref (g.ad 1 0)), (1, .int (b0)), (2, .int (b1)), (3, .int (b2)), (4, .ref (o9))]) hx hb dL_away_22 hl (by decide) rfl (fun ls hl => ?_)
  refine lv_iconst (v := 1) hx hb dL_away_24 (by decide) ?_
  exact wr_i hx hb hr hlocks hS ⟨g, f, hR.kept hq, gX.refl g _ _, hO.kept (hq _ ho9), rfl, fun h => absurd h (by decide)⟩ (Nat.le_of_ble_eq_true rfl) (Nat.le_of_ble_eq_true rfl) dL_away_25
set_option maxRecDepth 100000 in
set_option maxHeartbeats 4000000 in
theorem hth_away_2 {l : Launch} {E : EE} {S : St} {g : Gh} {b0 b1 b2 : Int32} {o9 : Nat} (hM : TM l E yX6_away cX6_away 7 (some .boolean) (tD 8) [.ref (g.ad 1 0), .int (b0), .int (b1), .int (b2)] (RA E S g) "java/lang/IllegalArgumentException") : HM l E yL_away cL_away 6 [(0, 19, 22, 13), (0, 19, 26, 21)] [.ref (g.ad 1 0), .int (b0), .int (b1), .int (b2), .ref (o9)] g S S o9 2 0 := by
  refine hm_of rfl (Nat.le_of_ble_eq_true rfl) (fun p e s m below meth c ls f hx hb hr hml (hown : s.vm.findClass RL = some m.cls) hZ hX hT hlocks hR hO hN hl => ?_)
  have hC := hZ.1.1
  have hS : va_S (fun q => (ow g q ∨ q = o9) ∨ s.heap.size ≤ q) s.heap s.heap [] := va_S.rf
  have ho9 := hO.lt
  have hl : lv_has ls 6 [(0, .ref (g.ad 1 0)), (1, .int (b0)), (2, .int (b1)), (3, .int (b2)), (4, .ref (o9))] := hl
  refine lv_aload hx hb dL_away_0 (lv_at hl 4 rfl) ?_
  refine lv_iconst (v := 0) hx hb dL_away_2 (by decide) ?_
  refine lv_aload_n hx hb dL_away_3 rfl (lv_at hl 0 rfl) ?_
  refine lv_iload_n hx hb dL_away_4 rfl (lv_at hl 1 rfl) ?_
  refine lv_iload_n hx hb dL_away_5 rfl (lv_at hl 2 rfl) ?_
  refine lv_iload_n hx hb dL_away_6 rfl (lv_at hl 3 rfl) ?_
  refine hc_V (As := [.int (b0), .int (b1), .int (b2)]) hx hb hml hown hZ.1 hX hl hM (rec_of hC (RA.x hR) rfl) (zm_L_23 hC.1) kv_X6_away hR rfl rfl ⟨(Nat.le_of_ble_eq_true rfl), (Nat.le_of_ble_eq_true rfl)⟩ ⟨rfl, rfl⟩ (Nat.le_of_ble_eq_true rfl) ⟨(Nat.le_of_ble_eq_true rfl), (Nat.le_of_ble_eq_true rfl)⟩ dL_away_7 (fun q H1 locs1 ce hz hq hL hce hcv hcl => ?_)
  refine vx_catch (own := RL) hown [⟨0, 19, 22, 13⟩] ⟨0, 19, 26, 21⟩ [] (hT.trans rfl) (fun z h => by rw [List.mem_singleton.mp h]; exact Or.inr ⟨by decide, _, zc_L_13 hC.1, hZ.2.1⟩) (by decide) (by decide) (zc_L_21 hC.1) (cast_IAE hZ.1) hce hcv hcl ?_
  have hS : va_S (fun q => (ow g q ∨ q = o9) ∨ s.heap.size ≤ q) s.heap H1 locs1 := ⟨hz, fun q h1 _ => hq q h1, fun q h => Or.inr (hL q h)⟩
  refine lv_astore (lv' := [(5, .ref (q)), (0, .ref (g.ad 1 0)), (1, .int (b0)), (2, .int (b1)), (3, .int (b2)), (4, .ref (o9))]) hx hb dL_away_26 hl (by decide) rfl (fun ls hl => ?_)
  refine lv_iconst (v := 2) hx hb dL_away_28 (by decide) ?_
  exact wr_i hx hb hr hlocks hS ⟨g, f, hR.kept hq, gX.refl g _ _, hO.kept (hq _ ho9), rfl, fun h => absurd h (by decide)⟩ (Nat.le_of_ble_eq_true rfl) (Nat.le_of_ble_eq_true rfl) dL_away_29
set_option maxRecDepth 100000 in
set_option maxHeartbeats 4000000 in
theorem hok_trip {l : Launch} {E : EE} {S S' : St} {g : Gh} {rm : Room} {b0 b1 b2 b3 b4 : Int32} {a9 : Int32} {o9 : Nat} (hM : WM l E yX6_trip cX6_trip 8 (some .int) rm [.ref (g.ad 1 0), .int (b0), .int (b1), .int (b2), .int (b3), .int (b4)] (RA E S g) (ow g) (CAp E S' g a9)) (hrm : rm.frames ≤ 15 ∧ rm.locals ≤ 480 ∧ rm.cells ≤ 2 ∧ rm.slots ≤ 60) : HM l E yL_trip cL_trip 8 [(0, 16, 19, 13), (0, 16, 23, 21), (0, 16, 27, 15)] [.ref (g.ad 1 0), .int (b0), .int (b1), .int (b2), .int (b3), .int (b4), .ref (o9)] g S S' o9 0 a9.toInt64 := by
  refine hm_of rfl (Nat.le_of_ble_eq_true rfl) (fun p e s m below meth c ls f hx hb hr hml (hown : s.vm.findClass RL = some m.cls) hZ hX hT hlocks hR hO hN hl => ?_)
  have hC := hZ.1.1
  have hS : va_S (fun q => (ow g q ∨ q = o9) ∨ s.heap.size ≤ q) s.heap s.heap [] := va_S.rf
  have ho9 := hO.lt
  have hl : lv_has ls 8 [(0, .ref (g.ad 1 0)), (1, .int (b0)), (2, .int (b1)), (3, .int (b2)), (4, .int (b3)), (5, .int (b4)), (6, .ref (o9))] := hl
  refine lv_aload hx hb dL_trip_0 (lv_at hl 6 rfl) ?_
  refine lv_iconst (v := 0) hx hb dL_trip_2 (by decide) ?_
  refine lv_aload_n hx hb dL_trip_3 rfl (lv_at hl 0 rfl) ?_
  refine lv_iload_n hx hb dL_trip_4 rfl (lv_at hl 1 rfl) ?_
  refine lv_iload_n hx hb dL_trip_5 rfl (lv_at hl 2 rfl) ?_
  refine lv_iload_n hx hb dL_trip_6 rfl (lv_at hl 3 rfl) ?_
  refine lv_iload hx hb dL_trip_7 (lv_at hl 4 rfl) ?_
  refine lv_iload hx hb dL_trip_9 (lv_at hl 5 rfl) ?_
  refine wc_V (As := [.int (b0), .int (b1), .int (b2), .int (b3), .int (b4)]) hx hb hml hown hC hl hM (rec_of hC (RA.x hR) rfl) (zm_L_27 hC.1) kv_X6_trip hR hS (fun q h => h.elim (fun w => Or.inl (Or.inl w)) Or.inr) rfl rfl ⟨by show rm.frames + 1 ≤ 16; omega, by show 8 + (8 + 11) + rm.locals ≤ 520; omega⟩ (Nat.le_of_ble_eq_true rfl) ⟨by show 0 + rm.cells ≤ 2; omega, by show 0 + rm.slots ≤ 60; omega⟩ dL_trip_11 (fun v H1 locs1 hP hz hq hS => ?_)
  obtain ⟨⟨g1, hR1, hgx⟩, rfl⟩ := hP
  have hO : outA E o9 f H1 := hO.kept (hq _ ho9 hN.2)
  refine lv_i2l hx hb dL_trip_14 rfl ?_
  refine g_last (j := 0) hx hb hC hO hS (Or.inl (Or.inr rfl)) ⟨rfl, by decide, by decide⟩ dL_trip_15 (fun H2 locs2 hO hz2 hq2 hS => ?_)
  have hR2 := ra_keptO hR1 hgx hN ho9 hq2
  refine lv_goto (tgt := 31) hx hb dL_trip_16 (by decide) ?_
  refine lv_iconst (v := 0) hx hb dL_trip_31 (by decide) ?_
  exact wr_i hx hb hr hlocks hS ⟨g1, _, hR2, by rw [hz2]; exact hgx, hO, rfl, (fun _ => rfl)⟩ (by show 0 + rm.cells ≤ 2; omega) (by show 0 + rm.slots ≤ 60; omega) dL_trip_32
set_option maxRecDepth 100000 in
set_option maxHeartbeats 4000000 in
theorem hth_trip_1 {l : Launch} {E : EE} {S : St} {g : Gh} {b0 b1 b2 b3 b4 : Int32} {o9 : Nat} (hM : TM l E yX6_trip cX6_trip 8 (some .int) (tD 8) [.ref (g.ad 1 0), .int (b0), .int (b1), .int (b2), .int (b3), .int (b4)] (RA E S g) "java/lang/IndexOutOfBoundsException") : HM l E yL_trip cL_trip 8 [(0, 16, 19, 13), (0, 16, 23, 21), (0, 16, 27, 15)] [.ref (g.ad 1 0), .int (b0), .int (b1), .int (b2), .int (b3), .int (b4), .ref (o9)] g S S o9 1 0 := by
  refine hm_of rfl (Nat.le_of_ble_eq_true rfl) (fun p e s m below meth c ls f hx hb hr hml (hown : s.vm.findClass RL = some m.cls) hZ hX hT hlocks hR hO hN hl => ?_)
  have hC := hZ.1.1
  have hS : va_S (fun q => (ow g q ∨ q = o9) ∨ s.heap.size ≤ q) s.heap s.heap [] := va_S.rf
  have ho9 := hO.lt
  have hl : lv_has ls 8 [(0, .ref (g.ad 1 0)), (1, .int (b0)), (2, .int (b1)), (3, .int (b2)), (4, .int (b3)), (5, .int (b4)), (6, .ref (o9))] := hl
  refine lv_aload hx hb dL_trip_0 (lv_at hl 6 rfl) ?_
  refine lv_iconst (v := 0) hx hb dL_trip_2 (by decide) ?_
  refine lv_aload_n hx hb dL_trip_3 rfl (lv_at hl 0 rfl) ?_
  refine lv_iload_n hx hb dL_trip_4 rfl (lv_at hl 1 rfl) ?_
  refine lv_iload_n hx hb dL_trip_5 rfl (lv_at hl 2 rfl) ?_
  refine lv_iload_n hx hb dL_trip_6 rfl (lv_at hl 3 rfl) ?_
  refine lv_iload hx hb dL_trip_7 (lv_at hl 4 rfl) ?_
  refine lv_iload hx hb dL_trip_9 (lv_at hl 5 rfl) ?_
  refine hc_V (As := [.int (b0), .int (b1), .int (b2), .int (b3), .int (b4)]) hx hb hml hown hZ.1 hX hl hM (rec_of hC (RA.x hR) rfl) (zm_L_27 hC.1) kv_X6_trip hR rfl rfl ⟨(Nat.le_of_ble_eq_true rfl), (Nat.le_of_ble_eq_true rfl)⟩ ⟨rfl, rfl⟩ (Nat.le_of_ble_eq_true rfl) ⟨(Nat.le_of_ble_eq_true rfl), (Nat.le_of_ble_eq_true rfl)⟩ dL_trip_11 (fun q H1 locs1 ce hz hq hL hce hcv hcl => ?_)
  refine vx_catch (own := RL) hown [] ⟨0, 16, 19, 13⟩ [⟨0, 16, 23, 21⟩, ⟨0, 16, 27, 15⟩] (hT.trans rfl) (fun z h => by cases h) (by decide) (by decide) (zc_L_13 hC.1) (cast_IOOBE hZ.1) hce hcv hcl ?_
  have hS : va_S (fun q => (ow g q ∨ q = o9) ∨ s.heap.size ≤ q) s.heap H1 locs1 := ⟨hz, fun q h1 _ => hq q h1, fun q h => Or.inr (hL q h)⟩
  refine lv_astore (lv' := [(7, .ref (q)), (0, .ref (g.ad 1 0)), (1, .int (b0)), (2, .int (b1)), (3, .int (b2)), (4, .int (b3)), (5, .int (b4)), (6, .ref (o9))]) hx hb dL_trip_19 hl (by decide) rfl (fun ls hl => ?_)
  refine lv_iconst (v := 1) hx hb dL_trip_21 (by decide) ?_
  exact wr_i hx hb hr hlocks hS ⟨g, f, hR.kept hq, gX.refl g _ _, hO.kept (hq _ ho9), rfl, fun h => absurd h (by decide)⟩ (Nat.le_of_ble_eq_true rfl) (Nat.le_of_ble_eq_true rfl) dL_trip_22
set_option maxRecDepth 100000 in
set_option maxHeartbeats 4000000 in
theorem hth_trip_2 {l : Launch} {E : EE} {S : St} {g : Gh} {b0 b1 b2 b3 b4 : Int32} {o9 : Nat} (hM : TM l E yX6_trip cX6_trip 8 (some .int) (tD 8) [.ref (g.ad 1 0), .int (b0), .int (b1), .int (b2), .int (b3), .int (b4)] (RA E S g) "java/lang/IllegalArgumentException") : HM l E yL_trip cL_trip 8 [(0, 16, 19, 13), (0, 16, 23, 21), (0, 16, 27, 15)] [.ref (g.ad 1 0), .int (b0), .int (b1), .int (b2), .int (b3), .int (b4), .ref (o9)] g S S o9 2 0 := by
  refine hm_of rfl (Nat.le_of_ble_eq_true rfl) (fun p e s m below meth c ls f hx hb hr hml (hown : s.vm.findClass RL = some m.cls) hZ hX hT hlocks hR hO hN hl => ?_)
  have hC := hZ.1.1
  have hS : va_S (fun q => (ow g q ∨ q = o9) ∨ s.heap.size ≤ q) s.heap s.heap [] := va_S.rf
  have ho9 := hO.lt
  have hl : lv_has ls 8 [(0, .ref (g.ad 1 0)), (1, .int (b0)), (2, .int (b1)), (3, .int (b2)), (4, .int (b3)), (5, .int (b4)), (6, .ref (o9))] := hl
  refine lv_aload hx hb dL_trip_0 (lv_at hl 6 rfl) ?_
  refine lv_iconst (v := 0) hx hb dL_trip_2 (by decide) ?_
  refine lv_aload_n hx hb dL_trip_3 rfl (lv_at hl 0 rfl) ?_
  refine lv_iload_n hx hb dL_trip_4 rfl (lv_at hl 1 rfl) ?_
  refine lv_iload_n hx hb dL_trip_5 rfl (lv_at hl 2 rfl) ?_
  refine lv_iload_n hx hb dL_trip_6 rfl (lv_at hl 3 rfl) ?_
  refine lv_iload hx hb dL_trip_7 (lv_at hl 4 rfl) ?_
  refine lv_iload hx hb dL_trip_9 (lv_at hl 5 rfl) ?_
  refine hc_V (As := [.int (b0), .int (b1), .int (b2), .int (b3), .int (b4)]) hx hb hml hown hZ.1 hX hl hM (rec_of hC (RA.x hR) rfl) (zm_L_27 hC.1) kv_X6_trip hR rfl rfl ⟨(Nat.le_of_ble_eq_true rfl), (Nat.le_of_ble_eq_true rfl)⟩ ⟨rfl, rfl⟩ (Nat.le_of_ble_eq_true rfl) ⟨(Nat.le_of_ble_eq_true rfl), (Nat.le_of_ble_eq_true rfl)⟩ dL_trip_11 (fun q H1 locs1 ce hz hq hL hce hcv hcl => ?_)
  refine vx_catch (own := RL) hown [⟨0, 16, 19, 13⟩] ⟨0, 16, 23, 21⟩ [⟨0, 16, 27, 15⟩] (hT.trans rfl) (fun z h => by rw [List.mem_singleton.mp h]; exact Or.inr ⟨by decide, _, zc_L_13 hC.1, hZ.2.1⟩) (by decide) (by decide) (zc_L_21 hC.1) (cast_IAE hZ.1) hce hcv hcl ?_
  have hS : va_S (fun q => (ow g q ∨ q = o9) ∨ s.heap.size ≤ q) s.heap H1 locs1 := ⟨hz, fun q h1 _ => hq q h1, fun q h => Or.inr (hL q h)⟩
  refine lv_astore (lv' := [(7, .ref (q)), (0, .ref (g.ad 1 0)), (1, .int (b0)), (2, .int (b1)), (3, .int (b2)), (4, .int (b3)), (5, .int (b4)), (6, .ref (o9))]) hx hb dL_trip_23 hl (by decide) rfl (fun ls hl => ?_)
  refine lv_iconst (v := 2) hx hb dL_trip_25 (by decide) ?_
  exact wr_i hx hb hr hlocks hS ⟨g, f, hR.kept hq, gX.refl g _ _, hO.kept (hq _ ho9), rfl, fun h => absurd h (by decide)⟩ (Nat.le_of_ble_eq_true rfl) (Nat.le_of_ble_eq_true rfl) dL_trip_26
set_option maxRecDepth 100000 in
set_option maxHeartbeats 4000000 in
theorem hth_trip_3 {l : Launch} {E : EE} {S : St} {g : Gh} {b0 b1 b2 b3 b4 : Int32} {o9 : Nat} (hM : TM l E yX6_trip cX6_trip 8 (some .int) (tD 8) [.ref (g.ad 1 0), .int (b0), .int (b1), .int (b2), .int (b3), .int (b4)] (RA E S g) "java/lang/IllegalStateException") : HM l E yL_trip cL_trip 8 [(0, 16, 19, 13), (0, 16, 23, 21), (0, 16, 27, 15)] [.ref (g.ad 1 0), .int (b0), .int (b1), .int (b2), .int (b3), .int (b4), .ref (o9)] g S S o9 3 0 := by
  refine hm_of rfl (Nat.le_of_ble_eq_true rfl) (fun p e s m below meth c ls f hx hb hr hml (hown : s.vm.findClass RL = some m.cls) hZ hX hT hlocks hR hO hN hl => ?_)
  have hC := hZ.1.1
  have hS : va_S (fun q => (ow g q ∨ q = o9) ∨ s.heap.size ≤ q) s.heap s.heap [] := va_S.rf
  have ho9 := hO.lt
  have hl : lv_has ls 8 [(0, .ref (g.ad 1 0)), (1, .int (b0)), (2, .int (b1)), (3, .int (b2)), (4, .int (b3)), (5, .int (b4)), (6, .ref (o9))] := hl
  refine lv_aload hx hb dL_trip_0 (lv_at hl 6 rfl) ?_
  refine lv_iconst (v := 0) hx hb dL_trip_2 (by decide) ?_
  refine lv_aload_n hx hb dL_trip_3 rfl (lv_at hl 0 rfl) ?_
  refine lv_iload_n hx hb dL_trip_4 rfl (lv_at hl 1 rfl) ?_
  refine lv_iload_n hx hb dL_trip_5 rfl (lv_at hl 2 rfl) ?_
  refine lv_iload_n hx hb dL_trip_6 rfl (lv_at hl 3 rfl) ?_
  refine lv_iload hx hb dL_trip_7 (lv_at hl 4 rfl) ?_
  refine lv_iload hx hb dL_trip_9 (lv_at hl 5 rfl) ?_
  refine hc_V (As := [.int (b0), .int (b1), .int (b2), .int (b3), .int (b4)]) hx hb hml hown hZ.1 hX hl hM (rec_of hC (RA.x hR) rfl) (zm_L_27 hC.1) kv_X6_trip hR rfl rfl ⟨(Nat.le_of_ble_eq_true rfl), (Nat.le_of_ble_eq_true rfl)⟩ ⟨rfl, rfl⟩ (Nat.le_of_ble_eq_true rfl) ⟨(Nat.le_of_ble_eq_true rfl), (Nat.le_of_ble_eq_true rfl)⟩ dL_trip_11 (fun q H1 locs1 ce hz hq hL hce hcv hcl => ?_)
  refine vx_catch (own := RL) hown [⟨0, 16, 19, 13⟩, ⟨0, 16, 23, 21⟩] ⟨0, 16, 27, 15⟩ [] (hT.trans rfl) (fun z h => (List.mem_cons.mp h).elim (fun e => by rw [e]; exact Or.inr ⟨by decide, _, zc_L_13 hC.1, hZ.2.2.1⟩) (fun h2 => by rw [List.mem_singleton.mp h2]; exact Or.inr ⟨by decide, _, zc_L_21 hC.1, hZ.2.2.2⟩)) (by decide) (by decide) (zc_L_15 hC.1) (cast_ISE hZ.1) hce hcv hcl ?_
  have hS : va_S (fun q => (ow g q ∨ q = o9) ∨ s.heap.size ≤ q) s.heap H1 locs1 := ⟨hz, fun q h1 _ => hq q h1, fun q h => Or.inr (hL q h)⟩
  refine lv_astore (lv' := [(7, .ref (q)), (0, .ref (g.ad 1 0)), (1, .int (b0)), (2, .int (b1)), (3, .int (b2)), (4, .int (b3)), (5, .int (b4)), (6, .ref (o9))]) hx hb dL_trip_27 hl (by decide) rfl (fun ls hl => ?_)
  refine lv_iconst (v := 3) hx hb dL_trip_29 (by decide) ?_
  exact wr_i hx hb hr hlocks hS ⟨g, f, hR.kept hq, gX.refl g _ _, hO.kept (hq _ ho9), rfl, fun h => absurd h (by decide)⟩ (Nat.le_of_ble_eq_true rfl) (Nat.le_of_ble_eq_true rfl) dL_trip_30
set_option maxRecDepth 100000 in
set_option maxHeartbeats 4000000 in
theorem hok_ofPerson {l : Launch} {E : EE} {S S' : St} {g : Gh} {rm : Room} {b0 b1 : Int32} {a9 : Int32} {o9 : Nat} (hM : WM l E yX6_ofPerson cX6_ofPerson 4 (some .int) rm [.ref (g.ad 1 0), .int (b0), .int (b1)] (RA E S g) (ow g) (CAp E S' g a9)) (hrm : rm.frames ≤ 15 ∧ rm.locals ≤ 480 ∧ rm.cells ≤ 2 ∧ rm.slots ≤ 60) : HM l E yL_ofPerson cL_ofPerson 5 [(0, 10, 13, 13), (0, 10, 17, 21)] [.ref (g.ad 1 0), .int (b0), .int (b1), .ref (o9)] g S S' o9 0 a9.toInt64 := by
  refine hm_of rfl (Nat.le_of_ble_eq_true rfl) (fun p e s m below meth c ls f hx hb hr hml (hown : s.vm.findClass RL = some m.cls) hZ hX hT hlocks hR hO hN hl => ?_)
  have hC := hZ.1.1
  have hS : va_S (fun q => (ow g q ∨ q = o9) ∨ s.heap.size ≤ q) s.heap s.heap [] := va_S.rf
  have ho9 := hO.lt
  have hl : lv_has ls 5 [(0, .ref (g.ad 1 0)), (1, .int (b0)), (2, .int (b1)), (3, .ref (o9))] := hl
  refine lv_aload_n hx hb dL_ofPerson_0 rfl (lv_at hl 3 rfl) ?_
  refine lv_iconst (v := 0) hx hb dL_ofPerson_1 (by decide) ?_
  refine lv_aload_n hx hb dL_ofPerson_2 rfl (lv_at hl 0 rfl) ?_
  refine lv_iload_n hx hb dL_ofPerson_3 rfl (lv_at hl 1 rfl) ?_
  refine lv_iload_n hx hb dL_ofPerson_4 rfl (lv_at hl 2 rfl) ?_
  refine wc_V (As := [.int (b0), .int (b1)]) hx hb hml hown hC hl hM (rec_of hC (RA.x hR) rfl) (zm_L_31 hC.1) kv_X6_ofPerson hR hS (fun q h => h.elim (fun w => Or.inl (Or.inl w)) Or.inr) rfl rfl ⟨by show rm.frames + 1 ≤ 16; omega, by show 8 + (4 + 11) + rm.locals ≤ 520; omega⟩ (Nat.le_of_ble_eq_true rfl) ⟨by show 0 + rm.cells ≤ 2; omega, by show 0 + rm.slots ≤ 60; omega⟩ dL_ofPerson_5 (fun v H1 locs1 hP hz hq hS => ?_)
  obtain ⟨⟨g1, hR1, hgx⟩, rfl⟩ := hP
  have hO : outA E o9 f H1 := hO.kept (hq _ ho9 hN.2)
  refine lv_i2l hx hb dL_ofPerson_8 rfl ?_
  refine g_last (j := 0) hx hb hC hO hS (Or.inl (Or.inr rfl)) ⟨rfl, by decide, by decide⟩ dL_ofPerson_9 (fun H2 locs2 hO hz2 hq2 hS => ?_)
  have hR2 := ra_keptO hR1 hgx hN ho9 hq2
  refine lv_goto (tgt := 21) hx hb dL_ofPerson_10 (by decide) ?_
  refine lv_iconst (v := 0) hx hb dL_ofPerson_21 (by decide) ?_
  exact wr_i hx hb hr hlocks hS ⟨g1, _, hR2, by rw [hz2]; exact hgx, hO, rfl, (fun _ => rfl)⟩ (by show 0 + rm.cells ≤ 2; omega) (by show 0 + rm.slots ≤ 60; omega) dL_ofPerson_22
set_option maxRecDepth 100000 in
set_option maxHeartbeats 4000000 in
theorem hth_ofPerson_1 {l : Launch} {E : EE} {S : St} {g : Gh} {b0 b1 : Int32} {o9 : Nat} (hM : TM l E yX6_ofPerson cX6_ofPerson 4 (some .int) (tD 8) [.ref (g.ad 1 0), .int (b0), .int (b1)] (RA E S g) "java/lang/IndexOutOfBoundsException") : HM l E yL_ofPerson cL_ofPerson 5 [(0, 10, 13, 13), (0, 10, 17, 21)] [.ref (g.ad 1 0), .int (b0), .int (b1), .ref (o9)] g S S o9 1 0 := by
  refine hm_of rfl (Nat.le_of_ble_eq_true rfl) (fun p e s m below meth c ls f hx hb hr hml (hown : s.vm.findClass RL = some m.cls) hZ hX hT hlocks hR hO hN hl => ?_)
  have hC := hZ.1.1
  have hS : va_S (fun q => (ow g q ∨ q = o9) ∨ s.heap.size ≤ q) s.heap s.heap [] := va_S.rf
  have ho9 := hO.lt
  have hl : lv_has ls 5 [(0, .ref (g.ad 1 0)), (1, .int (b0)), (2, .int (b1)), (3, .ref (o9))] := hl
  refine lv_aload_n hx hb dL_ofPerson_0 rfl (lv_at hl 3 rfl) ?_
  refine lv_iconst (v := 0) hx hb dL_ofPerson_1 (by decide) ?_
  refine lv_aload_n hx hb dL_ofPerson_2 rfl (lv_at hl 0 rfl) ?_
  refine lv_iload_n hx hb dL_ofPerson_3 rfl (lv_at hl 1 rfl) ?_
  refine lv_iload_n hx hb dL_ofPerson_4 rfl (lv_at hl 2 rfl) ?_
  refine hc_V (As := [.int (b0), .int (b1)]) hx hb hml hown hZ.1 hX hl hM (rec_of hC (RA.x hR) rfl) (zm_L_31 hC.1) kv_X6_ofPerson hR rfl rfl ⟨(Nat.le_of_ble_eq_true rfl), (Nat.le_of_ble_eq_true rfl)⟩ ⟨rfl, rfl⟩ (Nat.le_of_ble_eq_true rfl) ⟨(Nat.le_of_ble_eq_true rfl), (Nat.le_of_ble_eq_true rfl)⟩ dL_ofPerson_5 (fun q H1 locs1 ce hz hq hL hce hcv hcl => ?_)
  refine vx_catch (own := RL) hown [] ⟨0, 10, 13, 13⟩ [⟨0, 10, 17, 21⟩] (hT.trans rfl) (fun z h => by cases h) (by decide) (by decide) (zc_L_13 hC.1) (cast_IOOBE hZ.1) hce hcv hcl ?_
  have hS : va_S (fun q => (ow g q ∨ q = o9) ∨ s.heap.size ≤ q) s.heap H1 locs1 := ⟨hz, fun q h1 _ => hq q h1, fun q h => Or.inr (hL q h)⟩
  refine lv_astore (lv' := [(4, .ref (q)), (0, .ref (g.ad 1 0)), (1, .int (b0)), (2, .int (b1)), (3, .ref (o9))]) hx hb dL_ofPerson_13 hl (by decide) rfl (fun ls hl => ?_)
  refine lv_iconst (v := 1) hx hb dL_ofPerson_15 (by decide) ?_
  exact wr_i hx hb hr hlocks hS ⟨g, f, hR.kept hq, gX.refl g _ _, hO.kept (hq _ ho9), rfl, fun h => absurd h (by decide)⟩ (Nat.le_of_ble_eq_true rfl) (Nat.le_of_ble_eq_true rfl) dL_ofPerson_16
set_option maxRecDepth 100000 in
set_option maxHeartbeats 4000000 in
theorem hth_ofPerson_2 {l : Launch} {E : EE} {S : St} {g : Gh} {b0 b1 : Int32} {o9 : Nat} (hM : TM l E yX6_ofPerson cX6_ofPerson 4 (some .int) (tD 8) [.ref (g.ad 1 0), .int (b0), .int (b1)] (RA E S g) "java/lang/IllegalArgumentException") : HM l E yL_ofPerson cL_ofPerson 5 [(0, 10, 13, 13), (0, 10, 17, 21)] [.ref (g.ad 1 0), .int (b0), .int (b1), .ref (o9)] g S S o9 2 0 := by
  refine hm_of rfl (Nat.le_of_ble_eq_true rfl) (fun p e s m below meth c ls f hx hb hr hml (hown : s.vm.findClass RL = some m.cls) hZ hX hT hlocks hR hO hN hl => ?_)
  have hC := hZ.1.1
  have hS : va_S (fun q => (ow g q ∨ q = o9) ∨ s.heap.size ≤ q) s.heap s.heap [] := va_S.rf
  have ho9 := hO.lt
  have hl : lv_has ls 5 [(0, .ref (g.ad 1 0)), (1, .int (b0)), (2, .int (b1)), (3, .ref (o9))] := hl
  refine lv_aload_n hx hb dL_ofPerson_0 rfl (lv_at hl 3 rfl) ?_
  refine lv_iconst (v := 0) hx hb dL_ofPerson_1 (by decide) ?_
  refine lv_aload_n hx hb dL_ofPerson_2 rfl (lv_at hl 0 rfl) ?_
  refine lv_iload_n hx hb dL_ofPerson_3 rfl (lv_at hl 1 rfl) ?_
  refine lv_iload_n hx hb dL_ofPerson_4 rfl (lv_at hl 2 rfl) ?_
  refine hc_V (As := [.int (b0), .int (b1)]) hx hb hml hown hZ.1 hX hl hM (rec_of hC (RA.x hR) rfl) (zm_L_31 hC.1) kv_X6_ofPerson hR rfl rfl ⟨(Nat.le_of_ble_eq_true rfl), (Nat.le_of_ble_eq_true rfl)⟩ ⟨rfl, rfl⟩ (Nat.le_of_ble_eq_true rfl) ⟨(Nat.le_of_ble_eq_true rfl), (Nat.le_of_ble_eq_true rfl)⟩ dL_ofPerson_5 (fun q H1 locs1 ce hz hq hL hce hcv hcl => ?_)
  refine vx_catch (own := RL) hown [⟨0, 10, 13, 13⟩] ⟨0, 10, 17, 21⟩ [] (hT.trans rfl) (fun z h => by rw [List.mem_singleton.mp h]; exact Or.inr ⟨by decide, _, zc_L_13 hC.1, hZ.2.1⟩) (by decide) (by decide) (zc_L_21 hC.1) (cast_IAE hZ.1) hce hcv hcl ?_
  have hS : va_S (fun q => (ow g q ∨ q = o9) ∨ s.heap.size ≤ q) s.heap H1 locs1 := ⟨hz, fun q h1 _ => hq q h1, fun q h => Or.inr (hL q h)⟩
  refine lv_astore (lv' := [(4, .ref (q)), (0, .ref (g.ad 1 0)), (1, .int (b0)), (2, .int (b1)), (3, .ref (o9))]) hx hb dL_ofPerson_17 hl (by decide) rfl (fun ls hl => ?_)
  refine lv_iconst (v := 2) hx hb dL_ofPerson_19 (by decide) ?_
  exact wr_i hx hb hr hlocks hS ⟨g, f, hR.kept hq, gX.refl g _ _, hO.kept (hq _ ho9), rfl, fun h => absurd h (by decide)⟩ (Nat.le_of_ble_eq_true rfl) (Nat.le_of_ble_eq_true rfl) dL_ofPerson_20
set_option maxRecDepth 100000 in
set_option maxHeartbeats 4000000 in
theorem hok_maySpend {l : Launch} {E : EE} {S S' : St} {g : Gh} {rm : Room} {b0 b1 b2 : Int32} {a9 : Int32} {o9 : Nat} (hM : WM l E yX6_maySpend cX6_maySpend 5 (some .int) rm [.ref (g.ad 1 0), .int (b0), .int (b1), .int (b2)] (RA E S g) (ow g) (CAp E S' g a9)) (hrm : rm.frames ≤ 15 ∧ rm.locals ≤ 480 ∧ rm.cells ≤ 2 ∧ rm.slots ≤ 60) : HM l E yL_maySpend cL_maySpend 6 [(0, 12, 15, 13)] [.ref (g.ad 1 0), .int (b0), .int (b1), .int (b2), .ref (o9)] g S S' o9 0 a9.toInt64 := by
  refine hm_of rfl (Nat.le_of_ble_eq_true rfl) (fun p e s m below meth c ls f hx hb hr hml (hown : s.vm.findClass RL = some m.cls) hZ hX hT hlocks hR hO hN hl => ?_)
  have hC := hZ.1.1
  have hS : va_S (fun q => (ow g q ∨ q = o9) ∨ s.heap.size ≤ q) s.heap s.heap [] := va_S.rf
  have ho9 := hO.lt
  have hl : lv_has ls 6 [(0, .ref (g.ad 1 0)), (1, .int (b0)), (2, .int (b1)), (3, .int (b2)), (4, .ref (o9))] := hl
  refine lv_aload hx hb dL_maySpend_0 (lv_at hl 4 rfl) ?_
  refine lv_iconst (v := 0) hx hb dL_maySpend_2 (by decide) ?_
  refine lv_aload_n hx hb dL_maySpend_3 rfl (lv_at hl 0 rfl) ?_
  refine lv_iload_n hx hb dL_maySpend_4 rfl (lv_at hl 1 rfl) ?_
  refine lv_iload_n hx hb dL_maySpend_5 rfl (lv_at hl 2 rfl) ?_
  refine lv_iload_n hx hb dL_maySpend_6 rfl (lv_at hl 3 rfl) ?_
  refine wc_V (As := [.int (b0), .int (b1), .int (b2)]) hx hb hml hown hC hl hM (rec_of hC (RA.x hR) rfl) (zm_L_35 hC.1) kv_X6_maySpend hR hS (fun q h => h.elim (fun w => Or.inl (Or.inl w)) Or.inr) rfl rfl ⟨by show rm.frames + 1 ≤ 16; omega, by show 8 + (5 + 11) + rm.locals ≤ 520; omega⟩ (Nat.le_of_ble_eq_true rfl) ⟨by show 0 + rm.cells ≤ 2; omega, by show 0 + rm.slots ≤ 60; omega⟩ dL_maySpend_7 (fun v H1 locs1 hP hz hq hS => ?_)
  obtain ⟨⟨g1, hR1, hgx⟩, rfl⟩ := hP
  have hO : outA E o9 f H1 := hO.kept (hq _ ho9 hN.2)
  refine lv_i2l hx hb dL_maySpend_10 rfl ?_
  refine g_last (j := 0) hx hb hC hO hS (Or.inl (Or.inr rfl)) ⟨rfl, by decide, by decide⟩ dL_maySpend_11 (fun H2 locs2 hO hz2 hq2 hS => ?_)
  have hR2 := ra_keptO hR1 hgx hN ho9 hq2
  refine lv_goto (tgt := 19) hx hb dL_maySpend_12 (by decide) ?_
  refine lv_iconst (v := 0) hx hb dL_maySpend_19 (by decide) ?_
  exact wr_i hx hb hr hlocks hS ⟨g1, _, hR2, by rw [hz2]; exact hgx, hO, rfl, (fun _ => rfl)⟩ (by show 0 + rm.cells ≤ 2; omega) (by show 0 + rm.slots ≤ 60; omega) dL_maySpend_20
set_option maxRecDepth 100000 in
set_option maxHeartbeats 4000000 in
theorem hth_maySpend_1 {l : Launch} {E : EE} {S : St} {g : Gh} {b0 b1 b2 : Int32} {o9 : Nat} (hM : TM l E yX6_maySpend cX6_maySpend 5 (some .int) (tD 8) [.ref (g.ad 1 0), .int (b0), .int (b1), .int (b2)] (RA E S g) "java/lang/IndexOutOfBoundsException") : HM l E yL_maySpend cL_maySpend 6 [(0, 12, 15, 13)] [.ref (g.ad 1 0), .int (b0), .int (b1), .int (b2), .ref (o9)] g S S o9 1 0 := by
  refine hm_of rfl (Nat.le_of_ble_eq_true rfl) (fun p e s m below meth c ls f hx hb hr hml (hown : s.vm.findClass RL = some m.cls) hZ hX hT hlocks hR hO hN hl => ?_)
  have hC := hZ.1.1
  have hS : va_S (fun q => (ow g q ∨ q = o9) ∨ s.heap.size ≤ q) s.heap s.heap [] := va_S.rf
  have ho9 := hO.lt
  have hl : lv_has ls 6 [(0, .ref (g.ad 1 0)), (1, .int (b0)), (2, .int (b1)), (3, .int (b2)), (4, .ref (o9))] := hl
  refine lv_aload hx hb dL_maySpend_0 (lv_at hl 4 rfl) ?_
  refine lv_iconst (v := 0) hx hb dL_maySpend_2 (by decide) ?_
  refine lv_aload_n hx hb dL_maySpend_3 rfl (lv_at hl 0 rfl) ?_
  refine lv_iload_n hx hb dL_maySpend_4 rfl (lv_at hl 1 rfl) ?_
  refine lv_iload_n hx hb dL_maySpend_5 rfl (lv_at hl 2 rfl) ?_
  refine lv_iload_n hx hb dL_maySpend_6 rfl (lv_at hl 3 rfl) ?_
  refine hc_V (As := [.int (b0), .int (b1), .int (b2)]) hx hb hml hown hZ.1 hX hl hM (rec_of hC (RA.x hR) rfl) (zm_L_35 hC.1) kv_X6_maySpend hR rfl rfl ⟨(Nat.le_of_ble_eq_true rfl), (Nat.le_of_ble_eq_true rfl)⟩ ⟨rfl, rfl⟩ (Nat.le_of_ble_eq_true rfl) ⟨(Nat.le_of_ble_eq_true rfl), (Nat.le_of_ble_eq_true rfl)⟩ dL_maySpend_7 (fun q H1 locs1 ce hz hq hL hce hcv hcl => ?_)
  refine vx_catch (own := RL) hown [] ⟨0, 12, 15, 13⟩ [] (hT.trans rfl) (fun z h => by cases h) (by decide) (by decide) (zc_L_13 hC.1) (cast_IOOBE hZ.1) hce hcv hcl ?_
  have hS : va_S (fun q => (ow g q ∨ q = o9) ∨ s.heap.size ≤ q) s.heap H1 locs1 := ⟨hz, fun q h1 _ => hq q h1, fun q h => Or.inr (hL q h)⟩
  refine lv_astore (lv' := [(5, .ref (q)), (0, .ref (g.ad 1 0)), (1, .int (b0)), (2, .int (b1)), (3, .int (b2)), (4, .ref (o9))]) hx hb dL_maySpend_15 hl (by decide) rfl (fun ls hl => ?_)
  refine lv_iconst (v := 1) hx hb dL_maySpend_17 (by decide) ?_
  exact wr_i hx hb hr hlocks hS ⟨g, f, hR.kept hq, gX.refl g _ _, hO.kept (hq _ ho9), rfl, fun h => absurd h (by decide)⟩ (Nat.le_of_ble_eq_true rfl) (Nat.le_of_ble_eq_true rfl) dL_maySpend_18
set_option maxRecDepth 100000 in
set_option maxHeartbeats 4000000 in
theorem hok_plan {l : Launch} {E : EE} {S S' : St} {g : Gh} {rm : Room} {b0 b1 b2 : Int32} {a9 : Int32} {o9 : Nat} (hM : WM l E yX6_plan cX6_plan 4 (some .int) rm [.ref (g.ad 1 0), .int (b0), .int (b1), .int (b2)] (RA E S g) (ow g) (CAp E S' g a9)) (hrm : rm.frames ≤ 15 ∧ rm.locals ≤ 480 ∧ rm.cells ≤ 2 ∧ rm.slots ≤ 60) : HM l E yL_plan cL_plan 6 [(0, 12, 15, 13), (0, 12, 19, 21)] [.ref (g.ad 1 0), .int (b0), .int (b1), .int (b2), .ref (o9)] g S S' o9 0 a9.toInt64 := by
  refine hm_of rfl (Nat.le_of_ble_eq_true rfl) (fun p e s m below meth c ls f hx hb hr hml (hown : s.vm.findClass RL = some m.cls) hZ hX hT hlocks hR hO hN hl => ?_)
  have hC := hZ.1.1
  have hS : va_S (fun q => (ow g q ∨ q = o9) ∨ s.heap.size ≤ q) s.heap s.heap [] := va_S.rf
  have ho9 := hO.lt
  have hl : lv_has ls 6 [(0, .ref (g.ad 1 0)), (1, .int (b0)), (2, .int (b1)), (3, .int (b2)), (4, .ref (o9))] := hl
  refine lv_aload hx hb dL_plan_0 (lv_at hl 4 rfl) ?_
  refine lv_iconst (v := 0) hx hb dL_plan_2 (by decide) ?_
  refine lv_aload_n hx hb dL_plan_3 rfl (lv_at hl 0 rfl) ?_
  refine lv_iload_n hx hb dL_plan_4 rfl (lv_at hl 1 rfl) ?_
  refine lv_iload_n hx hb dL_plan_5 rfl (lv_at hl 2 rfl) ?_
  refine lv_iload_n hx hb dL_plan_6 rfl (lv_at hl 3 rfl) ?_
  refine wc_V (As := [.int (b0), .int (b1), .int (b2)]) hx hb hml hown hC hl hM (rec_of hC (RA.x hR) rfl) (zm_L_38 hC.1) kv_X6_plan hR hS (fun q h => h.elim (fun w => Or.inl (Or.inl w)) Or.inr) rfl rfl ⟨by show rm.frames + 1 ≤ 16; omega, by show 8 + (4 + 11) + rm.locals ≤ 520; omega⟩ (Nat.le_of_ble_eq_true rfl) ⟨by show 0 + rm.cells ≤ 2; omega, by show 0 + rm.slots ≤ 60; omega⟩ dL_plan_7 (fun v H1 locs1 hP hz hq hS => ?_)
  obtain ⟨⟨g1, hR1, hgx⟩, rfl⟩ := hP
  have hO : outA E o9 f H1 := hO.kept (hq _ ho9 hN.2)
  refine lv_i2l hx hb dL_plan_10 rfl ?_
  refine g_last (j := 0) hx hb hC hO hS (Or.inl (Or.inr rfl)) ⟨rfl, by decide, by decide⟩ dL_plan_11 (fun H2 locs2 hO hz2 hq2 hS => ?_)
  have hR2 := ra_keptO hR1 hgx hN ho9 hq2
  refine lv_goto (tgt := 23) hx hb dL_plan_12 (by decide) ?_
  refine lv_iconst (v := 0) hx hb dL_plan_23 (by decide) ?_
  exact wr_i hx hb hr hlocks hS ⟨g1, _, hR2, by rw [hz2]; exact hgx, hO, rfl, (fun _ => rfl)⟩ (by show 0 + rm.cells ≤ 2; omega) (by show 0 + rm.slots ≤ 60; omega) dL_plan_24
set_option maxRecDepth 100000 in
set_option maxHeartbeats 4000000 in
theorem hth_plan_1 {l : Launch} {E : EE} {S : St} {g : Gh} {b0 b1 b2 : Int32} {o9 : Nat} (hM : TM l E yX6_plan cX6_plan 4 (some .int) (tD 8) [.ref (g.ad 1 0), .int (b0), .int (b1), .int (b2)] (RA E S g) "java/lang/IndexOutOfBoundsException") : HM l E yL_plan cL_plan 6 [(0, 12, 15, 13), (0, 12, 19, 21)] [.ref (g.ad 1 0), .int (b0), .int (b1), .int (b2), .ref (o9)] g S S o9 1 0 := by
  refine hm_of rfl (Nat.le_of_ble_eq_true rfl) (fun p e s m below meth c ls f hx hb hr hml (hown : s.vm.findClass RL = some m.cls) hZ hX hT hlocks hR hO hN hl => ?_)
  have hC := hZ.1.1
  have hS : va_S (fun q => (ow g q ∨ q = o9) ∨ s.heap.size ≤ q) s.heap s.heap [] := va_S.rf
  have ho9 := hO.lt
  have hl : lv_has ls 6 [(0, .ref (g.ad 1 0)), (1, .int (b0)), (2, .int (b1)), (3, .int (b2)), (4, .ref (o9))] := hl
  refine lv_aload hx hb dL_plan_0 (lv_at hl 4 rfl) ?_
  refine lv_iconst (v := 0) hx hb dL_plan_2 (by decide) ?_
  refine lv_aload_n hx hb dL_plan_3 rfl (lv_at hl 0 rfl) ?_
  refine lv_iload_n hx hb dL_plan_4 rfl (lv_at hl 1 rfl) ?_
  refine lv_iload_n hx hb dL_plan_5 rfl (lv_at hl 2 rfl) ?_
  refine lv_iload_n hx hb dL_plan_6 rfl (lv_at hl 3 rfl) ?_
  refine hc_V (As := [.int (b0), .int (b1), .int (b2)]) hx hb hml hown hZ.1 hX hl hM (rec_of hC (RA.x hR) rfl) (zm_L_38 hC.1) kv_X6_plan hR rfl rfl ⟨(Nat.le_of_ble_eq_true rfl), (Nat.le_of_ble_eq_true rfl)⟩ ⟨rfl, rfl⟩ (Nat.le_of_ble_eq_true rfl) ⟨(Nat.le_of_ble_eq_true rfl), (Nat.le_of_ble_eq_true rfl)⟩ dL_plan_7 (fun q H1 locs1 ce hz hq hL hce hcv hcl => ?_)
  refine vx_catch (own := RL) hown [] ⟨0, 12, 15, 13⟩ [⟨0, 12, 19, 21⟩] (hT.trans rfl) (fun z h => by cases h) (by decide) (by decide) (zc_L_13 hC.1) (cast_IOOBE hZ.1) hce hcv hcl ?_
  have hS : va_S (fun q => (ow g q ∨ q = o9) ∨ s.heap.size ≤ q) s.heap H1 locs1 := ⟨hz, fun q h1 _ => hq q h1, fun q h => Or.inr (hL q h)⟩
  refine lv_astore (lv' := [(5, .ref (q)), (0, .ref (g.ad 1 0)), (1, .int (b0)), (2, .int (b1)), (3, .int (b2)), (4, .ref (o9))]) hx hb dL_plan_15 hl (by decide) rfl (fun ls hl => ?_)
  refine lv_iconst (v := 1) hx hb dL_plan_17 (by decide) ?_
  exact wr_i hx hb hr hlocks hS ⟨g, f, hR.kept hq, gX.refl g _ _, hO.kept (hq _ ho9), rfl, fun h => absurd h (by decide)⟩ (Nat.le_of_ble_eq_true rfl) (Nat.le_of_ble_eq_true rfl) dL_plan_18
set_option maxRecDepth 100000 in
set_option maxHeartbeats 4000000 in
theorem hth_plan_2 {l : Launch} {E : EE} {S : St} {g : Gh} {b0 b1 b2 : Int32} {o9 : Nat} (hM : TM l E yX6_plan cX6_plan 4 (some .int) (tD 8) [.ref (g.ad 1 0), .int (b0), .int (b1), .int (b2)] (RA E S g) "java/lang/IllegalArgumentException") : HM l E yL_plan cL_plan 6 [(0, 12, 15, 13), (0, 12, 19, 21)] [.ref (g.ad 1 0), .int (b0), .int (b1), .int (b2), .ref (o9)] g S S o9 2 0 := by
  refine hm_of rfl (Nat.le_of_ble_eq_true rfl) (fun p e s m below meth c ls f hx hb hr hml (hown : s.vm.findClass RL = some m.cls) hZ hX hT hlocks hR hO hN hl => ?_)
  have hC := hZ.1.1
  have hS : va_S (fun q => (ow g q ∨ q = o9) ∨ s.heap.size ≤ q) s.heap s.heap [] := va_S.rf
  have ho9 := hO.lt
  have hl : lv_has ls 6 [(0, .ref (g.ad 1 0)), (1, .int (b0)), (2, .int (b1)), (3, .int (b2)), (4, .ref (o9))] := hl
  refine lv_aload hx hb dL_plan_0 (lv_at hl 4 rfl) ?_
  refine lv_iconst (v := 0) hx hb dL_plan_2 (by decide) ?_
  refine lv_aload_n hx hb dL_plan_3 rfl (lv_at hl 0 rfl) ?_
  refine lv_iload_n hx hb dL_plan_4 rfl (lv_at hl 1 rfl) ?_
  refine lv_iload_n hx hb dL_plan_5 rfl (lv_at hl 2 rfl) ?_
  refine lv_iload_n hx hb dL_plan_6 rfl (lv_at hl 3 rfl) ?_
  refine hc_V (As := [.int (b0), .int (b1), .int (b2)]) hx hb hml hown hZ.1 hX hl hM (rec_of hC (RA.x hR) rfl) (zm_L_38 hC.1) kv_X6_plan hR rfl rfl ⟨(Nat.le_of_ble_eq_true rfl), (Nat.le_of_ble_eq_true rfl)⟩ ⟨rfl, rfl⟩ (Nat.le_of_ble_eq_true rfl) ⟨(Nat.le_of_ble_eq_true rfl), (Nat.le_of_ble_eq_true rfl)⟩ dL_plan_7 (fun q H1 locs1 ce hz hq hL hce hcv hcl => ?_)
  refine vx_catch (own := RL) hown [⟨0, 12, 15, 13⟩] ⟨0, 12, 19, 21⟩ [] (hT.trans rfl) (fun z h => by rw [List.mem_singleton.mp h]; exact Or.inr ⟨by decide, _, zc_L_13 hC.1, hZ.2.1⟩) (by decide) (by decide) (zc_L_21 hC.1) (cast_IAE hZ.1) hce hcv hcl ?_
  have hS : va_S (fun q => (ow g q ∨ q = o9) ∨ s.heap.size ≤ q) s.heap H1 locs1 := ⟨hz, fun q h1 _ => hq q h1, fun q h => Or.inr (hL q h)⟩
  refine lv_astore (lv' := [(5, .ref (q)), (0, .ref (g.ad 1 0)), (1, .int (b0)), (2, .int (b1)), (3, .int (b2)), (4, .ref (o9))]) hx hb dL_plan_19 hl (by decide) rfl (fun ls hl => ?_)
  refine lv_iconst (v := 2) hx hb dL_plan_21 (by decide) ?_
  exact wr_i hx hb hr hlocks hS ⟨g, f, hR.kept hq, gX.refl g _ _, hO.kept (hq _ ho9), rfl, fun h => absurd h (by decide)⟩ (Nat.le_of_ble_eq_true rfl) (Nat.le_of_ble_eq_true rfl) dL_plan_22
set_option maxRecDepth 100000 in
set_option maxHeartbeats 4000000 in
theorem hok_carry {l : Launch} {E : EE} {S S' : St} {g : Gh} {rm : Room} {b0 b1 : Int32} {a9 : Int32} {o9 : Nat} (hM : WM l E yX6_carry cX6_carry 3 (some .int) rm [.ref (g.ad 1 0), .int (b0), .int (b1)] (RA E S g) (ow g) (CAp E S' g a9)) (hrm : rm.frames ≤ 15 ∧ rm.locals ≤ 480 ∧ rm.cells ≤ 2 ∧ rm.slots ≤ 60) : HM l E yL_carry cL_carry 5 [(0, 10, 13, 13), (0, 10, 17, 21)] [.ref (g.ad 1 0), .int (b0), .int (b1), .ref (o9)] g S S' o9 0 a9.toInt64 := by
  refine hm_of rfl (Nat.le_of_ble_eq_true rfl) (fun p e s m below meth c ls f hx hb hr hml (hown : s.vm.findClass RL = some m.cls) hZ hX hT hlocks hR hO hN hl => ?_)
  have hC := hZ.1.1
  have hS : va_S (fun q => (ow g q ∨ q = o9) ∨ s.heap.size ≤ q) s.heap s.heap [] := va_S.rf
  have ho9 := hO.lt
  have hl : lv_has ls 5 [(0, .ref (g.ad 1 0)), (1, .int (b0)), (2, .int (b1)), (3, .ref (o9))] := hl
  refine lv_aload_n hx hb dL_carry_0 rfl (lv_at hl 3 rfl) ?_
  refine lv_iconst (v := 0) hx hb dL_carry_1 (by decide) ?_
  refine lv_aload_n hx hb dL_carry_2 rfl (lv_at hl 0 rfl) ?_
  refine lv_iload_n hx hb dL_carry_3 rfl (lv_at hl 1 rfl) ?_
  refine lv_iload_n hx hb dL_carry_4 rfl (lv_at hl 2 rfl) ?_
  refine wc_V (As := [.int (b0), .int (b1)]) hx hb hml hown hC hl hM (rec_of hC (RA.x hR) rfl) (zm_L_41 hC.1) kv_X6_carry hR hS (fun q h => h.elim (fun w => Or.inl (Or.inl w)) Or.inr) rfl rfl ⟨by show rm.frames + 1 ≤ 16; omega, by show 8 + (3 + 11) + rm.locals ≤ 520; omega⟩ (Nat.le_of_ble_eq_true rfl) ⟨by show 0 + rm.cells ≤ 2; omega, by show 0 + rm.slots ≤ 60; omega⟩ dL_carry_5 (fun v H1 locs1 hP hz hq hS => ?_)
  obtain ⟨⟨g1, hR1, hgx⟩, rfl⟩ := hP
  have hO : outA E o9 f H1 := hO.kept (hq _ ho9 hN.2)
  refine lv_i2l hx hb dL_carry_8 rfl ?_
  refine g_last (j := 0) hx hb hC hO hS (Or.inl (Or.inr rfl)) ⟨rfl, by decide, by decide⟩ dL_carry_9 (fun H2 locs2 hO hz2 hq2 hS => ?_)
  have hR2 := ra_keptO hR1 hgx hN ho9 hq2
  refine lv_goto (tgt := 21) hx hb dL_carry_10 (by decide) ?_
  refine lv_iconst (v := 0) hx hb dL_carry_21 (by decide) ?_
  exact wr_i hx hb hr hlocks hS ⟨g1, _, hR2, by rw [hz2]; exact hgx, hO, rfl, (fun _ => rfl)⟩ (by show 0 + rm.cells ≤ 2; omega) (by show 0 + rm.slots ≤ 60; omega) dL_carry_22
set_option maxRecDepth 100000 in
set_option maxHeartbeats 4000000 in
theorem hth_carry_1 {l : Launch} {E : EE} {S : St} {g : Gh} {b0 b1 : Int32} {o9 : Nat} (hM : TM l E yX6_carry cX6_carry 3 (some .int) (tD 8) [.ref (g.ad 1 0), .int (b0), .int (b1)] (RA E S g) "java/lang/IndexOutOfBoundsException") : HM l E yL_carry cL_carry 5 [(0, 10, 13, 13), (0, 10, 17, 21)] [.ref (g.ad 1 0), .int (b0), .int (b1), .ref (o9)] g S S o9 1 0 := by
  refine hm_of rfl (Nat.le_of_ble_eq_true rfl) (fun p e s m below meth c ls f hx hb hr hml (hown : s.vm.findClass RL = some m.cls) hZ hX hT hlocks hR hO hN hl => ?_)
  have hC := hZ.1.1
  have hS : va_S (fun q => (ow g q ∨ q = o9) ∨ s.heap.size ≤ q) s.heap s.heap [] := va_S.rf
  have ho9 := hO.lt
  have hl : lv_has ls 5 [(0, .ref (g.ad 1 0)), (1, .int (b0)), (2, .int (b1)), (3, .ref (o9))] := hl
  refine lv_aload_n hx hb dL_carry_0 rfl (lv_at hl 3 rfl) ?_
  refine lv_iconst (v := 0) hx hb dL_carry_1 (by decide) ?_
  refine lv_aload_n hx hb dL_carry_2 rfl (lv_at hl 0 rfl) ?_
  refine lv_iload_n hx hb dL_carry_3 rfl (lv_at hl 1 rfl) ?_
  refine lv_iload_n hx hb dL_carry_4 rfl (lv_at hl 2 rfl) ?_
  refine hc_V (As := [.int (b0), .int (b1)]) hx hb hml hown hZ.1 hX hl hM (rec_of hC (RA.x hR) rfl) (zm_L_41 hC.1) kv_X6_carry hR rfl rfl ⟨(Nat.le_of_ble_eq_true rfl), (Nat.le_of_ble_eq_true rfl)⟩ ⟨rfl, rfl⟩ (Nat.le_of_ble_eq_true rfl) ⟨(Nat.le_of_ble_eq_true rfl), (Nat.le_of_ble_eq_true rfl)⟩ dL_carry_5 (fun q H1 locs1 ce hz hq hL hce hcv hcl => ?_)
  refine vx_catch (own := RL) hown [] ⟨0, 10, 13, 13⟩ [⟨0, 10, 17, 21⟩] (hT.trans rfl) (fun z h => by cases h) (by decide) (by decide) (zc_L_13 hC.1) (cast_IOOBE hZ.1) hce hcv hcl ?_
  have hS : va_S (fun q => (ow g q ∨ q = o9) ∨ s.heap.size ≤ q) s.heap H1 locs1 := ⟨hz, fun q h1 _ => hq q h1, fun q h => Or.inr (hL q h)⟩
  refine lv_astore (lv' := [(4, .ref (q)), (0, .ref (g.ad 1 0)), (1, .int (b0)), (2, .int (b1)), (3, .ref (o9))]) hx hb dL_carry_13 hl (by decide) rfl (fun ls hl => ?_)
  refine lv_iconst (v := 1) hx hb dL_carry_15 (by decide) ?_
  exact wr_i hx hb hr hlocks hS ⟨g, f, hR.kept hq, gX.refl g _ _, hO.kept (hq _ ho9), rfl, fun h => absurd h (by decide)⟩ (Nat.le_of_ble_eq_true rfl) (Nat.le_of_ble_eq_true rfl) dL_carry_16
set_option maxRecDepth 100000 in
set_option maxHeartbeats 4000000 in
theorem hth_carry_2 {l : Launch} {E : EE} {S : St} {g : Gh} {b0 b1 : Int32} {o9 : Nat} (hM : TM l E yX6_carry cX6_carry 3 (some .int) (tD 8) [.ref (g.ad 1 0), .int (b0), .int (b1)] (RA E S g) "java/lang/IllegalArgumentException") : HM l E yL_carry cL_carry 5 [(0, 10, 13, 13), (0, 10, 17, 21)] [.ref (g.ad 1 0), .int (b0), .int (b1), .ref (o9)] g S S o9 2 0 := by
  refine hm_of rfl (Nat.le_of_ble_eq_true rfl) (fun p e s m below meth c ls f hx hb hr hml (hown : s.vm.findClass RL = some m.cls) hZ hX hT hlocks hR hO hN hl => ?_)
  have hC := hZ.1.1
  have hS : va_S (fun q => (ow g q ∨ q = o9) ∨ s.heap.size ≤ q) s.heap s.heap [] := va_S.rf
  have ho9 := hO.lt
  have hl : lv_has ls 5 [(0, .ref (g.ad 1 0)), (1, .int (b0)), (2, .int (b1)), (3, .ref (o9))] := hl
  refine lv_aload_n hx hb dL_carry_0 rfl (lv_at hl 3 rfl) ?_
  refine lv_iconst (v := 0) hx hb dL_carry_1 (by decide) ?_
  refine lv_aload_n hx hb dL_carry_2 rfl (lv_at hl 0 rfl) ?_
  refine lv_iload_n hx hb dL_carry_3 rfl (lv_at hl 1 rfl) ?_
  refine lv_iload_n hx hb dL_carry_4 rfl (lv_at hl 2 rfl) ?_
  refine hc_V (As := [.int (b0), .int (b1)]) hx hb hml hown hZ.1 hX hl hM (rec_of hC (RA.x hR) rfl) (zm_L_41 hC.1) kv_X6_carry hR rfl rfl ⟨(Nat.le_of_ble_eq_true rfl), (Nat.le_of_ble_eq_true rfl)⟩ ⟨rfl, rfl⟩ (Nat.le_of_ble_eq_true rfl) ⟨(Nat.le_of_ble_eq_true rfl), (Nat.le_of_ble_eq_true rfl)⟩ dL_carry_5 (fun q H1 locs1 ce hz hq hL hce hcv hcl => ?_)
  refine vx_catch (own := RL) hown [⟨0, 10, 13, 13⟩] ⟨0, 10, 17, 21⟩ [] (hT.trans rfl) (fun z h => by rw [List.mem_singleton.mp h]; exact Or.inr ⟨by decide, _, zc_L_13 hC.1, hZ.2.1⟩) (by decide) (by decide) (zc_L_21 hC.1) (cast_IAE hZ.1) hce hcv hcl ?_
  have hS : va_S (fun q => (ow g q ∨ q = o9) ∨ s.heap.size ≤ q) s.heap H1 locs1 := ⟨hz, fun q h1 _ => hq q h1, fun q h => Or.inr (hL q h)⟩
  refine lv_astore (lv' := [(4, .ref (q)), (0, .ref (g.ad 1 0)), (1, .int (b0)), (2, .int (b1)), (3, .ref (o9))]) hx hb dL_carry_17 hl (by decide) rfl (fun ls hl => ?_)
  refine lv_iconst (v := 2) hx hb dL_carry_19 (by decide) ?_
  exact wr_i hx hb hr hlocks hS ⟨g, f, hR.kept hq, gX.refl g _ _, hO.kept (hq _ ho9), rfl, fun h => absurd h (by decide)⟩ (Nat.le_of_ble_eq_true rfl) (Nat.le_of_ble_eq_true rfl) dL_carry_20
set_option maxRecDepth 100000 in
set_option maxHeartbeats 4000000 in
theorem hok_rate {l : Launch} {E : EE} {S S' : St} {g : Gh} {rm : Room} {b0 b1 b2 : Int32} {a9 : Int32} {o9 : Nat} (hM : WM l E yX6_rate cX6_rate 4 (some .int) rm [.ref (g.ad 1 0), .int (b0), .int (b1), .int (b2)] (RA E S g) (ow g) (CAp E S' g a9)) (hrm : rm.frames ≤ 15 ∧ rm.locals ≤ 480 ∧ rm.cells ≤ 2 ∧ rm.slots ≤ 60) : HM l E yL_rate cL_rate 6 [(0, 12, 15, 13), (0, 12, 19, 21)] [.ref (g.ad 1 0), .int (b0), .int (b1), .int (b2), .ref (o9)] g S S' o9 0 a9.toInt64 := by
  refine hm_of rfl (Nat.le_of_ble_eq_true rfl) (fun p e s m below meth c ls f hx hb hr hml (hown : s.vm.findClass RL = some m.cls) hZ hX hT hlocks hR hO hN hl => ?_)
  have hC := hZ.1.1
  have hS : va_S (fun q => (ow g q ∨ q = o9) ∨ s.heap.size ≤ q) s.heap s.heap [] := va_S.rf
  have ho9 := hO.lt
  have hl : lv_has ls 6 [(0, .ref (g.ad 1 0)), (1, .int (b0)), (2, .int (b1)), (3, .int (b2)), (4, .ref (o9))] := hl
  refine lv_aload hx hb dL_rate_0 (lv_at hl 4 rfl) ?_
  refine lv_iconst (v := 0) hx hb dL_rate_2 (by decide) ?_
  refine lv_aload_n hx hb dL_rate_3 rfl (lv_at hl 0 rfl) ?_
  refine lv_iload_n hx hb dL_rate_4 rfl (lv_at hl 1 rfl) ?_
  refine lv_iload_n hx hb dL_rate_5 rfl (lv_at hl 2 rfl) ?_
  refine lv_iload_n hx hb dL_rate_6 rfl (lv_at hl 3 rfl) ?_
  refine wc_V (As := [.int (b0), .int (b1), .int (b2)]) hx hb hml hown hC hl hM (rec_of hC (RA.x hR) rfl) (zm_L_44 hC.1) kv_X6_rate hR hS (fun q h => h.elim (fun w => Or.inl (Or.inl w)) Or.inr) rfl rfl ⟨by show rm.frames + 1 ≤ 16; omega, by show 8 + (4 + 11) + rm.locals ≤ 520; omega⟩ (Nat.le_of_ble_eq_true rfl) ⟨by show 0 + rm.cells ≤ 2; omega, by show 0 + rm.slots ≤ 60; omega⟩ dL_rate_7 (fun v H1 locs1 hP hz hq hS => ?_)
  obtain ⟨⟨g1, hR1, hgx⟩, rfl⟩ := hP
  have hO : outA E o9 f H1 := hO.kept (hq _ ho9 hN.2)
  refine lv_i2l hx hb dL_rate_10 rfl ?_
  refine g_last (j := 0) hx hb hC hO hS (Or.inl (Or.inr rfl)) ⟨rfl, by decide, by decide⟩ dL_rate_11 (fun H2 locs2 hO hz2 hq2 hS => ?_)
  have hR2 := ra_keptO hR1 hgx hN ho9 hq2
  refine lv_goto (tgt := 23) hx hb dL_rate_12 (by decide) ?_
  refine lv_iconst (v := 0) hx hb dL_rate_23 (by decide) ?_
  exact wr_i hx hb hr hlocks hS ⟨g1, _, hR2, by rw [hz2]; exact hgx, hO, rfl, (fun _ => rfl)⟩ (by show 0 + rm.cells ≤ 2; omega) (by show 0 + rm.slots ≤ 60; omega) dL_rate_24
set_option maxRecDepth 100000 in
set_option maxHeartbeats 4000000 in
theorem hth_rate_1 {l : Launch} {E : EE} {S : St} {g : Gh} {b0 b1 b2 : Int32} {o9 : Nat} (hM : TM l E yX6_rate cX6_rate 4 (some .int) (tD 8) [.ref (g.ad 1 0), .int (b0), .int (b1), .int (b2)] (RA E S g) "java/lang/IndexOutOfBoundsException") : HM l E yL_rate cL_rate 6 [(0, 12, 15, 13), (0, 12, 19, 21)] [.ref (g.ad 1 0), .int (b0), .int (b1), .int (b2), .ref (o9)] g S S o9 1 0 := by
  refine hm_of rfl (Nat.le_of_ble_eq_true rfl) (fun p e s m below meth c ls f hx hb hr hml (hown : s.vm.findClass RL = some m.cls) hZ hX hT hlocks hR hO hN hl => ?_)
  have hC := hZ.1.1
  have hS : va_S (fun q => (ow g q ∨ q = o9) ∨ s.heap.size ≤ q) s.heap s.heap [] := va_S.rf
  have ho9 := hO.lt
  have hl : lv_has ls 6 [(0, .ref (g.ad 1 0)), (1, .int (b0)), (2, .int (b1)), (3, .int (b2)), (4, .ref (o9))] := hl
  refine lv_aload hx hb dL_rate_0 (lv_at hl 4 rfl) ?_
  refine lv_iconst (v := 0) hx hb dL_rate_2 (by decide) ?_
  refine lv_aload_n hx hb dL_rate_3 rfl (lv_at hl 0 rfl) ?_
  refine lv_iload_n hx hb dL_rate_4 rfl (lv_at hl 1 rfl) ?_
  refine lv_iload_n hx hb dL_rate_5 rfl (lv_at hl 2 rfl) ?_
  refine lv_iload_n hx hb dL_rate_6 rfl (lv_at hl 3 rfl) ?_
  refine hc_V (As := [.int (b0), .int (b1), .int (b2)]) hx hb hml hown hZ.1 hX hl hM (rec_of hC (RA.x hR) rfl) (zm_L_44 hC.1) kv_X6_rate hR rfl rfl ⟨(Nat.le_of_ble_eq_true rfl), (Nat.le_of_ble_eq_true rfl)⟩ ⟨rfl, rfl⟩ (Nat.le_of_ble_eq_true rfl) ⟨(Nat.le_of_ble_eq_true rfl), (Nat.le_of_ble_eq_true rfl)⟩ dL_rate_7 (fun q H1 locs1 ce hz hq hL hce hcv hcl => ?_)
  refine vx_catch (own := RL) hown [] ⟨0, 12, 15, 13⟩ [⟨0, 12, 19, 21⟩] (hT.trans rfl) (fun z h => by cases h) (by decide) (by decide) (zc_L_13 hC.1) (cast_IOOBE hZ.1) hce hcv hcl ?_
  have hS : va_S (fun q => (ow g q ∨ q = o9) ∨ s.heap.size ≤ q) s.heap H1 locs1 := ⟨hz, fun q h1 _ => hq q h1, fun q h => Or.inr (hL q h)⟩
  refine lv_astore (lv' := [(5, .ref (q)), (0, .ref (g.ad 1 0)), (1, .int (b0)), (2, .int (b1)), (3, .int (b2)), (4, .ref (o9))]) hx hb dL_rate_15 hl (by decide) rfl (fun ls hl => ?_)
  refine lv_iconst (v := 1) hx hb dL_rate_17 (by decide) ?_
  exact wr_i hx hb hr hlocks hS ⟨g, f, hR.kept hq, gX.refl g _ _, hO.kept (hq _ ho9), rfl, fun h => absurd h (by decide)⟩ (Nat.le_of_ble_eq_true rfl) (Nat.le_of_ble_eq_true rfl) dL_rate_18
set_option maxRecDepth 100000 in
set_option maxHeartbeats 4000000 in
theorem hth_rate_2 {l : Launch} {E : EE} {S : St} {g : Gh} {b0 b1 b2 : Int32} {o9 : Nat} (hM : TM l E yX6_rate cX6_rate 4 (some .int) (tD 8) [.ref (g.ad 1 0), .int (b0), .int (b1), .int (b2)] (RA E S g) "java/lang/IllegalArgumentException") : HM l E yL_rate cL_rate 6 [(0, 12, 15, 13), (0, 12, 19, 21)] [.ref (g.ad 1 0), .int (b0), .int (b1), .int (b2), .ref (o9)] g S S o9 2 0 := by
  refine hm_of rfl (Nat.le_of_ble_eq_true rfl) (fun p e s m below meth c ls f hx hb hr hml (hown : s.vm.findClass RL = some m.cls) hZ hX hT hlocks hR hO hN hl => ?_)
  have hC := hZ.1.1
  have hS : va_S (fun q => (ow g q ∨ q = o9) ∨ s.heap.size ≤ q) s.heap s.heap [] := va_S.rf
  have ho9 := hO.lt
  have hl : lv_has ls 6 [(0, .ref (g.ad 1 0)), (1, .int (b0)), (2, .int (b1)), (3, .int (b2)), (4, .ref (o9))] := hl
  refine lv_aload hx hb dL_rate_0 (lv_at hl 4 rfl) ?_
  refine lv_iconst (v := 0) hx hb dL_rate_2 (by decide) ?_
  refine lv_aload_n hx hb dL_rate_3 rfl (lv_at hl 0 rfl) ?_
  refine lv_iload_n hx hb dL_rate_4 rfl (lv_at hl 1 rfl) ?_
  refine lv_iload_n hx hb dL_rate_5 rfl (lv_at hl 2 rfl) ?_
  refine lv_iload_n hx hb dL_rate_6 rfl (lv_at hl 3 rfl) ?_
  refine hc_V (As := [.int (b0), .int (b1), .int (b2)]) hx hb hml hown hZ.1 hX hl hM (rec_of hC (RA.x hR) rfl) (zm_L_44 hC.1) kv_X6_rate hR rfl rfl ⟨(Nat.le_of_ble_eq_true rfl), (Nat.le_of_ble_eq_true rfl)⟩ ⟨rfl, rfl⟩ (Nat.le_of_ble_eq_true rfl) ⟨(Nat.le_of_ble_eq_true rfl), (Nat.le_of_ble_eq_true rfl)⟩ dL_rate_7 (fun q H1 locs1 ce hz hq hL hce hcv hcl => ?_)
  refine vx_catch (own := RL) hown [⟨0, 12, 15, 13⟩] ⟨0, 12, 19, 21⟩ [] (hT.trans rfl) (fun z h => by rw [List.mem_singleton.mp h]; exact Or.inr ⟨by decide, _, zc_L_13 hC.1, hZ.2.1⟩) (by decide) (by decide) (zc_L_21 hC.1) (cast_IAE hZ.1) hce hcv hcl ?_
  have hS : va_S (fun q => (ow g q ∨ q = o9) ∨ s.heap.size ≤ q) s.heap H1 locs1 := ⟨hz, fun q h1 _ => hq q h1, fun q h => Or.inr (hL q h)⟩
  refine lv_astore (lv' := [(5, .ref (q)), (0, .ref (g.ad 1 0)), (1, .int (b0)), (2, .int (b1)), (3, .int (b2)), (4, .ref (o9))]) hx hb dL_rate_19 hl (by decide) rfl (fun ls hl => ?_)
  refine lv_iconst (v := 2) hx hb dL_rate_21 (by decide) ?_
  exact wr_i hx hb hr hlocks hS ⟨g, f, hR.kept hq, gX.refl g _ _, hO.kept (hq _ ho9), rfl, fun h => absurd h (by decide)⟩ (Nat.le_of_ble_eq_true rfl) (Nat.le_of_ble_eq_true rfl) dL_rate_22
set_option maxRecDepth 100000 in
set_option maxHeartbeats 4000000 in
theorem hok_left {l : Launch} {E : EE} {S S' : St} {g : Gh} {rm : Room} {b0 b1 : Int32} {a9 : Int32} {o9 : Nat} (hM : WM l E yX6_left cX6_left 3 (some .int) rm [.ref (g.ad 1 0), .int (b0), .int (b1)] (RA E S g) (ow g) (CAp E S' g a9)) (hrm : rm.frames ≤ 15 ∧ rm.locals ≤ 480 ∧ rm.cells ≤ 2 ∧ rm.slots ≤ 60) : HM l E yL_left cL_left 5 [(0, 10, 13, 13)] [.ref (g.ad 1 0), .int (b0), .int (b1), .ref (o9)] g S S' o9 0 a9.toInt64 := by
  refine hm_of rfl (Nat.le_of_ble_eq_true rfl) (fun p e s m below meth c ls f hx hb hr hml (hown : s.vm.findClass RL = some m.cls) hZ hX hT hlocks hR hO hN hl => ?_)
  have hC := hZ.1.1
  have hS : va_S (fun q => (ow g q ∨ q = o9) ∨ s.heap.size ≤ q) s.heap s.heap [] := va_S.rf
  have ho9 := hO.lt
  have hl : lv_has ls 5 [(0, .ref (g.ad 1 0)), (1, .int (b0)), (2, .int (b1)), (3, .ref (o9))] := hl
  refine lv_aload_n hx hb dL_left_0 rfl (lv_at hl 3 rfl) ?_
  refine lv_iconst (v := 0) hx hb dL_left_1 (by decide) ?_
  refine lv_aload_n hx hb dL_left_2 rfl (lv_at hl 0 rfl) ?_
  refine lv_iload_n hx hb dL_left_3 rfl (lv_at hl 1 rfl) ?_
  refine lv_iload_n hx hb dL_left_4 rfl (lv_at hl 2 rfl) ?_
  refine wc_V (As := [.int (b0), .int (b1)]) hx hb hml hown hC hl hM (rec_of hC (RA.x hR) rfl) (zm_L_47 hC.1) kv_X6_left hR hS (fun q h => h.elim (fun w => Or.inl (Or.inl w)) Or.inr) rfl rfl ⟨by show rm.frames + 1 ≤ 16; omega, by show 8 + (3 + 11) + rm.locals ≤ 520; omega⟩ (Nat.le_of_ble_eq_true rfl) ⟨by show 0 + rm.cells ≤ 2; omega, by show 0 + rm.slots ≤ 60; omega⟩ dL_left_5 (fun v H1 locs1 hP hz hq hS => ?_)
  obtain ⟨⟨g1, hR1, hgx⟩, rfl⟩ := hP
  have hO : outA E o9 f H1 := hO.kept (hq _ ho9 hN.2)
  refine lv_i2l hx hb dL_left_8 rfl ?_
  refine g_last (j := 0) hx hb hC hO hS (Or.inl (Or.inr rfl)) ⟨rfl, by decide, by decide⟩ dL_left_9 (fun H2 locs2 hO hz2 hq2 hS => ?_)
  have hR2 := ra_keptO hR1 hgx hN ho9 hq2
  refine lv_goto (tgt := 17) hx hb dL_left_10 (by decide) ?_
  refine lv_iconst (v := 0) hx hb dL_left_17 (by decide) ?_
  exact wr_i hx hb hr hlocks hS ⟨g1, _, hR2, by rw [hz2]; exact hgx, hO, rfl, (fun _ => rfl)⟩ (by show 0 + rm.cells ≤ 2; omega) (by show 0 + rm.slots ≤ 60; omega) dL_left_18
set_option maxRecDepth 100000 in
set_option maxHeartbeats 4000000 in
theorem hth_left_1 {l : Launch} {E : EE} {S : St} {g : Gh} {b0 b1 : Int32} {o9 : Nat} (hM : TM l E yX6_left cX6_left 3 (some .int) (tD 8) [.ref (g.ad 1 0), .int (b0), .int (b1)] (RA E S g) "java/lang/IndexOutOfBoundsException") : HM l E yL_left cL_left 5 [(0, 10, 13, 13)] [.ref (g.ad 1 0), .int (b0), .int (b1), .ref (o9)] g S S o9 1 0 := by
  refine hm_of rfl (Nat.le_of_ble_eq_true rfl) (fun p e s m below meth c ls f hx hb hr hml (hown : s.vm.findClass RL = some m.cls) hZ hX hT hlocks hR hO hN hl => ?_)
  have hC := hZ.1.1
  have hS : va_S (fun q => (ow g q ∨ q = o9) ∨ s.heap.size ≤ q) s.heap s.heap [] := va_S.rf
  have ho9 := hO.lt
  have hl : lv_has ls 5 [(0, .ref (g.ad 1 0)), (1, .int (b0)), (2, .int (b1)), (3, .ref (o9))] := hl
  refine lv_aload_n hx hb dL_left_0 rfl (lv_at hl 3 rfl) ?_
  refine lv_iconst (v := 0) hx hb dL_left_1 (by decide) ?_
  refine lv_aload_n hx hb dL_left_2 rfl (lv_at hl 0 rfl) ?_
  refine lv_iload_n hx hb dL_left_3 rfl (lv_at hl 1 rfl) ?_
  refine lv_iload_n hx hb dL_left_4 rfl (lv_at hl 2 rfl) ?_
  refine hc_V (As := [.int (b0), .int (b1)]) hx hb hml hown hZ.1 hX hl hM (rec_of hC (RA.x hR) rfl) (zm_L_47 hC.1) kv_X6_left hR rfl rfl ⟨(Nat.le_of_ble_eq_true rfl), (Nat.le_of_ble_eq_true rfl)⟩ ⟨rfl, rfl⟩ (Nat.le_of_ble_eq_true rfl) ⟨(Nat.le_of_ble_eq_true rfl), (Nat.le_of_ble_eq_true rfl)⟩ dL_left_5 (fun q H1 locs1 ce hz hq hL hce hcv hcl => ?_)
  refine vx_catch (own := RL) hown [] ⟨0, 10, 13, 13⟩ [] (hT.trans rfl) (fun z h => by cases h) (by decide) (by decide) (zc_L_13 hC.1) (cast_IOOBE hZ.1) hce hcv hcl ?_
  have hS : va_S (fun q => (ow g q ∨ q = o9) ∨ s.heap.size ≤ q) s.heap H1 locs1 := ⟨hz, fun q h1 _ => hq q h1, fun q h => Or.inr (hL q h)⟩
  refine lv_astore (lv' := [(4, .ref (q)), (0, .ref (g.ad 1 0)), (1, .int (b0)), (2, .int (b1)), (3, .ref (o9))]) hx hb dL_left_13 hl (by decide) rfl (fun ls hl => ?_)
  refine lv_iconst (v := 1) hx hb dL_left_15 (by decide) ?_
  exact wr_i hx hb hr hlocks hS ⟨g, f, hR.kept hq, gX.refl g _ _, hO.kept (hq _ ho9), rfl, fun h => absurd h (by decide)⟩ (Nat.le_of_ble_eq_true rfl) (Nat.le_of_ble_eq_true rfl) dL_left_16
set_option maxRecDepth 100000 in
set_option maxHeartbeats 4000000 in
theorem hok_charge {l : Launch} {E : EE} {S S' : St} {g : Gh} {rm : Room} {b0 b1 b2 b3 b4 : Int32} {a9 : Int32} {o9 : Nat} (hM : WM l E yX6_charge cX6_charge 8 (some .int) rm [.ref (g.ad 1 0), .int (b0), .int (b1), .int (b2), .int (b3), .int (b4)] (RA E S g) (ow g) (CAp E S' g a9)) (hrm : rm.frames ≤ 15 ∧ rm.locals ≤ 480 ∧ rm.cells ≤ 2 ∧ rm.slots ≤ 60) : HM l E yL_charge cL_charge 8 [(0, 16, 19, 13), (0, 16, 23, 21), (0, 16, 27, 15)] [.ref (g.ad 1 0), .int (b0), .int (b1), .int (b2), .int (b3), .int (b4), .ref (o9)] g S S' o9 0 a9.toInt64 := by
  refine hm_of rfl (Nat.le_of_ble_eq_true rfl) (fun p e s m below meth c ls f hx hb hr hml (hown : s.vm.findClass RL = some m.cls) hZ hX hT hlocks hR hO hN hl => ?_)
  have hC := hZ.1.1
  have hS : va_S (fun q => (ow g q ∨ q = o9) ∨ s.heap.size ≤ q) s.heap s.heap [] := va_S.rf
  have ho9 := hO.lt
  have hl : lv_has ls 8 [(0, .ref (g.ad 1 0)), (1, .int (b0)), (2, .int (b1)), (3, .int (b2)), (4, .int (b3)), (5, .int (b4)), (6, .ref (o9))] := hl
  refine lv_aload hx hb dL_charge_0 (lv_at hl 6 rfl) ?_
  refine lv_iconst (v := 0) hx hb dL_charge_2 (by decide) ?_
  refine lv_aload_n hx hb dL_charge_3 rfl (lv_at hl 0 rfl) ?_
  refine lv_iload_n hx hb dL_charge_4 rfl (lv_at hl 1 rfl) ?_
  refine lv_iload_n hx hb dL_charge_5 rfl (lv_at hl 2 rfl) ?_
  refine lv_iload_n hx hb dL_charge_6 rfl (lv_at hl 3 rfl) ?_
  refine lv_iload hx hb dL_charge_7 (lv_at hl 4 rfl) ?_
  refine lv_iload hx hb dL_charge_9 (lv_at hl 5 rfl) ?_
  refine wc_V (As := [.int (b0), .int (b1), .int (b2), .int (b3), .int (b4)]) hx hb hml hown hC hl hM (rec_of hC (RA.x hR) rfl) (zm_L_50 hC.1) kv_X6_charge hR hS (fun q h => h.elim (fun w => Or.inl (Or.inl w)) Or.inr) rfl rfl ⟨by show rm.frames + 1 ≤ 16; omega, by show 8 + (8 + 11) + rm.locals ≤ 520; omega⟩ (Nat.le_of_ble_eq_true rfl) ⟨by show 0 + rm.cells ≤ 2; omega, by show 0 + rm.slots ≤ 60; omega⟩ dL_charge_11 (fun v H1 locs1 hP hz hq hS => ?_)
  obtain ⟨⟨g1, hR1, hgx⟩, rfl⟩ := hP
  have hO : outA E o9 f H1 := hO.kept (hq _ ho9 hN.2)
  refine lv_i2l hx hb dL_charge_14 rfl ?_
  refine g_last (j := 0) hx hb hC hO hS (Or.inl (Or.inr rfl)) ⟨rfl, by decide, by decide⟩ dL_charge_15 (fun H2 locs2 hO hz2 hq2 hS => ?_)
  have hR2 := ra_keptO hR1 hgx hN ho9 hq2
  refine lv_goto (tgt := 31) hx hb dL_charge_16 (by decide) ?_
  refine lv_iconst (v := 0) hx hb dL_charge_31 (by decide) ?_
  exact wr_i hx hb hr hlocks hS ⟨g1, _, hR2, by rw [hz2]; exact hgx, hO, rfl, (fun _ => rfl)⟩ (by show 0 + rm.cells ≤ 2; omega) (by show 0 + rm.slots ≤ 60; omega) dL_charge_32
set_option maxRecDepth 100000 in
set_option maxHeartbeats 4000000 in
theorem hth_charge_1 {l : Launch} {E : EE} {S : St} {g : Gh} {b0 b1 b2 b3 b4 : Int32} {o9 : Nat} (hM : TM l E yX6_charge cX6_charge 8 (some .int) (tD 8) [.ref (g.ad 1 0), .int (b0), .int (b1), .int (b2), .int (b3), .int (b4)] (RA E S g) "java/lang/IndexOutOfBoundsException") : HM l E yL_charge cL_charge 8 [(0, 16, 19, 13), (0, 16, 23, 21), (0, 16, 27, 15)] [.ref (g.ad 1 0), .int (b0), .int (b1), .int (b2), .int (b3), .int (b4), .ref (o9)] g S S o9 1 0 := by
  refine hm_of rfl (Nat.le_of_ble_eq_true rfl) (fun p e s m below meth c ls f hx hb hr hml (hown : s.vm.findClass RL = some m.cls) hZ hX hT hlocks hR hO hN hl => ?_)
  have hC := hZ.1.1
  have hS : va_S (fun q => (ow g q ∨ q = o9) ∨ s.heap.size ≤ q) s.heap s.heap [] := va_S.rf
  have ho9 := hO.lt
  have hl : lv_has ls 8 [(0, .ref (g.ad 1 0)), (1, .int (b0)), (2, .int (b1)), (3, .int (b2)), (4, .int (b3)), (5, .int (b4)), (6, .ref (o9))] := hl
  refine lv_aload hx hb dL_charge_0 (lv_at hl 6 rfl) ?_
  refine lv_iconst (v := 0) hx hb dL_charge_2 (by decide) ?_
  refine lv_aload_n hx hb dL_charge_3 rfl (lv_at hl 0 rfl) ?_
  refine lv_iload_n hx hb dL_charge_4 rfl (lv_at hl 1 rfl) ?_
  refine lv_iload_n hx hb dL_charge_5 rfl (lv_at hl 2 rfl) ?_
  refine lv_iload_n hx hb dL_charge_6 rfl (lv_at hl 3 rfl) ?_
  refine lv_iload hx hb dL_charge_7 (lv_at hl 4 rfl) ?_
  refine lv_iload hx hb dL_charge_9 (lv_at hl 5 rfl) ?_
  refine hc_V (As := [.int (b0), .int (b1), .int (b2), .int (b3), .int (b4)]) hx hb hml hown hZ.1 hX hl hM (rec_of hC (RA.x hR) rfl) (zm_L_50 hC.1) kv_X6_charge hR rfl rfl ⟨(Nat.le_of_ble_eq_true rfl), (Nat.le_of_ble_eq_true rfl)⟩ ⟨rfl, rfl⟩ (Nat.le_of_ble_eq_true rfl) ⟨(Nat.le_of_ble_eq_true rfl), (Nat.le_of_ble_eq_true rfl)⟩ dL_charge_11 (fun q H1 locs1 ce hz hq hL hce hcv hcl => ?_)
  refine vx_catch (own := RL) hown [] ⟨0, 16, 19, 13⟩ [⟨0, 16, 23, 21⟩, ⟨0, 16, 27, 15⟩] (hT.trans rfl) (fun z h => by cases h) (by decide) (by decide) (zc_L_13 hC.1) (cast_IOOBE hZ.1) hce hcv hcl ?_
  have hS : va_S (fun q => (ow g q ∨ q = o9) ∨ s.heap.size ≤ q) s.heap H1 locs1 := ⟨hz, fun q h1 _ => hq q h1, fun q h => Or.inr (hL q h)⟩
  refine lv_astore (lv' := [(7, .ref (q)), (0, .ref (g.ad 1 0)), (1, .int (b0)), (2, .int (b1)), (3, .int (b2)), (4, .int (b3)), (5, .int (b4)), (6, .ref (o9))]) hx hb dL_charge_19 hl (by decide) rfl (fun ls hl => ?_)
  refine lv_iconst (v := 1) hx hb dL_charge_21 (by decide) ?_
  exact wr_i hx hb hr hlocks hS ⟨g, f, hR.kept hq, gX.refl g _ _, hO.kept (hq _ ho9), rfl, fun h => absurd h (by decide)⟩ (Nat.le_of_ble_eq_true rfl) (Nat.le_of_ble_eq_true rfl) dL_charge_22
set_option maxRecDepth 100000 in
set_option maxHeartbeats 4000000 in
theorem hth_charge_2 {l : Launch} {E : EE} {S : St} {g : Gh} {b0 b1 b2 b3 b4 : Int32} {o9 : Nat} (hM : TM l E yX6_charge cX6_charge 8 (some .int) (tD 8) [.ref (g.ad 1 0), .int (b0), .int (b1), .int (b2), .int (b3), .int (b4)] (RA E S g) "java/lang/IllegalArgumentException") : HM l E yL_charge cL_charge 8 [(0, 16, 19, 13), (0, 16, 23, 21), (0, 16, 27, 15)] [.ref (g.ad 1 0), .int (b0), .int (b1), .int (b2), .int (b3), .int (b4), .ref (o9)] g S S o9 2 0 := by
  refine hm_of rfl (Nat.le_of_ble_eq_true rfl) (fun p e s m below meth c ls f hx hb hr hml (hown : s.vm.findClass RL = some m.cls) hZ hX hT hlocks hR hO hN hl => ?_)
  have hC := hZ.1.1
  have hS : va_S (fun q => (ow g q ∨ q = o9) ∨ s.heap.size ≤ q) s.heap s.heap [] := va_S.rf
  have ho9 := hO.lt
  have hl : lv_has ls 8 [(0, .ref (g.ad 1 0)), (1, .int (b0)), (2, .int (b1)), (3, .int (b2)), (4, .int (b3)), (5, .int (b4)), (6, .ref (o9))] := hl
  refine lv_aload hx hb dL_charge_0 (lv_at hl 6 rfl) ?_
  refine lv_iconst (v := 0) hx hb dL_charge_2 (by decide) ?_
  refine lv_aload_n hx hb dL_charge_3 rfl (lv_at hl 0 rfl) ?_
  refine lv_iload_n hx hb dL_charge_4 rfl (lv_at hl 1 rfl) ?_
  refine lv_iload_n hx hb dL_charge_5 rfl (lv_at hl 2 rfl) ?_
  refine lv_iload_n hx hb dL_charge_6 rfl (lv_at hl 3 rfl) ?_
  refine lv_iload hx hb dL_charge_7 (lv_at hl 4 rfl) ?_
  refine lv_iload hx hb dL_charge_9 (lv_at hl 5 rfl) ?_
  refine hc_V (As := [.int (b0), .int (b1), .int (b2), .int (b3), .int (b4)]) hx hb hml hown hZ.1 hX hl hM (rec_of hC (RA.x hR) rfl) (zm_L_50 hC.1) kv_X6_charge hR rfl rfl ⟨(Nat.le_of_ble_eq_true rfl), (Nat.le_of_ble_eq_true rfl)⟩ ⟨rfl, rfl⟩ (Nat.le_of_ble_eq_true rfl) ⟨(Nat.le_of_ble_eq_true rfl), (Nat.le_of_ble_eq_true rfl)⟩ dL_charge_11 (fun q H1 locs1 ce hz hq hL hce hcv hcl => ?_)
  refine vx_catch (own := RL) hown [⟨0, 16, 19, 13⟩] ⟨0, 16, 23, 21⟩ [⟨0, 16, 27, 15⟩] (hT.trans rfl) (fun z h => by rw [List.mem_singleton.mp h]; exact Or.inr ⟨by decide, _, zc_L_13 hC.1, hZ.2.1⟩) (by decide) (by decide) (zc_L_21 hC.1) (cast_IAE hZ.1) hce hcv hcl ?_
  have hS : va_S (fun q => (ow g q ∨ q = o9) ∨ s.heap.size ≤ q) s.heap H1 locs1 := ⟨hz, fun q h1 _ => hq q h1, fun q h => Or.inr (hL q h)⟩
  refine lv_astore (lv' := [(7, .ref (q)), (0, .ref (g.ad 1 0)), (1, .int (b0)), (2, .int (b1)), (3, .int (b2)), (4, .int (b3)), (5, .int (b4)), (6, .ref (o9))]) hx hb dL_charge_23 hl (by decide) rfl (fun ls hl => ?_)
  refine lv_iconst (v := 2) hx hb dL_charge_25 (by decide) ?_
  exact wr_i hx hb hr hlocks hS ⟨g, f, hR.kept hq, gX.refl g _ _, hO.kept (hq _ ho9), rfl, fun h => absurd h (by decide)⟩ (Nat.le_of_ble_eq_true rfl) (Nat.le_of_ble_eq_true rfl) dL_charge_26
set_option maxRecDepth 100000 in
set_option maxHeartbeats 4000000 in
theorem hth_charge_3 {l : Launch} {E : EE} {S : St} {g : Gh} {b0 b1 b2 b3 b4 : Int32} {o9 : Nat} (hM : TM l E yX6_charge cX6_charge 8 (some .int) (tD 8) [.ref (g.ad 1 0), .int (b0), .int (b1), .int (b2), .int (b3), .int (b4)] (RA E S g) "java/lang/IllegalStateException") : HM l E yL_charge cL_charge 8 [(0, 16, 19, 13), (0, 16, 23, 21), (0, 16, 27, 15)] [.ref (g.ad 1 0), .int (b0), .int (b1), .int (b2), .int (b3), .int (b4), .ref (o9)] g S S o9 3 0 := by
  refine hm_of rfl (Nat.le_of_ble_eq_true rfl) (fun p e s m below meth c ls f hx hb hr hml (hown : s.vm.findClass RL = some m.cls) hZ hX hT hlocks hR hO hN hl => ?_)
  have hC := hZ.1.1
  have hS : va_S (fun q => (ow g q ∨ q = o9) ∨ s.heap.size ≤ q) s.heap s.heap [] := va_S.rf
  have ho9 := hO.lt
  have hl : lv_has ls 8 [(0, .ref (g.ad 1 0)), (1, .int (b0)), (2, .int (b1)), (3, .int (b2)), (4, .int (b3)), (5, .int (b4)), (6, .ref (o9))] := hl
  refine lv_aload hx hb dL_charge_0 (lv_at hl 6 rfl) ?_
  refine lv_iconst (v := 0) hx hb dL_charge_2 (by decide) ?_
  refine lv_aload_n hx hb dL_charge_3 rfl (lv_at hl 0 rfl) ?_
  refine lv_iload_n hx hb dL_charge_4 rfl (lv_at hl 1 rfl) ?_
  refine lv_iload_n hx hb dL_charge_5 rfl (lv_at hl 2 rfl) ?_
  refine lv_iload_n hx hb dL_charge_6 rfl (lv_at hl 3 rfl) ?_
  refine lv_iload hx hb dL_charge_7 (lv_at hl 4 rfl) ?_
  refine lv_iload hx hb dL_charge_9 (lv_at hl 5 rfl) ?_
  refine hc_V (As := [.int (b0), .int (b1), .int (b2), .int (b3), .int (b4)]) hx hb hml hown hZ.1 hX hl hM (rec_of hC (RA.x hR) rfl) (zm_L_50 hC.1) kv_X6_charge hR rfl rfl ⟨(Nat.le_of_ble_eq_true rfl), (Nat.le_of_ble_eq_true rfl)⟩ ⟨rfl, rfl⟩ (Nat.le_of_ble_eq_true rfl) ⟨(Nat.le_of_ble_eq_true rfl), (Nat.le_of_ble_eq_true rfl)⟩ dL_charge_11 (fun q H1 locs1 ce hz hq hL hce hcv hcl => ?_)
  refine vx_catch (own := RL) hown [⟨0, 16, 19, 13⟩, ⟨0, 16, 23, 21⟩] ⟨0, 16, 27, 15⟩ [] (hT.trans rfl) (fun z h => (List.mem_cons.mp h).elim (fun e => by rw [e]; exact Or.inr ⟨by decide, _, zc_L_13 hC.1, hZ.2.2.1⟩) (fun h2 => by rw [List.mem_singleton.mp h2]; exact Or.inr ⟨by decide, _, zc_L_21 hC.1, hZ.2.2.2⟩)) (by decide) (by decide) (zc_L_15 hC.1) (cast_ISE hZ.1) hce hcv hcl ?_
  have hS : va_S (fun q => (ow g q ∨ q = o9) ∨ s.heap.size ≤ q) s.heap H1 locs1 := ⟨hz, fun q h1 _ => hq q h1, fun q h => Or.inr (hL q h)⟩
  refine lv_astore (lv' := [(7, .ref (q)), (0, .ref (g.ad 1 0)), (1, .int (b0)), (2, .int (b1)), (3, .int (b2)), (4, .int (b3)), (5, .int (b4)), (6, .ref (o9))]) hx hb dL_charge_27 hl (by decide) rfl (fun ls hl => ?_)
  refine lv_iconst (v := 3) hx hb dL_charge_29 (by decide) ?_
  exact wr_i hx hb hr hlocks hS ⟨g, f, hR.kept hq, gX.refl g _ _, hO.kept (hq _ ho9), rfl, fun h => absurd h (by decide)⟩ (Nat.le_of_ble_eq_true rfl) (Nat.le_of_ble_eq_true rfl) dL_charge_30
set_option maxRecDepth 100000 in
set_option maxHeartbeats 4000000 in
theorem hok_receipt {l : Launch} {E : EE} {S S' : St} {g : Gh} {rm : Room} {b0 b1 b2 : Int32} {a9 : Int32} {o9 : Nat} (hM : WM l E yX6_receipt cX6_receipt 5 (some .int) rm [.ref (g.ad 1 0), .int (b0), .int (b1), .int (b2)] (RA E S g) (ow g) (CAp E S' g a9)) (hrm : rm.frames ≤ 15 ∧ rm.locals ≤ 480 ∧ rm.cells ≤ 2 ∧ rm.slots ≤ 60) : HM l E yL_receipt cL_receipt 6 [(0, 12, 15, 21), (0, 12, 19, 15)] [.ref (g.ad 1 0), .int (b0), .int (b1), .int (b2), .ref (o9)] g S S' o9 0 a9.toInt64 := by
  refine hm_of rfl (Nat.le_of_ble_eq_true rfl) (fun p e s m below meth c ls f hx hb hr hml (hown : s.vm.findClass RL = some m.cls) hZ hX hT hlocks hR hO hN hl => ?_)
  have hC := hZ.1.1
  have hS : va_S (fun q => (ow g q ∨ q = o9) ∨ s.heap.size ≤ q) s.heap s.heap [] := va_S.rf
  have ho9 := hO.lt
  have hl : lv_has ls 6 [(0, .ref (g.ad 1 0)), (1, .int (b0)), (2, .int (b1)), (3, .int (b2)), (4, .ref (o9))] := hl
  refine lv_aload hx hb dL_receipt_0 (lv_at hl 4 rfl) ?_
  refine lv_iconst (v := 0) hx hb dL_receipt_2 (by decide) ?_
  refine lv_aload_n hx hb dL_receipt_3 rfl (lv_at hl 0 rfl) ?_
  refine lv_iload_n hx hb dL_receipt_4 rfl (lv_at hl 1 rfl) ?_
  refine lv_iload_n hx hb dL_receipt_5 rfl (lv_at hl 2 rfl) ?_
  refine lv_iload_n hx hb dL_receipt_6 rfl (lv_at hl 3 rfl) ?_
  refine wc_V (As := [.int (b0), .int (b1), .int (b2)]) hx hb hml hown hC hl hM (rec_of hC (RA.x hR) rfl) (zm_L_53 hC.1) kv_X6_receipt hR hS (fun q h => h.elim (fun w => Or.inl (Or.inl w)) Or.inr) rfl rfl ⟨by show rm.frames + 1 ≤ 16; omega, by show 8 + (5 + 11) + rm.locals ≤ 520; omega⟩ (Nat.le_of_ble_eq_true rfl) ⟨by show 0 + rm.cells ≤ 2; omega, by show 0 + rm.slots ≤ 60; omega⟩ dL_receipt_7 (fun v H1 locs1 hP hz hq hS => ?_)
  obtain ⟨⟨g1, hR1, hgx⟩, rfl⟩ := hP
  have hO : outA E o9 f H1 := hO.kept (hq _ ho9 hN.2)
  refine lv_i2l hx hb dL_receipt_10 rfl ?_
  refine g_last (j := 0) hx hb hC hO hS (Or.inl (Or.inr rfl)) ⟨rfl, by decide, by decide⟩ dL_receipt_11 (fun H2 locs2 hO hz2 hq2 hS => ?_)
  have hR2 := ra_keptO hR1 hgx hN ho9 hq2
  refine lv_goto (tgt := 23) hx hb dL_receipt_12 (by decide) ?_
  refine lv_iconst (v := 0) hx hb dL_receipt_23 (by decide) ?_
  exact wr_i hx hb hr hlocks hS ⟨g1, _, hR2, by rw [hz2]; exact hgx, hO, rfl, (fun _ => rfl)⟩ (by show 0 + rm.cells ≤ 2; omega) (by show 0 + rm.slots ≤ 60; omega) dL_receipt_24
set_option maxRecDepth 100000 in
set_option maxHeartbeats 4000000 in
theorem hth_receipt_1 {l : Launch} {E : EE} {S : St} {g : Gh} {b0 b1 b2 : Int32} {o9 : Nat} (hM : TM l E yX6_receipt cX6_receipt 5 (some .int) (tD 8) [.ref (g.ad 1 0), .int (b0), .int (b1), .int (b2)] (RA E S g) "java/lang/IllegalArgumentException") : HM l E yL_receipt cL_receipt 6 [(0, 12, 15, 21), (0, 12, 19, 15)] [.ref (g.ad 1 0), .int (b0), .int (b1), .int (b2), .ref (o9)] g S S o9 1 0 := by
  refine hm_of rfl (Nat.le_of_ble_eq_true rfl) (fun p e s m below meth c ls f hx hb hr hml (hown : s.vm.findClass RL = some m.cls) hZ hX hT hlocks hR hO hN hl => ?_)
  have hC := hZ.1.1
  have hS : va_S (fun q => (ow g q ∨ q = o9) ∨ s.heap.size ≤ q) s.heap s.heap [] := va_S.rf
  have ho9 := hO.lt
  have hl : lv_has ls 6 [(0, .ref (g.ad 1 0)), (1, .int (b0)), (2, .int (b1)), (3, .int (b2)), (4, .ref (o9))] := hl
  refine lv_aload hx hb dL_receipt_0 (lv_at hl 4 rfl) ?_
  refine lv_iconst (v := 0) hx hb dL_receipt_2 (by decide) ?_
  refine lv_aload_n hx hb dL_receipt_3 rfl (lv_at hl 0 rfl) ?_
  refine lv_iload_n hx hb dL_receipt_4 rfl (lv_at hl 1 rfl) ?_
  refine lv_iload_n hx hb dL_receipt_5 rfl (lv_at hl 2 rfl) ?_
  refine lv_iload_n hx hb dL_receipt_6 rfl (lv_at hl 3 rfl) ?_
  refine hc_V (As := [.int (b0), .int (b1), .int (b2)]) hx hb hml hown hZ.1 hX hl hM (rec_of hC (RA.x hR) rfl) (zm_L_53 hC.1) kv_X6_receipt hR rfl rfl ⟨(Nat.le_of_ble_eq_true rfl), (Nat.le_of_ble_eq_true rfl)⟩ ⟨rfl, rfl⟩ (Nat.le_of_ble_eq_true rfl) ⟨(Nat.le_of_ble_eq_true rfl), (Nat.le_of_ble_eq_true rfl)⟩ dL_receipt_7 (fun q H1 locs1 ce hz hq hL hce hcv hcl => ?_)
  refine vx_catch (own := RL) hown [] ⟨0, 12, 15, 21⟩ [⟨0, 12, 19, 15⟩] (hT.trans rfl) (fun z h => by cases h) (by decide) (by decide) (zc_L_21 hC.1) (cast_IAE hZ.1) hce hcv hcl ?_
  have hS : va_S (fun q => (ow g q ∨ q = o9) ∨ s.heap.size ≤ q) s.heap H1 locs1 := ⟨hz, fun q h1 _ => hq q h1, fun q h => Or.inr (hL q h)⟩
  refine lv_astore (lv' := [(5, .ref (q)), (0, .ref (g.ad 1 0)), (1, .int (b0)), (2, .int (b1)), (3, .int (b2)), (4, .ref (o9))]) hx hb dL_receipt_15 hl (by decide) rfl (fun ls hl => ?_)
  refine lv_iconst (v := 1) hx hb dL_receipt_17 (by decide) ?_
  exact wr_i hx hb hr hlocks hS ⟨g, f, hR.kept hq, gX.refl g _ _, hO.kept (hq _ ho9), rfl, fun h => absurd h (by decide)⟩ (Nat.le_of_ble_eq_true rfl) (Nat.le_of_ble_eq_true rfl) dL_receipt_18
set_option maxRecDepth 100000 in
set_option maxHeartbeats 4000000 in
theorem hth_receipt_2 {l : Launch} {E : EE} {S : St} {g : Gh} {b0 b1 b2 : Int32} {o9 : Nat} (hM : TM l E yX6_receipt cX6_receipt 5 (some .int) (tD 8) [.ref (g.ad 1 0), .int (b0), .int (b1), .int (b2)] (RA E S g) "java/lang/IllegalStateException") : HM l E yL_receipt cL_receipt 6 [(0, 12, 15, 21), (0, 12, 19, 15)] [.ref (g.ad 1 0), .int (b0), .int (b1), .int (b2), .ref (o9)] g S S o9 2 0 := by
  refine hm_of rfl (Nat.le_of_ble_eq_true rfl) (fun p e s m below meth c ls f hx hb hr hml (hown : s.vm.findClass RL = some m.cls) hZ hX hT hlocks hR hO hN hl => ?_)
  have hC := hZ.1.1
  have hS : va_S (fun q => (ow g q ∨ q = o9) ∨ s.heap.size ≤ q) s.heap s.heap [] := va_S.rf
  have ho9 := hO.lt
  have hl : lv_has ls 6 [(0, .ref (g.ad 1 0)), (1, .int (b0)), (2, .int (b1)), (3, .int (b2)), (4, .ref (o9))] := hl
  refine lv_aload hx hb dL_receipt_0 (lv_at hl 4 rfl) ?_
  refine lv_iconst (v := 0) hx hb dL_receipt_2 (by decide) ?_
  refine lv_aload_n hx hb dL_receipt_3 rfl (lv_at hl 0 rfl) ?_
  refine lv_iload_n hx hb dL_receipt_4 rfl (lv_at hl 1 rfl) ?_
  refine lv_iload_n hx hb dL_receipt_5 rfl (lv_at hl 2 rfl) ?_
  refine lv_iload_n hx hb dL_receipt_6 rfl (lv_at hl 3 rfl) ?_
  refine hc_V (As := [.int (b0), .int (b1), .int (b2)]) hx hb hml hown hZ.1 hX hl hM (rec_of hC (RA.x hR) rfl) (zm_L_53 hC.1) kv_X6_receipt hR rfl rfl ⟨(Nat.le_of_ble_eq_true rfl), (Nat.le_of_ble_eq_true rfl)⟩ ⟨rfl, rfl⟩ (Nat.le_of_ble_eq_true rfl) ⟨(Nat.le_of_ble_eq_true rfl), (Nat.le_of_ble_eq_true rfl)⟩ dL_receipt_7 (fun q H1 locs1 ce hz hq hL hce hcv hcl => ?_)
  refine vx_catch (own := RL) hown [⟨0, 12, 15, 21⟩] ⟨0, 12, 19, 15⟩ [] (hT.trans rfl) (fun z h => by rw [List.mem_singleton.mp h]; exact Or.inr ⟨by decide, _, zc_L_21 hC.1, hZ.2.2.2⟩) (by decide) (by decide) (zc_L_15 hC.1) (cast_ISE hZ.1) hce hcv hcl ?_
  have hS : va_S (fun q => (ow g q ∨ q = o9) ∨ s.heap.size ≤ q) s.heap H1 locs1 := ⟨hz, fun q h1 _ => hq q h1, fun q h => Or.inr (hL q h)⟩
  refine lv_astore (lv' := [(5, .ref (q)), (0, .ref (g.ad 1 0)), (1, .int (b0)), (2, .int (b1)), (3, .int (b2)), (4, .ref (o9))]) hx hb dL_receipt_19 hl (by decide) rfl (fun ls hl => ?_)
  refine lv_iconst (v := 2) hx hb dL_receipt_21 (by decide) ?_
  exact wr_i hx hb hr hlocks hS ⟨g, f, hR.kept hq, gX.refl g _ _, hO.kept (hq _ ho9), rfl, fun h => absurd h (by decide)⟩ (Nat.le_of_ble_eq_true rfl) (Nat.le_of_ble_eq_true rfl) dL_receipt_22
set_option maxRecDepth 100000 in
set_option maxHeartbeats 4000000 in
theorem hok_split {l : Launch} {E : EE} {S S' : St} {g : Gh} {rm : Room} {b0 : Int32} {a9 : Int32} {o9 : Nat} (hM : WM l E yX6_split cX6_split 3 (some .int) rm [.ref (g.ad 1 0), .int (b0)] (RA E S g) (ow g) (CAp E S' g a9)) (hrm : rm.frames ≤ 15 ∧ rm.locals ≤ 480 ∧ rm.cells ≤ 2 ∧ rm.slots ≤ 60) : HM l E yL_split cL_split 4 [(0, 9, 12, 13), (0, 9, 15, 15)] [.ref (g.ad 1 0), .int (b0), .ref (o9)] g S S' o9 0 a9.toInt64 := by
  refine hm_of rfl (Nat.le_of_ble_eq_true rfl) (fun p e s m below meth c ls f hx hb hr hml (hown : s.vm.findClass RL = some m.cls) hZ hX hT hlocks hR hO hN hl => ?_)
  have hC := hZ.1.1
  have hS : va_S (fun q => (ow g q ∨ q = o9) ∨ s.heap.size ≤ q) s.heap s.heap [] := va_S.rf
  have ho9 := hO.lt
  have hl : lv_has ls 4 [(0, .ref (g.ad 1 0)), (1, .int (b0)), (2, .ref (o9))] := hl
  refine lv_aload_n hx hb dL_split_0 rfl (lv_at hl 2 rfl) ?_
  refine lv_iconst (v := 0) hx hb dL_split_1 (by decide) ?_
  refine lv_aload_n hx hb dL_split_2 rfl (lv_at hl 0 rfl) ?_
  refine lv_iload_n hx hb dL_split_3 rfl (lv_at hl 1 rfl) ?_
  refine wc_V (As := [.int (b0)]) hx hb hml hown hC hl hM (rec_of hC (RA.x hR) rfl) (zm_L_56 hC.1) kv_X6_split hR hS (fun q h => h.elim (fun w => Or.inl (Or.inl w)) Or.inr) rfl rfl ⟨by show rm.frames + 1 ≤ 16; omega, by show 8 + (3 + 11) + rm.locals ≤ 520; omega⟩ (Nat.le_of_ble_eq_true rfl) ⟨by show 0 + rm.cells ≤ 2; omega, by show 0 + rm.slots ≤ 60; omega⟩ dL_split_4 (fun v H1 locs1 hP hz hq hS => ?_)
  obtain ⟨⟨g1, hR1, hgx⟩, rfl⟩ := hP
  have hO : outA E o9 f H1 := hO.kept (hq _ ho9 hN.2)
  refine lv_i2l hx hb dL_split_7 rfl ?_
  refine g_last (j := 0) hx hb hC hO hS (Or.inl (Or.inr rfl)) ⟨rfl, by decide, by decide⟩ dL_split_8 (fun H2 locs2 hO hz2 hq2 hS => ?_)
  have hR2 := ra_keptO hR1 hgx hN ho9 hq2
  refine lv_goto (tgt := 18) hx hb dL_split_9 (by decide) ?_
  refine lv_iconst (v := 0) hx hb dL_split_18 (by decide) ?_
  exact wr_i hx hb hr hlocks hS ⟨g1, _, hR2, by rw [hz2]; exact hgx, hO, rfl, (fun _ => rfl)⟩ (by show 0 + rm.cells ≤ 2; omega) (by show 0 + rm.slots ≤ 60; omega) dL_split_19
set_option maxRecDepth 100000 in
set_option maxHeartbeats 4000000 in
theorem hth_split_1 {l : Launch} {E : EE} {S : St} {g : Gh} {b0 : Int32} {o9 : Nat} (hM : TM l E yX6_split cX6_split 3 (some .int) (tD 8) [.ref (g.ad 1 0), .int (b0)] (RA E S g) "java/lang/IndexOutOfBoundsException") : HM l E yL_split cL_split 4 [(0, 9, 12, 13), (0, 9, 15, 15)] [.ref (g.ad 1 0), .int (b0), .ref (o9)] g S S o9 1 0 := by
  refine hm_of rfl (Nat.le_of_ble_eq_true rfl) (fun p e s m below meth c ls f hx hb hr hml (hown : s.vm.findClass RL = some m.cls) hZ hX hT hlocks hR hO hN hl => ?_)
  have hC := hZ.1.1
  have hS : va_S (fun q => (ow g q ∨ q = o9) ∨ s.heap.size ≤ q) s.heap s.heap [] := va_S.rf
  have ho9 := hO.lt
  have hl : lv_has ls 4 [(0, .ref (g.ad 1 0)), (1, .int (b0)), (2, .ref (o9))] := hl
  refine lv_aload_n hx hb dL_split_0 rfl (lv_at hl 2 rfl) ?_
  refine lv_iconst (v := 0) hx hb dL_split_1 (by decide) ?_
  refine lv_aload_n hx hb dL_split_2 rfl (lv_at hl 0 rfl) ?_
  refine lv_iload_n hx hb dL_split_3 rfl (lv_at hl 1 rfl) ?_
  refine hc_V (As := [.int (b0)]) hx hb hml hown hZ.1 hX hl hM (rec_of hC (RA.x hR) rfl) (zm_L_56 hC.1) kv_X6_split hR rfl rfl ⟨(Nat.le_of_ble_eq_true rfl), (Nat.le_of_ble_eq_true rfl)⟩ ⟨rfl, rfl⟩ (Nat.le_of_ble_eq_true rfl) ⟨(Nat.le_of_ble_eq_true rfl), (Nat.le_of_ble_eq_true rfl)⟩ dL_split_4 (fun q H1 locs1 ce hz hq hL hce hcv hcl => ?_)
  refine vx_catch (own := RL) hown [] ⟨0, 9, 12, 13⟩ [⟨0, 9, 15, 15⟩] (hT.trans rfl) (fun z h => by cases h) (by decide) (by decide) (zc_L_13 hC.1) (cast_IOOBE hZ.1) hce hcv hcl ?_
  have hS : va_S (fun q => (ow g q ∨ q = o9) ∨ s.heap.size ≤ q) s.heap H1 locs1 := ⟨hz, fun q h1 _ => hq q h1, fun q h => Or.inr (hL q h)⟩
  refine lv_astore_n (lv' := [(3, .ref (q)), (0, .ref (g.ad 1 0)), (1, .int (b0)), (2, .ref (o9))]) hx hb dL_split_12 rfl hl (by decide) rfl (fun ls hl => ?_)
  refine lv_iconst (v := 1) hx hb dL_split_13 (by decide) ?_
  exact wr_i hx hb hr hlocks hS ⟨g, f, hR.kept hq, gX.refl g _ _, hO.kept (hq _ ho9), rfl, fun h => absurd h (by decide)⟩ (Nat.le_of_ble_eq_true rfl) (Nat.le_of_ble_eq_true rfl) dL_split_14
set_option maxRecDepth 100000 in
set_option maxHeartbeats 4000000 in
theorem hth_split_2 {l : Launch} {E : EE} {S : St} {g : Gh} {b0 : Int32} {o9 : Nat} (hM : TM l E yX6_split cX6_split 3 (some .int) (tD 8) [.ref (g.ad 1 0), .int (b0)] (RA E S g) "java/lang/IllegalStateException") : HM l E yL_split cL_split 4 [(0, 9, 12, 13), (0, 9, 15, 15)] [.ref (g.ad 1 0), .int (b0), .ref (o9)] g S S o9 2 0 := by
  refine hm_of rfl (Nat.le_of_ble_eq_true rfl) (fun p e s m below meth c ls f hx hb hr hml (hown : s.vm.findClass RL = some m.cls) hZ hX hT hlocks hR hO hN hl => ?_)
  have hC := hZ.1.1
  have hS : va_S (fun q => (ow g q ∨ q = o9) ∨ s.heap.size ≤ q) s.heap s.heap [] := va_S.rf
  have ho9 := hO.lt
  have hl : lv_has ls 4 [(0, .ref (g.ad 1 0)), (1, .int (b0)), (2, .ref (o9))] := hl
  refine lv_aload_n hx hb dL_split_0 rfl (lv_at hl 2 rfl) ?_
  refine lv_iconst (v := 0) hx hb dL_split_1 (by decide) ?_
  refine lv_aload_n hx hb dL_split_2 rfl (lv_at hl 0 rfl) ?_
  refine lv_iload_n hx hb dL_split_3 rfl (lv_at hl 1 rfl) ?_
  refine hc_V (As := [.int (b0)]) hx hb hml hown hZ.1 hX hl hM (rec_of hC (RA.x hR) rfl) (zm_L_56 hC.1) kv_X6_split hR rfl rfl ⟨(Nat.le_of_ble_eq_true rfl), (Nat.le_of_ble_eq_true rfl)⟩ ⟨rfl, rfl⟩ (Nat.le_of_ble_eq_true rfl) ⟨(Nat.le_of_ble_eq_true rfl), (Nat.le_of_ble_eq_true rfl)⟩ dL_split_4 (fun q H1 locs1 ce hz hq hL hce hcv hcl => ?_)
  refine vx_catch (own := RL) hown [⟨0, 9, 12, 13⟩] ⟨0, 9, 15, 15⟩ [] (hT.trans rfl) (fun z h => by rw [List.mem_singleton.mp h]; exact Or.inr ⟨by decide, _, zc_L_13 hC.1, hZ.2.2.1⟩) (by decide) (by decide) (zc_L_15 hC.1) (cast_ISE hZ.1) hce hcv hcl ?_
  have hS : va_S (fun q => (ow g q ∨ q = o9) ∨ s.heap.size ≤ q) s.heap H1 locs1 := ⟨hz, fun q h1 _ => hq q h1, fun q h => Or.inr (hL q h)⟩
  refine lv_astore_n (lv' := [(3, .ref (q)), (0, .ref (g.ad 1 0)), (1, .int (b0)), (2, .ref (o9))]) hx hb dL_split_15 rfl hl (by decide) rfl (fun ls hl => ?_)
  refine lv_iconst (v := 2) hx hb dL_split_16 (by decide) ?_
  exact wr_i hx hb hr hlocks hS ⟨g, f, hR.kept hq, gX.refl g _ _, hO.kept (hq _ ho9), rfl, fun h => absurd h (by decide)⟩ (Nat.le_of_ble_eq_true rfl) (Nat.le_of_ble_eq_true rfl) dL_split_17
set_option maxRecDepth 100000 in
set_option maxHeartbeats 4000000 in
theorem hok_approve {l : Launch} {E : EE} {S S' : St} {g : Gh} {rm : Room} {b0 b1 : Int32} {a9 : Int32} {o9 : Nat} (hM : WM l E yX6_approve cX6_approve 5 (some .int) rm [.ref (g.ad 1 0), .int (b0), .int (b1)] (RA E S g) (ow g) (CAp E S' g a9)) (hrm : rm.frames ≤ 15 ∧ rm.locals ≤ 480 ∧ rm.cells ≤ 2 ∧ rm.slots ≤ 60) : HM l E yL_approve cL_approve 5 [(0, 10, 13, 13), (0, 10, 17, 15)] [.ref (g.ad 1 0), .int (b0), .int (b1), .ref (o9)] g S S' o9 0 a9.toInt64 := by
  refine hm_of rfl (Nat.le_of_ble_eq_true rfl) (fun p e s m below meth c ls f hx hb hr hml (hown : s.vm.findClass RL = some m.cls) hZ hX hT hlocks hR hO hN hl => ?_)
  have hC := hZ.1.1
  have hS : va_S (fun q => (ow g q ∨ q = o9) ∨ s.heap.size ≤ q) s.heap s.heap [] := va_S.rf
  have ho9 := hO.lt
  have hl : lv_has ls 5 [(0, .ref (g.ad 1 0)), (1, .int (b0)), (2, .int (b1)), (3, .ref (o9))] := hl
  refine lv_aload_n hx hb dL_approve_0 rfl (lv_at hl 3 rfl) ?_
  refine lv_iconst (v := 0) hx hb dL_approve_1 (by decide) ?_
  refine lv_aload_n hx hb dL_approve_2 rfl (lv_at hl 0 rfl) ?_
  refine lv_iload_n hx hb dL_approve_3 rfl (lv_at hl 1 rfl) ?_
  refine lv_iload_n hx hb dL_approve_4 rfl (lv_at hl 2 rfl) ?_
  refine wc_V (As := [.int (b0), .int (b1)]) hx hb hml hown hC hl hM (rec_of hC (RA.x hR) rfl) (zm_L_59 hC.1) kv_X6_approve hR hS (fun q h => h.elim (fun w => Or.inl (Or.inl w)) Or.inr) rfl rfl ⟨by show rm.frames + 1 ≤ 16; omega, by show 8 + (5 + 11) + rm.locals ≤ 520; omega⟩ (Nat.le_of_ble_eq_true rfl) ⟨by show 0 + rm.cells ≤ 2; omega, by show 0 + rm.slots ≤ 60; omega⟩ dL_approve_5 (fun v H1 locs1 hP hz hq hS => ?_)
  obtain ⟨⟨g1, hR1, hgx⟩, rfl⟩ := hP
  have hO : outA E o9 f H1 := hO.kept (hq _ ho9 hN.2)
  refine lv_i2l hx hb dL_approve_8 rfl ?_
  refine g_last (j := 0) hx hb hC hO hS (Or.inl (Or.inr rfl)) ⟨rfl, by decide, by decide⟩ dL_approve_9 (fun H2 locs2 hO hz2 hq2 hS => ?_)
  have hR2 := ra_keptO hR1 hgx hN ho9 hq2
  refine lv_goto (tgt := 21) hx hb dL_approve_10 (by decide) ?_
  refine lv_iconst (v := 0) hx hb dL_approve_21 (by decide) ?_
  exact wr_i hx hb hr hlocks hS ⟨g1, _, hR2, by rw [hz2]; exact hgx, hO, rfl, (fun _ => rfl)⟩ (by show 0 + rm.cells ≤ 2; omega) (by show 0 + rm.slots ≤ 60; omega) dL_approve_22
set_option maxRecDepth 100000 in
set_option maxHeartbeats 4000000 in
theorem hth_approve_1 {l : Launch} {E : EE} {S : St} {g : Gh} {b0 b1 : Int32} {o9 : Nat} (hM : TM l E yX6_approve cX6_approve 5 (some .int) (tD 8) [.ref (g.ad 1 0), .int (b0), .int (b1)] (RA E S g) "java/lang/IndexOutOfBoundsException") : HM l E yL_approve cL_approve 5 [(0, 10, 13, 13), (0, 10, 17, 15)] [.ref (g.ad 1 0), .int (b0), .int (b1), .ref (o9)] g S S o9 1 0 := by
  refine hm_of rfl (Nat.le_of_ble_eq_true rfl) (fun p e s m below meth c ls f hx hb hr hml (hown : s.vm.findClass RL = some m.cls) hZ hX hT hlocks hR hO hN hl => ?_)
  have hC := hZ.1.1
  have hS : va_S (fun q => (ow g q ∨ q = o9) ∨ s.heap.size ≤ q) s.heap s.heap [] := va_S.rf
  have ho9 := hO.lt
  have hl : lv_has ls 5 [(0, .ref (g.ad 1 0)), (1, .int (b0)), (2, .int (b1)), (3, .ref (o9))] := hl
  refine lv_aload_n hx hb dL_approve_0 rfl (lv_at hl 3 rfl) ?_
  refine lv_iconst (v := 0) hx hb dL_approve_1 (by decide) ?_
  refine lv_aload_n hx hb dL_approve_2 rfl (lv_at hl 0 rfl) ?_
  refine lv_iload_n hx hb dL_approve_3 rfl (lv_at hl 1 rfl) ?_
  refine lv_iload_n hx hb dL_approve_4 rfl (lv_at hl 2 rfl) ?_
  refine hc_V (As := [.int (b0), .int (b1)]) hx hb hml hown hZ.1 hX hl hM (rec_of hC (RA.x hR) rfl) (zm_L_59 hC.1) kv_X6_approve hR rfl rfl ⟨(Nat.le_of_ble_eq_true rfl), (Nat.le_of_ble_eq_true rfl)⟩ ⟨rfl, rfl⟩ (Nat.le_of_ble_eq_true rfl) ⟨(Nat.le_of_ble_eq_true rfl), (Nat.le_of_ble_eq_true rfl)⟩ dL_approve_5 (fun q H1 locs1 ce hz hq hL hce hcv hcl => ?_)
  refine vx_catch (own := RL) hown [] ⟨0, 10, 13, 13⟩ [⟨0, 10, 17, 15⟩] (hT.trans rfl) (fun z h => by cases h) (by decide) (by decide) (zc_L_13 hC.1) (cast_IOOBE hZ.1) hce hcv hcl ?_
  have hS : va_S (fun q => (ow g q ∨ q = o9) ∨ s.heap.size ≤ q) s.heap H1 locs1 := ⟨hz, fun q h1 _ => hq q h1, fun q h => Or.inr (hL q h)⟩
  refine lv_astore (lv' := [(4, .ref (q)), (0, .ref (g.ad 1 0)), (1, .int (b0)), (2, .int (b1)), (3, .ref (o9))]) hx hb dL_approve_13 hl (by decide) rfl (fun ls hl => ?_)
  refine lv_iconst (v := 1) hx hb dL_approve_15 (by decide) ?_
  exact wr_i hx hb hr hlocks hS ⟨g, f, hR.kept hq, gX.refl g _ _, hO.kept (hq _ ho9), rfl, fun h => absurd h (by decide)⟩ (Nat.le_of_ble_eq_true rfl) (Nat.le_of_ble_eq_true rfl) dL_approve_16
set_option maxRecDepth 100000 in
set_option maxHeartbeats 4000000 in
theorem hth_approve_2 {l : Launch} {E : EE} {S : St} {g : Gh} {b0 b1 : Int32} {o9 : Nat} (hM : TM l E yX6_approve cX6_approve 5 (some .int) (tD 8) [.ref (g.ad 1 0), .int (b0), .int (b1)] (RA E S g) "java/lang/IllegalStateException") : HM l E yL_approve cL_approve 5 [(0, 10, 13, 13), (0, 10, 17, 15)] [.ref (g.ad 1 0), .int (b0), .int (b1), .ref (o9)] g S S o9 2 0 := by
  refine hm_of rfl (Nat.le_of_ble_eq_true rfl) (fun p e s m below meth c ls f hx hb hr hml (hown : s.vm.findClass RL = some m.cls) hZ hX hT hlocks hR hO hN hl => ?_)
  have hC := hZ.1.1
  have hS : va_S (fun q => (ow g q ∨ q = o9) ∨ s.heap.size ≤ q) s.heap s.heap [] := va_S.rf
  have ho9 := hO.lt
  have hl : lv_has ls 5 [(0, .ref (g.ad 1 0)), (1, .int (b0)), (2, .int (b1)), (3, .ref (o9))] := hl
  refine lv_aload_n hx hb dL_approve_0 rfl (lv_at hl 3 rfl) ?_
  refine lv_iconst (v := 0) hx hb dL_approve_1 (by decide) ?_
  refine lv_aload_n hx hb dL_approve_2 rfl (lv_at hl 0 rfl) ?_
  refine lv_iload_n hx hb dL_approve_3 rfl (lv_at hl 1 rfl) ?_
  refine lv_iload_n hx hb dL_approve_4 rfl (lv_at hl 2 rfl) ?_
  refine hc_V (As := [.int (b0), .int (b1)]) hx hb hml hown hZ.1 hX hl hM (rec_of hC (RA.x hR) rfl) (zm_L_59 hC.1) kv_X6_approve hR rfl rfl ⟨(Nat.le_of_ble_eq_true rfl), (Nat.le_of_ble_eq_true rfl)⟩ ⟨rfl, rfl⟩ (Nat.le_of_ble_eq_true rfl) ⟨(Nat.le_of_ble_eq_true rfl), (Nat.le_of_ble_eq_true rfl)⟩ dL_approve_5 (fun q H1 locs1 ce hz hq hL hce hcv hcl => ?_)
  refine vx_catch (own := RL) hown [⟨0, 10, 13, 13⟩] ⟨0, 10, 17, 15⟩ [] (hT.trans rfl) (fun z h => by rw [List.mem_singleton.mp h]; exact Or.inr ⟨by decide, _, zc_L_13 hC.1, hZ.2.2.1⟩) (by decide) (by decide) (zc_L_15 hC.1) (cast_ISE hZ.1) hce hcv hcl ?_
  have hS : va_S (fun q => (ow g q ∨ q = o9) ∨ s.heap.size ≤ q) s.heap H1 locs1 := ⟨hz, fun q h1 _ => hq q h1, fun q h => Or.inr (hL q h)⟩
  refine lv_astore (lv' := [(4, .ref (q)), (0, .ref (g.ad 1 0)), (1, .int (b0)), (2, .int (b1)), (3, .ref (o9))]) hx hb dL_approve_17 hl (by decide) rfl (fun ls hl => ?_)
  refine lv_iconst (v := 2) hx hb dL_approve_19 (by decide) ?_
  exact wr_i hx hb hr hlocks hS ⟨g, f, hR.kept hq, gX.refl g _ _, hO.kept (hq _ ho9), rfl, fun h => absurd h (by decide)⟩ (Nat.le_of_ble_eq_true rfl) (Nat.le_of_ble_eq_true rfl) dL_approve_20
set_option maxRecDepth 100000 in
set_option maxHeartbeats 4000000 in
theorem hok_refuse {l : Launch} {E : EE} {S S' : St} {g : Gh} {rm : Room} {b0 b1 : Int32} {a9 : Int32} {o9 : Nat} (hM : WM l E yX6_refuse cX6_refuse 5 (some .int) rm [.ref (g.ad 1 0), .int (b0), .int (b1)] (RA E S g) (ow g) (CAp E S' g a9)) (hrm : rm.frames ≤ 15 ∧ rm.locals ≤ 480 ∧ rm.cells ≤ 2 ∧ rm.slots ≤ 60) : HM l E yL_refuse cL_refuse 5 [(0, 10, 13, 13), (0, 10, 17, 15)] [.ref (g.ad 1 0), .int (b0), .int (b1), .ref (o9)] g S S' o9 0 a9.toInt64 := by
  refine hm_of rfl (Nat.le_of_ble_eq_true rfl) (fun p e s m below meth c ls f hx hb hr hml (hown : s.vm.findClass RL = some m.cls) hZ hX hT hlocks hR hO hN hl => ?_)
  have hC := hZ.1.1
  have hS : va_S (fun q => (ow g q ∨ q = o9) ∨ s.heap.size ≤ q) s.heap s.heap [] := va_S.rf
  have ho9 := hO.lt
  have hl : lv_has ls 5 [(0, .ref (g.ad 1 0)), (1, .int (b0)), (2, .int (b1)), (3, .ref (o9))] := hl
  refine lv_aload_n hx hb dL_refuse_0 rfl (lv_at hl 3 rfl) ?_
  refine lv_iconst (v := 0) hx hb dL_refuse_1 (by decide) ?_
  refine lv_aload_n hx hb dL_refuse_2 rfl (lv_at hl 0 rfl) ?_
  refine lv_iload_n hx hb dL_refuse_3 rfl (lv_at hl 1 rfl) ?_
  refine lv_iload_n hx hb dL_refuse_4 rfl (lv_at hl 2 rfl) ?_
  refine wc_V (As := [.int (b0), .int (b1)]) hx hb hml hown hC hl hM (rec_of hC (RA.x hR) rfl) (zm_L_62 hC.1) kv_X6_refuse hR hS (fun q h => h.elim (fun w => Or.inl (Or.inl w)) Or.inr) rfl rfl ⟨by show rm.frames + 1 ≤ 16; omega, by show 8 + (5 + 11) + rm.locals ≤ 520; omega⟩ (Nat.le_of_ble_eq_true rfl) ⟨by show 0 + rm.cells ≤ 2; omega, by show 0 + rm.slots ≤ 60; omega⟩ dL_refuse_5 (fun v H1 locs1 hP hz hq hS => ?_)
  obtain ⟨⟨g1, hR1, hgx⟩, rfl⟩ := hP
  have hO : outA E o9 f H1 := hO.kept (hq _ ho9 hN.2)
  refine lv_i2l hx hb dL_refuse_8 rfl ?_
  refine g_last (j := 0) hx hb hC hO hS (Or.inl (Or.inr rfl)) ⟨rfl, by decide, by decide⟩ dL_refuse_9 (fun H2 locs2 hO hz2 hq2 hS => ?_)
  have hR2 := ra_keptO hR1 hgx hN ho9 hq2
  refine lv_goto (tgt := 21) hx hb dL_refuse_10 (by decide) ?_
  refine lv_iconst (v := 0) hx hb dL_refuse_21 (by decide) ?_
  exact wr_i hx hb hr hlocks hS ⟨g1, _, hR2, by rw [hz2]; exact hgx, hO, rfl, (fun _ => rfl)⟩ (by show 0 + rm.cells ≤ 2; omega) (by show 0 + rm.slots ≤ 60; omega) dL_refuse_22
set_option maxRecDepth 100000 in
set_option maxHeartbeats 4000000 in
theorem hth_refuse_1 {l : Launch} {E : EE} {S : St} {g : Gh} {b0 b1 : Int32} {o9 : Nat} (hM : TM l E yX6_refuse cX6_refuse 5 (some .int) (tD 8) [.ref (g.ad 1 0), .int (b0), .int (b1)] (RA E S g) "java/lang/IndexOutOfBoundsException") : HM l E yL_refuse cL_refuse 5 [(0, 10, 13, 13), (0, 10, 17, 15)] [.ref (g.ad 1 0), .int (b0), .int (b1), .ref (o9)] g S S o9 1 0 := by
  refine hm_of rfl (Nat.le_of_ble_eq_true rfl) (fun p e s m below meth c ls f hx hb hr hml (hown : s.vm.findClass RL = some m.cls) hZ hX hT hlocks hR hO hN hl => ?_)
  have hC := hZ.1.1
  have hS : va_S (fun q => (ow g q ∨ q = o9) ∨ s.heap.size ≤ q) s.heap s.heap [] := va_S.rf
  have ho9 := hO.lt
  have hl : lv_has ls 5 [(0, .ref (g.ad 1 0)), (1, .int (b0)), (2, .int (b1)), (3, .ref (o9))] := hl
  refine lv_aload_n hx hb dL_refuse_0 rfl (lv_at hl 3 rfl) ?_
  refine lv_iconst (v := 0) hx hb dL_refuse_1 (by decide) ?_
  refine lv_aload_n hx hb dL_refuse_2 rfl (lv_at hl 0 rfl) ?_
  refine lv_iload_n hx hb dL_refuse_3 rfl (lv_at hl 1 rfl) ?_
  refine lv_iload_n hx hb dL_refuse_4 rfl (lv_at hl 2 rfl) ?_
  refine hc_V (As := [.int (b0), .int (b1)]) hx hb hml hown hZ.1 hX hl hM (rec_of hC (RA.x hR) rfl) (zm_L_62 hC.1) kv_X6_refuse hR rfl rfl ⟨(Nat.le_of_ble_eq_true rfl), (Nat.le_of_ble_eq_true rfl)⟩ ⟨rfl, rfl⟩ (Nat.le_of_ble_eq_true rfl) ⟨(Nat.le_of_ble_eq_true rfl), (Nat.le_of_ble_eq_true rfl)⟩ dL_refuse_5 (fun q H1 locs1 ce hz hq hL hce hcv hcl => ?_)
  refine vx_catch (own := RL) hown [] ⟨0, 10, 13, 13⟩ [⟨0, 10, 17, 15⟩] (hT.trans rfl) (fun z h => by cases h) (by decide) (by decide) (zc_L_13 hC.1) (cast_IOOBE hZ.1) hce hcv hcl ?_
  have hS : va_S (fun q => (ow g q ∨ q = o9) ∨ s.heap.size ≤ q) s.heap H1 locs1 := ⟨hz, fun q h1 _ => hq q h1, fun q h => Or.inr (hL q h)⟩
  refine lv_astore (lv' := [(4, .ref (q)), (0, .ref (g.ad 1 0)), (1, .int (b0)), (2, .int (b1)), (3, .ref (o9))]) hx hb dL_refuse_13 hl (by decide) rfl (fun ls hl => ?_)
  refine lv_iconst (v := 1) hx hb dL_refuse_15 (by decide) ?_
  exact wr_i hx hb hr hlocks hS ⟨g, f, hR.kept hq, gX.refl g _ _, hO.kept (hq _ ho9), rfl, fun h => absurd h (by decide)⟩ (Nat.le_of_ble_eq_true rfl) (Nat.le_of_ble_eq_true rfl) dL_refuse_16
set_option maxRecDepth 100000 in
set_option maxHeartbeats 4000000 in
theorem hth_refuse_2 {l : Launch} {E : EE} {S : St} {g : Gh} {b0 b1 : Int32} {o9 : Nat} (hM : TM l E yX6_refuse cX6_refuse 5 (some .int) (tD 8) [.ref (g.ad 1 0), .int (b0), .int (b1)] (RA E S g) "java/lang/IllegalStateException") : HM l E yL_refuse cL_refuse 5 [(0, 10, 13, 13), (0, 10, 17, 15)] [.ref (g.ad 1 0), .int (b0), .int (b1), .ref (o9)] g S S o9 2 0 := by
  refine hm_of rfl (Nat.le_of_ble_eq_true rfl) (fun p e s m below meth c ls f hx hb hr hml (hown : s.vm.findClass RL = some m.cls) hZ hX hT hlocks hR hO hN hl => ?_)
  have hC := hZ.1.1
  have hS : va_S (fun q => (ow g q ∨ q = o9) ∨ s.heap.size ≤ q) s.heap s.heap [] := va_S.rf
  have ho9 := hO.lt
  have hl : lv_has ls 5 [(0, .ref (g.ad 1 0)), (1, .int (b0)), (2, .int (b1)), (3, .ref (o9))] := hl
  refine lv_aload_n hx hb dL_refuse_0 rfl (lv_at hl 3 rfl) ?_
  refine lv_iconst (v := 0) hx hb dL_refuse_1 (by decide) ?_
  refine lv_aload_n hx hb dL_refuse_2 rfl (lv_at hl 0 rfl) ?_
  refine lv_iload_n hx hb dL_refuse_3 rfl (lv_at hl 1 rfl) ?_
  refine lv_iload_n hx hb dL_refuse_4 rfl (lv_at hl 2 rfl) ?_
  refine hc_V (As := [.int (b0), .int (b1)]) hx hb hml hown hZ.1 hX hl hM (rec_of hC (RA.x hR) rfl) (zm_L_62 hC.1) kv_X6_refuse hR rfl rfl ⟨(Nat.le_of_ble_eq_true rfl), (Nat.le_of_ble_eq_true rfl)⟩ ⟨rfl, rfl⟩ (Nat.le_of_ble_eq_true rfl) ⟨(Nat.le_of_ble_eq_true rfl), (Nat.le_of_ble_eq_true rfl)⟩ dL_refuse_5 (fun q H1 locs1 ce hz hq hL hce hcv hcl => ?_)
  refine vx_catch (own := RL) hown [⟨0, 10, 13, 13⟩] ⟨0, 10, 17, 15⟩ [] (hT.trans rfl) (fun z h => by rw [List.mem_singleton.mp h]; exact Or.inr ⟨by decide, _, zc_L_13 hC.1, hZ.2.2.1⟩) (by decide) (by decide) (zc_L_15 hC.1) (cast_ISE hZ.1) hce hcv hcl ?_
  have hS : va_S (fun q => (ow g q ∨ q = o9) ∨ s.heap.size ≤ q) s.heap H1 locs1 := ⟨hz, fun q h1 _ => hq q h1, fun q h => Or.inr (hL q h)⟩
  refine lv_astore (lv' := [(4, .ref (q)), (0, .ref (g.ad 1 0)), (1, .int (b0)), (2, .int (b1)), (3, .ref (o9))]) hx hb dL_refuse_17 hl (by decide) rfl (fun ls hl => ?_)
  refine lv_iconst (v := 2) hx hb dL_refuse_19 (by decide) ?_
  exact wr_i hx hb hr hlocks hS ⟨g, f, hR.kept hq, gX.refl g _ _, hO.kept (hq _ ho9), rfl, fun h => absurd h (by decide)⟩ (Nat.le_of_ble_eq_true rfl) (Nat.le_of_ble_eq_true rfl) dL_refuse_20
set_option maxRecDepth 100000 in
set_option maxHeartbeats 4000000 in
theorem hok_settle {l : Launch} {E : EE} {S S' : St} {g : Gh} {rm : Room} {b0 b1 : Int32} {a9 : Int32} {o9 : Nat} (hM : WM l E yX6_settle cX6_settle 4 (some .int) rm [.ref (g.ad 1 0), .int (b0), .int (b1)] (RA E S g) (ow g) (CAp E S' g a9)) (hrm : rm.frames ≤ 15 ∧ rm.locals ≤ 480 ∧ rm.cells ≤ 2 ∧ rm.slots ≤ 60) : HM l E yL_settle cL_settle 5 [(0, 10, 13, 13), (0, 10, 17, 15)] [.ref (g.ad 1 0), .int (b0), .int (b1), .ref (o9)] g S S' o9 0 a9.toInt64 := by
  refine hm_of rfl (Nat.le_of_ble_eq_true rfl) (fun p e s m below meth c ls f hx hb hr hml (hown : s.vm.findClass RL = some m.cls) hZ hX hT hlocks hR hO hN hl => ?_)
  have hC := hZ.1.1
  have hS : va_S (fun q => (ow g q ∨ q = o9) ∨ s.heap.size ≤ q) s.heap s.heap [] := va_S.rf
  have ho9 := hO.lt
  have hl : lv_has ls 5 [(0, .ref (g.ad 1 0)), (1, .int (b0)), (2, .int (b1)), (3, .ref (o9))] := hl
  refine lv_aload_n hx hb dL_settle_0 rfl (lv_at hl 3 rfl) ?_
  refine lv_iconst (v := 0) hx hb dL_settle_1 (by decide) ?_
  refine lv_aload_n hx hb dL_settle_2 rfl (lv_at hl 0 rfl) ?_
  refine lv_iload_n hx hb dL_settle_3 rfl (lv_at hl 1 rfl) ?_
  refine lv_iload_n hx hb dL_settle_4 rfl (lv_at hl 2 rfl) ?_
  refine wc_V (As := [.int (b0), .int (b1)]) hx hb hml hown hC hl hM (rec_of hC (RA.x hR) rfl) (zm_L_65 hC.1) kv_X6_settle hR hS (fun q h => h.elim (fun w => Or.inl (Or.inl w)) Or.inr) rfl rfl ⟨by show rm.frames + 1 ≤ 16; omega, by show 8 + (4 + 11) + rm.locals ≤ 520; omega⟩ (Nat.le_of_ble_eq_true rfl) ⟨by show 0 + rm.cells ≤ 2; omega, by show 0 + rm.slots ≤ 60; omega⟩ dL_settle_5 (fun v H1 locs1 hP hz hq hS => ?_)
  obtain ⟨⟨g1, hR1, hgx⟩, rfl⟩ := hP
  have hO : outA E o9 f H1 := hO.kept (hq _ ho9 hN.2)
  refine lv_i2l hx hb dL_settle_8 rfl ?_
  refine g_last (j := 0) hx hb hC hO hS (Or.inl (Or.inr rfl)) ⟨rfl, by decide, by decide⟩ dL_settle_9 (fun H2 locs2 hO hz2 hq2 hS => ?_)
  have hR2 := ra_keptO hR1 hgx hN ho9 hq2
  refine lv_goto (tgt := 21) hx hb dL_settle_10 (by decide) ?_
  refine lv_iconst (v := 0) hx hb dL_settle_21 (by decide) ?_
  exact wr_i hx hb hr hlocks hS ⟨g1, _, hR2, by rw [hz2]; exact hgx, hO, rfl, (fun _ => rfl)⟩ (by show 0 + rm.cells ≤ 2; omega) (by show 0 + rm.slots ≤ 60; omega) dL_settle_22
set_option maxRecDepth 100000 in
set_option maxHeartbeats 4000000 in
theorem hth_settle_1 {l : Launch} {E : EE} {S : St} {g : Gh} {b0 b1 : Int32} {o9 : Nat} (hM : TM l E yX6_settle cX6_settle 4 (some .int) (tD 8) [.ref (g.ad 1 0), .int (b0), .int (b1)] (RA E S g) "java/lang/IndexOutOfBoundsException") : HM l E yL_settle cL_settle 5 [(0, 10, 13, 13), (0, 10, 17, 15)] [.ref (g.ad 1 0), .int (b0), .int (b1), .ref (o9)] g S S o9 1 0 := by
  refine hm_of rfl (Nat.le_of_ble_eq_true rfl) (fun p e s m below meth c ls f hx hb hr hml (hown : s.vm.findClass RL = some m.cls) hZ hX hT hlocks hR hO hN hl => ?_)
  have hC := hZ.1.1
  have hS : va_S (fun q => (ow g q ∨ q = o9) ∨ s.heap.size ≤ q) s.heap s.heap [] := va_S.rf
  have ho9 := hO.lt
  have hl : lv_has ls 5 [(0, .ref (g.ad 1 0)), (1, .int (b0)), (2, .int (b1)), (3, .ref (o9))] := hl
  refine lv_aload_n hx hb dL_settle_0 rfl (lv_at hl 3 rfl) ?_
  refine lv_iconst (v := 0) hx hb dL_settle_1 (by decide) ?_
  refine lv_aload_n hx hb dL_settle_2 rfl (lv_at hl 0 rfl) ?_
  refine lv_iload_n hx hb dL_settle_3 rfl (lv_at hl 1 rfl) ?_
  refine lv_iload_n hx hb dL_settle_4 rfl (lv_at hl 2 rfl) ?_
  refine hc_V (As := [.int (b0), .int (b1)]) hx hb hml hown hZ.1 hX hl hM (rec_of hC (RA.x hR) rfl) (zm_L_65 hC.1) kv_X6_settle hR rfl rfl ⟨(Nat.le_of_ble_eq_true rfl), (Nat.le_of_ble_eq_true rfl)⟩ ⟨rfl, rfl⟩ (Nat.le_of_ble_eq_true rfl) ⟨(Nat.le_of_ble_eq_true rfl), (Nat.le_of_ble_eq_true rfl)⟩ dL_settle_5 (fun q H1 locs1 ce hz hq hL hce hcv hcl => ?_)
  refine vx_catch (own := RL) hown [] ⟨0, 10, 13, 13⟩ [⟨0, 10, 17, 15⟩] (hT.trans rfl) (fun z h => by cases h) (by decide) (by decide) (zc_L_13 hC.1) (cast_IOOBE hZ.1) hce hcv hcl ?_
  have hS : va_S (fun q => (ow g q ∨ q = o9) ∨ s.heap.size ≤ q) s.heap H1 locs1 := ⟨hz, fun q h1 _ => hq q h1, fun q h => Or.inr (hL q h)⟩
  refine lv_astore (lv' := [(4, .ref (q)), (0, .ref (g.ad 1 0)), (1, .int (b0)), (2, .int (b1)), (3, .ref (o9))]) hx hb dL_settle_13 hl (by decide) rfl (fun ls hl => ?_)
  refine lv_iconst (v := 1) hx hb dL_settle_15 (by decide) ?_
  exact wr_i hx hb hr hlocks hS ⟨g, f, hR.kept hq, gX.refl g _ _, hO.kept (hq _ ho9), rfl, fun h => absurd h (by decide)⟩ (Nat.le_of_ble_eq_true rfl) (Nat.le_of_ble_eq_true rfl) dL_settle_16
set_option maxRecDepth 100000 in
set_option maxHeartbeats 4000000 in
theorem hth_settle_2 {l : Launch} {E : EE} {S : St} {g : Gh} {b0 b1 : Int32} {o9 : Nat} (hM : TM l E yX6_settle cX6_settle 4 (some .int) (tD 8) [.ref (g.ad 1 0), .int (b0), .int (b1)] (RA E S g) "java/lang/IllegalStateException") : HM l E yL_settle cL_settle 5 [(0, 10, 13, 13), (0, 10, 17, 15)] [.ref (g.ad 1 0), .int (b0), .int (b1), .ref (o9)] g S S o9 2 0 := by
  refine hm_of rfl (Nat.le_of_ble_eq_true rfl) (fun p e s m below meth c ls f hx hb hr hml (hown : s.vm.findClass RL = some m.cls) hZ hX hT hlocks hR hO hN hl => ?_)
  have hC := hZ.1.1
  have hS : va_S (fun q => (ow g q ∨ q = o9) ∨ s.heap.size ≤ q) s.heap s.heap [] := va_S.rf
  have ho9 := hO.lt
  have hl : lv_has ls 5 [(0, .ref (g.ad 1 0)), (1, .int (b0)), (2, .int (b1)), (3, .ref (o9))] := hl
  refine lv_aload_n hx hb dL_settle_0 rfl (lv_at hl 3 rfl) ?_
  refine lv_iconst (v := 0) hx hb dL_settle_1 (by decide) ?_
  refine lv_aload_n hx hb dL_settle_2 rfl (lv_at hl 0 rfl) ?_
  refine lv_iload_n hx hb dL_settle_3 rfl (lv_at hl 1 rfl) ?_
  refine lv_iload_n hx hb dL_settle_4 rfl (lv_at hl 2 rfl) ?_
  refine hc_V (As := [.int (b0), .int (b1)]) hx hb hml hown hZ.1 hX hl hM (rec_of hC (RA.x hR) rfl) (zm_L_65 hC.1) kv_X6_settle hR rfl rfl ⟨(Nat.le_of_ble_eq_true rfl), (Nat.le_of_ble_eq_true rfl)⟩ ⟨rfl, rfl⟩ (Nat.le_of_ble_eq_true rfl) ⟨(Nat.le_of_ble_eq_true rfl), (Nat.le_of_ble_eq_true rfl)⟩ dL_settle_5 (fun q H1 locs1 ce hz hq hL hce hcv hcl => ?_)
  refine vx_catch (own := RL) hown [⟨0, 10, 13, 13⟩] ⟨0, 10, 17, 15⟩ [] (hT.trans rfl) (fun z h => by rw [List.mem_singleton.mp h]; exact Or.inr ⟨by decide, _, zc_L_13 hC.1, hZ.2.2.1⟩) (by decide) (by decide) (zc_L_15 hC.1) (cast_ISE hZ.1) hce hcv hcl ?_
  have hS : va_S (fun q => (ow g q ∨ q = o9) ∨ s.heap.size ≤ q) s.heap H1 locs1 := ⟨hz, fun q h1 _ => hq q h1, fun q h => Or.inr (hL q h)⟩
  refine lv_astore (lv' := [(4, .ref (q)), (0, .ref (g.ad 1 0)), (1, .int (b0)), (2, .int (b1)), (3, .ref (o9))]) hx hb dL_settle_17 hl (by decide) rfl (fun ls hl => ?_)
  refine lv_iconst (v := 2) hx hb dL_settle_19 (by decide) ?_
  exact wr_i hx hb hr hlocks hS ⟨g, f, hR.kept hq, gX.refl g _ _, hO.kept (hq _ ho9), rfl, fun h => absurd h (by decide)⟩ (Nat.le_of_ble_eq_true rfl) (Nat.le_of_ble_eq_true rfl) dL_settle_20
set_option maxRecDepth 100000 in
set_option maxHeartbeats 4000000 in
theorem hok_ofCharge {l : Launch} {E : EE} {S S' : St} {g : Gh} {rm : Room} {b0 b1 : Int32} {a9 : Int32} {o9 : Nat} (hM : WM l E yX6_ofCharge cX6_ofCharge 4 (some .int) rm [.ref (g.ad 1 0), .int (b0), .int (b1)] (RA E S g) (ow g) (CAp E S' g a9)) (hrm : rm.frames ≤ 15 ∧ rm.locals ≤ 480 ∧ rm.cells ≤ 2 ∧ rm.slots ≤ 60) : HM l E yL_ofCharge cL_ofCharge 5 [(0, 10, 13, 13), (0, 10, 17, 21)] [.ref (g.ad 1 0), .int (b0), .int (b1), .ref (o9)] g S S' o9 0 a9.toInt64 := by
  refine hm_of rfl (Nat.le_of_ble_eq_true rfl) (fun p e s m below meth c ls f hx hb hr hml (hown : s.vm.findClass RL = some m.cls) hZ hX hT hlocks hR hO hN hl => ?_)
  have hC := hZ.1.1
  have hS : va_S (fun q => (ow g q ∨ q = o9) ∨ s.heap.size ≤ q) s.heap s.heap [] := va_S.rf
  have ho9 := hO.lt
  have hl : lv_has ls 5 [(0, .ref (g.ad 1 0)), (1, .int (b0)), (2, .int (b1)), (3, .ref (o9))] := hl
  refine lv_aload_n hx hb dL_ofCharge_0 rfl (lv_at hl 3 rfl) ?_
  refine lv_iconst (v := 0) hx hb dL_ofCharge_1 (by decide) ?_
  refine lv_aload_n hx hb dL_ofCharge_2 rfl (lv_at hl 0 rfl) ?_
  refine lv_iload_n hx hb dL_ofCharge_3 rfl (lv_at hl 1 rfl) ?_
  refine lv_iload_n hx hb dL_ofCharge_4 rfl (lv_at hl 2 rfl) ?_
  refine wc_V (As := [.int (b0), .int (b1)]) hx hb hml hown hC hl hM (rec_of hC (RA.x hR) rfl) (zm_L_69 hC.1) kv_X6_ofCharge hR hS (fun q h => h.elim (fun w => Or.inl (Or.inl w)) Or.inr) rfl rfl ⟨by show rm.frames + 1 ≤ 16; omega, by show 8 + (4 + 11) + rm.locals ≤ 520; omega⟩ (Nat.le_of_ble_eq_true rfl) ⟨by show 0 + rm.cells ≤ 2; omega, by show 0 + rm.slots ≤ 60; omega⟩ dL_ofCharge_5 (fun v H1 locs1 hP hz hq hS => ?_)
  obtain ⟨⟨g1, hR1, hgx⟩, rfl⟩ := hP
  have hO : outA E o9 f H1 := hO.kept (hq _ ho9 hN.2)
  refine lv_i2l hx hb dL_ofCharge_8 rfl ?_
  refine g_last (j := 0) hx hb hC hO hS (Or.inl (Or.inr rfl)) ⟨rfl, by decide, by decide⟩ dL_ofCharge_9 (fun H2 locs2 hO hz2 hq2 hS => ?_)
  have hR2 := ra_keptO hR1 hgx hN ho9 hq2
  refine lv_goto (tgt := 21) hx hb dL_ofCharge_10 (by decide) ?_
  refine lv_iconst (v := 0) hx hb dL_ofCharge_21 (by decide) ?_
  exact wr_i hx hb hr hlocks hS ⟨g1, _, hR2, by rw [hz2]; exact hgx, hO, rfl, (fun _ => rfl)⟩ (by show 0 + rm.cells ≤ 2; omega) (by show 0 + rm.slots ≤ 60; omega) dL_ofCharge_22
set_option maxRecDepth 100000 in
set_option maxHeartbeats 4000000 in
theorem hth_ofCharge_1 {l : Launch} {E : EE} {S : St} {g : Gh} {b0 b1 : Int32} {o9 : Nat} (hM : TM l E yX6_ofCharge cX6_ofCharge 4 (some .int) (tD 8) [.ref (g.ad 1 0), .int (b0), .int (b1)] (RA E S g) "java/lang/IndexOutOfBoundsException") : HM l E yL_ofCharge cL_ofCharge 5 [(0, 10, 13, 13), (0, 10, 17, 21)] [.ref (g.ad 1 0), .int (b0), .int (b1), .ref (o9)] g S S o9 1 0 := by
  refine hm_of rfl (Nat.le_of_ble_eq_true rfl) (fun p e s m below meth c ls f hx hb hr hml (hown : s.vm.findClass RL = some m.cls) hZ hX hT hlocks hR hO hN hl => ?_)
  have hC := hZ.1.1
  have hS : va_S (fun q => (ow g q ∨ q = o9) ∨ s.heap.size ≤ q) s.heap s.heap [] := va_S.rf
  have ho9 := hO.lt
  have hl : lv_has ls 5 [(0, .ref (g.ad 1 0)), (1, .int (b0)), (2, .int (b1)), (3, .ref (o9))] := hl
  refine lv_aload_n hx hb dL_ofCharge_0 rfl (lv_at hl 3 rfl) ?_
  refine lv_iconst (v := 0) hx hb dL_ofCharge_1 (by decide) ?_
  refine lv_aload_n hx hb dL_ofCharge_2 rfl (lv_at hl 0 rfl) ?_
  refine lv_iload_n hx hb dL_ofCharge_3 rfl (lv_at hl 1 rfl) ?_
  refine lv_iload_n hx hb dL_ofCharge_4 rfl (lv_at hl 2 rfl) ?_
  refine hc_V (As := [.int (b0), .int (b1)]) hx hb hml hown hZ.1 hX hl hM (rec_of hC (RA.x hR) rfl) (zm_L_69 hC.1) kv_X6_ofCharge hR rfl rfl ⟨(Nat.le_of_ble_eq_true rfl), (Nat.le_of_ble_eq_true rfl)⟩ ⟨rfl, rfl⟩ (Nat.le_of_ble_eq_true rfl) ⟨(Nat.le_of_ble_eq_true rfl), (Nat.le_of_ble_eq_true rfl)⟩ dL_ofCharge_5 (fun q H1 locs1 ce hz hq hL hce hcv hcl => ?_)
  refine vx_catch (own := RL) hown [] ⟨0, 10, 13, 13⟩ [⟨0, 10, 17, 21⟩] (hT.trans rfl) (fun z h => by cases h) (by decide) (by decide) (zc_L_13 hC.1) (cast_IOOBE hZ.1) hce hcv hcl ?_
  have hS : va_S (fun q => (ow g q ∨ q = o9) ∨ s.heap.size ≤ q) s.heap H1 locs1 := ⟨hz, fun q h1 _ => hq q h1, fun q h => Or.inr (hL q h)⟩
  refine lv_astore (lv' := [(4, .ref (q)), (0, .ref (g.ad 1 0)), (1, .int (b0)), (2, .int (b1)), (3, .ref (o9))]) hx hb dL_ofCharge_13 hl (by decide) rfl (fun ls hl => ?_)
  refine lv_iconst (v := 1) hx hb dL_ofCharge_15 (by decide) ?_
  exact wr_i hx hb hr hlocks hS ⟨g, f, hR.kept hq, gX.refl g _ _, hO.kept (hq _ ho9), rfl, fun h => absurd h (by decide)⟩ (Nat.le_of_ble_eq_true rfl) (Nat.le_of_ble_eq_true rfl) dL_ofCharge_16
set_option maxRecDepth 100000 in
set_option maxHeartbeats 4000000 in
theorem hth_ofCharge_2 {l : Launch} {E : EE} {S : St} {g : Gh} {b0 b1 : Int32} {o9 : Nat} (hM : TM l E yX6_ofCharge cX6_ofCharge 4 (some .int) (tD 8) [.ref (g.ad 1 0), .int (b0), .int (b1)] (RA E S g) "java/lang/IllegalArgumentException") : HM l E yL_ofCharge cL_ofCharge 5 [(0, 10, 13, 13), (0, 10, 17, 21)] [.ref (g.ad 1 0), .int (b0), .int (b1), .ref (o9)] g S S o9 2 0 := by
  refine hm_of rfl (Nat.le_of_ble_eq_true rfl) (fun p e s m below meth c ls f hx hb hr hml (hown : s.vm.findClass RL = some m.cls) hZ hX hT hlocks hR hO hN hl => ?_)
  have hC := hZ.1.1
  have hS : va_S (fun q => (ow g q ∨ q = o9) ∨ s.heap.size ≤ q) s.heap s.heap [] := va_S.rf
  have ho9 := hO.lt
  have hl : lv_has ls 5 [(0, .ref (g.ad 1 0)), (1, .int (b0)), (2, .int (b1)), (3, .ref (o9))] := hl
  refine lv_aload_n hx hb dL_ofCharge_0 rfl (lv_at hl 3 rfl) ?_
  refine lv_iconst (v := 0) hx hb dL_ofCharge_1 (by decide) ?_
  refine lv_aload_n hx hb dL_ofCharge_2 rfl (lv_at hl 0 rfl) ?_
  refine lv_iload_n hx hb dL_ofCharge_3 rfl (lv_at hl 1 rfl) ?_
  refine lv_iload_n hx hb dL_ofCharge_4 rfl (lv_at hl 2 rfl) ?_
  refine hc_V (As := [.int (b0), .int (b1)]) hx hb hml hown hZ.1 hX hl hM (rec_of hC (RA.x hR) rfl) (zm_L_69 hC.1) kv_X6_ofCharge hR rfl rfl ⟨(Nat.le_of_ble_eq_true rfl), (Nat.le_of_ble_eq_true rfl)⟩ ⟨rfl, rfl⟩ (Nat.le_of_ble_eq_true rfl) ⟨(Nat.le_of_ble_eq_true rfl), (Nat.le_of_ble_eq_true rfl)⟩ dL_ofCharge_5 (fun q H1 locs1 ce hz hq hL hce hcv hcl => ?_)
  refine vx_catch (own := RL) hown [⟨0, 10, 13, 13⟩] ⟨0, 10, 17, 21⟩ [] (hT.trans rfl) (fun z h => by rw [List.mem_singleton.mp h]; exact Or.inr ⟨by decide, _, zc_L_13 hC.1, hZ.2.1⟩) (by decide) (by decide) (zc_L_21 hC.1) (cast_IAE hZ.1) hce hcv hcl ?_
  have hS : va_S (fun q => (ow g q ∨ q = o9) ∨ s.heap.size ≤ q) s.heap H1 locs1 := ⟨hz, fun q h1 _ => hq q h1, fun q h => Or.inr (hL q h)⟩
  refine lv_astore (lv' := [(4, .ref (q)), (0, .ref (g.ad 1 0)), (1, .int (b0)), (2, .int (b1)), (3, .ref (o9))]) hx hb dL_ofCharge_17 hl (by decide) rfl (fun ls hl => ?_)
  refine lv_iconst (v := 2) hx hb dL_ofCharge_19 (by decide) ?_
  exact wr_i hx hb hr hlocks hS ⟨g, f, hR.kept hq, gX.refl g _ _, hO.kept (hq _ ho9), rfl, fun h => absurd h (by decide)⟩ (Nat.le_of_ble_eq_true rfl) (Nat.le_of_ble_eq_true rfl) dL_ofCharge_20
set_option maxRecDepth 100000 in
set_option maxHeartbeats 4000000 in
theorem hok_ofReceipt {l : Launch} {E : EE} {S S' : St} {g : Gh} {rm : Room} {b0 : Int32} {a9 : Int32} {o9 : Nat} (hM : WM l E yX6_ofReceipt cX6_ofReceipt 2 (some .int) rm [.ref (g.ad 1 0), .int (b0)] (RA E S g) (ow g) (CAp E S' g a9)) (hrm : rm.frames ≤ 15 ∧ rm.locals ≤ 480 ∧ rm.cells ≤ 2 ∧ rm.slots ≤ 60) : HM l E yL_ofReceipt cL_ofReceipt 4 [(0, 9, 12, 13)] [.ref (g.ad 1 0), .int (b0), .ref (o9)] g S S' o9 0 a9.toInt64 := by
  refine hm_of rfl (Nat.le_of_ble_eq_true rfl) (fun p e s m below meth c ls f hx hb hr hml (hown : s.vm.findClass RL = some m.cls) hZ hX hT hlocks hR hO hN hl => ?_)
  have hC := hZ.1.1
  have hS : va_S (fun q => (ow g q ∨ q = o9) ∨ s.heap.size ≤ q) s.heap s.heap [] := va_S.rf
  have ho9 := hO.lt
  have hl : lv_has ls 4 [(0, .ref (g.ad 1 0)), (1, .int (b0)), (2, .ref (o9))] := hl
  refine lv_aload_n hx hb dL_ofReceipt_0 rfl (lv_at hl 2 rfl) ?_
  refine lv_iconst (v := 0) hx hb dL_ofReceipt_1 (by decide) ?_
  refine lv_aload_n hx hb dL_ofReceipt_2 rfl (lv_at hl 0 rfl) ?_
  refine lv_iload_n hx hb dL_ofReceipt_3 rfl (lv_at hl 1 rfl) ?_
  refine wc_V (As := [.int (b0)]) hx hb hml hown hC hl hM (rec_of hC (RA.x hR) rfl) (zm_L_72 hC.1) kv_X6_ofReceipt hR hS (fun q h => h.elim (fun w => Or.inl (Or.inl w)) Or.inr) rfl rfl ⟨by show rm.frames + 1 ≤ 16; omega, by show 8 + (2 + 11) + rm.locals ≤ 520; omega⟩ (Nat.le_of_ble_eq_true rfl) ⟨by show 0 + rm.cells ≤ 2; omega, by show 0 + rm.slots ≤ 60; omega⟩ dL_ofReceipt_4 (fun v H1 locs1 hP hz hq hS => ?_)
  obtain ⟨⟨g1, hR1, hgx⟩, rfl⟩ := hP
  have hO : outA E o9 f H1 := hO.kept (hq _ ho9 hN.2)
  refine lv_i2l hx hb dL_ofReceipt_7 rfl ?_
  refine g_last (j := 0) hx hb hC hO hS (Or.inl (Or.inr rfl)) ⟨rfl, by decide, by decide⟩ dL_ofReceipt_8 (fun H2 locs2 hO hz2 hq2 hS => ?_)
  have hR2 := ra_keptO hR1 hgx hN ho9 hq2
  refine lv_goto (tgt := 15) hx hb dL_ofReceipt_9 (by decide) ?_
  refine lv_iconst (v := 0) hx hb dL_ofReceipt_15 (by decide) ?_
  exact wr_i hx hb hr hlocks hS ⟨g1, _, hR2, by rw [hz2]; exact hgx, hO, rfl, (fun _ => rfl)⟩ (by show 0 + rm.cells ≤ 2; omega) (by show 0 + rm.slots ≤ 60; omega) dL_ofReceipt_16
set_option maxRecDepth 100000 in
set_option maxHeartbeats 4000000 in
theorem hth_ofReceipt_1 {l : Launch} {E : EE} {S : St} {g : Gh} {b0 : Int32} {o9 : Nat} (hM : TM l E yX6_ofReceipt cX6_ofReceipt 2 (some .int) (tD 8) [.ref (g.ad 1 0), .int (b0)] (RA E S g) "java/lang/IndexOutOfBoundsException") : HM l E yL_ofReceipt cL_ofReceipt 4 [(0, 9, 12, 13)] [.ref (g.ad 1 0), .int (b0), .ref (o9)] g S S o9 1 0 := by
  refine hm_of rfl (Nat.le_of_ble_eq_true rfl) (fun p e s m below meth c ls f hx hb hr hml (hown : s.vm.findClass RL = some m.cls) hZ hX hT hlocks hR hO hN hl => ?_)
  have hC := hZ.1.1
  have hS : va_S (fun q => (ow g q ∨ q = o9) ∨ s.heap.size ≤ q) s.heap s.heap [] := va_S.rf
  have ho9 := hO.lt
  have hl : lv_has ls 4 [(0, .ref (g.ad 1 0)), (1, .int (b0)), (2, .ref (o9))] := hl
  refine lv_aload_n hx hb dL_ofReceipt_0 rfl (lv_at hl 2 rfl) ?_
  refine lv_iconst (v := 0) hx hb dL_ofReceipt_1 (by decide) ?_
  refine lv_aload_n hx hb dL_ofReceipt_2 rfl (lv_at hl 0 rfl) ?_
  refine lv_iload_n hx hb dL_ofReceipt_3 rfl (lv_at hl 1 rfl) ?_
  refine hc_V (As := [.int (b0)]) hx hb hml hown hZ.1 hX hl hM (rec_of hC (RA.x hR) rfl) (zm_L_72 hC.1) kv_X6_ofReceipt hR rfl rfl ⟨(Nat.le_of_ble_eq_true rfl), (Nat.le_of_ble_eq_true rfl)⟩ ⟨rfl, rfl⟩ (Nat.le_of_ble_eq_true rfl) ⟨(Nat.le_of_ble_eq_true rfl), (Nat.le_of_ble_eq_true rfl)⟩ dL_ofReceipt_4 (fun q H1 locs1 ce hz hq hL hce hcv hcl => ?_)
  refine vx_catch (own := RL) hown [] ⟨0, 9, 12, 13⟩ [] (hT.trans rfl) (fun z h => by cases h) (by decide) (by decide) (zc_L_13 hC.1) (cast_IOOBE hZ.1) hce hcv hcl ?_
  have hS : va_S (fun q => (ow g q ∨ q = o9) ∨ s.heap.size ≤ q) s.heap H1 locs1 := ⟨hz, fun q h1 _ => hq q h1, fun q h => Or.inr (hL q h)⟩
  refine lv_astore_n (lv' := [(3, .ref (q)), (0, .ref (g.ad 1 0)), (1, .int (b0)), (2, .ref (o9))]) hx hb dL_ofReceipt_12 rfl hl (by decide) rfl (fun ls hl => ?_)
  refine lv_iconst (v := 1) hx hb dL_ofReceipt_13 (by decide) ?_
  exact wr_i hx hb hr hlocks hS ⟨g, f, hR.kept hq, gX.refl g _ _, hO.kept (hq _ ho9), rfl, fun h => absurd h (by decide)⟩ (Nat.le_of_ble_eq_true rfl) (Nat.le_of_ble_eq_true rfl) dL_ofReceipt_14
set_option maxRecDepth 100000 in
set_option maxHeartbeats 4000000 in
theorem hok_score {l : Launch} {E : EE} {S S' : St} {g : Gh} {rm : Room} {b0 b1 : Int32} {a9 : Int32} {o9 : Nat} (hM : WM l E yX6_score cX6_score 3 (some .int) rm [.ref (g.ad 1 0), .int (b0), .int (b1)] (RA E S g) (ow g) (CAp E S' g a9)) (hrm : rm.frames ≤ 15 ∧ rm.locals ≤ 480 ∧ rm.cells ≤ 2 ∧ rm.slots ≤ 60) : HM l E yL_score cL_score 5 [(0, 10, 13, 13)] [.ref (g.ad 1 0), .int (b0), .int (b1), .ref (o9)] g S S' o9 0 a9.toInt64 := by
  refine hm_of rfl (Nat.le_of_ble_eq_true rfl) (fun p e s m below meth c ls f hx hb hr hml (hown : s.vm.findClass RL = some m.cls) hZ hX hT hlocks hR hO hN hl => ?_)
  have hC := hZ.1.1
  have hS : va_S (fun q => (ow g q ∨ q = o9) ∨ s.heap.size ≤ q) s.heap s.heap [] := va_S.rf
  have ho9 := hO.lt
  have hl : lv_has ls 5 [(0, .ref (g.ad 1 0)), (1, .int (b0)), (2, .int (b1)), (3, .ref (o9))] := hl
  refine lv_aload_n hx hb dL_score_0 rfl (lv_at hl 3 rfl) ?_
  refine lv_iconst (v := 0) hx hb dL_score_1 (by decide) ?_
  refine lv_aload_n hx hb dL_score_2 rfl (lv_at hl 0 rfl) ?_
  refine lv_iload_n hx hb dL_score_3 rfl (lv_at hl 1 rfl) ?_
  refine lv_iload_n hx hb dL_score_4 rfl (lv_at hl 2 rfl) ?_
  refine wc_V (As := [.int (b0), .int (b1)]) hx hb hml hown hC hl hM (rec_of hC (RA.x hR) rfl) (zm_L_75 hC.1) kv_X6_score hR hS (fun q h => h.elim (fun w => Or.inl (Or.inl w)) Or.inr) rfl rfl ⟨by show rm.frames + 1 ≤ 16; omega, by show 8 + (3 + 11) + rm.locals ≤ 520; omega⟩ (Nat.le_of_ble_eq_true rfl) ⟨by show 0 + rm.cells ≤ 2; omega, by show 0 + rm.slots ≤ 60; omega⟩ dL_score_5 (fun v H1 locs1 hP hz hq hS => ?_)
  obtain ⟨⟨g1, hR1, hgx⟩, rfl⟩ := hP
  have hO : outA E o9 f H1 := hO.kept (hq _ ho9 hN.2)
  refine lv_i2l hx hb dL_score_8 rfl ?_
  refine g_last (j := 0) hx hb hC hO hS (Or.inl (Or.inr rfl)) ⟨rfl, by decide, by decide⟩ dL_score_9 (fun H2 locs2 hO hz2 hq2 hS => ?_)
  have hR2 := ra_keptO hR1 hgx hN ho9 hq2
  refine lv_goto (tgt := 17) hx hb dL_score_10 (by decide) ?_
  refine lv_iconst (v := 0) hx hb dL_score_17 (by decide) ?_
  exact wr_i hx hb hr hlocks hS ⟨g1, _, hR2, by rw [hz2]; exact hgx, hO, rfl, (fun _ => rfl)⟩ (by show 0 + rm.cells ≤ 2; omega) (by show 0 + rm.slots ≤ 60; omega) dL_score_18
set_option maxRecDepth 100000 in
set_option maxHeartbeats 4000000 in
theorem hth_score_1 {l : Launch} {E : EE} {S : St} {g : Gh} {b0 b1 : Int32} {o9 : Nat} (hM : TM l E yX6_score cX6_score 3 (some .int) (tD 8) [.ref (g.ad 1 0), .int (b0), .int (b1)] (RA E S g) "java/lang/IndexOutOfBoundsException") : HM l E yL_score cL_score 5 [(0, 10, 13, 13)] [.ref (g.ad 1 0), .int (b0), .int (b1), .ref (o9)] g S S o9 1 0 := by
  refine hm_of rfl (Nat.le_of_ble_eq_true rfl) (fun p e s m below meth c ls f hx hb hr hml (hown : s.vm.findClass RL = some m.cls) hZ hX hT hlocks hR hO hN hl => ?_)
  have hC := hZ.1.1
  have hS : va_S (fun q => (ow g q ∨ q = o9) ∨ s.heap.size ≤ q) s.heap s.heap [] := va_S.rf
  have ho9 := hO.lt
  have hl : lv_has ls 5 [(0, .ref (g.ad 1 0)), (1, .int (b0)), (2, .int (b1)), (3, .ref (o9))] := hl
  refine lv_aload_n hx hb dL_score_0 rfl (lv_at hl 3 rfl) ?_
  refine lv_iconst (v := 0) hx hb dL_score_1 (by decide) ?_
  refine lv_aload_n hx hb dL_score_2 rfl (lv_at hl 0 rfl) ?_
  refine lv_iload_n hx hb dL_score_3 rfl (lv_at hl 1 rfl) ?_
  refine lv_iload_n hx hb dL_score_4 rfl (lv_at hl 2 rfl) ?_
  refine hc_V (As := [.int (b0), .int (b1)]) hx hb hml hown hZ.1 hX hl hM (rec_of hC (RA.x hR) rfl) (zm_L_75 hC.1) kv_X6_score hR rfl rfl ⟨(Nat.le_of_ble_eq_true rfl), (Nat.le_of_ble_eq_true rfl)⟩ ⟨rfl, rfl⟩ (Nat.le_of_ble_eq_true rfl) ⟨(Nat.le_of_ble_eq_true rfl), (Nat.le_of_ble_eq_true rfl)⟩ dL_score_5 (fun q H1 locs1 ce hz hq hL hce hcv hcl => ?_)
  refine vx_catch (own := RL) hown [] ⟨0, 10, 13, 13⟩ [] (hT.trans rfl) (fun z h => by cases h) (by decide) (by decide) (zc_L_13 hC.1) (cast_IOOBE hZ.1) hce hcv hcl ?_
  have hS : va_S (fun q => (ow g q ∨ q = o9) ∨ s.heap.size ≤ q) s.heap H1 locs1 := ⟨hz, fun q h1 _ => hq q h1, fun q h => Or.inr (hL q h)⟩
  refine lv_astore (lv' := [(4, .ref (q)), (0, .ref (g.ad 1 0)), (1, .int (b0)), (2, .int (b1)), (3, .ref (o9))]) hx hb dL_score_13 hl (by decide) rfl (fun ls hl => ?_)
  refine lv_iconst (v := 1) hx hb dL_score_15 (by decide) ?_
  exact wr_i hx hb hr hlocks hS ⟨g, f, hR.kept hq, gX.refl g _ _, hO.kept (hq _ ho9), rfl, fun h => absurd h (by decide)⟩ (Nat.le_of_ble_eq_true rfl) (Nat.le_of_ble_eq_true rfl) dL_score_16
set_option maxRecDepth 100000 in
set_option maxHeartbeats 4000000 in
theorem hok_day {l : Launch} {E : EE} {S S' : St} {g : Gh} {rm : Room} {a9 : Int32} {o9 : Nat} (hM : WM l E yX6_day cX6_day 4 (some .int) rm [.ref (g.ad 1 0)] (RA E S g) (ow g) (CAp E S' g a9)) (hrm : rm.frames ≤ 15 ∧ rm.locals ≤ 480 ∧ rm.cells ≤ 2 ∧ rm.slots ≤ 60) : HM l E yL_day cL_day 3 [(0, 8, 11, 15)] [.ref (g.ad 1 0), .ref (o9)] g S S' o9 0 a9.toInt64 := by
  refine hm_of rfl (Nat.le_of_ble_eq_true rfl) (fun p e s m below meth c ls f hx hb hr hml (hown : s.vm.findClass RL = some m.cls) hZ hX hT hlocks hR hO hN hl => ?_)
  have hC := hZ.1.1
  have hS : va_S (fun q => (ow g q ∨ q = o9) ∨ s.heap.size ≤ q) s.heap s.heap [] := va_S.rf
  have ho9 := hO.lt
  have hl : lv_has ls 3 [(0, .ref (g.ad 1 0)), (1, .ref (o9))] := hl
  refine lv_aload_n hx hb dL_day_0 rfl (lv_at hl 1 rfl) ?_
  refine lv_iconst (v := 0) hx hb dL_day_1 (by decide) ?_
  refine lv_aload_n hx hb dL_day_2 rfl (lv_at hl 0 rfl) ?_
  refine wc_V (As := []) hx hb hml hown hC hl hM (rec_of hC (RA.x hR) rfl) (zm_L_78 hC.1) kv_X6_day hR hS (fun q h => h.elim (fun w => Or.inl (Or.inl w)) Or.inr) rfl rfl ⟨by show rm.frames + 1 ≤ 16; omega, by show 8 + (4 + 11) + rm.locals ≤ 520; omega⟩ (Nat.le_of_ble_eq_true rfl) ⟨by show 0 + rm.cells ≤ 2; omega, by show 0 + rm.slots ≤ 60; omega⟩ dL_day_3 (fun v H1 locs1 hP hz hq hS => ?_)
  obtain ⟨⟨g1, hR1, hgx⟩, rfl⟩ := hP
  have hO : outA E o9 f H1 := hO.kept (hq _ ho9 hN.2)
  refine lv_i2l hx hb dL_day_6 rfl ?_
  refine g_last (j := 0) hx hb hC hO hS (Or.inl (Or.inr rfl)) ⟨rfl, by decide, by decide⟩ dL_day_7 (fun H2 locs2 hO hz2 hq2 hS => ?_)
  have hR2 := ra_keptO hR1 hgx hN ho9 hq2
  refine lv_goto (tgt := 14) hx hb dL_day_8 (by decide) ?_
  refine lv_iconst (v := 0) hx hb dL_day_14 (by decide) ?_
  exact wr_i hx hb hr hlocks hS ⟨g1, _, hR2, by rw [hz2]; exact hgx, hO, rfl, (fun _ => rfl)⟩ (by show 0 + rm.cells ≤ 2; omega) (by show 0 + rm.slots ≤ 60; omega) dL_day_15
set_option maxRecDepth 100000 in
set_option maxHeartbeats 4000000 in
theorem hth_day_1 {l : Launch} {E : EE} {S : St} {g : Gh} {o9 : Nat} (hM : TM l E yX6_day cX6_day 4 (some .int) (tD 8) [.ref (g.ad 1 0)] (RA E S g) "java/lang/IllegalStateException") : HM l E yL_day cL_day 3 [(0, 8, 11, 15)] [.ref (g.ad 1 0), .ref (o9)] g S S o9 1 0 := by
  refine hm_of rfl (Nat.le_of_ble_eq_true rfl) (fun p e s m below meth c ls f hx hb hr hml (hown : s.vm.findClass RL = some m.cls) hZ hX hT hlocks hR hO hN hl => ?_)
  have hC := hZ.1.1
  have hS : va_S (fun q => (ow g q ∨ q = o9) ∨ s.heap.size ≤ q) s.heap s.heap [] := va_S.rf
  have ho9 := hO.lt
  have hl : lv_has ls 3 [(0, .ref (g.ad 1 0)), (1, .ref (o9))] := hl
  refine lv_aload_n hx hb dL_day_0 rfl (lv_at hl 1 rfl) ?_
  refine lv_iconst (v := 0) hx hb dL_day_1 (by decide) ?_
  refine lv_aload_n hx hb dL_day_2 rfl (lv_at hl 0 rfl) ?_
  refine hc_V (As := []) hx hb hml hown hZ.1 hX hl hM (rec_of hC (RA.x hR) rfl) (zm_L_78 hC.1) kv_X6_day hR rfl rfl ⟨(Nat.le_of_ble_eq_true rfl), (Nat.le_of_ble_eq_true rfl)⟩ ⟨rfl, rfl⟩ (Nat.le_of_ble_eq_true rfl) ⟨(Nat.le_of_ble_eq_true rfl), (Nat.le_of_ble_eq_true rfl)⟩ dL_day_3 (fun q H1 locs1 ce hz hq hL hce hcv hcl => ?_)
  refine vx_catch (own := RL) hown [] ⟨0, 8, 11, 15⟩ [] (hT.trans rfl) (fun z h => by cases h) (by decide) (by decide) (zc_L_15 hC.1) (cast_ISE hZ.1) hce hcv hcl ?_
  have hS : va_S (fun q => (ow g q ∨ q = o9) ∨ s.heap.size ≤ q) s.heap H1 locs1 := ⟨hz, fun q h1 _ => hq q h1, fun q h => Or.inr (hL q h)⟩
  refine lv_astore_n (lv' := [(2, .ref (q)), (0, .ref (g.ad 1 0)), (1, .ref (o9))]) hx hb dL_day_11 rfl hl (by decide) rfl (fun ls hl => ?_)
  refine lv_iconst (v := 1) hx hb dL_day_12 (by decide) ?_
  exact wr_i hx hb hr hlocks hS ⟨g, f, hR.kept hq, gX.refl g _ _, hO.kept (hq _ ho9), rfl, fun h => absurd h (by decide)⟩ (Nat.le_of_ble_eq_true rfl) (Nat.le_of_ble_eq_true rfl) dL_day_13
set_option maxRecDepth 100000 in
set_option maxHeartbeats 4000000 in
theorem hok_many {l : Launch} {E : EE} {S S' : St} {g : Gh} {rm : Room} {b0 : Int32} {a9 : Int32} {o9 : Nat} (hM : WM l E yX6_many cX6_many 2 (some .int) rm [.ref (g.ad 1 0), .int (b0)] (RA E S g) (ow g) (CAp E S' g a9)) (hrm : rm.frames ≤ 15 ∧ rm.locals ≤ 480 ∧ rm.cells ≤ 2 ∧ rm.slots ≤ 60) : HM l E yL_many cL_many 4 [(0, 9, 12, 21)] [.ref (g.ad 1 0), .int (b0), .ref (o9)] g S S' o9 0 a9.toInt64 := by
  refine hm_of rfl (Nat.le_of_ble_eq_true rfl) (fun p e s m below meth c ls f hx hb hr hml (hown : s.vm.findClass RL = some m.cls) hZ hX hT hlocks hR hO hN hl => ?_)
  have hC := hZ.1.1
  have hS : va_S (fun q => (ow g q ∨ q = o9) ∨ s.heap.size ≤ q) s.heap s.heap [] := va_S.rf
  have ho9 := hO.lt
  have hl : lv_has ls 4 [(0, .ref (g.ad 1 0)), (1, .int (b0)), (2, .ref (o9))] := hl
  refine lv_aload_n hx hb dL_many_0 rfl (lv_at hl 2 rfl) ?_
  refine lv_iconst (v := 0) hx hb dL_many_1 (by decide) ?_
  refine lv_aload_n hx hb dL_many_2 rfl (lv_at hl 0 rfl) ?_
  refine lv_iload_n hx hb dL_many_3 rfl (lv_at hl 1 rfl) ?_
  refine wc_V (As := [.int (b0)]) hx hb hml hown hC hl hM (rec_of hC (RA.x hR) rfl) (zm_L_82 hC.1) kv_X6_many hR hS (fun q h => h.elim (fun w => Or.inl (Or.inl w)) Or.inr) rfl rfl ⟨by show rm.frames + 1 ≤ 16; omega, by show 8 + (2 + 11) + rm.locals ≤ 520; omega⟩ (Nat.le_of_ble_eq_true rfl) ⟨by show 0 + rm.cells ≤ 2; omega, by show 0 + rm.slots ≤ 60; omega⟩ dL_many_4 (fun v H1 locs1 hP hz hq hS => ?_)
  obtain ⟨⟨g1, hR1, hgx⟩, rfl⟩ := hP
  have hO : outA E o9 f H1 := hO.kept (hq _ ho9 hN.2)
  refine lv_i2l hx hb dL_many_7 rfl ?_
  refine g_last (j := 0) hx hb hC hO hS (Or.inl (Or.inr rfl)) ⟨rfl, by decide, by decide⟩ dL_many_8 (fun H2 locs2 hO hz2 hq2 hS => ?_)
  have hR2 := ra_keptO hR1 hgx hN ho9 hq2
  refine lv_goto (tgt := 15) hx hb dL_many_9 (by decide) ?_
  refine lv_iconst (v := 0) hx hb dL_many_15 (by decide) ?_
  exact wr_i hx hb hr hlocks hS ⟨g1, _, hR2, by rw [hz2]; exact hgx, hO, rfl, (fun _ => rfl)⟩ (by show 0 + rm.cells ≤ 2; omega) (by show 0 + rm.slots ≤ 60; omega) dL_many_16
set_option maxRecDepth 100000 in
set_option maxHeartbeats 4000000 in
theorem hth_many_1 {l : Launch} {E : EE} {S : St} {g : Gh} {b0 : Int32} {o9 : Nat} (hM : TM l E yX6_many cX6_many 2 (some .int) (tD 8) [.ref (g.ad 1 0), .int (b0)] (RA E S g) "java/lang/IllegalArgumentException") : HM l E yL_many cL_many 4 [(0, 9, 12, 21)] [.ref (g.ad 1 0), .int (b0), .ref (o9)] g S S o9 1 0 := by
  refine hm_of rfl (Nat.le_of_ble_eq_true rfl) (fun p e s m below meth c ls f hx hb hr hml (hown : s.vm.findClass RL = some m.cls) hZ hX hT hlocks hR hO hN hl => ?_)
  have hC := hZ.1.1
  have hS : va_S (fun q => (ow g q ∨ q = o9) ∨ s.heap.size ≤ q) s.heap s.heap [] := va_S.rf
  have ho9 := hO.lt
  have hl : lv_has ls 4 [(0, .ref (g.ad 1 0)), (1, .int (b0)), (2, .ref (o9))] := hl
  refine lv_aload_n hx hb dL_many_0 rfl (lv_at hl 2 rfl) ?_
  refine lv_iconst (v := 0) hx hb dL_many_1 (by decide) ?_
  refine lv_aload_n hx hb dL_many_2 rfl (lv_at hl 0 rfl) ?_
  refine lv_iload_n hx hb dL_many_3 rfl (lv_at hl 1 rfl) ?_
  refine hc_V (As := [.int (b0)]) hx hb hml hown hZ.1 hX hl hM (rec_of hC (RA.x hR) rfl) (zm_L_82 hC.1) kv_X6_many hR rfl rfl ⟨(Nat.le_of_ble_eq_true rfl), (Nat.le_of_ble_eq_true rfl)⟩ ⟨rfl, rfl⟩ (Nat.le_of_ble_eq_true rfl) ⟨(Nat.le_of_ble_eq_true rfl), (Nat.le_of_ble_eq_true rfl)⟩ dL_many_4 (fun q H1 locs1 ce hz hq hL hce hcv hcl => ?_)
  refine vx_catch (own := RL) hown [] ⟨0, 9, 12, 21⟩ [] (hT.trans rfl) (fun z h => by cases h) (by decide) (by decide) (zc_L_21 hC.1) (cast_IAE hZ.1) hce hcv hcl ?_
  have hS : va_S (fun q => (ow g q ∨ q = o9) ∨ s.heap.size ≤ q) s.heap H1 locs1 := ⟨hz, fun q h1 _ => hq q h1, fun q h => Or.inr (hL q h)⟩
  refine lv_astore_n (lv' := [(3, .ref (q)), (0, .ref (g.ad 1 0)), (1, .int (b0)), (2, .ref (o9))]) hx hb dL_many_12 rfl hl (by decide) rfl (fun ls hl => ?_)
  refine lv_iconst (v := 1) hx hb dL_many_13 (by decide) ?_
  exact wr_i hx hb hr hlocks hS ⟨g, f, hR.kept hq, gX.refl g _ _, hO.kept (hq _ ho9), rfl, fun h => absurd h (by decide)⟩ (Nat.le_of_ble_eq_true rfl) (Nat.le_of_ble_eq_true rfl) dL_many_14
set_option maxRecDepth 100000 in
set_option maxHeartbeats 4000000 in
theorem hok_wouldMatch {l : Launch} {E : EE} {S S' : St} {g : Gh} {rm : Room} {b0 b1 b2 : Int32} {a9 : Int32} {o9 : Nat} (hM : WM l E yX6_wouldMatch cX6_wouldMatch 9 (some .int) rm [.ref (g.ad 1 0), .int (b0), .int (b1), .int (b2)] (RA E S g) (ow g) (CAp E S' g a9)) (hrm : rm.frames ≤ 15 ∧ rm.locals ≤ 480 ∧ rm.cells ≤ 2 ∧ rm.slots ≤ 60) : HM l E yL_wouldMatch cL_wouldMatch 6 [(0, 12, 15, 21)] [.ref (g.ad 1 0), .int (b0), .int (b1), .int (b2), .ref (o9)] g S S' o9 0 a9.toInt64 := by
  refine hm_of rfl (Nat.le_of_ble_eq_true rfl) (fun p e s m below meth c ls f hx hb hr hml (hown : s.vm.findClass RL = some m.cls) hZ hX hT hlocks hR hO hN hl => ?_)
  have hC := hZ.1.1
  have hS : va_S (fun q => (ow g q ∨ q = o9) ∨ s.heap.size ≤ q) s.heap s.heap [] := va_S.rf
  have ho9 := hO.lt
  have hl : lv_has ls 6 [(0, .ref (g.ad 1 0)), (1, .int (b0)), (2, .int (b1)), (3, .int (b2)), (4, .ref (o9))] := hl
  refine lv_aload hx hb dL_wouldMatch_0 (lv_at hl 4 rfl) ?_
  refine lv_iconst (v := 0) hx hb dL_wouldMatch_2 (by decide) ?_
  refine lv_aload_n hx hb dL_wouldMatch_3 rfl (lv_at hl 0 rfl) ?_
  refine lv_iload_n hx hb dL_wouldMatch_4 rfl (lv_at hl 1 rfl) ?_
  refine lv_iload_n hx hb dL_wouldMatch_5 rfl (lv_at hl 2 rfl) ?_
  refine lv_iload_n hx hb dL_wouldMatch_6 rfl (lv_at hl 3 rfl) ?_
  refine wc_V (As := [.int (b0), .int (b1), .int (b2)]) hx hb hml hown hC hl hM (rec_of hC (RA.x hR) rfl) (zm_L_85 hC.1) kv_X6_wouldMatch hR hS (fun q h => h.elim (fun w => Or.inl (Or.inl w)) Or.inr) rfl rfl ⟨by show rm.frames + 1 ≤ 16; omega, by show 8 + (9 + 11) + rm.locals ≤ 520; omega⟩ (Nat.le_of_ble_eq_true rfl) ⟨by show 0 + rm.cells ≤ 2; omega, by show 0 + rm.slots ≤ 60; omega⟩ dL_wouldMatch_7 (fun v H1 locs1 hP hz hq hS => ?_)
  obtain ⟨⟨g1, hR1, hgx⟩, rfl⟩ := hP
  have hO : outA E o9 f H1 := hO.kept (hq _ ho9 hN.2)
  refine lv_i2l hx hb dL_wouldMatch_10 rfl ?_
  refine g_last (j := 0) hx hb hC hO hS (Or.inl (Or.inr rfl)) ⟨rfl, by decide, by decide⟩ dL_wouldMatch_11 (fun H2 locs2 hO hz2 hq2 hS => ?_)
  have hR2 := ra_keptO hR1 hgx hN ho9 hq2
  refine lv_goto (tgt := 19) hx hb dL_wouldMatch_12 (by decide) ?_
  refine lv_iconst (v := 0) hx hb dL_wouldMatch_19 (by decide) ?_
  exact wr_i hx hb hr hlocks hS ⟨g1, _, hR2, by rw [hz2]; exact hgx, hO, rfl, (fun _ => rfl)⟩ (by show 0 + rm.cells ≤ 2; omega) (by show 0 + rm.slots ≤ 60; omega) dL_wouldMatch_20
set_option maxRecDepth 100000 in
set_option maxHeartbeats 4000000 in
theorem hth_wouldMatch_1 {l : Launch} {E : EE} {S : St} {g : Gh} {b0 b1 b2 : Int32} {o9 : Nat} (hM : TM l E yX6_wouldMatch cX6_wouldMatch 9 (some .int) (tD 8) [.ref (g.ad 1 0), .int (b0), .int (b1), .int (b2)] (RA E S g) "java/lang/IllegalArgumentException") : HM l E yL_wouldMatch cL_wouldMatch 6 [(0, 12, 15, 21)] [.ref (g.ad 1 0), .int (b0), .int (b1), .int (b2), .ref (o9)] g S S o9 1 0 := by
  refine hm_of rfl (Nat.le_of_ble_eq_true rfl) (fun p e s m below meth c ls f hx hb hr hml (hown : s.vm.findClass RL = some m.cls) hZ hX hT hlocks hR hO hN hl => ?_)
  have hC := hZ.1.1
  have hS : va_S (fun q => (ow g q ∨ q = o9) ∨ s.heap.size ≤ q) s.heap s.heap [] := va_S.rf
  have ho9 := hO.lt
  have hl : lv_has ls 6 [(0, .ref (g.ad 1 0)), (1, .int (b0)), (2, .int (b1)), (3, .int (b2)), (4, .ref (o9))] := hl
  refine lv_aload hx hb dL_wouldMatch_0 (lv_at hl 4 rfl) ?_
  refine lv_iconst (v := 0) hx hb dL_wouldMatch_2 (by decide) ?_
  refine lv_aload_n hx hb dL_wouldMatch_3 rfl (lv_at hl 0 rfl) ?_
  refine lv_iload_n hx hb dL_wouldMatch_4 rfl (lv_at hl 1 rfl) ?_
  refine lv_iload_n hx hb dL_wouldMatch_5 rfl (lv_at hl 2 rfl) ?_
  refine lv_iload_n hx hb dL_wouldMatch_6 rfl (lv_at hl 3 rfl) ?_
  refine hc_V (As := [.int (b0), .int (b1), .int (b2)]) hx hb hml hown hZ.1 hX hl hM (rec_of hC (RA.x hR) rfl) (zm_L_85 hC.1) kv_X6_wouldMatch hR rfl rfl ⟨(Nat.le_of_ble_eq_true rfl), (Nat.le_of_ble_eq_true rfl)⟩ ⟨rfl, rfl⟩ (Nat.le_of_ble_eq_true rfl) ⟨(Nat.le_of_ble_eq_true rfl), (Nat.le_of_ble_eq_true rfl)⟩ dL_wouldMatch_7 (fun q H1 locs1 ce hz hq hL hce hcv hcl => ?_)
  refine vx_catch (own := RL) hown [] ⟨0, 12, 15, 21⟩ [] (hT.trans rfl) (fun z h => by cases h) (by decide) (by decide) (zc_L_21 hC.1) (cast_IAE hZ.1) hce hcv hcl ?_
  have hS : va_S (fun q => (ow g q ∨ q = o9) ∨ s.heap.size ≤ q) s.heap H1 locs1 := ⟨hz, fun q h1 _ => hq q h1, fun q h => Or.inr (hL q h)⟩
  refine lv_astore (lv' := [(5, .ref (q)), (0, .ref (g.ad 1 0)), (1, .int (b0)), (2, .int (b1)), (3, .int (b2)), (4, .ref (o9))]) hx hb dL_wouldMatch_15 hl (by decide) rfl (fun ls hl => ?_)
  refine lv_iconst (v := 1) hx hb dL_wouldMatch_17 (by decide) ?_
  exact wr_i hx hb hr hlocks hS ⟨g, f, hR.kept hq, gX.refl g _ _, hO.kept (hq _ ho9), rfl, fun h => absurd h (by decide)⟩ (Nat.le_of_ble_eq_true rfl) (Nat.le_of_ble_eq_true rfl) dL_wouldMatch_18
set_option maxRecDepth 100000 in
set_option maxHeartbeats 4000000 in
theorem hok_trustBehind {l : Launch} {E : EE} {S S' : St} {g : Gh} {rm : Room} {b0 b1 : Int32} {a9 : Int32} {o9 : Nat} (hM : WM l E yX6_trustBehind cX6_trustBehind 8 (some .int) rm [.ref (g.ad 1 0), .int (b0), .int (b1)] (RA E S g) (ow g) (CAp E S' g a9)) (hrm : rm.frames ≤ 15 ∧ rm.locals ≤ 480 ∧ rm.cells ≤ 2 ∧ rm.slots ≤ 60) : HM l E yL_trustBehind cL_trustBehind 5 [(0, 10, 13, 13), (0, 10, 17, 21)] [.ref (g.ad 1 0), .int (b0), .int (b1), .ref (o9)] g S S' o9 0 a9.toInt64 := by
  refine hm_of rfl (Nat.le_of_ble_eq_true rfl) (fun p e s m below meth c ls f hx hb hr hml (hown : s.vm.findClass RL = some m.cls) hZ hX hT hlocks hR hO hN hl => ?_)
  have hC := hZ.1.1
  have hS : va_S (fun q => (ow g q ∨ q = o9) ∨ s.heap.size ≤ q) s.heap s.heap [] := va_S.rf
  have ho9 := hO.lt
  have hl : lv_has ls 5 [(0, .ref (g.ad 1 0)), (1, .int (b0)), (2, .int (b1)), (3, .ref (o9))] := hl
  refine lv_aload_n hx hb dL_trustBehind_0 rfl (lv_at hl 3 rfl) ?_
  refine lv_iconst (v := 0) hx hb dL_trustBehind_1 (by decide) ?_
  refine lv_aload_n hx hb dL_trustBehind_2 rfl (lv_at hl 0 rfl) ?_
  refine lv_iload_n hx hb dL_trustBehind_3 rfl (lv_at hl 1 rfl) ?_
  refine lv_iload_n hx hb dL_trustBehind_4 rfl (lv_at hl 2 rfl) ?_
  refine wc_V (As := [.int (b0), .int (b1)]) hx hb hml hown hC hl hM (rec_of hC (RA.x hR) rfl) (zm_L_88 hC.1) kv_X6_trustBehind hR hS (fun q h => h.elim (fun w => Or.inl (Or.inl w)) Or.inr) rfl rfl ⟨by show rm.frames + 1 ≤ 16; omega, by show 8 + (8 + 11) + rm.locals ≤ 520; omega⟩ (Nat.le_of_ble_eq_true rfl) ⟨by show 0 + rm.cells ≤ 2; omega, by show 0 + rm.slots ≤ 60; omega⟩ dL_trustBehind_5 (fun v H1 locs1 hP hz hq hS => ?_)
  obtain ⟨⟨g1, hR1, hgx⟩, rfl⟩ := hP
  have hO : outA E o9 f H1 := hO.kept (hq _ ho9 hN.2)
  refine lv_i2l hx hb dL_trustBehind_8 rfl ?_
  refine g_last (j := 0) hx hb hC hO hS (Or.inl (Or.inr rfl)) ⟨rfl, by decide, by decide⟩ dL_trustBehind_9 (fun H2 locs2 hO hz2 hq2 hS => ?_)
  have hR2 := ra_keptO hR1 hgx hN ho9 hq2
  refine lv_goto (tgt := 21) hx hb dL_trustBehind_10 (by decide) ?_
  refine lv_iconst (v := 0) hx hb dL_trustBehind_21 (by decide) ?_
  exact wr_i hx hb hr hlocks hS ⟨g1, _, hR2, by rw [hz2]; exact hgx, hO, rfl, (fun _ => rfl)⟩ (by show 0 + rm.cells ≤ 2; omega) (by show 0 + rm.slots ≤ 60; omega) dL_trustBehind_22
set_option maxRecDepth 100000 in
set_option maxHeartbeats 4000000 in
theorem hth_trustBehind_1 {l : Launch} {E : EE} {S : St} {g : Gh} {b0 b1 : Int32} {o9 : Nat} (hM : TM l E yX6_trustBehind cX6_trustBehind 8 (some .int) (tD 8) [.ref (g.ad 1 0), .int (b0), .int (b1)] (RA E S g) "java/lang/IndexOutOfBoundsException") : HM l E yL_trustBehind cL_trustBehind 5 [(0, 10, 13, 13), (0, 10, 17, 21)] [.ref (g.ad 1 0), .int (b0), .int (b1), .ref (o9)] g S S o9 1 0 := by
  refine hm_of rfl (Nat.le_of_ble_eq_true rfl) (fun p e s m below meth c ls f hx hb hr hml (hown : s.vm.findClass RL = some m.cls) hZ hX hT hlocks hR hO hN hl => ?_)
  have hC := hZ.1.1
  have hS : va_S (fun q => (ow g q ∨ q = o9) ∨ s.heap.size ≤ q) s.heap s.heap [] := va_S.rf
  have ho9 := hO.lt
  have hl : lv_has ls 5 [(0, .ref (g.ad 1 0)), (1, .int (b0)), (2, .int (b1)), (3, .ref (o9))] := hl
  refine lv_aload_n hx hb dL_trustBehind_0 rfl (lv_at hl 3 rfl) ?_
  refine lv_iconst (v := 0) hx hb dL_trustBehind_1 (by decide) ?_
  refine lv_aload_n hx hb dL_trustBehind_2 rfl (lv_at hl 0 rfl) ?_
  refine lv_iload_n hx hb dL_trustBehind_3 rfl (lv_at hl 1 rfl) ?_
  refine lv_iload_n hx hb dL_trustBehind_4 rfl (lv_at hl 2 rfl) ?_
  refine hc_V (As := [.int (b0), .int (b1)]) hx hb hml hown hZ.1 hX hl hM (rec_of hC (RA.x hR) rfl) (zm_L_88 hC.1) kv_X6_trustBehind hR rfl rfl ⟨(Nat.le_of_ble_eq_true rfl), (Nat.le_of_ble_eq_true rfl)⟩ ⟨rfl, rfl⟩ (Nat.le_of_ble_eq_true rfl) ⟨(Nat.le_of_ble_eq_true rfl), (Nat.le_of_ble_eq_true rfl)⟩ dL_trustBehind_5 (fun q H1 locs1 ce hz hq hL hce hcv hcl => ?_)
  refine vx_catch (own := RL) hown [] ⟨0, 10, 13, 13⟩ [⟨0, 10, 17, 21⟩] (hT.trans rfl) (fun z h => by cases h) (by decide) (by decide) (zc_L_13 hC.1) (cast_IOOBE hZ.1) hce hcv hcl ?_
  have hS : va_S (fun q => (ow g q ∨ q = o9) ∨ s.heap.size ≤ q) s.heap H1 locs1 := ⟨hz, fun q h1 _ => hq q h1, fun q h => Or.inr (hL q h)⟩
  refine lv_astore (lv' := [(4, .ref (q)), (0, .ref (g.ad 1 0)), (1, .int (b0)), (2, .int (b1)), (3, .ref (o9))]) hx hb dL_trustBehind_13 hl (by decide) rfl (fun ls hl => ?_)
  refine lv_iconst (v := 1) hx hb dL_trustBehind_15 (by decide) ?_
  exact wr_i hx hb hr hlocks hS ⟨g, f, hR.kept hq, gX.refl g _ _, hO.kept (hq _ ho9), rfl, fun h => absurd h (by decide)⟩ (Nat.le_of_ble_eq_true rfl) (Nat.le_of_ble_eq_true rfl) dL_trustBehind_16
set_option maxRecDepth 100000 in
set_option maxHeartbeats 4000000 in
theorem hth_trustBehind_2 {l : Launch} {E : EE} {S : St} {g : Gh} {b0 b1 : Int32} {o9 : Nat} (hM : TM l E yX6_trustBehind cX6_trustBehind 8 (some .int) (tD 8) [.ref (g.ad 1 0), .int (b0), .int (b1)] (RA E S g) "java/lang/IllegalArgumentException") : HM l E yL_trustBehind cL_trustBehind 5 [(0, 10, 13, 13), (0, 10, 17, 21)] [.ref (g.ad 1 0), .int (b0), .int (b1), .ref (o9)] g S S o9 2 0 := by
  refine hm_of rfl (Nat.le_of_ble_eq_true rfl) (fun p e s m below meth c ls f hx hb hr hml (hown : s.vm.findClass RL = some m.cls) hZ hX hT hlocks hR hO hN hl => ?_)
  have hC := hZ.1.1
  have hS : va_S (fun q => (ow g q ∨ q = o9) ∨ s.heap.size ≤ q) s.heap s.heap [] := va_S.rf
  have ho9 := hO.lt
  have hl : lv_has ls 5 [(0, .ref (g.ad 1 0)), (1, .int (b0)), (2, .int (b1)), (3, .ref (o9))] := hl
  refine lv_aload_n hx hb dL_trustBehind_0 rfl (lv_at hl 3 rfl) ?_
  refine lv_iconst (v := 0) hx hb dL_trustBehind_1 (by decide) ?_
  refine lv_aload_n hx hb dL_trustBehind_2 rfl (lv_at hl 0 rfl) ?_
  refine lv_iload_n hx hb dL_trustBehind_3 rfl (lv_at hl 1 rfl) ?_
  refine lv_iload_n hx hb dL_trustBehind_4 rfl (lv_at hl 2 rfl) ?_
  refine hc_V (As := [.int (b0), .int (b1)]) hx hb hml hown hZ.1 hX hl hM (rec_of hC (RA.x hR) rfl) (zm_L_88 hC.1) kv_X6_trustBehind hR rfl rfl ⟨(Nat.le_of_ble_eq_true rfl), (Nat.le_of_ble_eq_true rfl)⟩ ⟨rfl, rfl⟩ (Nat.le_of_ble_eq_true rfl) ⟨(Nat.le_of_ble_eq_true rfl), (Nat.le_of_ble_eq_true rfl)⟩ dL_trustBehind_5 (fun q H1 locs1 ce hz hq hL hce hcv hcl => ?_)
  refine vx_catch (own := RL) hown [⟨0, 10, 13, 13⟩] ⟨0, 10, 17, 21⟩ [] (hT.trans rfl) (fun z h => by rw [List.mem_singleton.mp h]; exact Or.inr ⟨by decide, _, zc_L_13 hC.1, hZ.2.1⟩) (by decide) (by decide) (zc_L_21 hC.1) (cast_IAE hZ.1) hce hcv hcl ?_
  have hS : va_S (fun q => (ow g q ∨ q = o9) ∨ s.heap.size ≤ q) s.heap H1 locs1 := ⟨hz, fun q h1 _ => hq q h1, fun q h => Or.inr (hL q h)⟩
  refine lv_astore (lv' := [(4, .ref (q)), (0, .ref (g.ad 1 0)), (1, .int (b0)), (2, .int (b1)), (3, .ref (o9))]) hx hb dL_trustBehind_17 hl (by decide) rfl (fun ls hl => ?_)
  refine lv_iconst (v := 2) hx hb dL_trustBehind_19 (by decide) ?_
  exact wr_i hx hb hr hlocks hS ⟨g, f, hR.kept hq, gX.refl g _ _, hO.kept (hq _ ho9), rfl, fun h => absurd h (by decide)⟩ (Nat.le_of_ble_eq_true rfl) (Nat.le_of_ble_eq_true rfl) dL_trustBehind_20
set_option maxRecDepth 100000 in
set_option maxHeartbeats 4000000 in
theorem hok_leftWith {l : Launch} {E : EE} {S S' : St} {g : Gh} {rm : Room} {b0 b1 : Int32} {a9 : Int32} {o9 : Nat} (hM : WM l E yX6_leftWith cX6_leftWith 3 (some .int) rm [.ref (g.ad 1 0), .int (b0), .int (b1)] (RA E S g) (ow g) (CAp E S' g a9)) (hrm : rm.frames ≤ 15 ∧ rm.locals ≤ 480 ∧ rm.cells ≤ 2 ∧ rm.slots ≤ 60) : HM l E yL_leftWith cL_leftWith 5 [(0, 10, 13, 13)] [.ref (g.ad 1 0), .int (b0), .int (b1), .ref (o9)] g S S' o9 0 a9.toInt64 := by
  refine hm_of rfl (Nat.le_of_ble_eq_true rfl) (fun p e s m below meth c ls f hx hb hr hml (hown : s.vm.findClass RL = some m.cls) hZ hX hT hlocks hR hO hN hl => ?_)
  have hC := hZ.1.1
  have hS : va_S (fun q => (ow g q ∨ q = o9) ∨ s.heap.size ≤ q) s.heap s.heap [] := va_S.rf
  have ho9 := hO.lt
  have hl : lv_has ls 5 [(0, .ref (g.ad 1 0)), (1, .int (b0)), (2, .int (b1)), (3, .ref (o9))] := hl
  refine lv_aload_n hx hb dL_leftWith_0 rfl (lv_at hl 3 rfl) ?_
  refine lv_iconst (v := 0) hx hb dL_leftWith_1 (by decide) ?_
  refine lv_aload_n hx hb dL_leftWith_2 rfl (lv_at hl 0 rfl) ?_
  refine lv_iload_n hx hb dL_leftWith_3 rfl (lv_at hl 1 rfl) ?_
  refine lv_iload_n hx hb dL_leftWith_4 rfl (lv_at hl 2 rfl) ?_
  refine wc_V (As := [.int (b0), .int (b1)]) hx hb hml hown hC hl hM (rec_of hC (RA.x hR) rfl) (zm_L_91 hC.1) kv_X6_leftWith hR hS (fun q h => h.elim (fun w => Or.inl (Or.inl w)) Or.inr) rfl rfl ⟨by show rm.frames + 1 ≤ 16; omega, by show 8 + (3 + 11) + rm.locals ≤ 520; omega⟩ (Nat.le_of_ble_eq_true rfl) ⟨by show 0 + rm.cells ≤ 2; omega, by show 0 + rm.slots ≤ 60; omega⟩ dL_leftWith_5 (fun v H1 locs1 hP hz hq hS => ?_)
  obtain ⟨⟨g1, hR1, hgx⟩, rfl⟩ := hP
  have hO : outA E o9 f H1 := hO.kept (hq _ ho9 hN.2)
  refine lv_i2l hx hb dL_leftWith_8 rfl ?_
  refine g_last (j := 0) hx hb hC hO hS (Or.inl (Or.inr rfl)) ⟨rfl, by decide, by decide⟩ dL_leftWith_9 (fun H2 locs2 hO hz2 hq2 hS => ?_)
  have hR2 := ra_keptO hR1 hgx hN ho9 hq2
  refine lv_goto (tgt := 17) hx hb dL_leftWith_10 (by decide) ?_
  refine lv_iconst (v := 0) hx hb dL_leftWith_17 (by decide) ?_
  exact wr_i hx hb hr hlocks hS ⟨g1, _, hR2, by rw [hz2]; exact hgx, hO, rfl, (fun _ => rfl)⟩ (by show 0 + rm.cells ≤ 2; omega) (by show 0 + rm.slots ≤ 60; omega) dL_leftWith_18
set_option maxRecDepth 100000 in
set_option maxHeartbeats 4000000 in
theorem hth_leftWith_1 {l : Launch} {E : EE} {S : St} {g : Gh} {b0 b1 : Int32} {o9 : Nat} (hM : TM l E yX6_leftWith cX6_leftWith 3 (some .int) (tD 8) [.ref (g.ad 1 0), .int (b0), .int (b1)] (RA E S g) "java/lang/IndexOutOfBoundsException") : HM l E yL_leftWith cL_leftWith 5 [(0, 10, 13, 13)] [.ref (g.ad 1 0), .int (b0), .int (b1), .ref (o9)] g S S o9 1 0 := by
  refine hm_of rfl (Nat.le_of_ble_eq_true rfl) (fun p e s m below meth c ls f hx hb hr hml (hown : s.vm.findClass RL = some m.cls) hZ hX hT hlocks hR hO hN hl => ?_)
  have hC := hZ.1.1
  have hS : va_S (fun q => (ow g q ∨ q = o9) ∨ s.heap.size ≤ q) s.heap s.heap [] := va_S.rf
  have ho9 := hO.lt
  have hl : lv_has ls 5 [(0, .ref (g.ad 1 0)), (1, .int (b0)), (2, .int (b1)), (3, .ref (o9))] := hl
  refine lv_aload_n hx hb dL_leftWith_0 rfl (lv_at hl 3 rfl) ?_
  refine lv_iconst (v := 0) hx hb dL_leftWith_1 (by decide) ?_
  refine lv_aload_n hx hb dL_leftWith_2 rfl (lv_at hl 0 rfl) ?_
  refine lv_iload_n hx hb dL_leftWith_3 rfl (lv_at hl 1 rfl) ?_
  refine lv_iload_n hx hb dL_leftWith_4 rfl (lv_at hl 2 rfl) ?_
  refine hc_V (As := [.int (b0), .int (b1)]) hx hb hml hown hZ.1 hX hl hM (rec_of hC (RA.x hR) rfl) (zm_L_91 hC.1) kv_X6_leftWith hR rfl rfl ⟨(Nat.le_of_ble_eq_true rfl), (Nat.le_of_ble_eq_true rfl)⟩ ⟨rfl, rfl⟩ (Nat.le_of_ble_eq_true rfl) ⟨(Nat.le_of_ble_eq_true rfl), (Nat.le_of_ble_eq_true rfl)⟩ dL_leftWith_5 (fun q H1 locs1 ce hz hq hL hce hcv hcl => ?_)
  refine vx_catch (own := RL) hown [] ⟨0, 10, 13, 13⟩ [] (hT.trans rfl) (fun z h => by cases h) (by decide) (by decide) (zc_L_13 hC.1) (cast_IOOBE hZ.1) hce hcv hcl ?_
  have hS : va_S (fun q => (ow g q ∨ q = o9) ∨ s.heap.size ≤ q) s.heap H1 locs1 := ⟨hz, fun q h1 _ => hq q h1, fun q h => Or.inr (hL q h)⟩
  refine lv_astore (lv' := [(4, .ref (q)), (0, .ref (g.ad 1 0)), (1, .int (b0)), (2, .int (b1)), (3, .ref (o9))]) hx hb dL_leftWith_13 hl (by decide) rfl (fun ls hl => ?_)
  refine lv_iconst (v := 1) hx hb dL_leftWith_15 (by decide) ?_
  exact wr_i hx hb hr hlocks hS ⟨g, f, hR.kept hq, gX.refl g _ _, hO.kept (hq _ ho9), rfl, fun h => absurd h (by decide)⟩ (Nat.le_of_ble_eq_true rfl) (Nat.le_of_ble_eq_true rfl) dL_leftWith_16
