/-! what a charge throws is caught -/
abbrev RFm : Room := { frames := 11, cells := 1, slots := 6, locals := 300 }
abbrev hhR : List (Nat × Nat × Nat × Nat) := [(0, 11, 14, 115)]
theorem cast_ISE {E : EE} {U : State} {a : Array Value} (h : CY E U) : (Cond.castable "java/lang/IllegalStateException" "java/lang/IllegalStateException").before a U = true := h.2.1 a _ (List.mem_of_getElem? (i := 237) (by decide +kernel)) rfl
def HR (l : Launch) (E : EE) (As : List Value) (g : Gh) (S : St) : Prop :=
  ∀ (sz : Nat), Met l yL_isRefused [Cond.codeWith yL_isRefused cL_isRefused 6 (some .boolean) hhR] RFm (va_Pc As (fun U => U.heap.size = sz ∧ CY E U ∧ XZ (fun q => sz ≤ q) U U.heap ∧ RA E S g U.heap)) (WQ (ow g) sz (fun v H => RA E S g H ∧ v = some (.int 1))) 1 6 (fun q => ow g q ∨ sz ≤ q)
section HMs
variable {p : Program} {l : Launch} {e : Env} {R : Room} {s : State} {m : MethodId} {args : Array Value} {below : List Frame} {meth : Method} {c : Code} {H : Heap} {locs : List Loc} {cells slots : Nat} {Q : State → Prop}
variable {cc : ByteArray} {pc : Nat} {ls : Array Slot} {rest : List Value} {E : EE} {own : String}
theorem hr_of {As : List Value} {g : Gh} {S : St} (hlen : (lg_sl As).length ≤ 6)
    (body : ∀ (p : Program) (e : Env) (s : State) (m : MethodId) (below : List Frame) (meth : Method) (c : Code) (ls : Array Slot), p.tables.exec = Jvm.exec → c.code = cL_isRefused → meth.sig.returnType = some .boolean → c.maxLocals = 6 → s.vm.findClass RL = some m.cls → CY E s → XZ (fun q => s.heap.size ≤ q) s s.heap → c.exceptionTable.toList = tableOf hhR → meth.locks = false → RA E S g s.heap → lv_has ls 6 (lv_args 0 As) → W p l e RFm s m As.toArray below meth c s.heap [] 0 0 (MQ below (WQ (ow g) s.heap.size (fun v H => RA E S g H ∧ v = some (.int 1))) As.toArray s 1 6 (fun q => ow g q ∨ s.heap.size ≤ q)) (F0 m 0 ls [])) : HR l E As g S := by
  intro sz
  refine va_MetW (cc := cL_isRefused) (maxL := 6) (ret := some .boolean) (hh := hhR) rfl rfl ?_
  intro p e s m args below meth c s₁ B hml hv
  obtain ⟨rfl, hsz, hY, hX, hR⟩ := hv
  subst hsz
  rw [lg_entry_eq]
  exact body p e s m below meth c _ B.exec B.bytes B.returns hml (findClass_of_methodNamed B.named) hY hX (vx_table (x := yL_isRefused) B (atoms_spec (ws := [Cond.codeWith yL_isRefused cL_isRefused 6 (some .boolean) hhR]) B.pre _ List.mem_cons_self)) B.notSynchronized hR (lv_entry As hlen)
theorem hc_V {C : String} {y : MethodName} {b : ByteArray} {n nL k index : Nat} {ret : Option FieldType} {rm : Room} {a : Nat} {As st : List Value} {lv : List (Nat × Value)} {Pre : Heap → Prop} {Ex : String} (hx : p.tables.exec = Jvm.exec) (hb : c.code = cc) (hml : c.maxLocals = nL) (hown : s.vm.findClass own = some m.cls) (hY : CY E s) (hZ : XZ (fun q => s.heap.size ≤ q) s s.heap) (hl : lv_has ls nL lv) (hM : TM l E y b n ret rm (.ref a :: As) Pre Ex) (hrec : ∃ cell : Cell, s.heap[a]? = some cell ∧ cell.vm.isStatics = false ∧ s.vm.findClass C = some cell.cls) (zm : (Cond.methodLink own index y).before args s = true) (kv : KV C y b n ret k) (hPre : Pre s.heap) (hn : As.length = k) (hst : st = As.reverse ++ .ref a :: rest) (hR : rm.frames + 1 ≤ R.frames ∧ 8 + (n + 11) + rm.locals ≤ R.locals) (hrm : rm.cells = 1 ∧ rm.slots = 6) (hW : (rest.map fun v => v.category).sum ≤ 8) (hcs : 0 + 1 ≤ R.cells ∧ 0 + 6 ≤ R.slots) (hdg : decode cc pc = .ok (.invokevirtual index, 3))
    (kk : ∀ (q : Addr) (H1 : Heap) (locs1 : List Loc) (ce : Cell), s.heap.size ≤ H1.size → (∀ z : Nat, z < s.heap.size → H1[z]? = s.heap[z]?) → (∀ z ∈ locs1, s.heap.size ≤ z.base) → H1[q]? = some ce → ce.vm = .none → s.vm.findClass Ex = some ce.cls → vx_W p l e R s m args below meth c H1 locs1 (0 + 1) (0 + 6) Q (F0 m pc ls rest) q) : W p l e R s m args below meth c s.heap [] 0 0 Q (F0 m pc ls st) := by
  subst hst
  have k1 := kv.1 s args hY.1.1
  have hr := vx_runV (p := p) (l := l) (e := e) (R := R) (s := s) (m := m) (args := args) (below := below) (meth := meth) (c := c) (H := s.heap) (locs := []) (cells := 0) (slots := 0) (g := F0 m pc ls (As.reverse ++ .ref a :: rest)) (C := C) (As := As) (b := a) (rest := rest) (Ts := []) (n := k) ⟨hx, hb, hml, hown, fun w h => by cases h⟩ (hM s.heap.size) ⟨kb_of hY.1.1 (fun U a h => (kv.1 U a h).1) k1.2.1 kv.2.1 kv.2.2 zm hrm.1 hrm.2 hR, k1.2.2.1, k1.2.2.2⟩ ⟨fun a U g mk q => ⟨q.1, q.2.1, q.2.2.1.calling, XZ.moved (u := U) (U := U.calling g mk a) (Vm.Alike.refl U.vm) q.2.2.2.1, q.2.2.2.2⟩, hrec, fun U hU hW => ⟨rfl, by rw [hU], hY.moved hW, by rw [hU]; exact hZ.moved hW.alike, by rw [hU]; exact hPre⟩⟩ rfl hn hl.1 rfl (lv_room hW) hdg hcs
  intro T hT X
  rcases hr T hT X with ⟨v, st₀, t, T', L, h0, X', hL, e1, e2, hf, st⟩ | ⟨q, st₀, t, T', L, E', ce, h0, X', hL, e1, e2, hx9, hce, hcv, hcl, st⟩
  · exact hf.elim
  · obtain ⟨hE, hz, hq⟩ := hx9
    subst hE
    rw [h0] at hz hq
    obtain ⟨t2, a1, b1⟩ := kk q T'.heap ([] ++ L) ce (by rw [e1]; exact hz) (fun z h => by rw [e1]; exact hq z h) (fun z hz => by rw [List.nil_append] at hz; exact hL z hz) (by rw [e1]; exact hce) hcv hcl T' rfl X'
    exact ⟨t2, st.trans a1, b1⟩
end HMs
set_option maxRecDepth 100000 in
set_option maxHeartbeats 4000000 in
theorem c_isRefused {l : Launch} {E : EE} {S : St} {g : Gh} {b1 b2 b3 b4 : Int32} (hM : TM l E yX6_charge cX6_charge 8 (some .int) (tD 4) [.ref (g.ad 1 0), .int b1, .int b2, .int b3, .int b4, .int 0] (RA E S g) "java/lang/IllegalStateException") : HR l E [.ref (g.ad 1 0), .int b1, .int b2, .int b3, .int b4] g S := by
  refine hr_of (Nat.le_of_ble_eq_true rfl) (fun p e s m below meth c ls hx hb hr hml (hown : s.vm.findClass RL = some m.cls) hY hX hT hlocks hR hl => ?_)
  have hC := hY.1
  have hl : lv_has ls 6 [(0, .ref (g.ad 1 0)), (1, .int b1), (2, .int b2), (3, .int b3), (4, .int b4)] := hl
  refine lv_aload_n hx hb dL_isRefused_0 rfl (lv_at hl 0 rfl) ?_
  refine lv_iload_n hx hb dL_isRefused_1 rfl (lv_at hl 1 rfl) ?_
  refine lv_iload_n hx hb dL_isRefused_2 rfl (lv_at hl 2 rfl) ?_
  refine lv_iload_n hx hb dL_isRefused_3 rfl (lv_at hl 3 rfl) ?_
  refine lv_iload hx hb dL_isRefused_4 (lv_at hl 4 rfl) ?_
  refine lv_iconst (v := 0) hx hb dL_isRefused_6 (by decide) ?_
  refine hc_V (As := [.int b1, .int b2, .int b3, .int b4, .int 0]) hx hb hml hown hY hX hl hM (rec_of hC (RA.x hR) rfl) (zm_L_58 hC.1) kv_X6_charge hR rfl rfl ⟨(Nat.le_of_ble_eq_true rfl), (Nat.le_of_ble_eq_true rfl)⟩ ⟨rfl, rfl⟩ (Nat.le_of_ble_eq_true rfl) ⟨(Nat.le_of_ble_eq_true rfl), (Nat.le_of_ble_eq_true rfl)⟩ dL_isRefused_7 (fun q H1 locs1 ce hz hq hL hce hcv hcl => ?_)
  refine vx_catch (own := RL) hown [] ⟨0, 11, 14, 115⟩ [] (hT.trans rfl) (fun z h => by cases h) (by decide) (by decide) (zc_L_115 hC.1) (cast_ISE hY) hce hcv hcl ?_
  have hS : va_S (fun q => ow g q ∨ s.heap.size ≤ q) s.heap H1 locs1 := ⟨hz, fun q h1 _ => hq q h1, fun q h => Or.inr (hL q h)⟩
  refine lv_astore (lv' := [(5, .ref (q)), (0, .ref (g.ad 1 0)), (1, .int b1), (2, .int b2), (3, .int b3), (4, .int b4)]) hx hb dL_isRefused_14 hl (by decide) rfl (fun ls hl => ?_)
  refine lv_iconst (v := 1) hx hb dL_isRefused_16 (by decide) ?_
  exact wr_z hx hb hr hlocks (by decide) hS ⟨hR.kept hq, rfl⟩ (Nat.le_of_ble_eq_true rfl) (Nat.le_of_ble_eq_true rfl) dL_isRefused_17
section LAWs
variable {p : Program} {l : Launch} {e : Env} {s : State} {m : MethodId} {args : Array Value} {below : List Frame} {meth : Method} {c : Code} {H : Heap} {locs : List Loc} {cells slots : Nat} {Q : State → Prop}
variable {pc : Nat} {ls : Array Slot} {rest : List Value} {E : EE} {b L : Nat} {xs : Nat → Int32} {S S' : St} {g : Gh} {x1 : Nat} {ar : AR}
theorem wl_refused (hC : LC p s m c E b L xs) {b1 b2 b3 b4 : Int32} {lv : List (Nat × Value)} (hLI : LI E S g x1 ar H) (hS : va_S (LA s) s.heap H locs) (hl : lv_has ls 24 lv) (hM : HR l E [.ref (g.ad 1 0), .int b1, .int b2, .int b3, .int b4] g S) (hW : (rest.map fun v => v.category).sum ≤ 8) (hcs : cells + 1 ≤ 682005 ∧ slots + 6 ≤ 7055682) (hdg : decode cL_law pc = .ok (.invokestatic 54, 3))
    (kk : ∀ (H1 : Heap) (locs1 : List Loc), LI E S g x1 ar H1 → va_S (LA s) s.heap H1 locs1 → W p l e room_1 s m args below meth c H1 locs1 (cells + 1) (slots + 6) Q (F0 m (pc + 3) ls (.int 1 :: rest))) : W p l e room_1 s m args below meth c H locs cells slots Q (F0 m pc ls (.int b4 :: .int b3 :: .int b2 :: .int b1 :: .ref x1 :: rest)) := by
  obtain ⟨hx, hb, hml, hown, hY, hX0, hX, hbl, hN, hL⟩ := hC
  have hLI0 := hLI
  obtain ⟨hA, h1, hla, har⟩ := hLI
  subst h1
  refine wc_go (ow := ow g) (Post := fun v H => RA E S g H ∧ v = some (.int 1)) (vx_runSW (g := F0 m pc ls ([.ref (g.ad 1 0), .int b1, .int b2, .int b3, .int b4].reverse ++ rest)) (As := [.ref (g.ad 1 0), .int b1, .int b2, .int b3, .int b4]) (rest := rest) (Ts := []) (n := 5) ⟨hx, hb, hml, hown, fun w h => by cases h⟩ (hM H.size) ⟨⟨rfl, rfl, Nat.le_of_ble_eq_true rfl, Nat.le_of_ble_eq_true rfl, fun w hw a' U hW => ?_, List.mem_singleton.mpr rfl⟩, zh_L_isRefused hY.1.1, zn_L hY.1.1, ⟨by decide +kernel, by decide +kernel⟩, fun sig h => ?_, zm_L_54 hY.1.1, zt_L_isRefused hY.1.1⟩ ⟨fun a U g mk q => ⟨q.1, q.2.1, q.2.2.1.calling, XZ.moved (u := U) (U := U.calling g mk a) (Vm.Alike.refl U.vm) q.2.2.2.1, q.2.2.2.2⟩, fun U hU hW => ⟨rfl, by rw [hU], hY.moved hW, ?_, by rw [hU]; exact hA⟩⟩ rfl rfl hl.1 rfl (lv_room hW) hdg hcs) hS (fun q h => ?_) (fun v H1 locs1 hP hz hq hS => ?_)
  · rw [List.mem_singleton.mp hw]
    exact zh_L_isRefused (hY.1.1.moved hW)
  · have h5 : (parseMethodDescriptor yL_isRefused.desc).map (fun d => d.parameters.length) = some 5 := by decide +kernel
    rw [h] at h5
    exact (Option.some.inj h5).symm
  · rw [hU]
    exact XZ.moved hW.alike ((hX0.kept (fun a h1 h2 => hS.2.1 a h1 h2)).narrow (fun q h => Nat.le_trans hS.1 h))
  · show s.heap.size ≤ q
    rcases h with h | h
    · rw [← hN]; exact hA.2.2.1.1 q h
    · exact Nat.le_trans hS.1 h
  · obtain ⟨hR1, rfl⟩ := hP
    exact kk H1 locs1 (li_cls hLI0 hR1 (gX.refl g _ _) hz hq) hS
end LAWs
