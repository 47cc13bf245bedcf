theorem AOA_spec {args : Array Value} {first s : State} {o : Option Outcome} {idx : List Nat} {t : FieldType} (h : (Cond.arrayOver (.array t)).holds args first o s idx = true) :
    ∃ comp c k, s.vm.findClass (FieldType.array t).toString = some comp ∧ (s.vm.classes.findIdx? fun x => match x.kind with | .array component _ => component == comp | _ => false) = some c ∧ s.vm.classes[c]? = some k ∧ k.kind = .array comp (.array t) ∧
      s.vm.findClass ("[" ++ (FieldType.array t).toString) = some c := by
  simp only [Cond.holds, Cond.value, beq_iff_eq] at h
  cases hc : s.vm.findClass (FieldType.array t).toString with
  | none => simp [hc] at h
  | some comp =>
    simp only [hc, Option.bind_some, Option.bind_eq_some_iff, Option.map_eq_some_iff] at h
    obtain ⟨c, hi, k, hk, hb⟩ := h
    obtain ⟨hlt, hp, -⟩ := Array.findIdx?_eq_some_iff_getElem.mp hi
    have hkk : s.vm.classes[c] = k := (Array.getElem?_eq_some_iff.mp hk).2
    rw [hkk] at hp
    cases hkind : k.kind with
    | array component ty =>
      rw [hkind] at hb hp
      simp at hb hp
      exact ⟨comp, c, k, rfl, hi, hk, by rw [hkind, hp, hb.1], hb.2⟩
    | _ => rw [hkind] at hb; simp at hb
theorem va_AOA.moved {t : FieldType} {u U : State} (hvm : u.vm.Alike U.vm) (h : va_AOA t u) : va_AOA t U := by
  obtain ⟨comp, c, k, h1, h2, h3, h4, h5⟩ := AOA_spec h
  obtain ⟨k', hk', he⟩ := hvm.2.2 _ _ h3
  have hi : (U.vm.classes.findIdx? fun (x : Class) => match x.kind with | .array component _ => component == comp | _ => false) = some c := by
    refine (va_idx_bare U.vm comp).symm.trans ?_
    first | rw [hvm.bare_eq] | rw [← hvm.bare_eq]
    exact (va_idx_bare u.vm comp).trans h2
  have hkind : k'.kind = .array comp (.array t) := by rw [he]; exact h4
  have f1 : U.vm.findClass (FieldType.array t).toString = some comp := by rw [hvm.findClass]; exact h1
  have f2 : U.vm.findClass ("[" ++ (FieldType.array t).toString) = some c := by rw [hvm.findClass]; exact h5
  unfold va_AOA Cond.before Cond.holds
  simp only [Cond.value]
  rw [f1, Option.bind_some]
  refine (congrArg (fun o : Option Nat => (o.bind (fun c => (U.vm.classes[c]?).map fun (k : Class) => match k.kind with | .array _ ty => decide (ty = FieldType.array t) && decide (U.vm.findClass ("[" ++ (FieldType.array t).toString) = some c) | _ => false) == some true)) hi).trans ?_
  simp [hk', hkind, f2]
/-- what two constructors need beside: arrays over arrays, the nest mate's constructor -/
def XN (U : State) : Prop := va_AOA .int U ∧ va_Nw (.methodLinkNest RX12 9 yX8_init RX12) U
theorem XN.moved {s U : State} (hW : s.WarmedH U.vm) (h : XN s) : XN U := ⟨h.1.moved hW.alike, va_Nw.warmM hW h.2⟩
theorem XN.calling {U : State} {g : JFrame} {mk : MethodId} {a : Array Value} (h : XN U) : XN (U.calling g mk a) := h.moved (State.WarmedH.refl U)
/-- a method that may make arrays of arrays -/
def WMX (l : Launch) (E : EE) (y : MethodName) (b : ByteArray) (n : Nat) (ret : Option FieldType) (rm : Room) (As : List Value) (Pre : Heap → Prop) (own : Nat → Prop) (Post : Nat → Option Value → Heap → Prop) : Prop :=
  ∀ sz : Nat, Met l y [Cond.code y b n ret] rm (va_Pc As (fun U => U.heap.size = sz ∧ CX E U ∧ XN U ∧ Pre U.heap)) (WQ own sz (Post sz)) rm.cells rm.slots (fun q => own q ∨ sz ≤ q)
section WMXs
variable {p : Program} {l : Launch} {e : Env} {R : Room} {s : State} {m : MethodId} {args : Array Value} {below : List Frame} {meth : Method} {c : Code} {H : Heap} {locs : List Loc} {cells slots : Nat} {Q : State → Prop}
variable {cc : ByteArray} {pc : Nat} {ls : Array Slot} {rest : List Value} {E : EE} {own : String}
theorem wmx_of {y : MethodName} {b : ByteArray} {n : Nat} {ret : Option FieldType} {rm : Room} {As : List Value} {Pre : Heap → Prop} {ow : Nat → Prop} {Post : Nat → Option Value → Heap → Prop} (hy : plainName y.cls = true) (hlen : (lg_sl As).length ≤ n)
    (body : ∀ (p : Program) (e : Env) (s : State) (m : MethodId) (below : List Frame) (meth : Method) (c : Code) (ls : Array Slot), p.tables.exec = Jvm.exec → c.code = b → meth.sig.returnType = ret → c.maxLocals = n → s.vm.findClass y.cls = some m.cls → CX E s → XN s → meth.locks = false → Pre s.heap → lv_has ls n (lv_args 0 As) → (y.name = "<init>" → meth.name = "<init>") → W p l e rm s m As.toArray below meth c s.heap [] 0 0 (MQ below (WQ ow s.heap.size (Post s.heap.size)) As.toArray s rm.cells rm.slots (fun q => ow q ∨ s.heap.size ≤ q)) (F0 m 0 ls [])) : WMX l E y b n ret rm As Pre ow Post := by
  intro sz
  refine Met.ofW (cc := b) (maxL := n) (ret := ret) hy rfl ?_
  intro p e s m args below meth c s₁ B hml hv
  obtain ⟨rfl, hsz, hC, hA, hP⟩ := hv
  subst hsz
  rw [lg_entry_eq]
  exact body p e s m below meth c _ B.exec B.bytes B.returns hml (findClass_of_methodNamed B.named) hC hA B.notSynchronized hP (lv_entry As hlen) (fun h => (name_of_methodNamed B.named B.method).1.trans h)
theorem wcx_I {y : MethodName} {b : ByteArray} {n nL k index : Nat} {rm : Room} {a : Nat} {As st : List Value} {lv : List (Nat × Value)} {Pre : Heap → Prop} {A ow : Nat → Prop} {H0 : Heap} {Post : Nat → Option Value → Heap → Prop} (hx : p.tables.exec = Jvm.exec) (hb : c.code = cc) (hml : c.maxLocals = nL) (hown : s.vm.findClass own = some m.cls) (hC : CX E s) (hAO : XN s) (hl : lv_has ls nL lv) (hM : WMX l E y b n none rm (.ref a :: As) Pre ow Post) (zm : (Cond.methodLink own index y).before args s = true) (kv : KI y b n k) (hPre : Pre H) (hS : va_S A H0 H locs) (hA : ∀ q, ow q ∨ H.size ≤ q → A q) (hn : As.length = k) (hst : st = As.reverse ++ .ref a :: rest) (hR : rm.frames + 1 ≤ R.frames ∧ 8 + (n + 11) + rm.locals ≤ R.locals) (hW : (rest.map fun v => v.category).sum ≤ 8) (hcs : cells + rm.cells ≤ R.cells ∧ slots + rm.slots ≤ R.slots) (hdg : decode cc pc = .ok (.invokespecial index, 3))
    (kk : ∀ (v : Option Value) (H1 : Heap) (locs1 : List Loc), Post H.size v H1 → H.size ≤ H1.size → (∀ q : Nat, q < H.size → ¬ ow q → H1[q]? = H[q]?) → va_S A H0 H1 locs1 → W p l e R s m args below meth c H1 locs1 (cells + rm.cells) (slots + rm.slots) Q (F0 m (pc + 3) ls (v.toList ++ rest))) : W p l e R s m args below meth c H locs cells slots Q (F0 m pc ls st) := by
  subst hst
  have k1 := kv.1 s args hC.1
  refine wc_go (Post := Post H.size) (va_runI (g := F0 m pc ls (As.reverse ++ .ref a :: rest)) (As := As) (b := a) (rest := rest) (Ts := []) (n := k) ⟨hx, hb, hml, hown, fun w h => by cases h⟩ (hM H.size) ⟨kb_of hC.1 (fun U a h => (kv.1 U a h).1) k1.2.1 kv.2.1 kv.2.2.1 zm rfl rfl hR, kv.2.2.2, k1.2.2⟩ ⟨fun a U g mk q => ⟨q.1, q.2.1, q.2.2.1.calling, q.2.2.2.1.calling, q.2.2.2.2⟩, fun U hU hW => ⟨rfl, by rw [hU], hC.moved hW, hAO.moved hW, by rw [hU]; exact hPre⟩⟩ rfl hn hl.1 rfl (lv_room hW) hdg hcs) hS hA kk
theorem g_mna0 (hx : p.tables.exec = Jvm.exec) (hb : c.code = cc) (hown : s.vm.findClass own = some m.cls) (hC : CX E s) (hAO : va_AOA .int s) {index N K : Nat} {n k : Int32} {A : Nat → Prop} {H0 : Heap} (hlink : (Cond.classLink own index "[[I").before args s = true) (hS : va_S A H0 H locs) (hn : ¬ n < 0) (hk : ¬ k < 0) (hN : n.toNatClampNeg = N) (hK : k.toNatClampNeg = K) (hN2 : N < 2 ^ 20) (hK2 : K < 2 ^ 20) (hcells : cells + (1 + N) ≤ R.cells) (hslots : slots + (N + N * K) ≤ R.slots) (hdg : decode cc pc = .ok (.multianewarray index 2, 4))
    (kk : ∀ (H1 : Heap), va_at E.1 vwCl (H.size, .inl (eM E, N, .inr (.inr (.inr (.inr (fun i => if i < N then some (H.size + 1 + i) else none)))))) H1 → (∀ i, i < N → va_at E.1 vwCl (H.size + 1 + i, .inl (eI E, K, .inl (fun _ => 0))) H1) → H1.size = H.size + 1 + N → (∀ q : Nat, q < H.size → H1[q]? = H[q]?) → va_S A H0 H1 locs → W p l e R s m args below meth c H1 locs (cells + 1 + N) (slots + N + N * K) Q (F0 m (pc + 4) ls (.ref H.size :: rest))) : W p l e R s m args below meth c H locs cells slots Q (F0 m pc ls (.int k :: .int n :: rest)) := by
  subst hN
  subst hK
  intro T hT Xs
  obtain ⟨vm₁, cA, comp, -, fA, fC, hO, -, X', step⟩ := Xs.multianewarray2F (ty := .int) hx hown hlink (va_AOA.use hAO) (zA_82 hC.1) (g := F0 m pc ls (.int k :: .int n :: rest)) rfl (by rw [hb]; exact hdg) rfl hn hk (by omega) (by rw [show componentBytes .int = 4 from rfl]; omega) (by omega) rfl rfl hcells hslots
  obtain ⟨-, r4⟩ := hC.2.1.2 3 _ rfl
  obtain ⟨-, r0⟩ := hC.2.1.2 0 _ rfl
  have eA : cA = eM E := Option.some.inj (fA.symm.trans r4)
  have eC : comp = eI E := Option.some.inj (fC.symm.trans r0)
  subst eA
  subst eC
  generalize hF : Jvm.Free.Multi.fill (T.setVm vm₁) (eM E) (eI E) n.toNatClampNeg k.toNatClampNeg (defaultValue .int) n.toNatClampNeg = F at X' step
  have hTh : (T.setVm vm₁).heap = H := hT
  obtain ⟨f1, f2, -, -⟩ := Jvm.Free.Multi.fill_facts (T.setVm vm₁) (eM E) (eI E) n.toNatClampNeg k.toNatClampNeg (defaultValue .int) n.toNatClampNeg
  rw [hF, hTh] at f1 f2
  have hold : ∀ x : Nat, x < H.size → F.heap[x]? = H[x]? := fun x hx => by
    have := Jvm.Free.Multi.fill_old (T.setVm vm₁) (eM E) (eI E) n.toNatClampNeg k.toNatClampNeg (defaultValue .int) (a := x) (by rw [hTh]; exact hx) n.toNatClampNeg
    rw [hF, hTh] at this
    exact this
  have hrow : ∀ j : Nat, j < n.toNatClampNeg → va_at E.1 vwCl (H.size + 1 + j, .inl (eI E, k.toNatClampNeg, .inl (fun _ => 0))) F.heap := fun j hj => by
    have h9 := Jvm.Free.Multi.fill_inner (T.setVm vm₁) (eM E) (eI E) n.toNatClampNeg k.toNatClampNeg (defaultValue .int) n.toNatClampNeg j hj
    rw [hF, hTh] at h9
    show _ = some (vp_cell _ _)
    rw [vp_cell_i, h9]
    refine congrArg some ?_
    show ({ cls := eI E, slots := Array.replicate k.toNatClampNeg (.int 0), vm := .none } : Cell) = _
    rw [arrV_new]
  have hout : va_at E.1 vwCl (H.size, .inl (eM E, n.toNatClampNeg, .inr (.inr (.inr (.inr (fun i => if i < n.toNatClampNeg then some (H.size + 1 + i) else none)))))) F.heap := by
    show _ = some (vp_cell _ _)
    rw [vp_cell_q, f2, vr_outer (eM E) n.toNatClampNeg H.size n.toNatClampNeg]
  obtain ⟨t, a1, b1⟩ := kk F.heap hout hrow f1 hold ⟨by rw [f1]; have := hS.1; omega, fun x h1 h2 => (hold x (Nat.lt_of_lt_of_le h1 hS.1)).trans (hS.2.1 x h1 h2), hS.2.2⟩ F rfl X'
  refine ⟨t, step t ?_, b1⟩
  have e : T.heap.size = H.size := by rw [hT]
  rw [e]
  exact a1
end WMXs
set_option maxRecDepth 100000 in
set_option maxHeartbeats 4000000 in
theorem c_X8_init (l : Launch) (E : EE) {q9 : Nat} (hN9 : eN E ≤ q9) : WMX l E yX8_init cX8_init 1 none (wD 5 14 51) [.ref (q9)] (fun H => va_at E.1 vwCl (q9, .inr (8, [.null, .null, .null, .null, .null, .null, .null, .int (0)])) H ∧ ZE E H) (fun x => x = q9) (fun sz v H => (∃ a0 a1 a2 a3 z0 c5 w0 : Nat, sz ≤ a0 ∧ (q9 < a0 ∧ a0 < a1 ∧ a1 < a2 ∧ a2 < a3 ∧ a3 < z0 ∧ z0 + 1 + 3 < c5 ∧ c5 < w0) ∧ w0 + 1 + 2 < H.size ∧ va_at E.1 vwCl (q9, .inr (8, [.ref a0, .ref a1, .ref a2, .ref a3, .ref z0, .ref c5, .ref w0, .int 0])) H ∧ (va_at E.1 vwCl (a0, .inr (0, [.int 0, .ref (eE E), .int 0])) H ∧ va_at E.1 vwCl (a1, .inr (0, [.int 0, .ref (eE E), .int 0])) H ∧ va_at E.1 vwCl (a2, .inr (0, [.int 0, .ref (eE E), .int 0])) H ∧ va_at E.1 vwCl (a3, .inr (0, [.int 0, .ref (eE E), .int 0])) H) ∧ (va_at E.1 vwCl (z0, .inl (eM E, 4, .inr (.inr (.inr (.inr (fun i => if i < 4 then some (z0 + 1 + i) else none)))))) H ∧ ∀ i, i < 4 → va_at E.1 vwCl (z0 + 1 + i, .inl (eI E, 4, .inl (fun _ => 0))) H) ∧ va_at E.1 vwCl (c5, .inl (eI E, 4, .inl (fun _ => 0))) H ∧ (va_at E.1 vwCl (w0, .inl (eM E, 3, .inr (.inr (.inr (.inr (fun i => if i < 3 then some (w0 + 1 + i) else none)))))) H ∧ ∀ i, i < 3 → va_at E.1 vwCl (w0 + 1 + i, .inl (eI E, 4, .inl (fun _ => 0))) H) ∧ ZE E H) ∧ v = none) := by
  refine wmx_of rfl (Nat.le_of_ble_eq_true rfl) (fun p e s m below meth c ls hx hb hr hml (hown : s.vm.findClass RX8 = some m.cls) hC hAO hlocks ⟨hO, hX⟩ hl hini => ?_)
  have hS : va_S (fun q => (fun x => x = q9) q ∨ s.heap.size ≤ q) s.heap s.heap [] := va_S.rf
  have hl : lv_has ls 1 [(0, .ref (q9))] := hl
  refine lv_aload_n hx hb dX8_init_0 rfl (lv_at hl 0 rfl) ?_
  refine W.objInit hx hb hown (zm_X8_3 hC.1) (zi_Object_init hC.1) (zk_Object_init hC.1) rfl (hl.1.trans hml.symm) rfl dX8_init_1 (Nat.le_of_ble_eq_true rfl) (Nat.le_of_ble_eq_true rfl) ?_
  refine lv_aload_n hx hb dX8_init_4 rfl (lv_at hl 0 rfl) ?_
  obtain ⟨a0, ha0⟩ : ∃ a, a = s.heap.size := ⟨_, rfl⟩
  have hs_a0 : s.heap.size ≤ a0 := by rw [ha0]; exact hS.1
  have o0 : q9 < a0 := by rw [ha0]; exact hO.lt
  refine nw_Jx4a65c hx hb hown hC (zc_X8_9 hC.1) hS (Nat.le_of_ble_eq_true rfl) (Nat.le_of_ble_eq_true rfl) dX8_init_5 (fun H1 hL0 hz hq hS => ?_)
  rw [← ha0] at hL0 ⊢
  have hX := hX.kept (fun q h => hq q (Nat.lt_trans (Nat.lt_of_lt_of_le h hN9) hO.lt))
  have hO := hO.kept (hq _ hO.lt)
  refine lv_dup hx hb dX8_init_8 rfl ?_
  refine wcv_I (As := []) hx hb hml hown hC hl (c_Jx4a65c_init l E (q9 := a0) (by omega)) (zm_X8_11 hC.1) kv_Jx4a65c_init_da8c8 ⟨hL0, hX⟩ hS (fun q h => h.elim (fun e => Or.inr (e ▸ hs_a0)) (fun e => Or.inr (Nat.le_trans hS.1 e))) rfl rfl (wD_le (by decide) (by decide)) (Nat.le_of_ble_eq_true rfl) ⟨(Nat.le_of_ble_eq_true rfl), (Nat.le_of_ble_eq_true rfl)⟩ dX8_init_9 (fun H1 locs1 h9 hz hq hS => ?_)
  have hX := hX.kept (fun q h => hq q (Nat.lt_trans (Nat.lt_of_lt_of_le h hN9) hO.lt) (fun (e : q = a0) => by omega))
  have hO := hO.kept (hq _ hO.lt (show ¬ q9 = a0 by omega))
  have hL0 := h9
  refine pf_X8_0 hx hb hown hC hO hS (Or.inl rfl) (zf_X8_12 hC.1) (hini rfl) rfl rfl rfl dX8_init_12 (fun H1 locs1 hO hz hq hS => ?_)
  have hX := hX.kept (fun q h => hq q (fun e => by omega))
  have hL0 := hL0.kept (hq _ (show ¬ a0 = q9 by omega))
  refine lv_aload_n hx hb dX8_init_15 rfl (lv_at hl 0 rfl) ?_
  obtain ⟨a1, ha1⟩ : ∃ a, a = H1.size := ⟨_, rfl⟩
  have hs_a1 : s.heap.size ≤ a1 := by rw [ha1]; exact hS.1
  have o1 : a0 < a1 := by rw [ha1]; exact hL0.lt
  refine nw_Jx4a65c hx hb hown hC (zc_X8_9 hC.1) hS (Nat.le_of_ble_eq_true rfl) (Nat.le_of_ble_eq_true rfl) dX8_init_16 (fun H1 hL1 hz hq hS => ?_)
  rw [← ha1] at hL1 ⊢
  have hX := hX.kept (fun q h => hq q (Nat.lt_trans (Nat.lt_of_lt_of_le h hN9) hO.lt))
  have hO := hO.kept (hq _ hO.lt)
  have hL0 := hL0.kept (hq _ hL0.lt)
  refine lv_dup hx hb dX8_init_19 rfl ?_
  refine wcv_I (As := []) hx hb hml hown hC hl (c_Jx4a65c_init l E (q9 := a1) (by omega)) (zm_X8_11 hC.1) kv_Jx4a65c_init_da8c8 ⟨hL1, hX⟩ hS (fun q h => h.elim (fun e => Or.inr (e ▸ hs_a1)) (fun e => Or.inr (Nat.le_trans hS.1 e))) rfl rfl (wD_le (by decide) (by decide)) (Nat.le_of_ble_eq_true rfl) ⟨(Nat.le_of_ble_eq_true rfl), (Nat.le_of_ble_eq_true rfl)⟩ dX8_init_20 (fun H1 locs1 h9 hz hq hS => ?_)
  have hX := hX.kept (fun q h => hq q (Nat.lt_trans (Nat.lt_of_lt_of_le h hN9) hO.lt) (fun (e : q = a1) => by omega))
  have hO := hO.kept (hq _ hO.lt (show ¬ q9 = a1 by omega))
  have hL0 := hL0.kept (hq _ hL0.lt (show ¬ a0 = a1 by omega))
  have hL1 := h9
  refine pf_X8_1 hx hb hown hC hO hS (Or.inl rfl) (zf_X8_18 hC.1) (hini rfl) rfl rfl rfl dX8_init_23 (fun H1 locs1 hO hz hq hS => ?_)
  have hX := hX.kept (fun q h => hq q (fun e => by omega))
  have hL0 := hL0.kept (hq _ (show ¬ a0 = q9 by omega))
  have hL1 := hL1.kept (hq _ (show ¬ a1 = q9 by omega))
  refine lv_aload_n hx hb dX8_init_26 rfl (lv_at hl 0 rfl) ?_
  obtain ⟨a2, ha2⟩ : ∃ a, a = H1.size := ⟨_, rfl⟩
  have hs_a2 : s.heap.size ≤ a2 := by rw [ha2]; exact hS.1
  have o2 : a1 < a2 := by rw [ha2]; exact hL1.lt
  refine nw_Jx4a65c hx hb hown hC (zc_X8_9 hC.1) hS (Nat.le_of_ble_eq_true rfl) (Nat.le_of_ble_eq_true rfl) dX8_init_27 (fun H1 hL2 hz hq hS => ?_)
  rw [← ha2] at hL2 ⊢
  have hX := hX.kept (fun q h => hq q (Nat.lt_trans (Nat.lt_of_lt_of_le h hN9) hO.lt))
  have hO := hO.kept (hq _ hO.lt)
  have hL0 := hL0.kept (hq _ hL0.lt)
  have hL1 := hL1.kept (hq _ hL1.lt)
  refine lv_dup hx hb dX8_init_30 rfl ?_
  refine wcv_I (As := []) hx hb hml hown hC hl (c_Jx4a65c_init l E (q9 := a2) (by omega)) (zm_X8_11 hC.1) kv_Jx4a65c_init_da8c8 ⟨hL2, hX⟩ hS (fun q h => h.elim (fun e => Or.inr (e ▸ hs_a2)) (fun e => Or.inr (Nat.le_trans hS.1 e))) rfl rfl (wD_le (by decide) (by decide)) (Nat.le_of_ble_eq_true rfl) ⟨(Nat.le_of_ble_eq_true rfl), (Nat.le_of_ble_eq_true rfl)⟩ dX8_init_31 (fun H1 locs1 h9 hz hq hS => ?_)
  have hX := hX.kept (fun q h => hq q (Nat.lt_trans (Nat.lt_of_lt_of_le h hN9) hO.lt) (fun (e : q = a2) => by omega))
  have hO := hO.kept (hq _ hO.lt (show ¬ q9 = a2 by omega))
  have hL0 := hL0.kept (hq _ hL0.lt (show ¬ a0 = a2 by omega))
  have hL1 := hL1.kept (hq _ hL1.lt (show ¬ a1 = a2 by omega))
  have hL2 := h9
  refine pf_X8_2 hx hb hown hC hO hS (Or.inl rfl) (zf_X8_21 hC.1) (hini rfl) rfl rfl rfl dX8_init_34 (fun H1 locs1 hO hz hq hS => ?_)
  have hX := hX.kept (fun q h => hq q (fun e => by omega))
  have hL0 := hL0.kept (hq _ (show ¬ a0 = q9 by omega))
  have hL1 := hL1.kept (hq _ (show ¬ a1 = q9 by omega))
  have hL2 := hL2.kept (hq _ (show ¬ a2 = q9 by omega))
  refine lv_aload_n hx hb dX8_init_37 rfl (lv_at hl 0 rfl) ?_
  obtain ⟨a3, ha3⟩ : ∃ a, a = H1.size := ⟨_, rfl⟩
  have hs_a3 : s.heap.size ≤ a3 := by rw [ha3]; exact hS.1
  have o3 : a2 < a3 := by rw [ha3]; exact hL2.lt
  refine nw_Jx4a65c hx hb hown hC (zc_X8_9 hC.1) hS (Nat.le_of_ble_eq_true rfl) (Nat.le_of_ble_eq_true rfl) dX8_init_38 (fun H1 hL3 hz hq hS => ?_)
  rw [← ha3] at hL3 ⊢
  have hX := hX.kept (fun q h => hq q (Nat.lt_trans (Nat.lt_of_lt_of_le h hN9) hO.lt))
  have hO := hO.kept (hq _ hO.lt)
  have hL0 := hL0.kept (hq _ hL0.lt)
  have hL1 := hL1.kept (hq _ hL1.lt)
  have hL2 := hL2.kept (hq _ hL2.lt)
  refine lv_dup hx hb dX8_init_41 rfl ?_
  refine wcv_I (As := []) hx hb hml hown hC hl (c_Jx4a65c_init l E (q9 := a3) (by omega)) (zm_X8_11 hC.1) kv_Jx4a65c_init_da8c8 ⟨hL3, hX⟩ hS (fun q h => h.elim (fun e => Or.inr (e ▸ hs_a3)) (fun e => Or.inr (Nat.le_trans hS.1 e))) rfl rfl (wD_le (by decide) (by decide)) (Nat.le_of_ble_eq_true rfl) ⟨(Nat.le_of_ble_eq_true rfl), (Nat.le_of_ble_eq_true rfl)⟩ dX8_init_42 (fun H1 locs1 h9 hz hq hS => ?_)
  have hX := hX.kept (fun q h => hq q (Nat.lt_trans (Nat.lt_of_lt_of_le h hN9) hO.lt) (fun (e : q = a3) => by omega))
  have hO := hO.kept (hq _ hO.lt (show ¬ q9 = a3 by omega))
  have hL0 := hL0.kept (hq _ hL0.lt (show ¬ a0 = a3 by omega))
  have hL1 := hL1.kept (hq _ hL1.lt (show ¬ a1 = a3 by omega))
  have hL2 := hL2.kept (hq _ hL2.lt (show ¬ a2 = a3 by omega))
  have hL3 := h9
  refine pf_X8_3 hx hb hown hC hO hS (Or.inl rfl) (zf_X8_24 hC.1) (hini rfl) rfl rfl rfl dX8_init_45 (fun H1 locs1 hO hz hq hS => ?_)
  have hX := hX.kept (fun q h => hq q (fun e => by omega))
  have hL0 := hL0.kept (hq _ (show ¬ a0 = q9 by omega))
  have hL1 := hL1.kept (hq _ (show ¬ a1 = q9 by omega))
  have hL2 := hL2.kept (hq _ (show ¬ a2 = q9 by omega))
  have hL3 := hL3.kept (hq _ (show ¬ a3 = q9 by omega))
  refine lv_aload_n hx hb dX8_init_48 rfl (lv_at hl 0 rfl) ?_
  refine lv_iconst (v := 4) hx hb dX8_init_49 (by decide) ?_
  refine lv_iconst (v := 4) hx hb dX8_init_50 (by decide) ?_
  obtain ⟨z0, hz0⟩ : ∃ a, a = H1.size := ⟨_, rfl⟩
  have hs_z0 : s.heap.size ≤ z0 := by rw [hz0]; exact hS.1
  have o4 : a3 < z0 := by rw [hz0]; exact hL3.lt
  refine g_mna0 (N := 4) (K := 4) hx hb hown hC hAO.1 (zc_X8_27 hC.1) hS (by decide) (by decide) (by decide) (by decide) (by decide) (by decide) (Nat.le_of_ble_eq_true rfl) (Nat.le_of_ble_eq_true rfl) dX8_init_51 (fun H1 hZ hZr hz hq hS => ?_)
  rw [← hz0] at hZ hZr ⊢
  have hX := hX.kept (fun q h => hq q (Nat.lt_trans (Nat.lt_of_lt_of_le h hN9) hO.lt))
  have hO := hO.kept (hq _ hO.lt)
  have hL0 := hL0.kept (hq _ hL0.lt)
  have hL1 := hL1.kept (hq _ hL1.lt)
  have hL2 := hL2.kept (hq _ hL2.lt)
  have hL3 := hL3.kept (hq _ hL3.lt)
  have hl_z0 := (hZr 3 (by decide)).lt
  refine pf_X8_4 hx hb hown hC hO hS (Or.inl rfl) (zf_X8_29 hC.1) (hini rfl) rfl rfl rfl dX8_init_55 (fun H1 locs1 hO hz hq hS => ?_)
  have hX := hX.kept (fun q h => hq q (fun e => by omega))
  have hL0 := hL0.kept (hq _ (show ¬ a0 = q9 by omega))
  have hL1 := hL1.kept (hq _ (show ¬ a1 = q9 by omega))
  have hL2 := hL2.kept (hq _ (show ¬ a2 = q9 by omega))
  have hL3 := hL3.kept (hq _ (show ¬ a3 = q9 by omega))
  have hZ := hZ.kept (hq _ (show ¬ z0 = q9 by omega))
  have hZr := fun i hi => (hZr i hi).kept (hq _ (show ¬ z0 + 1 + i = q9 by omega))
  refine lv_aload_n hx hb dX8_init_58 rfl (lv_at hl 0 rfl) ?_
  refine lv_iconst (v := 4) hx hb dX8_init_59 (by decide) ?_
  obtain ⟨c5, hc5⟩ : ∃ a, a = H1.size := ⟨_, rfl⟩
  have o5 : z0 + 1 + 3 < c5 := by rw [hc5]; exact (hZr 3 (by decide)).lt
  refine g_newi (N := 4) hx hb hC hS (by decide) (Nat.le_of_ble_eq_true rfl) (Nat.le_of_ble_eq_true rfl) dX8_init_60 (fun H1 hC5 hz hq hS => ?_)
  rw [← hc5] at hC5 ⊢
  have hX := hX.kept (fun q h => hq q (Nat.lt_trans (Nat.lt_of_lt_of_le h hN9) hO.lt))
  have hO := hO.kept (hq _ hO.lt)
  have hL0 := hL0.kept (hq _ hL0.lt)
  have hL1 := hL1.kept (hq _ hL1.lt)
  have hL2 := hL2.kept (hq _ hL2.lt)
  have hL3 := hL3.kept (hq _ hL3.lt)
  have hZ := hZ.kept (hq _ hZ.lt)
  have hZr := fun i hi => (hZr i hi).kept (hq _ (hZr i hi).lt)
  refine pf_X8_5 hx hb hown hC hO hS (Or.inl rfl) (zf_X8_32 hC.1) (hini rfl) rfl rfl rfl dX8_init_62 (fun H1 locs1 hO hz hq hS => ?_)
  have hX := hX.kept (fun q h => hq q (fun e => by omega))
  have hL0 := hL0.kept (hq _ (show ¬ a0 = q9 by omega))
  have hL1 := hL1.kept (hq _ (show ¬ a1 = q9 by omega))
  have hL2 := hL2.kept (hq _ (show ¬ a2 = q9 by omega))
  have hL3 := hL3.kept (hq _ (show ¬ a3 = q9 by omega))
  have hZ := hZ.kept (hq _ (show ¬ z0 = q9 by omega))
  have hC5 := hC5.kept (hq _ (show ¬ c5 = q9 by omega))
  have hZr := fun i hi => (hZr i hi).kept (hq _ (show ¬ z0 + 1 + i = q9 by omega))
  refine lv_aload_n hx hb dX8_init_65 rfl (lv_at hl 0 rfl) ?_
  refine lv_iconst (v := 3) hx hb dX8_init_66 (by decide) ?_
  refine lv_iconst (v := 4) hx hb dX8_init_67 (by decide) ?_
  obtain ⟨w0, hw0⟩ : ∃ a, a = H1.size := ⟨_, rfl⟩
  have hs_w0 : s.heap.size ≤ w0 := by rw [hw0]; exact hS.1
  have o6 : c5 < w0 := by rw [hw0]; exact hC5.lt
  refine g_mna0 (N := 3) (K := 4) hx hb hown hC hAO.1 (zc_X8_27 hC.1) hS (by decide) (by decide) (by decide) (by decide) (by decide) (by decide) (Nat.le_of_ble_eq_true rfl) (Nat.le_of_ble_eq_true rfl) dX8_init_68 (fun H1 hW0 hWr hz hq hS => ?_)
  rw [← hw0] at hW0 hWr ⊢
  have hX := hX.kept (fun q h => hq q (Nat.lt_trans (Nat.lt_of_lt_of_le h hN9) hO.lt))
  have hO := hO.kept (hq _ hO.lt)
  have hL0 := hL0.kept (hq _ hL0.lt)
  have hL1 := hL1.kept (hq _ hL1.lt)
  have hL2 := hL2.kept (hq _ hL2.lt)
  have hL3 := hL3.kept (hq _ hL3.lt)
  have hZ := hZ.kept (hq _ hZ.lt)
  have hC5 := hC5.kept (hq _ hC5.lt)
  have hZr := fun i hi => (hZr i hi).kept (hq _ (hZr i hi).lt)
  have hl_w0 := (hWr 2 (by decide)).lt
  refine pf_X8_6 hx hb hown hC hO hS (Or.inl rfl) (zf_X8_36 hC.1) (hini rfl) rfl rfl rfl dX8_init_72 (fun H1 locs1 hO hz hq hS => ?_)
  have hX := hX.kept (fun q h => hq q (fun e => by omega))
  have hL0 := hL0.kept (hq _ (show ¬ a0 = q9 by omega))
  have hL1 := hL1.kept (hq _ (show ¬ a1 = q9 by omega))
  have hL2 := hL2.kept (hq _ (show ¬ a2 = q9 by omega))
  have hL3 := hL3.kept (hq _ (show ¬ a3 = q9 by omega))
  have hZ := hZ.kept (hq _ (show ¬ z0 = q9 by omega))
  have hC5 := hC5.kept (hq _ (show ¬ c5 = q9 by omega))
  have hW0 := hW0.kept (hq _ (show ¬ w0 = q9 by omega))
  have hZr := fun i hi => (hZr i hi).kept (hq _ (show ¬ z0 + 1 + i = q9 by omega))
  have hWr := fun i hi => (hWr i hi).kept (hq _ (show ¬ w0 + 1 + i = q9 by omega))
  have hwl := (hWr 2 (by decide)).lt
  subst ha0
  refine wr_v hx hb hr hlocks hS ?_ ?_ ?_ dX8_init_75
  · exact ⟨⟨s.heap.size, a1, a2, a3, z0, c5, w0, Nat.le_refl _, ⟨o0, o1, o2, o3, o4, o5, o6⟩, hwl, hO, ⟨hL0, hL1, hL2, hL3⟩, ⟨hZ, hZr⟩, hC5, ⟨hW0, hWr⟩, hX⟩, rfl⟩
  · exact (Nat.le_of_ble_eq_true rfl)
  · exact (Nat.le_of_ble_eq_true rfl)
