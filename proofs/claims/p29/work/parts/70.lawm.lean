/-! the law's own small methods, and what holds along the law -/
theorem and_pos (v : Int32) : 0 ≤ (v &&& 2147483647).toInt := by
  have h : (v &&& 2147483647).toBitVec.toNat ≤ 2147483647 := by
    show (v.toBitVec &&& (2147483647 : Int32).toBitVec).toNat ≤ _
    rw [BitVec.toNat_and]
    exact Nat.le_trans Nat.and_le_right (by decide)
  show 0 ≤ (v &&& 2147483647).toBitVec.toInt
  rw [BitVec.toInt_eq_toNat_of_lt (by omega)]
  omega
def belN (v : Int32) (n : Nat) : Nat := ((v &&& 2147483647) - (v &&& 2147483647) / nI n * nI n).toInt.toNat
theorem bel_all (v : Int32) {n : Nat} (h0 : 0 < n) (hn : n < 2 ^ 20) : (v &&& 2147483647) - (v &&& 2147483647) / nI n * nI n = nI (belN v n) ∧ belN v n < n := by
  have hm := and_pos v
  have hy : (nI n).toInt = (n : Int) := nI_toInt (by omega)
  unfold belN
  generalize v &&& 2147483647 = m at hm ⊢
  obtain ⟨d1, d2, d3⟩ := div_bd (x := m) (y := nI n) hm (by omega)
  have hb := i_lt (x := m)
  have hle : m.toInt / n * n ≤ m.toInt := Int.ediv_mul_le _ (by omega)
  have hge : 0 ≤ m.toInt / n * n := Int.mul_nonneg (Int.ediv_nonneg hm (by omega)) (by omega)
  have e1 : (m / nI n * nI n).toInt = m.toInt / n * n := by
    rw [mul_bd (by rw [d1, hy]; omega) (by rw [d1, hy]; omega), d1, hy]
  have e2 : (m - m / nI n * nI n).toInt = m.toInt - m.toInt / n * n := by
    rw [sub_bd (by rw [e1]; omega) (by rw [e1]; omega), e1]
  have e3 : m.toInt - m.toInt / n * n = m.toInt % n := by
    have := Int.emod_add_mul_ediv m.toInt n
    rw [Int.mul_comm] at this
    omega
  have l1 : 0 ≤ m.toInt % n := Int.emod_nonneg _ (by omega)
  have l2 : m.toInt % n < n := Int.emod_lt_of_pos _ (by omega)
  have hk : (m - m / nI n * nI n).toInt.toNat < n := by omega
  refine ⟨Int32.toInt_inj.mp ?_, ?_⟩
  · show (m - m / nI n * nI n).toInt = (nI ((m - m / nI n * nI n).toInt.toNat)).toInt
    rw [nI_toInt (n := (m - m / nI n * nI n).toInt.toNat) (by omega)]
    omega
  · exact hk
theorem belN_lt {v : Int32} {n : Nat} (h0 : 0 < n) (hn : n < 2 ^ 20) : belN v n < n := (bel_all v h0 hn).2
theorem zC_L_7 {U : State} {a : Array Value} (h : TB U) : (Cond.constant RL 7 (2147483647)).before a U = true := tb_of h 748 (by decide +kernel) rfl
theorem zC_L_8 {U : State} {a : Array Value} (h : TB U) : (Cond.constant RL 8 (790386105)).before a U = true := tb_of h 752 (by decide +kernel) rfl
theorem zC_L_30 {U : State} {a : Array Value} (h : TB U) : (Cond.constant RL 30 (40000)).before a U = true := tb_of h 762 (by decide +kernel) rfl
set_option maxRecDepth 100000 in
theorem c_L_below (l : Launch) (E : EE) (v : Int32) {n : Nat} (h0 : 0 < n) (hn : n < 2 ^ 20) : RM l E yL_below cL_below 2 .int (rD 0) [.int v, .int (nI n)] (fun _ => True) (.int (nI (belN v n))) := by
  refine rm_of rfl (Nat.le_of_ble_eq_true rfl) (fun p e s m below meth c ls hx hb hr hml (hown : s.vm.findClass RL = some m.cls) hC hlocks hR hl => ?_)
  have hl : lv_has ls 2 [(0, .int v), (1, .int (nI n))] := hl
  refine lv_iload_n hx hb dL_below_0 rfl (lv_at hl 0 rfl) ?_
  refine lv_ldc hx hb hown (zC_L_7 hC.1) dL_below_1 ?_
  refine lv_iand hx hb dL_below_3 ?_
  refine lv_iload_n hx hb dL_below_4 rfl (lv_at hl 1 rfl) ?_
  refine lv_irem hx hb dL_below_5 (nI_ne0 h0 (by omega)) ?_
  exact rr_i hx hb hr hlocks (by rw [(bel_all v h0 hn).1]) dL_below_6
/-- a reader of what is no cell of ours: the script -/
def RMX (l : Launch) (E : EE) (y : MethodName) (b : ByteArray) (n : Nat) (ret : FieldType) (rm : Room) (As : List Value) (Pre : State → Prop) (val : Value) : Prop :=
  Met l y [Cond.code y b n (some ret)] rm (va_Pc As (fun U => CX E U ∧ Pre U)) (RQ val) 0 0 (fun _ => False)
def celV (L : Nat) (xs : Nat → Int32) (k : Nat) : Int32 := if k < L then xs k else 790386105 * (nI k + 3)
set_option maxRecDepth 100000 in
theorem c_L_cell (l : Launch) (E : EE) {b L k : Nat} {xs : Nat → Int32} (hk : k < 2 ^ 20) (hL : L ≤ 260) : RMX l E yL_cell cL_cell 2 .int (rD 0) [.ref b, .int (nI k)] (fun U => va_X b L xs U U.heap ∧ b < U.heap.size) (.int (celV L xs k)) := by
  refine Met.ofW (cc := cL_cell) (maxL := 2) (ret := some .int) rfl rfl ?_
  intro p e s m args below meth c s₁ B hml hv
  obtain ⟨rfl, hC, hX, hbl⟩ := hv
  rw [lg_entry_eq]
  have hx := B.exec
  have hb : c.code = cL_cell := B.bytes
  have hr : meth.sig.returnType = some .int := B.returns
  have hown : s.vm.findClass RL = some m.cls := findClass_of_methodNamed B.named
  have hlocks := B.notSynchronized
  have hl := lv_entry ([.ref b, .int (nI k)]) (n := 2) (Nat.le_of_ble_eq_true rfl)
  generalize (lg_sl ([.ref b, .int (nI k)]) ++ List.replicate (2 - (lg_sl ([.ref b, .int (nI k)])).length) Slot.unset).toArray = ls at hl ⊢
  have hl : lv_has ls 2 [(0, .ref b), (1, .int (nI k))] := hl
  have hS : va_S (fun q => s.heap.size ≤ q) s.heap s.heap [] := va_S.rf
  refine lv_iload_n hx hb dL_cell_0 rfl (lv_at hl 1 rfl) ?_
  refine lv_aload_n hx hb dL_cell_1 rfl (lv_at hl 0 rfl) ?_
  refine va_slen hx hb hX hbl (Nat.not_le.mpr hbl) hS dL_cell_2 ?_
  refine lv_icmp_ge (tgt := 12) hx hb dL_cell_3 (by decide) (fun c_3 => ?_) (fun c_3 => ?_)
  · refine lv_ldc hx hb hown (zC_L_8 hC.1) dL_cell_12 ?_
    refine lv_iload_n hx hb dL_cell_14 rfl (lv_at hl 1 rfl) ?_
    refine lv_iconst (v := 3) hx hb dL_cell_15 (by decide) ?_
    refine lv_iadd hx hb dL_cell_16 ?_
    refine lv_imul hx hb dL_cell_17 ?_
    exact rr_i hx hb hr hlocks (by
      have c_3 : nI L ≤ nI k := c_3
      have := (nI_leI (a := L) (b := k) (by omega) (by omega)).mp c_3
      unfold celV
      rw [if_neg (by omega)]) dL_cell_18
  · have h3 : k < L := by
      have c_3 : ¬ nI L ≤ nI k := c_3
      exact Nat.lt_of_not_le (fun q => c_3 ((nI_leI (a := L) (b := k) (by omega) (by omega)).mpr q))
    refine lv_aload_n hx hb dL_cell_6 rfl (lv_at hl 0 rfl) ?_
    refine lv_iload_n hx hb dL_cell_7 rfl (lv_at hl 1 rfl) ?_
    refine va_sld hx hb hX hbl (Nat.not_le.mpr hbl) hS (vp_in_nI h3 (by omega)) dL_cell_8 ?_
    rw [nI_clamp (by omega : k < 2 ^ 31)]
    refine lv_goto (tgt := 18) hx hb dL_cell_9 (by decide) ?_
    exact rr_i hx hb hr hlocks (by unfold celV; rw [if_pos h3]) dL_cell_18
/-! along the law: the desk, the law's own rows of ints -/
abbrev AR := List (Nat × Nat × (Nat → Int32))
def LI (E : EE) (S : St) (g : Gh) (x1 : Nat) (ar : AR) (H : Heap) : Prop := RA E S g H ∧ g.ad 1 0 = x1 ∧ (∀ q, ow g q → q < H.size) ∧ ∀ t ∈ ar, va_at E.1 vwCl (t.1, .inl (eI E, t.2.1, .inl t.2.2)) H ∧ ¬ ow g t.1 ∧ eN E ≤ t.1
def LC (p : Program) (s : State) (m : MethodId) (c : Code) (E : EE) (b L : Nat) (xs : Nat → Int32) : Prop := p.tables.exec = Jvm.exec ∧ c.code = cL_law ∧ c.maxLocals = 24 ∧ s.vm.findClass RL = some m.cls ∧ CY E s ∧ XZ (fun q => s.heap.size ≤ q) s s.heap ∧ va_X b L xs s s.heap ∧ b < s.heap.size ∧ eN E = s.heap.size ∧ L ≤ 260
def CAp (E : EE) (S' : St) (g : Gh) (a : Int32) : Nat → Option Value → Heap → Prop := fun sz v H => (∃ g1, RA E S' g1 H ∧ gX g g1 sz H.size) ∧ v = some (.int a)
theorem wm_weak {l : Launch} {E : EE} {y : MethodName} {b : ByteArray} {n : Nat} {ret : Option FieldType} {rm : Room} {As : List Value} {Pre : Heap → Prop} {own : Nat → Prop} {P Q : Nat → Option Value → Heap → Prop} (h : WM l E y b n ret rm As Pre own P) (hPQ : ∀ sz v H, P sz v H → Q sz v H) : WM l E y b n ret rm As Pre own Q := by
  intro sz p e ha hc hk s m args below hf hap hP hK
  obtain ⟨k, o, h1, h2, h3, ⟨⟨⟨v, hv, hp⟩, hF0⟩, L, hF, hL⟩⟩ := h sz p e ha hc hk s m _ below hf hap hP hK
  exact ⟨k, o, h1, h2, h3, ⟨⟨⟨v, hv, hPQ _ _ _ hp⟩, hF0⟩, L, hF, hL⟩⟩
theorem wm_A {l : Launch} {E : EE} {y : MethodName} {b : ByteArray} {n : Nat} {ret : Option FieldType} {rm : Room} {As : List Value} {Pre : Heap → Prop} {own : Nat → Prop} {S' : St} {g : Gh} {a : Int32} (h : WM l E y b n ret rm As Pre own (fun _ v H => RA E S' g H ∧ v = some (.int a))) : WM l E y b n ret rm As Pre own (CAp E S' g a) :=
  wm_weak h (fun sz v H hp => ⟨⟨g, hp.1, gX.refl g _ _⟩, hp.2⟩)
theorem li_cls {E : EE} {S S' : St} {g g1 : Gh} {x1 : Nat} {ar : AR} {H H1 : Heap} (h : LI E S g x1 ar H) (hR : RA E S' g1 H1) (hgx : gX g g1 H.size H1.size) (hz : H.size ≤ H1.size) (hq : ∀ q : Nat, q < H.size → ¬ ow g q → H1[q]? = H[q]?) : LI E S' g1 x1 ar H1 := by
  obtain ⟨hA, h1, hla, har⟩ := h
  refine ⟨hR, hgx.2.trans h1, fun q h2 => ?_, fun t ht => ?_⟩
  · rcases hgx.1 q h2 with h3 | h3
    · exact Nat.lt_of_lt_of_le (hla q h3) hz
    · exact h3.2
  · obtain ⟨a1, a2, a3⟩ := har t ht
    refine ⟨a1.kept (hq _ a1.lt a2), fun h2 => ?_, a3⟩
    rcases hgx.1 _ h2 with h3 | h3
    · exact a2 h3
    · exact absurd a1.lt (Nat.not_lt.mpr h3.1)
/-- the law writes into a row of its own -/
theorem li_put {E : EE} {S : St} {g : Gh} {x1 a n : Nat} {f f2 : Nat → Int32} {ar : AR} {H H1 : Heap} (h : LI E S g x1 ((a, n, f) :: ar) H) (hat : va_at E.1 vwCl (a, .inl (eI E, n, .inl f2)) H1) (hz : H1.size = H.size) (hq : ∀ q : Nat, q ≠ a → H1[q]? = H[q]?) (hne : ∀ t ∈ ar, t.1 ≠ a) : LI E S g x1 ((a, n, f2) :: ar) H1 := by
  obtain ⟨hA, h1, hla, har⟩ := h
  obtain ⟨a1, a2, a3⟩ := har _ List.mem_cons_self
  refine ⟨hA.kept1 (a := a) (fun k i hv e => a2 (by rw [← e]; exact hA.ow hv)) a3 (fun q _ h2 => hq q h2), h1, fun q h2 => by rw [hz]; exact hla q h2, fun t ht => ?_⟩
  rcases List.mem_cons.mp ht with rfl | ht
  · exact ⟨hat, a2, a3⟩
  · obtain ⟨b1, b2, b3⟩ := har t (List.mem_cons_of_mem _ ht)
    exact ⟨b1.kept (hq _ (hne t ht)), b2, b3⟩
section LAWs
variable {p : Program} {l : Launch} {e : Env} {s : State} {m : MethodId} {args : Array Value} {below : List Frame} {meth : Method} {c : Code} {H : Heap} {locs : List Loc} {cells slots : Nat} {Q : State → Prop}
variable {pc : Nat} {ls : Array Slot} {rest : List Value} {E : EE} {b L : Nat} {xs : Nat → Int32} {S S' : St} {g : Gh} {x1 : Nat} {ar : AR}
abbrev LA (s : State) : Nat → Prop := fun q => s.heap.size ≤ q
theorem wl_rd (hC : LC p s m c E b L xs) {y : MethodName} {b1 : ByteArray} {n k index : Nat} {ret : FieldType} {rm : Room} {As st : List Value} {lv : List (Nat × Value)} {val : Value} (hLI : LI E S g x1 ar H) (hl : lv_has ls 24 lv) (hM : RM l E y b1 n ret rm (.ref (g.ad 1 0) :: As) (RA E S g) val) (zm : (Cond.methodLink RL index y).before args s = true) (kv : KV RX6 y b1 n (some ret) k) (hn : As.length = k) (hst : st = As.reverse ++ .ref x1 :: rest) (hR : rm.frames + 1 ≤ 12 ∧ 8 + (n + 11) + rm.locals ≤ 438) (hrm : rm.cells = 0 ∧ rm.slots = 0) (hW : (rest.map fun v => v.category).sum ≤ 8) (hcs : cells ≤ 682005 ∧ slots ≤ 7055682) (hdg : decode cL_law pc = .ok (.invokevirtual index, 3))
    (kk : W p l e room_1 s m args below meth c H locs cells slots Q (F0 m (pc + 3) ls (val :: rest))) : W p l e room_1 s m args below meth c H locs cells slots Q (F0 m pc ls st) := by
  obtain ⟨hx, hb, hml, hown, hY, hX0, hX, hbl, hN, hL⟩ := hC
  obtain ⟨hA, h1, hla, har⟩ := hLI
  subst h1
  exact rc_V hx hb hml hown hY.1 hl hM (rec_of hY.1 (RA.x hA) rfl) zm kv hA hn hst hR hrm hW hcs hdg kk
theorem wl_wr (hC : LC p s m c E b L xs) {y : MethodName} {b1 : ByteArray} {n k index : Nat} {ret : FieldType} {rm : Room} {As st : List Value} {lv : List (Nat × Value)} {a : Int32} (hLI : LI E S g x1 ar H) (hS : va_S (LA s) s.heap H locs) (hl : lv_has ls 24 lv) (hM : WM l E y b1 n (some ret) rm (.ref (g.ad 1 0) :: As) (RA E S g) (ow g) (CAp E S' g a)) (zm : (Cond.methodLink RL index y).before args s = true) (kv : KV RX6 y b1 n (some ret) k) (hn : As.length = k) (hst : st = As.reverse ++ .ref x1 :: rest) (hR : rm.frames + 1 ≤ 12 ∧ 8 + (n + 11) + rm.locals ≤ 438) (hrm : rm.cells ≤ 2 ∧ rm.slots ≤ 60) (hW : (rest.map fun v => v.category).sum ≤ 8) (hcs : cells + 2 ≤ 682005 ∧ slots + 60 ≤ 7055682) (hdg : decode cL_law pc = .ok (.invokevirtual index, 3))
    (kk : ∀ (g1 : Gh) (H1 : Heap) (locs1 : List Loc), LI E S' g1 x1 ar H1 → va_S (LA s) s.heap H1 locs1 → W p l e room_1 s m args below meth c H1 locs1 (cells + 2) (slots + 60) Q (F0 m (pc + 3) ls (.int a :: rest))) : W p l e room_1 s m args below meth c H locs cells slots Q (F0 m pc ls st) := by
  obtain ⟨hx, hb, hml, hown, hY, hX0, hX, hbl, hN, hL⟩ := hC
  have hLI0 := hLI
  obtain ⟨hA, h1, hla, har⟩ := hLI
  subst h1
  refine wc_V (As := As) hx hb hml hown hY.1 hl hM (rec_of hY.1 (RA.x hA) rfl) zm kv hA hS (fun q h => ?_) hn hst hR hW ⟨by show cells + rm.cells ≤ 682005; omega, by show slots + rm.slots ≤ 7055682; omega⟩ hdg (fun v H1 locs1 hP hz hq hS => ?_)
  · show s.heap.size ≤ q
    rcases h with h | h
    · rw [← hN]; exact hA.2.2.1.1 q h
    · exact Nat.le_trans hS.1 h
  · obtain ⟨⟨g1, hR1, hgx⟩, rfl⟩ := hP
    refine W.widen (k := cells + 2) (n := slots + 60) (by omega) (by omega) ?_
    exact kk g1 H1 locs1 (li_cls hLI0 hR1 hgx hz hq) hS
theorem wl_below (hC : LC p s m c E b L xs) {v : Int32} {n : Nat} {lv : List (Nat × Value)} (hl : lv_has ls 24 lv) (h0 : 0 < n) (hn : n < 2 ^ 20) (hW : (rest.map fun v => v.category).sum ≤ 8) (hcs : cells ≤ 682005 ∧ slots ≤ 7055682) (hdg : decode cL_law pc = .ok (.invokestatic 18, 3))
    (kk : W p l e room_1 s m args below meth c H locs cells slots Q (F0 m (pc + 3) ls (.int (nI (belN v n)) :: rest))) : W p l e room_1 s m args below meth c H locs cells slots Q (F0 m pc ls (.int (nI n) :: .int v :: rest)) := by
  obtain ⟨hx, hb, hml, hown, hY, hX0, hX, hbl, hN, hL⟩ := hC
  exact rc_S (As := [.int v, .int (nI n)]) hx hb hml hown hY.1 hl (c_L_below l E v h0 hn) (zm_L_18 hY.1.1) kv_L_below trivial rfl rfl ⟨Nat.le_of_ble_eq_true rfl, Nat.le_of_ble_eq_true rfl⟩ ⟨rfl, rfl⟩ hW hcs hdg kk
theorem wl_cell (hC : LC p s m c E b L xs) {k : Nat} {lv : List (Nat × Value)} (hS : va_S (LA s) s.heap H locs) (hl : lv_has ls 24 lv) (hk : k < 2 ^ 20) (hW : (rest.map fun v => v.category).sum ≤ 8) (hcs : cells ≤ 682005 ∧ slots ≤ 7055682) (hdg : decode cL_law pc = .ok (.invokestatic 12, 3))
    (kk : ∀ v : Int32, W p l e room_1 s m args below meth c H locs cells slots Q (F0 m (pc + 3) ls (.int v :: rest))) : W p l e room_1 s m args below meth c H locs cells slots Q (F0 m pc ls (.int (nI k) :: .ref b :: rest)) := by
  obtain ⟨hx, hb, hml, hown, hY, hX0, hX, hbl, hN, hL⟩ := hC
  have k1 := kv_L_cell.1 s args hY.1.1
  have hX1 : va_X b L xs s H := hX.kept (hS.2.1 b hbl (Nat.not_le.mpr hbl))
  exact rc_go (va_runS (g := F0 m pc ls ([.ref b, .int (nI k)].reverse ++ rest)) (As := [.ref b, .int (nI k)]) (rest := rest) (Ts := []) (n := 2) ⟨hx, hb, hml, hown, fun w h => by cases h⟩ (c_L_cell l E (b := b) (xs := xs) hk hL) ⟨kb_of hY.1.1 (fun U a h => (kv_L_cell.1 U a h).1) k1.2.1 kv_L_cell.2.1 kv_L_cell.2.2 (zm_L_12 hY.1.1) rfl rfl ⟨Nat.le_of_ble_eq_true rfl, Nat.le_of_ble_eq_true rfl⟩, k1.2.2⟩ ⟨fun a U g mk q => ⟨q.1, q.2.1.calling, q.2.2.1.moved (Vm.Alike.refl U.vm), q.2.2.2⟩, fun U hU hW => ⟨rfl, hY.1.moved hW, by rw [hU]; exact hX1.moved hW.alike, by rw [hU]; exact Nat.lt_of_lt_of_le hbl hS.1⟩⟩ rfl rfl hl.1 rfl (lv_room hW) hdg hcs) (kk _)
theorem wl_ald (hC : LC p s m c E b L xs) {a n j : Nat} {f : Nat → Int32} (hLI : LI E S g x1 ar H) (hm : (a, n, f) ∈ ar) (hj : j < n ∧ n < 2 ^ 31) (hdg : decode cL_law pc = .ok (.iaload, 1))
    (kk : W p l e room_1 s m args below meth c H locs cells slots Q (F0 m (pc + 1) ls (.int (f j) :: rest))) : W p l e room_1 s m args below meth c H locs cells slots Q (F0 m pc ls (.int (nI j) :: .ref a :: rest)) := by
  obtain ⟨hx, hb, hml, hown, hY, hX0, hX, hbl, hN, hL⟩ := hC
  exact g_iald hx hb hY.1 (hLI.2.2.2 _ hm).1 ⟨rfl, hj.1, hj.2⟩ hdg kk
theorem wl_ast (hC : LC p s m c E b L xs) {a n j : Nat} {v : Int32} {f : Nat → Int32} (hLI : LI E S g x1 ((a, n, f) :: ar) H) (hS : va_S (LA s) s.heap H locs) (hne : ∀ t ∈ ar, t.1 ≠ a) (hj : j < n ∧ n < 2 ^ 31) (hdg : decode cL_law pc = .ok (.iastore, 1))
    (kk : ∀ (H1 : Heap) (locs1 : List Loc), LI E S g x1 ((a, n, va_up f j v) :: ar) H1 → va_S (LA s) s.heap H1 locs1 → W p l e room_1 s m args below meth c H1 locs1 cells slots Q (F0 m (pc + 1) ls rest)) : W p l e room_1 s m args below meth c H locs cells slots Q (F0 m pc ls (.int v :: .int (nI j) :: .ref a :: rest)) := by
  obtain ⟨hx, hb, hml, hown, hY, hX0, hX, hbl, hN, hL⟩ := hC
  have ha := hLI.2.2.2 _ List.mem_cons_self
  refine g_iast hx hb hY.1 ha.1 hS (by show s.heap.size ≤ a; rw [← hN]; exact ha.2.2) ⟨rfl, hj.1, hj.2⟩ hdg (fun H1 locs1 hat hz hq hS => ?_)
  exact kk H1 locs1 (li_put hLI hat hz hq hne) hS
theorem wl_new (hC : LC p s m c E b L xs) {N : Nat} (hLI : LI E S g x1 ar H) (hS : va_S (LA s) s.heap H locs) (hN9 : N < 2 ^ 20) (hcs : cells + 1 ≤ 682005 ∧ slots + N ≤ 7055682) (hdg : decode cL_law pc = .ok (.newarray .int, 2))
    (kk : ∀ (a : Nat) (H1 : Heap), (∀ t ∈ ar, t.1 ≠ a) → LI E S g x1 ((a, N, fun _ => 0) :: ar) H1 → va_S (LA s) s.heap H1 locs → W p l e room_1 s m args below meth c H1 locs (cells + 1) (slots + N) Q (F0 m (pc + 2) ls (.ref a :: rest))) : W p l e room_1 s m args below meth c H locs cells slots Q (F0 m pc ls (.int (nI N) :: rest)) := by
  obtain ⟨hx, hb, hml, hown, hY, hX0, hX, hbl, hN, hL⟩ := hC
  obtain ⟨hA, h1, hla, har⟩ := hLI
  refine g_newi hx hb hY.1 hS hN9 hcs.1 hcs.2 hdg (fun H1 hat hz hq hS1 => ?_)
  refine kk H.size H1 (fun t ht e => absurd (har t ht).1.lt (by rw [e]; exact Nat.lt_irrefl _)) ⟨hA.kept hq, h1, fun q h2 => by have := hla q h2; omega, fun t ht => ?_⟩ hS1
  rcases List.mem_cons.mp ht with rfl | ht
  · exact ⟨hat, fun h2 => Nat.lt_irrefl _ (hla _ h2), by rw [hN]; exact hS.1⟩
  · obtain ⟨b1, b2, b3⟩ := har t ht
    exact ⟨b1.kept (hq _ b1.lt), b2, b3⟩
theorem g_lcmp0 (hx : p.tables.exec = Jvm.exec) (hb : c.code = cL_law) {R : Room} {x : Int64} (hdg : decode cL_law pc = .ok (.lcmp, 1)) (k : W p l e R s m args below meth c H locs cells slots Q (F0 m (pc + 1) ls (.int 0 :: rest))) : W p l e R s m args below meth c H locs cells slots Q (F0 m pc ls (.long x :: .long x :: rest)) := by
  intro T hT X
  obtain ⟨t, a, b⟩ := k T hT X
  refine ⟨t, ?_, b⟩
  have e1 : (if x > x then (1 : Int32) else if x == x then 0 else -1) = 0 := by
    rw [if_neg (fun h => Int64.lt_irrefl h), if_pos (beq_self_eq_true x)]
  jvm_step X.here [X.here.top, hx, hb, hdg, e1]
  exact a
end LAWs
