/-! the law: what holds along it -/
def LC (p : Program) (s : State) (m : MethodId) (c : Code) (E : EE) (b L : Nat) (xs : Nat → Int32) : Prop := p.tables.exec = Jvm.exec ∧ c.code = cL_law ∧ c.maxLocals = 9 ∧ s.vm.findClass RL = some m.cls ∧ CZ E s ∧ XZ (fun q => s.heap.size ≤ q) s s.heap ∧ va_X b L xs s s.heap ∧ b < s.heap.size ∧ eN E = s.heap.size ∧ L ≤ 3072
def LI (E : EE) (S S2 : St) (th : Int32) (gA gB : Gh) (o9 : Nat) (f : Nat → Int64) (H : Heap) : Prop :=
  RA E S gA H ∧ RB E S2 th gB H ∧ outA E o9 f H ∧ (∀ q, ow gA q → ¬ ow gB q) ∧ (¬ ow gA o9 ∧ ¬ ow gB o9 ∧ eN E ≤ o9) ∧ (∀ q, ow gA q → q < H.size) ∧ (∀ q, ow gB q → q < H.size)
abbrev LV (b xa xb o9 : Nat) (i : Nat) : List (Nat × Value) := [(0, .ref b), (1, .ref xa), (2, .ref xb), (3, .ref o9), (4, .int (nI i))]
theorem li_keptB {E : EE} {S : St} {th : Int32} {g : Gh} {H H1 : Heap} (h : RB E S th g H) (hq : ∀ q : Nat, q < H.size → (ow g q ∨ q < eN E) → H1[q]? = H[q]?) : RB E S th g H1 :=
  ⟨fun k i hv => ⟨(h.1 k i hv).1, (h.1 k i hv).2.kept (hq _ (h.1 k i hv).2.lt (Or.inl (h.ow hv)))⟩, h.2.1, h.2.2.1, h.2.2.2.kept (fun q hq1 => hq q (Nat.lt_of_lt_of_le hq1 h.eN_le) (Or.inr hq1))⟩
theorem li_keptA {E : EE} {S : St} {g : Gh} {H H1 : Heap} (h : RA E S g H) (hq : ∀ q : Nat, q < H.size → (ow g q ∨ q < eN E) → H1[q]? = H[q]?) : RA E S g H1 :=
  ⟨fun k i hv => ⟨(h.1 k i hv).1, (h.1 k i hv).2.kept (hq _ (h.1 k i hv).2.lt (Or.inl (h.ow hv)))⟩, h.2.1, h.2.2.1, h.2.2.2.kept (fun q hq1 => hq q (Nat.lt_of_lt_of_le hq1 h.eN_le) (Or.inr hq1))⟩
theorem li_A {E : EE} {S S' S2 : St} {th : Int32} {gA gB : Gh} {o9 : Nat} {f : Nat → Int64} {H H1 : Heap} {code : Int32} {ans : Int64} {v : Option Value} (h : LI E S S2 th gA gB o9 f H) (hp : HQ E gA S' o9 code ans H.size v H1) (hz : H.size ≤ H1.size) (hq : ∀ q : Nat, q < H.size → ¬ (ow gA q ∨ q = o9) → H1[q]? = H[q]?) : ∃ gA1 f1, LI E S' S2 th gA1 gB o9 f1 H1 ∧ gA1.ad 1 0 = gA.ad 1 0 ∧ v = some (.int code) ∧ (code = 0 → f1 0 = ans) := by
  obtain ⟨hA, hB, hO, hd, ⟨ho1, ho2, ho3⟩, hla, hlb⟩ := h
  obtain ⟨gA1, f1, hA1, hgx, hO1, hv, hc⟩ := hp
  have hol := hO.lt
  have hZA := hA.2.2.1.1
  refine ⟨gA1, f1, ⟨hA1, li_keptB hB (fun q h1 h2 => hq q h1 (fun h3 => ?_)), hO1, fun q h1 h2 => ?_, ⟨fun h1 => ?_, ho2, ho3⟩, fun q h1 => ?_, fun q h1 => Nat.lt_of_lt_of_le (hlb q h1) hz⟩, hgx.2, hv, hc⟩
  · rcases h2 with h2 | h2
    · rcases h3 with h3 | h3
      · exact hd q h3 h2
      · exact ho2 (h3 ▸ h2)
    · rcases h3 with h3 | h3
      · exact absurd (hZA q h3) (Nat.not_le.mpr h2)
      · rw [h3] at h2; exact absurd ho3 (Nat.not_le.mpr h2)
  · rcases hgx.1 q h1 with h3 | h3
    · exact hd q h3 h2
    · exact absurd (hlb q h2) (Nat.not_lt.mpr h3.1)
  · rcases hgx.1 _ h1 with h3 | h3
    · exact ho1 h3
    · exact absurd hol (Nat.not_lt.mpr h3.1)
  · rcases hgx.1 q h1 with h3 | h3
    · exact Nat.lt_of_lt_of_le (hla q h3) hz
    · exact h3.2
theorem li_B {E : EE} {S S2 S2' : St} {th th' : Int32} {gA gB gB1 : Gh} {o9 : Nat} {f : Nat → Int64} {H H1 : Heap} (h : LI E S S2 th gA gB o9 f H) (hB1 : RB E S2' th' gB1 H1) (hgx : gX gB gB1 H.size H1.size) (hz : H.size ≤ H1.size) (hq : ∀ q : Nat, q < H.size → ¬ ow gB q → H1[q]? = H[q]?) : LI E S S2' th' gA gB1 o9 f H1 := by
  obtain ⟨hA, hB, hO, hd, ⟨ho1, ho2, ho3⟩, hla, hlb⟩ := h
  have hol := hO.lt
  have hZB := hB.2.2.1.1
  refine ⟨li_keptA hA (fun q h1 h2 => hq q h1 (fun h3 => ?_)), hB1, hO.kept (hq _ hol ho2), fun q h1 h2 => ?_, ⟨ho1, fun h1 => ?_, ho3⟩, fun q h1 => Nat.lt_of_lt_of_le (hla q h1) hz, fun q h1 => ?_⟩
  · rcases h2 with h2 | h2
    · exact hd q h2 h3
    · exact absurd (hZB q h3) (Nat.not_le.mpr h2)
  · rcases hgx.1 q h2 with h3 | h3
    · exact hd q h1 h3
    · exact absurd (hla q h1) (Nat.not_lt.mpr h3.1)
  · rcases hgx.1 _ h1 with h3 | h3
    · exact ho2 h3
    · exact absurd hol (Nat.not_lt.mpr h3.1)
  · rcases hgx.1 q h1 with h3 | h3
    · exact Nat.lt_of_lt_of_le (hlb q h3) hz
    · exact h3.2
section LAWs
variable {p : Program} {l : Launch} {e : Env} {s : State} {m : MethodId} {args : Array Value} {below : List Frame} {meth : Method} {c : Code} {H : Heap} {locs : List Loc} {cells slots : Nat} {Q : State → Prop}
variable {pc : Nat} {ls : Array Slot} {rest : List Value} {E : EE} {b L : Nat} {xs : Nat → Int32}
abbrev LA (s : State) : Nat → Prop := fun q => s.heap.size ≤ q
theorem law_ld (hC : LC p s m c E b L xs) {i j : Nat} {n : Int} (hS : va_S (LA s) s.heap H locs) (h0 : ls[0]? = some (.val (.ref b))) (h4 : ls[4]? = some (.val (.int (nI i)))) (hn : Int32.ofInt n = nI j) (hj : i + j < L) (d0 : decode cL_law pc = .ok (.aload_n 0, 1)) (d1 : decode cL_law (pc + 1) = .ok (.iload 4, 2)) (d2 : decode cL_law (pc + 1 + 2) = .ok (.iconst n, 1)) (d3 : decode cL_law (pc + 1 + 2 + 1) = .ok (.iadd, 1)) (d4 : decode cL_law (pc + 1 + 2 + 1 + 1) = .ok (.iaload, 1))
    (kk : W p l e room_1 s m args below meth c H locs cells slots Q (F0 m (pc + 6) ls (.int (xs (i + j)) :: rest))) : W p l e room_1 s m args below meth c H locs cells slots Q (F0 m pc ls rest) := by
  obtain ⟨hx, hb, hml, hown, hZ, hX0, hX, hbl, hN, hL⟩ := hC
  refine lv_aload_n hx hb d0 rfl h0 ?_
  refine lv_iload hx hb d1 h4 ?_
  refine lv_iconst hx hb d2 hn ?_
  refine lv_iadd hx hb d3 ?_
  rw [nI_add]
  refine va_sld hx hb hX hbl (Nat.not_le.mpr hbl) hS (vp_in_nI hj (by omega)) d4 ?_
  rw [nI_clamp (by omega : i + j < 2 ^ 31)]
  exact kk
/-- the class's side of a step -/
theorem wl_H (hC : LC p s m c E b L xs) {y : MethodName} {b1 : ByteArray} {n k index : Nat} {hh : List (Nat × Nat × Nat × Nat)} {As st : List Value} {lv : List (Nat × Value)} {S S' S2 : St} {th : Int32} {gA gB : Gh} {o9 : Nat} {f : Nat → Int64} {code : Int32} {ans : Int64} (hLI : LI E S S2 th gA gB o9 f H) (hS : va_S (LA s) s.heap H locs) (hl : lv_has ls 9 lv) (hM : HM l E y b1 n hh As gA S S' o9 code ans) (zh : (Cond.codeWith y b1 n (some .int) hh).before args s = true) (zm : (Cond.methodLink RL index y).before args s = true) (zt : (Cond.static y).before args s = true) (hy : y.cls = RL ∧ (parseMethodDescriptor y.desc).map (fun d => d.parameters.length) = some k) (zw : ∀ (U : State) (a : Array Value), TB U → (Cond.codeWith y b1 n (some .int) hh).before a U = true) (hn : As.length = k) (hst : st = As.reverse ++ rest) (hn9 : n ≤ 25) (hW : (rest.map fun v => v.category).sum ≤ 8) (hcs : cells + 2 ≤ 601024 ∧ slots + 60 ≤ 7293034) (hdg : decode cL_law pc = .ok (.invokestatic index, 3))
    (kk : ∀ (gA1 : Gh) (f1 : Nat → Int64) (H1 : Heap) (locs1 : List Loc), LI E S' S2 th gA1 gB o9 f1 H1 → gA1.ad 1 0 = gA.ad 1 0 → (code = 0 → f1 0 = ans) → va_S (LA s) s.heap H1 locs1 → W p l e room_1 s m args below meth c H1 locs1 (cells + 2) (slots + 60) Q (F0 m (pc + 3) ls (.int code :: rest))) : W p l e room_1 s m args below meth c H locs cells slots Q (F0 m pc ls st) := by
  subst hst
  obtain ⟨hx, hb, hml, hown, hZ, hX0, hX, hbl, hN, hL⟩ := hC
  have hLI0 := hLI
  obtain ⟨hA, hB, hO, hd, ⟨ho1, ho2, ho3⟩, hla, hlb⟩ := hLI0
  have hin : (Cond.initialized y.cls).before args s = true := by rw [hy.1]; exact zn_L hZ.1.1.1
  refine wc_go (ow := fun q => ow gA q ∨ q = o9) (Post := HQ E gA S' o9 code ans H.size) (vx_runSW (g := F0 m pc ls (As.reverse ++ rest)) (As := As) (rest := rest) (Ts := []) (n := k) ⟨hx, hb, hml, hown, fun w h => by cases h⟩ (hM H.size f) ⟨⟨rfl, rfl, Nat.le_of_ble_eq_true rfl, (by show 8 + (n + 11) + 520 ≤ 84000; omega), fun w hw a' U hW => ?_, List.mem_singleton.mpr rfl⟩, zh, hin, (by rw [hy.1]; exact ⟨by decide +kernel, by decide +kernel⟩), fun sig h => ?_, zm, zt⟩ ⟨fun a U g mk q => ⟨q.1, q.2.1, q.2.2.1.calling, XZ.moved (u := U) (U := U.calling g mk a) (Vm.Alike.refl U.vm) q.2.2.2.1, q.2.2.2.2⟩, fun U hU hW => ⟨rfl, by rw [hU], hZ.moved hW, ?_, by rw [hU]; exact ⟨hA, hO, ho3, ho1⟩⟩⟩ rfl hn hl.1 rfl (lv_room hW) hdg hcs) hS (fun q h => ?_) (fun v H1 locs1 hP hz hq hS => ?_)
  · rw [List.mem_singleton.mp hw]
    exact zw U a' (hZ.1.1.1.moved hW)
  · have := hy.2
    rw [h] at this
    exact (Option.some.inj this).symm
  · rw [hU]
    exact XZ.moved hW.alike ((hX0.kept (fun a h1 h2 => hS.2.1 a h1 h2)).narrow (fun q h => Nat.le_trans hS.1 h))
  · show s.heap.size ≤ q
    rcases h with (h | h) | h
    · rw [← hN]; exact hA.2.2.1.1 q h
    · rw [← hN, h]; exact ho3
    · exact Nat.le_trans hS.1 h
  · obtain ⟨gA1, f1, h1, h2, rfl, h4⟩ := li_A hLI hP hz hq
    exact kk gA1 f1 H1 locs1 h1 h2 h4 hS
/-- the reference's side of a step -/
theorem wl_R (hC : LC p s m c E b L xs) {y : MethodName} {b1 : ByteArray} {n k index : Nat} {ret : FieldType} {as st : List Value} {lv : List (Nat × Value)} {S S2 S2' : St} {th : Int32} {gA gB : Gh} {o9 : Nat} {f : Nat → Int64} {code b' : Int32} (hLI : LI E S S2 th gA gB o9 f H) (hS : va_S (LA s) s.heap H locs) (hl : lv_has ls 9 lv) (hM : RefM l E y b1 n ret as S2 S2' code b') (zm : (Cond.methodLink RL index y).before args s = true) (kv : KV RX12 y b1 n (some ret) k) (hn : as.length = k) (hst : st = as.reverse ++ .ref (gB.ad 1 0) :: rest) (hn9 : n ≤ 25) (hW : (rest.map fun v => v.category).sum ≤ 8) (hcs : cells + 3 ≤ 601024 ∧ slots + 90 ≤ 7293034) (hdg : decode cL_law pc = .ok (.invokevirtual index, 3))
    (kk : ∀ (gB1 : Gh) (H1 : Heap) (locs1 : List Loc), LI E S S2' code gA gB1 o9 f H1 → gB1.ad 1 0 = gB.ad 1 0 → va_S (LA s) s.heap H1 locs1 → W p l e room_1 s m args below meth c H1 locs1 (cells + 3) (slots + 90) Q (F0 m (pc + 3) ls (.int b' :: rest))) : W p l e room_1 s m args below meth c H locs cells slots Q (F0 m pc ls st) := by
  obtain ⟨hx, hb, hml, hown, hZ, hX0, hX, hbl, hN, hL⟩ := hC
  obtain ⟨rm, hrm, hM⟩ := hM
  have hB := hLI.2.1
  refine wc_V (As := as) hx hb hml hown hZ.1.1 hl (hM th gB) (rec_of hZ.1.1 (RB.x hB) rfl) zm kv hB hS (fun q h => ?_) hn hst ⟨by show rm.frames + 1 ≤ 2048; omega, by show 8 + (n + 11) + rm.locals ≤ 84000; omega⟩ hW ⟨by show cells + rm.cells ≤ 601024; omega, by show slots + rm.slots ≤ 7293034; omega⟩ hdg (fun v H1 locs1 hP hz hq hS => ?_)
  · show s.heap.size ≤ q
    rcases h with h | h
    · rw [← hN]; exact hB.2.2.1.1 q h
    · exact Nat.le_trans hS.1 h
  · obtain ⟨⟨gB1, hB1, hgx⟩, rfl⟩ := hP
    refine W.widen (k := cells + 3) (n := slots + 90) (by omega) (by omega) ?_
    exact kk gB1 H1 locs1 (li_B hLI hB1 hgx hz hq) hgx.2 hS
theorem g_lcmp0 (hx : p.tables.exec = Jvm.exec) (hb : c.code = cL_law) {R : Room} {x : Int64} (hdg : decode cL_law pc = .ok (.lcmp, 1)) (k : W p l e R s m args below meth c H locs cells slots Q (F0 m (pc + 1) ls (.int 0 :: rest))) : W p l e R s m args below meth c H locs cells slots Q (F0 m pc ls (.long x :: .long x :: rest)) := by
  intro T hT X
  obtain ⟨t, a, b⟩ := k T hT X
  refine ⟨t, ?_, b⟩
  have e1 : (if x > x then (1 : Int32) else if x == x then 0 else -1) = 0 := by
    rw [if_neg (fun h => Int64.lt_irrefl h), if_pos (beq_self_eq_true x)]
  jvm_step X.here [X.here.top, hx, hb, hdg, e1]
  exact a
theorem g_lald0 (hC : CX E s) (hx : p.tables.exec = Jvm.exec) (hb : c.code = cL_law) {R : Room} {o9 : Nat} {f : Nat → Int64} (hO : outA E o9 f H) (hdg : decode cL_law pc = .ok (.laload, 1)) (kk : W p l e R s m args below meth c H locs cells slots Q (F0 m (pc + 1) ls (.long (f 0) :: rest))) : W p l e R s m args below meth c H locs cells slots Q (F0 m pc ls (.int 0 :: .ref o9 :: rest)) := by
  have h0 : (0 : Int32) = nI 0 := rfl
  rw [h0]
  refine va_lald hx hb hC.2.1 (P1 hO) 0 4 rfl rfl (vp_in_nI (n := 0) (N := 1) (by decide) (by decide)) hdg ?_
  rw [nI_clamp (n := 0) (by decide)]
  exact kk
/-- the comparison behind the two calls -/
theorem law_tail (hC : LC p s m c E b L xs) {i o9 : Nat} {code b' : Int32} {ans : Int64} {S : St} {gA gB : Gh} {f : Nat → Int64} (hG : Good S) (hLI : LI E S S code gA gB o9 f H) (hS : va_S (LA s) s.heap H locs) (hl : lv_has ls 9 ((6, .int b') :: (5, .int code) :: LV b (gA.ad 1 0) (gB.ad 1 0) o9 i)) (hcs : cells ≤ 601024 ∧ slots ≤ 7293034) (hf : code = 0 → f 0 = ans) (ha : code = 0 → ans = b'.toInt64) {off : Int}
    (d0 : decode cL_law pc = .ok (.aload_n 2, 1)) (d1 : decode cL_law (pc + 1) = .ok (.invokevirtual 104, 3)) (d4 : decode cL_law (pc + 4) = .ok (.iload 5, 2)) (d6 : decode cL_law (pc + 6) = .ok (.if_icmp .eq 5, 3)) (d11 : decode cL_law (pc + 11) = .ok (.iload 5, 2)) (d13 : decode cL_law (pc + 13) = .ok (.ifCond .ne 15, 3)) (d16 : decode cL_law (pc + 16) = .ok (.aload_n 3, 1)) (d17 : decode cL_law (pc + 17) = .ok (.iconst 0, 1)) (d18 : decode cL_law (pc + 18) = .ok (.laload, 1)) (d19 : decode cL_law (pc + 19) = .ok (.iload 6, 2)) (d21 : decode cL_law (pc + 21) = .ok (.i2l, 1)) (d22 : decode cL_law (pc + 22) = .ok (.lcmp, 1)) (d23 : decode cL_law (pc + 23) = .ok (.ifCond .eq 5, 3)) (d28 : decode cL_law (pc + 28) = .ok (.goto off, 3)) (hoff : ((pc + 28 : Nat) : Int) + off = ((1954 : Nat) : Int))
    (kk : lv_has ls 9 (LV b (gA.ad 1 0) (gB.ad 1 0) o9 i) → W p l e room_1 s m args below meth c H locs cells slots Q (F0 m 1954 ls [])) : W p l e room_1 s m args below meth c H locs cells slots Q (F0 m pc ls []) := by
  obtain ⟨hx, hb, hml, hown, hZ, hX0, hX, hbl, hN, hL⟩ := hC
  have hB := hLI.2.1
  have hgo : W p l e room_1 s m args below meth c H locs cells slots Q (F0 m (pc + 28) ls []) := lv_goto (tgt := 1954) hx hb d28 hoff (kk (lv_sub hl [2, 3, 4, 5, 6] rfl))
  refine lv_aload_n hx hb d0 rfl (lv_at hl 4 rfl) ?_
  refine rc_V (As := []) hx hb hml hown hZ.1.1 hl (c_X12_thrown l E hG.1) (rec_of hZ.1.1 (RB.x hB) rfl) (zm_L_104 hZ.1.1.1) kv_X12_thrown hB rfl rfl ⟨Nat.le_of_ble_eq_true rfl, Nat.le_of_ble_eq_true rfl⟩ ⟨rfl, rfl⟩ (Nat.le_of_ble_eq_true rfl) hcs d1 ?_
  refine lv_iload hx hb d4 (lv_at hl 1 rfl) ?_
  refine lv_icmp_eq (tgt := pc + 11) hx hb d6 (by simp only [Int.natCast_add]; omega) (fun _ => ?_) (fun h => absurd rfl h)
  refine lv_iload hx hb d11 (lv_at hl 1 rfl) ?_
  refine lv_if_ne (tgt := pc + 28) hx hb d13 (by simp only [Int.natCast_add]; omega) (fun _ => hgo) (fun h0 => ?_)
  have h0 : code = 0 := by first | exact h0 | exact Decidable.not_not.mp h0
  refine lv_aload_n hx hb d16 rfl (lv_at hl 5 rfl) ?_
  refine lv_iconst (v := 0) hx hb d17 (by decide) ?_
  refine g_lald0 hZ.1.1 hx hb hLI.2.2.1 d18 ?_
  refine lv_iload hx hb d19 (lv_at hl 0 rfl) ?_
  refine lv_i2l (v := b'.toInt64) hx hb d21 rfl ?_
  rw [hf h0, ha h0]
  refine g_lcmp0 hx hb d22 ?_
  exact lv_if_eq (tgt := pc + 28) hx hb d23 (by simp only [Int.natCast_add]; omega) (fun _ => hgo) (fun h => absurd rfl h)
/-- the same for the answer of one bit -/
theorem law_tailZ (hC : LC p s m c E b L xs) {i o9 : Nat} {code b' : Int32} {ans : Int64} {S : St} {gA gB : Gh} {f : Nat → Int64} (hG : Good S) (hLI : LI E S S code gA gB o9 f H) (hS : va_S (LA s) s.heap H locs) (hl : lv_has ls 9 ((6, .int b') :: (5, .int code) :: LV b (gA.ad 1 0) (gB.ad 1 0) o9 i)) (hcs : cells ≤ 601024 ∧ slots ≤ 7293034) (hf : code = 0 → f 0 = ans) (ha : code = 0 → ans = bz b') {off : Int}
    (d0 : decode cL_law pc = .ok (.aload_n 2, 1)) (d1 : decode cL_law (pc + 1) = .ok (.invokevirtual 104, 3)) (d4 : decode cL_law (pc + 4) = .ok (.iload 5, 2)) (d6 : decode cL_law (pc + 6) = .ok (.if_icmp .eq 5, 3)) (d11 : decode cL_law (pc + 11) = .ok (.iload 5, 2)) (d13 : decode cL_law (pc + 13) = .ok (.ifCond .ne 22, 3)) (d16 : decode cL_law (pc + 16) = .ok (.aload_n 3, 1)) (d17 : decode cL_law (pc + 17) = .ok (.iconst 0, 1)) (d18 : decode cL_law (pc + 18) = .ok (.laload, 1)) (d19 : decode cL_law (pc + 19) = .ok (.iload 6, 2)) (d21 : decode cL_law (pc + 21) = .ok (.ifCond .eq 7, 3)) (d24 : decode cL_law (pc + 24) = .ok (.lconst 1, 1)) (d25 : decode cL_law (pc + 25) = .ok (.goto 4, 3)) (d28 : decode cL_law (pc + 28) = .ok (.lconst 0, 1)) (d29 : decode cL_law (pc + 29) = .ok (.lcmp, 1)) (d30 : decode cL_law (pc + 30) = .ok (.ifCond .eq 5, 3)) (d35 : decode cL_law (pc + 35) = .ok (.goto off, 3)) (hoff : ((pc + 35 : Nat) : Int) + off = ((1954 : Nat) : Int))
    (kk : lv_has ls 9 (LV b (gA.ad 1 0) (gB.ad 1 0) o9 i) → W p l e room_1 s m args below meth c H locs cells slots Q (F0 m 1954 ls [])) : W p l e room_1 s m args below meth c H locs cells slots Q (F0 m pc ls []) := by
  obtain ⟨hx, hb, hml, hown, hZ, hX0, hX, hbl, hN, hL⟩ := hC
  have hB := hLI.2.1
  have hgo : W p l e room_1 s m args below meth c H locs cells slots Q (F0 m (pc + 35) ls []) := lv_goto (tgt := 1954) hx hb d35 hoff (kk (lv_sub hl [2, 3, 4, 5, 6] rfl))
  refine lv_aload_n hx hb d0 rfl (lv_at hl 4 rfl) ?_
  refine rc_V (As := []) hx hb hml hown hZ.1.1 hl (c_X12_thrown l E hG.1) (rec_of hZ.1.1 (RB.x hB) rfl) (zm_L_104 hZ.1.1.1) kv_X12_thrown hB rfl rfl ⟨Nat.le_of_ble_eq_true rfl, Nat.le_of_ble_eq_true rfl⟩ ⟨rfl, rfl⟩ (Nat.le_of_ble_eq_true rfl) hcs d1 ?_
  refine lv_iload hx hb d4 (lv_at hl 1 rfl) ?_
  refine lv_icmp_eq (tgt := pc + 11) hx hb d6 (by simp only [Int.natCast_add]; omega) (fun _ => ?_) (fun h => absurd rfl h)
  refine lv_iload hx hb d11 (lv_at hl 1 rfl) ?_
  refine lv_if_ne (tgt := pc + 35) hx hb d13 (by simp only [Int.natCast_add]; omega) (fun _ => hgo) (fun h0 => ?_)
  have h0 : code = 0 := by first | exact h0 | exact Decidable.not_not.mp h0
  refine lv_aload_n hx hb d16 rfl (lv_at hl 5 rfl) ?_
  refine lv_iconst (v := 0) hx hb d17 (by decide) ?_
  refine g_lald0 hZ.1.1 hx hb hLI.2.2.1 d18 ?_
  refine lv_iload hx hb d19 (lv_at hl 0 rfl) ?_
  rw [hf h0, ha h0]
  refine lv_if_eq (tgt := pc + 28) hx hb d21 (by simp only [Int.natCast_add]; omega) (fun hb0 => ?_) (fun hb0 => ?_)
  · refine lv_lconst (v := 0) hx hb d28 (by decide) ?_
    rw [show bz b' = 0 from if_pos hb0]
    refine g_lcmp0 hx hb d29 ?_
    exact lv_if_eq (tgt := pc + 35) hx hb d30 (by simp only [Int.natCast_add]; omega) (fun _ => hgo) (fun h => absurd rfl h)
  · refine lv_lconst (v := 1) hx hb d24 (by decide) ?_
    refine lv_goto (tgt := pc + 29) hx hb d25 (by simp only [Int.natCast_add]; omega) ?_
    rw [show bz b' = 1 from if_neg hb0]
    refine g_lcmp0 hx hb d29 ?_
    exact lv_if_eq (tgt := pc + 35) hx hb d30 (by simp only [Int.natCast_add]; omega) (fun _ => hgo) (fun h => absurd rfl h)
def nz (x : Int32) : Int32 := if x = 0 then 0 else 1
theorem law_nz (hx : p.tables.exec = Jvm.exec) (hb : c.code = cL_law) {R : Room} {x : Int32} (d0 : decode cL_law pc = .ok (.ifCond .eq 7, 3)) (d3 : decode cL_law (pc + 3) = .ok (.iconst 1, 1)) (d4 : decode cL_law (pc + 4) = .ok (.goto 4, 3)) (d7 : decode cL_law (pc + 7) = .ok (.iconst 0, 1)) (kk : W p l e R s m args below meth c H locs cells slots Q (F0 m (pc + 8) ls (.int (nz x) :: rest))) : W p l e R s m args below meth c H locs cells slots Q (F0 m pc ls (.int x :: rest)) := by
  refine lv_if_eq (tgt := pc + 7) hx hb d0 (by simp only [Int.natCast_add]; omega) (fun h => ?_) (fun h => ?_)
  · rw [show nz x = 0 from if_pos h] at kk
    exact lv_iconst (v := 0) hx hb d7 (by decide) kk
  · rw [show nz x = 1 from if_neg h] at kk
    exact lv_iconst (v := 1) hx hb d3 (by decide) (lv_goto (tgt := pc + 8) hx hb d4 (by simp only [Int.natCast_add]; omega) kk)
end LAWs
theorem law_c0 {p : Program} {l : Launch} {e : Env} {s : State} {m : MethodId} {args : Array Value} {below : List Frame} {meth : Method} {c : Code} {H : Heap} {locs : List Loc} {cells slots : Nat} {Q : State → Prop} {ls : Array Slot} {E : EE} {b L : Nat} {xs : Nat → Int32} (hst : l.stackTraces = false) (hC : LC p s m c E b L xs) {i o9 : Nat} {th : Int32} {S : St} {gA gB : Gh} {f : Nat → Int64} (hG : Good S) (hLI : LI E S S th gA gB o9 f H) (hS : va_S (LA s) s.heap H locs) (hl : lv_has ls 9 (LV b (gA.ad 1 0) (gB.ad 1 0) o9 i)) (hi : i + 6 ≤ L) (hcs : cells + 424 ≤ 601024 ∧ slots + 4952 ≤ 7293034)
    (kk : ∀ (S' : St) (th' : Int32) (gA1 gB1 : Gh) (f1 : Nat → Int64) (H1 : Heap) (locs1 : List Loc) (ls1 : Array Slot), Good S' → LI E S' S' th' gA1 gB1 o9 f1 H1 → va_S (LA s) s.heap H1 locs1 → lv_has ls1 9 (LV b (gA1.ad 1 0) (gB1.ad 1 0) o9 i) → W p l e room_1 s m args below meth c H1 locs1 (cells + 424) (slots + 4952) Q (F0 m 1954 ls1 [])) : W p l e room_1 s m args below meth c H locs cells slots Q (F0 m 160 ls []) := by
  obtain ⟨hx, hb, hml, hown, hZ, hX0, hX, hbl, hN, hL⟩ := id hC
  have hT := hZ.1.1.1
  obtain ⟨S', code, ans, b', hG', hH, hR, ha⟩ := j_person (l := l) (E := E) hst hG (xs (i + 1))
  refine lv_aload_n hx hb dL_law_160 rfl (lv_at hl 1 rfl) ?_
  refine law_ld hC (j := 1) hS (lv_at hl 0 rfl) (lv_at hl 4 rfl) rfl (by omega) dL_law_161 dL_law_162 dL_law_164 dL_law_165 dL_law_166 ?_
  refine lv_aload_n hx hb dL_law_167 rfl (lv_at hl 3 rfl) ?_
  refine wl_H hC (k := 3) hLI hS hl (hH gA o9) (zh_L_person hT) (zm_L_98 hT) (zt_L_person hT) ⟨rfl, by decide +kernel⟩ (fun U a h => zh_L_person h) rfl rfl (by decide) (Nat.le_of_ble_eq_true rfl) ⟨by omega, by omega⟩ dL_law_168 (fun gA1 f1 H1 locs1 hLI e1 hf hS => ?_)
  refine lv_istore (lv' := (5, .int code) :: LV b (gA.ad 1 0) (gB.ad 1 0) o9 i) hx hb dL_law_171 hl (by decide) rfl (fun ls hl => ?_)
  refine lv_aload_n hx hb dL_law_173 rfl (lv_at hl 3 rfl) ?_
  refine law_ld hC (j := 1) hS (lv_at hl 1 rfl) (lv_at hl 5 rfl) rfl (by omega) dL_law_174 dL_law_175 dL_law_177 dL_law_178 dL_law_179 ?_
  refine wl_R hC (k := 1) hLI hS hl hR (zm_L_103 hT) kv_X12_person rfl rfl (by decide) (Nat.le_of_ble_eq_true rfl) ⟨by omega, by omega⟩ dL_law_180 (fun gB1 H2 locs2 hLI e2 hS => ?_)
  refine lv_istore (lv' := (6, .int b') :: (5, .int code) :: LV b (gA.ad 1 0) (gB.ad 1 0) o9 i) hx hb dL_law_183 hl (by decide) rfl (fun ls hl => ?_)
  rw [← e1, ← e2] at hl
  exact law_tail hC hG' hLI hS hl ⟨by omega, by omega⟩ hf ha dL_law_185 dL_law_186 dL_law_189 dL_law_191 dL_law_196 dL_law_198 dL_law_201 dL_law_202 dL_law_203 dL_law_204 dL_law_206 dL_law_207 dL_law_208 dL_law_213 (by decide) (fun hl => W.widen (by omega) (by omega) (kk S' code gA1 gB1 f1 H2 locs2 ls hG' hLI hS hl))
theorem law_c1 {p : Program} {l : Launch} {e : Env} {s : State} {m : MethodId} {args : Array Value} {below : List Frame} {meth : Method} {c : Code} {H : Heap} {locs : List Loc} {cells slots : Nat} {Q : State → Prop} {ls : Array Slot} {E : EE} {b L : Nat} {xs : Nat → Int32} (hst : l.stackTraces = false) (hC : LC p s m c E b L xs) {i o9 : Nat} {th : Int32} {S : St} {gA gB : Gh} {f : Nat → Int64} (hG : Good S) (hLI : LI E S S th gA gB o9 f H) (hS : va_S (LA s) s.heap H locs) (hl : lv_has ls 9 (LV b (gA.ad 1 0) (gB.ad 1 0) o9 i)) (hi : i + 6 ≤ L) (hcs : cells + 424 ≤ 601024 ∧ slots + 4952 ≤ 7293034)
    (kk : ∀ (S' : St) (th' : Int32) (gA1 gB1 : Gh) (f1 : Nat → Int64) (H1 : Heap) (locs1 : List Loc) (ls1 : Array Slot), Good S' → LI E S' S' th' gA1 gB1 o9 f1 H1 → va_S (LA s) s.heap H1 locs1 → lv_has ls1 9 (LV b (gA1.ad 1 0) (gB1.ad 1 0) o9 i) → W p l e room_1 s m args below meth c H1 locs1 (cells + 424) (slots + 4952) Q (F0 m 1954 ls1 [])) : W p l e room_1 s m args below meth c H locs cells slots Q (F0 m 216 ls []) := by
  obtain ⟨hx, hb, hml, hown, hZ, hX0, hX, hbl, hN, hL⟩ := id hC
  have hT := hZ.1.1.1
  obtain ⟨S', code, ans, b', hG', hH, hR, ha⟩ := j_limit (l := l) (E := E) hst hG (xs (i + 1)) (xs (i + 2)) (xs (i + 3))
  refine lv_aload_n hx hb dL_law_216 rfl (lv_at hl 1 rfl) ?_
  refine law_ld hC (j := 1) hS (lv_at hl 0 rfl) (lv_at hl 4 rfl) rfl (by omega) dL_law_217 dL_law_218 dL_law_220 dL_law_221 dL_law_222 ?_
  refine law_ld hC (j := 2) hS (lv_at hl 0 rfl) (lv_at hl 4 rfl) rfl (by omega) dL_law_223 dL_law_224 dL_law_226 dL_law_227 dL_law_228 ?_
  refine law_ld hC (j := 3) hS (lv_at hl 0 rfl) (lv_at hl 4 rfl) rfl (by omega) dL_law_229 dL_law_230 dL_law_232 dL_law_233 dL_law_234 ?_
  refine lv_aload_n hx hb dL_law_235 rfl (lv_at hl 3 rfl) ?_
  refine wl_H hC (k := 5) hLI hS hl (hH gA o9) (zh_L_limit hT) (zm_L_107 hT) (zt_L_limit hT) ⟨rfl, by decide +kernel⟩ (fun U a h => zh_L_limit h) rfl rfl (by decide) (Nat.le_of_ble_eq_true rfl) ⟨by omega, by omega⟩ dL_law_236 (fun gA1 f1 H1 locs1 hLI e1 hf hS => ?_)
  refine lv_istore (lv' := (5, .int code) :: LV b (gA.ad 1 0) (gB.ad 1 0) o9 i) hx hb dL_law_239 hl (by decide) rfl (fun ls hl => ?_)
  refine lv_aload_n hx hb dL_law_241 rfl (lv_at hl 3 rfl) ?_
  refine law_ld hC (j := 1) hS (lv_at hl 1 rfl) (lv_at hl 5 rfl) rfl (by omega) dL_law_242 dL_law_243 dL_law_245 dL_law_246 dL_law_247 ?_
  refine law_ld hC (j := 2) hS (lv_at hl 1 rfl) (lv_at hl 5 rfl) rfl (by omega) dL_law_248 dL_law_249 dL_law_251 dL_law_252 dL_law_253 ?_
  refine law_ld hC (j := 3) hS (lv_at hl 1 rfl) (lv_at hl 5 rfl) rfl (by omega) dL_law_254 dL_law_255 dL_law_257 dL_law_258 dL_law_259 ?_
  refine wl_R hC (k := 3) hLI hS hl hR (zm_L_110 hT) kv_X12_limit rfl rfl (by decide) (Nat.le_of_ble_eq_true rfl) ⟨by omega, by omega⟩ dL_law_260 (fun gB1 H2 locs2 hLI e2 hS => ?_)
  refine lv_istore (lv' := (6, .int b') :: (5, .int code) :: LV b (gA.ad 1 0) (gB.ad 1 0) o9 i) hx hb dL_law_263 hl (by decide) rfl (fun ls hl => ?_)
  rw [← e1, ← e2] at hl
  exact law_tail hC hG' hLI hS hl ⟨by omega, by omega⟩ hf ha dL_law_265 dL_law_266 dL_law_269 dL_law_271 dL_law_276 dL_law_278 dL_law_281 dL_law_282 dL_law_283 dL_law_284 dL_law_286 dL_law_287 dL_law_288 dL_law_293 (by decide) (fun hl => W.widen (by omega) (by omega) (kk S' code gA1 gB1 f1 H2 locs2 ls hG' hLI hS hl))
theorem law_c2 {p : Program} {l : Launch} {e : Env} {s : State} {m : MethodId} {args : Array Value} {below : List Frame} {meth : Method} {c : Code} {H : Heap} {locs : List Loc} {cells slots : Nat} {Q : State → Prop} {ls : Array Slot} {E : EE} {b L : Nat} {xs : Nat → Int32} (hst : l.stackTraces = false) (hC : LC p s m c E b L xs) {i o9 : Nat} {th : Int32} {S : St} {gA gB : Gh} {f : Nat → Int64} (hG : Good S) (hLI : LI E S S th gA gB o9 f H) (hS : va_S (LA s) s.heap H locs) (hl : lv_has ls 9 (LV b (gA.ad 1 0) (gB.ad 1 0) o9 i)) (hi : i + 6 ≤ L) (hcs : cells + 424 ≤ 601024 ∧ slots + 4952 ≤ 7293034)
    (kk : ∀ (S' : St) (th' : Int32) (gA1 gB1 : Gh) (f1 : Nat → Int64) (H1 : Heap) (locs1 : List Loc) (ls1 : Array Slot), Good S' → LI E S' S' th' gA1 gB1 o9 f1 H1 → va_S (LA s) s.heap H1 locs1 → lv_has ls1 9 (LV b (gA1.ad 1 0) (gB1.ad 1 0) o9 i) → W p l e room_1 s m args below meth c H1 locs1 (cells + 424) (slots + 4952) Q (F0 m 1954 ls1 [])) : W p l e room_1 s m args below meth c H locs cells slots Q (F0 m 296 ls []) := by
  obtain ⟨hx, hb, hml, hown, hZ, hX0, hX, hbl, hN, hL⟩ := id hC
  have hT := hZ.1.1.1
  obtain ⟨S', code, ans, b', hG', hH, hR, ha⟩ := j_away (l := l) (E := E) hst hG (xs (i + 1)) (xs (i + 2)) (xs (i + 3))
  refine lv_aload_n hx hb dL_law_296 rfl (lv_at hl 1 rfl) ?_
  refine law_ld hC (j := 1) hS (lv_at hl 0 rfl) (lv_at hl 4 rfl) rfl (by omega) dL_law_297 dL_law_298 dL_law_300 dL_law_301 dL_law_302 ?_
  refine law_ld hC (j := 2) hS (lv_at hl 0 rfl) (lv_at hl 4 rfl) rfl (by omega) dL_law_303 dL_law_304 dL_law_306 dL_law_307 dL_law_308 ?_
  refine law_ld hC (j := 3) hS (lv_at hl 0 rfl) (lv_at hl 4 rfl) rfl (by omega) dL_law_309 dL_law_310 dL_law_312 dL_law_313 dL_law_314 ?_
  refine lv_aload_n hx hb dL_law_315 rfl (lv_at hl 3 rfl) ?_
  refine wl_H hC (k := 5) hLI hS hl (hH gA o9) (zh_L_away hT) (zm_L_111 hT) (zt_L_away hT) ⟨rfl, by decide +kernel⟩ (fun U a h => zh_L_away h) rfl rfl (by decide) (Nat.le_of_ble_eq_true rfl) ⟨by omega, by omega⟩ dL_law_316 (fun gA1 f1 H1 locs1 hLI e1 hf hS => ?_)
  refine lv_istore (lv' := (5, .int code) :: LV b (gA.ad 1 0) (gB.ad 1 0) o9 i) hx hb dL_law_319 hl (by decide) rfl (fun ls hl => ?_)
  refine lv_aload_n hx hb dL_law_321 rfl (lv_at hl 3 rfl) ?_
  refine law_ld hC (j := 1) hS (lv_at hl 1 rfl) (lv_at hl 5 rfl) rfl (by omega) dL_law_322 dL_law_323 dL_law_325 dL_law_326 dL_law_327 ?_
  refine law_ld hC (j := 2) hS (lv_at hl 1 rfl) (lv_at hl 5 rfl) rfl (by omega) dL_law_328 dL_law_329 dL_law_331 dL_law_332 dL_law_333 ?_
  refine law_ld hC (j := 3) hS (lv_at hl 1 rfl) (lv_at hl 5 rfl) rfl (by omega) dL_law_334 dL_law_335 dL_law_337 dL_law_338 dL_law_339 ?_
  refine wl_R hC (k := 3) hLI hS hl hR (zm_L_113 hT) kv_X12_away rfl rfl (by decide) (Nat.le_of_ble_eq_true rfl) ⟨by omega, by omega⟩ dL_law_340 (fun gB1 H2 locs2 hLI e2 hS => ?_)
  refine lv_istore (lv' := (6, .int b') :: (5, .int code) :: LV b (gA.ad 1 0) (gB.ad 1 0) o9 i) hx hb dL_law_343 hl (by decide) rfl (fun ls hl => ?_)
  rw [← e1, ← e2] at hl
  exact law_tailZ hC hG' hLI hS hl ⟨by omega, by omega⟩ hf ha dL_law_345 dL_law_346 dL_law_349 dL_law_351 dL_law_356 dL_law_358 dL_law_361 dL_law_362 dL_law_363 dL_law_364 dL_law_366 dL_law_369 dL_law_370 dL_law_373 dL_law_374 dL_law_375 dL_law_380 (by decide) (fun hl => W.widen (by omega) (by omega) (kk S' code gA1 gB1 f1 H2 locs2 ls hG' hLI hS hl))
theorem law_c3 {p : Program} {l : Launch} {e : Env} {s : State} {m : MethodId} {args : Array Value} {below : List Frame} {meth : Method} {c : Code} {H : Heap} {locs : List Loc} {cells slots : Nat} {Q : State → Prop} {ls : Array Slot} {E : EE} {b L : Nat} {xs : Nat → Int32} (hst : l.stackTraces = false) (hC : LC p s m c E b L xs) {i o9 : Nat} {th : Int32} {S : St} {gA gB : Gh} {f : Nat → Int64} (hG : Good S) (hLI : LI E S S th gA gB o9 f H) (hS : va_S (LA s) s.heap H locs) (hl : lv_has ls 9 (LV b (gA.ad 1 0) (gB.ad 1 0) o9 i)) (hi : i + 6 ≤ L) (hcs : cells + 424 ≤ 601024 ∧ slots + 4952 ≤ 7293034)
    (kk : ∀ (S' : St) (th' : Int32) (gA1 gB1 : Gh) (f1 : Nat → Int64) (H1 : Heap) (locs1 : List Loc) (ls1 : Array Slot), Good S' → LI E S' S' th' gA1 gB1 o9 f1 H1 → va_S (LA s) s.heap H1 locs1 → lv_has ls1 9 (LV b (gA1.ad 1 0) (gB1.ad 1 0) o9 i) → W p l e room_1 s m args below meth c H1 locs1 (cells + 424) (slots + 4952) Q (F0 m 1954 ls1 [])) : W p l e room_1 s m args below meth c H locs cells slots Q (F0 m 383 ls []) := by
  obtain ⟨hx, hb, hml, hown, hZ, hX0, hX, hbl, hN, hL⟩ := id hC
  have hT := hZ.1.1.1
  obtain ⟨S', code, ans, b', hG', hH, hR, ha⟩ := j_trip (l := l) (E := E) hst hG (xs (i + 1)) (xs (i + 2)) (xs (i + 3)) (xs (i + 4)) (xs (i + 5))
  refine lv_aload_n hx hb dL_law_383 rfl (lv_at hl 1 rfl) ?_
  refine law_ld hC (j := 1) hS (lv_at hl 0 rfl) (lv_at hl 4 rfl) rfl (by omega) dL_law_384 dL_law_385 dL_law_387 dL_law_388 dL_law_389 ?_
  refine law_ld hC (j := 2) hS (lv_at hl 0 rfl) (lv_at hl 4 rfl) rfl (by omega) dL_law_390 dL_law_391 dL_law_393 dL_law_394 dL_law_395 ?_
  refine law_ld hC (j := 3) hS (lv_at hl 0 rfl) (lv_at hl 4 rfl) rfl (by omega) dL_law_396 dL_law_397 dL_law_399 dL_law_400 dL_law_401 ?_
  refine law_ld hC (j := 4) hS (lv_at hl 0 rfl) (lv_at hl 4 rfl) rfl (by omega) dL_law_402 dL_law_403 dL_law_405 dL_law_406 dL_law_407 ?_
  refine law_ld hC (j := 5) hS (lv_at hl 0 rfl) (lv_at hl 4 rfl) rfl (by omega) dL_law_408 dL_law_409 dL_law_411 dL_law_412 dL_law_413 ?_
  refine lv_aload_n hx hb dL_law_414 rfl (lv_at hl 3 rfl) ?_
  refine wl_H hC (k := 7) hLI hS hl (hH gA o9) (zh_L_trip hT) (zm_L_114 hT) (zt_L_trip hT) ⟨rfl, by decide +kernel⟩ (fun U a h => zh_L_trip h) rfl rfl (by decide) (Nat.le_of_ble_eq_true rfl) ⟨by omega, by omega⟩ dL_law_415 (fun gA1 f1 H1 locs1 hLI e1 hf hS => ?_)
  refine lv_istore (lv' := (5, .int code) :: LV b (gA.ad 1 0) (gB.ad 1 0) o9 i) hx hb dL_law_418 hl (by decide) rfl (fun ls hl => ?_)
  refine lv_aload_n hx hb dL_law_420 rfl (lv_at hl 3 rfl) ?_
  refine law_ld hC (j := 1) hS (lv_at hl 1 rfl) (lv_at hl 5 rfl) rfl (by omega) dL_law_421 dL_law_422 dL_law_424 dL_law_425 dL_law_426 ?_
  refine law_ld hC (j := 2) hS (lv_at hl 1 rfl) (lv_at hl 5 rfl) rfl (by omega) dL_law_427 dL_law_428 dL_law_430 dL_law_431 dL_law_432 ?_
  refine law_ld hC (j := 3) hS (lv_at hl 1 rfl) (lv_at hl 5 rfl) rfl (by omega) dL_law_433 dL_law_434 dL_law_436 dL_law_437 dL_law_438 ?_
  refine law_ld hC (j := 4) hS (lv_at hl 1 rfl) (lv_at hl 5 rfl) rfl (by omega) dL_law_439 dL_law_440 dL_law_442 dL_law_443 dL_law_444 ?_
  refine law_ld hC (j := 5) hS (lv_at hl 1 rfl) (lv_at hl 5 rfl) rfl (by omega) dL_law_445 dL_law_446 dL_law_448 dL_law_449 dL_law_450 ?_
  refine wl_R hC (k := 5) hLI hS hl hR (zm_L_117 hT) kv_X12_trip rfl rfl (by decide) (Nat.le_of_ble_eq_true rfl) ⟨by omega, by omega⟩ dL_law_451 (fun gB1 H2 locs2 hLI e2 hS => ?_)
  refine lv_istore (lv' := (6, .int b') :: (5, .int code) :: LV b (gA.ad 1 0) (gB.ad 1 0) o9 i) hx hb dL_law_454 hl (by decide) rfl (fun ls hl => ?_)
  rw [← e1, ← e2] at hl
  exact law_tail hC hG' hLI hS hl ⟨by omega, by omega⟩ hf ha dL_law_456 dL_law_457 dL_law_460 dL_law_462 dL_law_467 dL_law_469 dL_law_472 dL_law_473 dL_law_474 dL_law_475 dL_law_477 dL_law_478 dL_law_479 dL_law_484 (by decide) (fun hl => W.widen (by omega) (by omega) (kk S' code gA1 gB1 f1 H2 locs2 ls hG' hLI hS hl))
theorem law_c4 {p : Program} {l : Launch} {e : Env} {s : State} {m : MethodId} {args : Array Value} {below : List Frame} {meth : Method} {c : Code} {H : Heap} {locs : List Loc} {cells slots : Nat} {Q : State → Prop} {ls : Array Slot} {E : EE} {b L : Nat} {xs : Nat → Int32} (hst : l.stackTraces = false) (hC : LC p s m c E b L xs) {i o9 : Nat} {th : Int32} {S : St} {gA gB : Gh} {f : Nat → Int64} (hG : Good S) (hLI : LI E S S th gA gB o9 f H) (hS : va_S (LA s) s.heap H locs) (hl : lv_has ls 9 (LV b (gA.ad 1 0) (gB.ad 1 0) o9 i)) (hi : i + 6 ≤ L) (hcs : cells + 424 ≤ 601024 ∧ slots + 4952 ≤ 7293034)
    (kk : ∀ (S' : St) (th' : Int32) (gA1 gB1 : Gh) (f1 : Nat → Int64) (H1 : Heap) (locs1 : List Loc) (ls1 : Array Slot), Good S' → LI E S' S' th' gA1 gB1 o9 f1 H1 → va_S (LA s) s.heap H1 locs1 → lv_has ls1 9 (LV b (gA1.ad 1 0) (gB1.ad 1 0) o9 i) → W p l e room_1 s m args below meth c H1 locs1 (cells + 424) (slots + 4952) Q (F0 m 1954 ls1 [])) : W p l e room_1 s m args below meth c H locs cells slots Q (F0 m 487 ls []) := by
  obtain ⟨hx, hb, hml, hown, hZ, hX0, hX, hbl, hN, hL⟩ := id hC
  have hT := hZ.1.1.1
  obtain ⟨S', code, ans, b', hG', hH, hR, ha⟩ := j_ofPerson (l := l) (E := E) hst hG (xs (i + 1)) (xs (i + 2))
  refine lv_aload_n hx hb dL_law_487 rfl (lv_at hl 1 rfl) ?_
  refine law_ld hC (j := 1) hS (lv_at hl 0 rfl) (lv_at hl 4 rfl) rfl (by omega) dL_law_488 dL_law_489 dL_law_491 dL_law_492 dL_law_493 ?_
  refine law_ld hC (j := 2) hS (lv_at hl 0 rfl) (lv_at hl 4 rfl) rfl (by omega) dL_law_494 dL_law_495 dL_law_497 dL_law_498 dL_law_499 ?_
  refine lv_aload_n hx hb dL_law_500 rfl (lv_at hl 3 rfl) ?_
  refine wl_H hC (k := 4) hLI hS hl (hH gA o9) (zh_L_ofPerson hT) (zm_L_118 hT) (zt_L_ofPerson hT) ⟨rfl, by decide +kernel⟩ (fun U a h => zh_L_ofPerson h) rfl rfl (by decide) (Nat.le_of_ble_eq_true rfl) ⟨by omega, by omega⟩ dL_law_501 (fun gA1 f1 H1 locs1 hLI e1 hf hS => ?_)
  refine lv_istore (lv' := (5, .int code) :: LV b (gA.ad 1 0) (gB.ad 1 0) o9 i) hx hb dL_law_504 hl (by decide) rfl (fun ls hl => ?_)
  refine lv_aload_n hx hb dL_law_506 rfl (lv_at hl 3 rfl) ?_
  refine law_ld hC (j := 1) hS (lv_at hl 1 rfl) (lv_at hl 5 rfl) rfl (by omega) dL_law_507 dL_law_508 dL_law_510 dL_law_511 dL_law_512 ?_
  refine law_ld hC (j := 2) hS (lv_at hl 1 rfl) (lv_at hl 5 rfl) rfl (by omega) dL_law_513 dL_law_514 dL_law_516 dL_law_517 dL_law_518 ?_
  refine wl_R hC (k := 2) hLI hS hl hR (zm_L_121 hT) kv_X12_ofPerson rfl rfl (by decide) (Nat.le_of_ble_eq_true rfl) ⟨by omega, by omega⟩ dL_law_519 (fun gB1 H2 locs2 hLI e2 hS => ?_)
  refine lv_istore (lv' := (6, .int b') :: (5, .int code) :: LV b (gA.ad 1 0) (gB.ad 1 0) o9 i) hx hb dL_law_522 hl (by decide) rfl (fun ls hl => ?_)
  rw [← e1, ← e2] at hl
  exact law_tail hC hG' hLI hS hl ⟨by omega, by omega⟩ hf ha dL_law_524 dL_law_525 dL_law_528 dL_law_530 dL_law_535 dL_law_537 dL_law_540 dL_law_541 dL_law_542 dL_law_543 dL_law_545 dL_law_546 dL_law_547 dL_law_552 (by decide) (fun hl => W.widen (by omega) (by omega) (kk S' code gA1 gB1 f1 H2 locs2 ls hG' hLI hS hl))
theorem law_c5 {p : Program} {l : Launch} {e : Env} {s : State} {m : MethodId} {args : Array Value} {below : List Frame} {meth : Method} {c : Code} {H : Heap} {locs : List Loc} {cells slots : Nat} {Q : State → Prop} {ls : Array Slot} {E : EE} {b L : Nat} {xs : Nat → Int32} (hst : l.stackTraces = false) (hC : LC p s m c E b L xs) {i o9 : Nat} {th : Int32} {S : St} {gA gB : Gh} {f : Nat → Int64} (hG : Good S) (hLI : LI E S S th gA gB o9 f H) (hS : va_S (LA s) s.heap H locs) (hl : lv_has ls 9 (LV b (gA.ad 1 0) (gB.ad 1 0) o9 i)) (hi : i + 6 ≤ L) (hcs : cells + 424 ≤ 601024 ∧ slots + 4952 ≤ 7293034)
    (kk : ∀ (S' : St) (th' : Int32) (gA1 gB1 : Gh) (f1 : Nat → Int64) (H1 : Heap) (locs1 : List Loc) (ls1 : Array Slot), Good S' → LI E S' S' th' gA1 gB1 o9 f1 H1 → va_S (LA s) s.heap H1 locs1 → lv_has ls1 9 (LV b (gA1.ad 1 0) (gB1.ad 1 0) o9 i) → W p l e room_1 s m args below meth c H1 locs1 (cells + 424) (slots + 4952) Q (F0 m 1954 ls1 [])) : W p l e room_1 s m args below meth c H locs cells slots Q (F0 m 555 ls []) := by
  obtain ⟨hx, hb, hml, hown, hZ, hX0, hX, hbl, hN, hL⟩ := id hC
  have hT := hZ.1.1.1
  obtain ⟨S', code, ans, b', hG', hH, hR, ha⟩ := j_maySpend (l := l) (E := E) hst hG (xs (i + 1)) (xs (i + 2)) (xs (i + 3))
  refine lv_aload_n hx hb dL_law_555 rfl (lv_at hl 1 rfl) ?_
  refine law_ld hC (j := 1) hS (lv_at hl 0 rfl) (lv_at hl 4 rfl) rfl (by omega) dL_law_556 dL_law_557 dL_law_559 dL_law_560 dL_law_561 ?_
  refine law_ld hC (j := 2) hS (lv_at hl 0 rfl) (lv_at hl 4 rfl) rfl (by omega) dL_law_562 dL_law_563 dL_law_565 dL_law_566 dL_law_567 ?_
  refine law_ld hC (j := 3) hS (lv_at hl 0 rfl) (lv_at hl 4 rfl) rfl (by omega) dL_law_568 dL_law_569 dL_law_571 dL_law_572 dL_law_573 ?_
  refine lv_aload_n hx hb dL_law_574 rfl (lv_at hl 3 rfl) ?_
  refine wl_H hC (k := 5) hLI hS hl (hH gA o9) (zh_L_maySpend hT) (zm_L_122 hT) (zt_L_maySpend hT) ⟨rfl, by decide +kernel⟩ (fun U a h => zh_L_maySpend h) rfl rfl (by decide) (Nat.le_of_ble_eq_true rfl) ⟨by omega, by omega⟩ dL_law_575 (fun gA1 f1 H1 locs1 hLI e1 hf hS => ?_)
  refine lv_istore (lv' := (5, .int code) :: LV b (gA.ad 1 0) (gB.ad 1 0) o9 i) hx hb dL_law_578 hl (by decide) rfl (fun ls hl => ?_)
  refine lv_aload_n hx hb dL_law_580 rfl (lv_at hl 3 rfl) ?_
  refine law_ld hC (j := 1) hS (lv_at hl 1 rfl) (lv_at hl 5 rfl) rfl (by omega) dL_law_581 dL_law_582 dL_law_584 dL_law_585 dL_law_586 ?_
  refine law_ld hC (j := 2) hS (lv_at hl 1 rfl) (lv_at hl 5 rfl) rfl (by omega) dL_law_587 dL_law_588 dL_law_590 dL_law_591 dL_law_592 ?_
  refine law_ld hC (j := 3) hS (lv_at hl 1 rfl) (lv_at hl 5 rfl) rfl (by omega) dL_law_593 dL_law_594 dL_law_596 dL_law_597 dL_law_598 ?_
  refine wl_R hC (k := 3) hLI hS hl hR (zm_L_124 hT) kv_X12_maySpend rfl rfl (by decide) (Nat.le_of_ble_eq_true rfl) ⟨by omega, by omega⟩ dL_law_599 (fun gB1 H2 locs2 hLI e2 hS => ?_)
  refine lv_istore (lv' := (6, .int b') :: (5, .int code) :: LV b (gA.ad 1 0) (gB.ad 1 0) o9 i) hx hb dL_law_602 hl (by decide) rfl (fun ls hl => ?_)
  rw [← e1, ← e2] at hl
  exact law_tail hC hG' hLI hS hl ⟨by omega, by omega⟩ hf ha dL_law_604 dL_law_605 dL_law_608 dL_law_610 dL_law_615 dL_law_617 dL_law_620 dL_law_621 dL_law_622 dL_law_623 dL_law_625 dL_law_626 dL_law_627 dL_law_632 (by decide) (fun hl => W.widen (by omega) (by omega) (kk S' code gA1 gB1 f1 H2 locs2 ls hG' hLI hS hl))
theorem law_c6 {p : Program} {l : Launch} {e : Env} {s : State} {m : MethodId} {args : Array Value} {below : List Frame} {meth : Method} {c : Code} {H : Heap} {locs : List Loc} {cells slots : Nat} {Q : State → Prop} {ls : Array Slot} {E : EE} {b L : Nat} {xs : Nat → Int32} (hst : l.stackTraces = false) (hC : LC p s m c E b L xs) {i o9 : Nat} {th : Int32} {S : St} {gA gB : Gh} {f : Nat → Int64} (hG : Good S) (hLI : LI E S S th gA gB o9 f H) (hS : va_S (LA s) s.heap H locs) (hl : lv_has ls 9 (LV b (gA.ad 1 0) (gB.ad 1 0) o9 i)) (hi : i + 6 ≤ L) (hcs : cells + 424 ≤ 601024 ∧ slots + 4952 ≤ 7293034)
    (kk : ∀ (S' : St) (th' : Int32) (gA1 gB1 : Gh) (f1 : Nat → Int64) (H1 : Heap) (locs1 : List Loc) (ls1 : Array Slot), Good S' → LI E S' S' th' gA1 gB1 o9 f1 H1 → va_S (LA s) s.heap H1 locs1 → lv_has ls1 9 (LV b (gA1.ad 1 0) (gB1.ad 1 0) o9 i) → W p l e room_1 s m args below meth c H1 locs1 (cells + 424) (slots + 4952) Q (F0 m 1954 ls1 [])) : W p l e room_1 s m args below meth c H locs cells slots Q (F0 m 635 ls []) := by
  obtain ⟨hx, hb, hml, hown, hZ, hX0, hX, hbl, hN, hL⟩ := id hC
  have hT := hZ.1.1.1
  obtain ⟨S', code, ans, b', hG', hH, hR, ha⟩ := j_plan (l := l) (E := E) hst hG (xs (i + 1)) (xs (i + 2)) (xs (i + 3))
  refine lv_aload_n hx hb dL_law_635 rfl (lv_at hl 1 rfl) ?_
  refine law_ld hC (j := 1) hS (lv_at hl 0 rfl) (lv_at hl 4 rfl) rfl (by omega) dL_law_636 dL_law_637 dL_law_639 dL_law_640 dL_law_641 ?_
  refine law_ld hC (j := 2) hS (lv_at hl 0 rfl) (lv_at hl 4 rfl) rfl (by omega) dL_law_642 dL_law_643 dL_law_645 dL_law_646 dL_law_647 ?_
  refine law_ld hC (j := 3) hS (lv_at hl 0 rfl) (lv_at hl 4 rfl) rfl (by omega) dL_law_648 dL_law_649 dL_law_651 dL_law_652 dL_law_653 ?_
  refine lv_aload_n hx hb dL_law_654 rfl (lv_at hl 3 rfl) ?_
  refine wl_H hC (k := 5) hLI hS hl (hH gA o9) (zh_L_plan hT) (zm_L_125 hT) (zt_L_plan hT) ⟨rfl, by decide +kernel⟩ (fun U a h => zh_L_plan h) rfl rfl (by decide) (Nat.le_of_ble_eq_true rfl) ⟨by omega, by omega⟩ dL_law_655 (fun gA1 f1 H1 locs1 hLI e1 hf hS => ?_)
  refine lv_istore (lv' := (5, .int code) :: LV b (gA.ad 1 0) (gB.ad 1 0) o9 i) hx hb dL_law_658 hl (by decide) rfl (fun ls hl => ?_)
  refine lv_aload_n hx hb dL_law_660 rfl (lv_at hl 3 rfl) ?_
  refine law_ld hC (j := 1) hS (lv_at hl 1 rfl) (lv_at hl 5 rfl) rfl (by omega) dL_law_661 dL_law_662 dL_law_664 dL_law_665 dL_law_666 ?_
  refine law_ld hC (j := 2) hS (lv_at hl 1 rfl) (lv_at hl 5 rfl) rfl (by omega) dL_law_667 dL_law_668 dL_law_670 dL_law_671 dL_law_672 ?_
  refine law_ld hC (j := 3) hS (lv_at hl 1 rfl) (lv_at hl 5 rfl) rfl (by omega) dL_law_673 dL_law_674 dL_law_676 dL_law_677 dL_law_678 ?_
  refine wl_R hC (k := 3) hLI hS hl hR (zm_L_127 hT) kv_X12_plan rfl rfl (by decide) (Nat.le_of_ble_eq_true rfl) ⟨by omega, by omega⟩ dL_law_679 (fun gB1 H2 locs2 hLI e2 hS => ?_)
  refine lv_istore (lv' := (6, .int b') :: (5, .int code) :: LV b (gA.ad 1 0) (gB.ad 1 0) o9 i) hx hb dL_law_682 hl (by decide) rfl (fun ls hl => ?_)
  rw [← e1, ← e2] at hl
  exact law_tail hC hG' hLI hS hl ⟨by omega, by omega⟩ hf ha dL_law_684 dL_law_685 dL_law_688 dL_law_690 dL_law_695 dL_law_697 dL_law_700 dL_law_701 dL_law_702 dL_law_703 dL_law_705 dL_law_706 dL_law_707 dL_law_712 (by decide) (fun hl => W.widen (by omega) (by omega) (kk S' code gA1 gB1 f1 H2 locs2 ls hG' hLI hS hl))
theorem law_c7 {p : Program} {l : Launch} {e : Env} {s : State} {m : MethodId} {args : Array Value} {below : List Frame} {meth : Method} {c : Code} {H : Heap} {locs : List Loc} {cells slots : Nat} {Q : State → Prop} {ls : Array Slot} {E : EE} {b L : Nat} {xs : Nat → Int32} (hst : l.stackTraces = false) (hC : LC p s m c E b L xs) {i o9 : Nat} {th : Int32} {S : St} {gA gB : Gh} {f : Nat → Int64} (hG : Good S) (hLI : LI E S S th gA gB o9 f H) (hS : va_S (LA s) s.heap H locs) (hl : lv_has ls 9 (LV b (gA.ad 1 0) (gB.ad 1 0) o9 i)) (hi : i + 6 ≤ L) (hcs : cells + 424 ≤ 601024 ∧ slots + 4952 ≤ 7293034)
    (kk : ∀ (S' : St) (th' : Int32) (gA1 gB1 : Gh) (f1 : Nat → Int64) (H1 : Heap) (locs1 : List Loc) (ls1 : Array Slot), Good S' → LI E S' S' th' gA1 gB1 o9 f1 H1 → va_S (LA s) s.heap H1 locs1 → lv_has ls1 9 (LV b (gA1.ad 1 0) (gB1.ad 1 0) o9 i) → W p l e room_1 s m args below meth c H1 locs1 (cells + 424) (slots + 4952) Q (F0 m 1954 ls1 [])) : W p l e room_1 s m args below meth c H locs cells slots Q (F0 m 715 ls []) := by
  obtain ⟨hx, hb, hml, hown, hZ, hX0, hX, hbl, hN, hL⟩ := id hC
  have hT := hZ.1.1.1
  obtain ⟨S', code, ans, b', hG', hH, hR, ha⟩ := j_carry (l := l) (E := E) hst hG (xs (i + 1)) (xs (i + 2))
  refine lv_aload_n hx hb dL_law_715 rfl (lv_at hl 1 rfl) ?_
  refine law_ld hC (j := 1) hS (lv_at hl 0 rfl) (lv_at hl 4 rfl) rfl (by omega) dL_law_716 dL_law_717 dL_law_719 dL_law_720 dL_law_721 ?_
  refine law_ld hC (j := 2) hS (lv_at hl 0 rfl) (lv_at hl 4 rfl) rfl (by omega) dL_law_722 dL_law_723 dL_law_725 dL_law_726 dL_law_727 ?_
  refine lv_aload_n hx hb dL_law_728 rfl (lv_at hl 3 rfl) ?_
  refine wl_H hC (k := 4) hLI hS hl (hH gA o9) (zh_L_carry hT) (zm_L_128 hT) (zt_L_carry hT) ⟨rfl, by decide +kernel⟩ (fun U a h => zh_L_carry h) rfl rfl (by decide) (Nat.le_of_ble_eq_true rfl) ⟨by omega, by omega⟩ dL_law_729 (fun gA1 f1 H1 locs1 hLI e1 hf hS => ?_)
  refine lv_istore (lv' := (5, .int code) :: LV b (gA.ad 1 0) (gB.ad 1 0) o9 i) hx hb dL_law_732 hl (by decide) rfl (fun ls hl => ?_)
  refine lv_aload_n hx hb dL_law_734 rfl (lv_at hl 3 rfl) ?_
  refine law_ld hC (j := 1) hS (lv_at hl 1 rfl) (lv_at hl 5 rfl) rfl (by omega) dL_law_735 dL_law_736 dL_law_738 dL_law_739 dL_law_740 ?_
  refine law_ld hC (j := 2) hS (lv_at hl 1 rfl) (lv_at hl 5 rfl) rfl (by omega) dL_law_741 dL_law_742 dL_law_744 dL_law_745 dL_law_746 ?_
  refine wl_R hC (k := 2) hLI hS hl hR (zm_L_130 hT) kv_X12_carry rfl rfl (by decide) (Nat.le_of_ble_eq_true rfl) ⟨by omega, by omega⟩ dL_law_747 (fun gB1 H2 locs2 hLI e2 hS => ?_)
  refine lv_istore (lv' := (6, .int b') :: (5, .int code) :: LV b (gA.ad 1 0) (gB.ad 1 0) o9 i) hx hb dL_law_750 hl (by decide) rfl (fun ls hl => ?_)
  rw [← e1, ← e2] at hl
  exact law_tail hC hG' hLI hS hl ⟨by omega, by omega⟩ hf ha dL_law_752 dL_law_753 dL_law_756 dL_law_758 dL_law_763 dL_law_765 dL_law_768 dL_law_769 dL_law_770 dL_law_771 dL_law_773 dL_law_774 dL_law_775 dL_law_780 (by decide) (fun hl => W.widen (by omega) (by omega) (kk S' code gA1 gB1 f1 H2 locs2 ls hG' hLI hS hl))
theorem law_c8 {p : Program} {l : Launch} {e : Env} {s : State} {m : MethodId} {args : Array Value} {below : List Frame} {meth : Method} {c : Code} {H : Heap} {locs : List Loc} {cells slots : Nat} {Q : State → Prop} {ls : Array Slot} {E : EE} {b L : Nat} {xs : Nat → Int32} (hst : l.stackTraces = false) (hC : LC p s m c E b L xs) {i o9 : Nat} {th : Int32} {S : St} {gA gB : Gh} {f : Nat → Int64} (hG : Good S) (hLI : LI E S S th gA gB o9 f H) (hS : va_S (LA s) s.heap H locs) (hl : lv_has ls 9 (LV b (gA.ad 1 0) (gB.ad 1 0) o9 i)) (hi : i + 6 ≤ L) (hcs : cells + 424 ≤ 601024 ∧ slots + 4952 ≤ 7293034)
    (kk : ∀ (S' : St) (th' : Int32) (gA1 gB1 : Gh) (f1 : Nat → Int64) (H1 : Heap) (locs1 : List Loc) (ls1 : Array Slot), Good S' → LI E S' S' th' gA1 gB1 o9 f1 H1 → va_S (LA s) s.heap H1 locs1 → lv_has ls1 9 (LV b (gA1.ad 1 0) (gB1.ad 1 0) o9 i) → W p l e room_1 s m args below meth c H1 locs1 (cells + 424) (slots + 4952) Q (F0 m 1954 ls1 [])) : W p l e room_1 s m args below meth c H locs cells slots Q (F0 m 783 ls []) := by
  obtain ⟨hx, hb, hml, hown, hZ, hX0, hX, hbl, hN, hL⟩ := id hC
  have hT := hZ.1.1.1
  obtain ⟨S', code, ans, b', hG', hH, hR, ha⟩ := j_rate (l := l) (E := E) hst hG (xs (i + 1)) (xs (i + 2)) (xs (i + 3))
  refine lv_aload_n hx hb dL_law_783 rfl (lv_at hl 1 rfl) ?_
  refine law_ld hC (j := 1) hS (lv_at hl 0 rfl) (lv_at hl 4 rfl) rfl (by omega) dL_law_784 dL_law_785 dL_law_787 dL_law_788 dL_law_789 ?_
  refine law_ld hC (j := 2) hS (lv_at hl 0 rfl) (lv_at hl 4 rfl) rfl (by omega) dL_law_790 dL_law_791 dL_law_793 dL_law_794 dL_law_795 ?_
  refine law_ld hC (j := 3) hS (lv_at hl 0 rfl) (lv_at hl 4 rfl) rfl (by omega) dL_law_796 dL_law_797 dL_law_799 dL_law_800 dL_law_801 ?_
  refine lv_aload_n hx hb dL_law_802 rfl (lv_at hl 3 rfl) ?_
  refine wl_H hC (k := 5) hLI hS hl (hH gA o9) (zh_L_rate hT) (zm_L_131 hT) (zt_L_rate hT) ⟨rfl, by decide +kernel⟩ (fun U a h => zh_L_rate h) rfl rfl (by decide) (Nat.le_of_ble_eq_true rfl) ⟨by omega, by omega⟩ dL_law_803 (fun gA1 f1 H1 locs1 hLI e1 hf hS => ?_)
  refine lv_istore (lv' := (5, .int code) :: LV b (gA.ad 1 0) (gB.ad 1 0) o9 i) hx hb dL_law_806 hl (by decide) rfl (fun ls hl => ?_)
  refine lv_aload_n hx hb dL_law_808 rfl (lv_at hl 3 rfl) ?_
  refine law_ld hC (j := 1) hS (lv_at hl 1 rfl) (lv_at hl 5 rfl) rfl (by omega) dL_law_809 dL_law_810 dL_law_812 dL_law_813 dL_law_814 ?_
  refine law_ld hC (j := 2) hS (lv_at hl 1 rfl) (lv_at hl 5 rfl) rfl (by omega) dL_law_815 dL_law_816 dL_law_818 dL_law_819 dL_law_820 ?_
  refine law_ld hC (j := 3) hS (lv_at hl 1 rfl) (lv_at hl 5 rfl) rfl (by omega) dL_law_821 dL_law_822 dL_law_824 dL_law_825 dL_law_826 ?_
  refine wl_R hC (k := 3) hLI hS hl hR (zm_L_133 hT) kv_X12_rate rfl rfl (by decide) (Nat.le_of_ble_eq_true rfl) ⟨by omega, by omega⟩ dL_law_827 (fun gB1 H2 locs2 hLI e2 hS => ?_)
  refine lv_istore (lv' := (6, .int b') :: (5, .int code) :: LV b (gA.ad 1 0) (gB.ad 1 0) o9 i) hx hb dL_law_830 hl (by decide) rfl (fun ls hl => ?_)
  rw [← e1, ← e2] at hl
  exact law_tail hC hG' hLI hS hl ⟨by omega, by omega⟩ hf ha dL_law_832 dL_law_833 dL_law_836 dL_law_838 dL_law_843 dL_law_845 dL_law_848 dL_law_849 dL_law_850 dL_law_851 dL_law_853 dL_law_854 dL_law_855 dL_law_860 (by decide) (fun hl => W.widen (by omega) (by omega) (kk S' code gA1 gB1 f1 H2 locs2 ls hG' hLI hS hl))
theorem law_c9 {p : Program} {l : Launch} {e : Env} {s : State} {m : MethodId} {args : Array Value} {below : List Frame} {meth : Method} {c : Code} {H : Heap} {locs : List Loc} {cells slots : Nat} {Q : State → Prop} {ls : Array Slot} {E : EE} {b L : Nat} {xs : Nat → Int32} (hst : l.stackTraces = false) (hC : LC p s m c E b L xs) {i o9 : Nat} {th : Int32} {S : St} {gA gB : Gh} {f : Nat → Int64} (hG : Good S) (hLI : LI E S S th gA gB o9 f H) (hS : va_S (LA s) s.heap H locs) (hl : lv_has ls 9 (LV b (gA.ad 1 0) (gB.ad 1 0) o9 i)) (hi : i + 6 ≤ L) (hcs : cells + 424 ≤ 601024 ∧ slots + 4952 ≤ 7293034)
    (kk : ∀ (S' : St) (th' : Int32) (gA1 gB1 : Gh) (f1 : Nat → Int64) (H1 : Heap) (locs1 : List Loc) (ls1 : Array Slot), Good S' → LI E S' S' th' gA1 gB1 o9 f1 H1 → va_S (LA s) s.heap H1 locs1 → lv_has ls1 9 (LV b (gA1.ad 1 0) (gB1.ad 1 0) o9 i) → W p l e room_1 s m args below meth c H1 locs1 (cells + 424) (slots + 4952) Q (F0 m 1954 ls1 [])) : W p l e room_1 s m args below meth c H locs cells slots Q (F0 m 863 ls []) := by
  obtain ⟨hx, hb, hml, hown, hZ, hX0, hX, hbl, hN, hL⟩ := id hC
  have hT := hZ.1.1.1
  obtain ⟨S', code, ans, b', hG', hH, hR, ha⟩ := j_left (l := l) (E := E) hst hG (xs (i + 1)) (xs (i + 2))
  refine lv_aload_n hx hb dL_law_863 rfl (lv_at hl 1 rfl) ?_
  refine law_ld hC (j := 1) hS (lv_at hl 0 rfl) (lv_at hl 4 rfl) rfl (by omega) dL_law_864 dL_law_865 dL_law_867 dL_law_868 dL_law_869 ?_
  refine law_ld hC (j := 2) hS (lv_at hl 0 rfl) (lv_at hl 4 rfl) rfl (by omega) dL_law_870 dL_law_871 dL_law_873 dL_law_874 dL_law_875 ?_
  refine lv_aload_n hx hb dL_law_876 rfl (lv_at hl 3 rfl) ?_
  refine wl_H hC (k := 4) hLI hS hl (hH gA o9) (zh_L_left hT) (zm_L_134 hT) (zt_L_left hT) ⟨rfl, by decide +kernel⟩ (fun U a h => zh_L_left h) rfl rfl (by decide) (Nat.le_of_ble_eq_true rfl) ⟨by omega, by omega⟩ dL_law_877 (fun gA1 f1 H1 locs1 hLI e1 hf hS => ?_)
  refine lv_istore (lv' := (5, .int code) :: LV b (gA.ad 1 0) (gB.ad 1 0) o9 i) hx hb dL_law_880 hl (by decide) rfl (fun ls hl => ?_)
  refine lv_aload_n hx hb dL_law_882 rfl (lv_at hl 3 rfl) ?_
  refine law_ld hC (j := 1) hS (lv_at hl 1 rfl) (lv_at hl 5 rfl) rfl (by omega) dL_law_883 dL_law_884 dL_law_886 dL_law_887 dL_law_888 ?_
  refine law_ld hC (j := 2) hS (lv_at hl 1 rfl) (lv_at hl 5 rfl) rfl (by omega) dL_law_889 dL_law_890 dL_law_892 dL_law_893 dL_law_894 ?_
  refine wl_R hC (k := 2) hLI hS hl hR (zm_L_136 hT) kv_X12_left rfl rfl (by decide) (Nat.le_of_ble_eq_true rfl) ⟨by omega, by omega⟩ dL_law_895 (fun gB1 H2 locs2 hLI e2 hS => ?_)
  refine lv_istore (lv' := (6, .int b') :: (5, .int code) :: LV b (gA.ad 1 0) (gB.ad 1 0) o9 i) hx hb dL_law_898 hl (by decide) rfl (fun ls hl => ?_)
  rw [← e1, ← e2] at hl
  exact law_tail hC hG' hLI hS hl ⟨by omega, by omega⟩ hf ha dL_law_900 dL_law_901 dL_law_904 dL_law_906 dL_law_911 dL_law_913 dL_law_916 dL_law_917 dL_law_918 dL_law_919 dL_law_921 dL_law_922 dL_law_923 dL_law_928 (by decide) (fun hl => W.widen (by omega) (by omega) (kk S' code gA1 gB1 f1 H2 locs2 ls hG' hLI hS hl))
theorem law_c10 {p : Program} {l : Launch} {e : Env} {s : State} {m : MethodId} {args : Array Value} {below : List Frame} {meth : Method} {c : Code} {H : Heap} {locs : List Loc} {cells slots : Nat} {Q : State → Prop} {ls : Array Slot} {E : EE} {b L : Nat} {xs : Nat → Int32} (hst : l.stackTraces = false) (hC : LC p s m c E b L xs) {i o9 : Nat} {th : Int32} {S : St} {gA gB : Gh} {f : Nat → Int64} (hG : Good S) (hLI : LI E S S th gA gB o9 f H) (hS : va_S (LA s) s.heap H locs) (hl : lv_has ls 9 (LV b (gA.ad 1 0) (gB.ad 1 0) o9 i)) (hi : i + 6 ≤ L) (hcs : cells + 424 ≤ 601024 ∧ slots + 4952 ≤ 7293034)
    (kk : ∀ (S' : St) (th' : Int32) (gA1 gB1 : Gh) (f1 : Nat → Int64) (H1 : Heap) (locs1 : List Loc) (ls1 : Array Slot), Good S' → LI E S' S' th' gA1 gB1 o9 f1 H1 → va_S (LA s) s.heap H1 locs1 → lv_has ls1 9 (LV b (gA1.ad 1 0) (gB1.ad 1 0) o9 i) → W p l e room_1 s m args below meth c H1 locs1 (cells + 424) (slots + 4952) Q (F0 m 1954 ls1 [])) : W p l e room_1 s m args below meth c H locs cells slots Q (F0 m 931 ls []) := by
  obtain ⟨hx, hb, hml, hown, hZ, hX0, hX, hbl, hN, hL⟩ := id hC
  have hT := hZ.1.1.1
  obtain ⟨S', code, ans, b', hG', hH, hR, ha⟩ := j_charge (l := l) (E := E) hst hG (xs (i + 1)) (xs (i + 2)) (xs (i + 3)) (xs (i + 4)) (xs (i + 5))
  refine lv_aload_n hx hb dL_law_931 rfl (lv_at hl 1 rfl) ?_
  refine law_ld hC (j := 1) hS (lv_at hl 0 rfl) (lv_at hl 4 rfl) rfl (by omega) dL_law_932 dL_law_933 dL_law_935 dL_law_936 dL_law_937 ?_
  refine law_ld hC (j := 2) hS (lv_at hl 0 rfl) (lv_at hl 4 rfl) rfl (by omega) dL_law_938 dL_law_939 dL_law_941 dL_law_942 dL_law_943 ?_
  refine law_ld hC (j := 3) hS (lv_at hl 0 rfl) (lv_at hl 4 rfl) rfl (by omega) dL_law_944 dL_law_945 dL_law_947 dL_law_948 dL_law_949 ?_
  refine law_ld hC (j := 4) hS (lv_at hl 0 rfl) (lv_at hl 4 rfl) rfl (by omega) dL_law_950 dL_law_951 dL_law_953 dL_law_954 dL_law_955 ?_
  refine law_ld hC (j := 5) hS (lv_at hl 0 rfl) (lv_at hl 4 rfl) rfl (by omega) dL_law_956 dL_law_957 dL_law_959 dL_law_960 dL_law_961 ?_
  refine lv_aload_n hx hb dL_law_962 rfl (lv_at hl 3 rfl) ?_
  refine wl_H hC (k := 7) hLI hS hl (hH gA o9) (zh_L_charge hT) (zm_L_137 hT) (zt_L_charge hT) ⟨rfl, by decide +kernel⟩ (fun U a h => zh_L_charge h) rfl rfl (by decide) (Nat.le_of_ble_eq_true rfl) ⟨by omega, by omega⟩ dL_law_963 (fun gA1 f1 H1 locs1 hLI e1 hf hS => ?_)
  refine lv_istore (lv' := (5, .int code) :: LV b (gA.ad 1 0) (gB.ad 1 0) o9 i) hx hb dL_law_966 hl (by decide) rfl (fun ls hl => ?_)
  refine lv_aload_n hx hb dL_law_968 rfl (lv_at hl 3 rfl) ?_
  refine law_ld hC (j := 1) hS (lv_at hl 1 rfl) (lv_at hl 5 rfl) rfl (by omega) dL_law_969 dL_law_970 dL_law_972 dL_law_973 dL_law_974 ?_
  refine law_ld hC (j := 2) hS (lv_at hl 1 rfl) (lv_at hl 5 rfl) rfl (by omega) dL_law_975 dL_law_976 dL_law_978 dL_law_979 dL_law_980 ?_
  refine law_ld hC (j := 3) hS (lv_at hl 1 rfl) (lv_at hl 5 rfl) rfl (by omega) dL_law_981 dL_law_982 dL_law_984 dL_law_985 dL_law_986 ?_
  refine law_ld hC (j := 4) hS (lv_at hl 1 rfl) (lv_at hl 5 rfl) rfl (by omega) dL_law_987 dL_law_988 dL_law_990 dL_law_991 dL_law_992 ?_
  refine law_ld hC (j := 5) hS (lv_at hl 1 rfl) (lv_at hl 5 rfl) rfl (by omega) dL_law_993 dL_law_994 dL_law_996 dL_law_997 dL_law_998 ?_
  refine wl_R hC (k := 5) hLI hS hl hR (zm_L_139 hT) kv_X12_charge rfl rfl (by decide) (Nat.le_of_ble_eq_true rfl) ⟨by omega, by omega⟩ dL_law_999 (fun gB1 H2 locs2 hLI e2 hS => ?_)
  refine lv_istore (lv' := (6, .int b') :: (5, .int code) :: LV b (gA.ad 1 0) (gB.ad 1 0) o9 i) hx hb dL_law_1002 hl (by decide) rfl (fun ls hl => ?_)
  rw [← e1, ← e2] at hl
  exact law_tail hC hG' hLI hS hl ⟨by omega, by omega⟩ hf ha dL_law_1004 dL_law_1005 dL_law_1008 dL_law_1010 dL_law_1015 dL_law_1017 dL_law_1020 dL_law_1021 dL_law_1022 dL_law_1023 dL_law_1025 dL_law_1026 dL_law_1027 dL_law_1032 (by decide) (fun hl => W.widen (by omega) (by omega) (kk S' code gA1 gB1 f1 H2 locs2 ls hG' hLI hS hl))
theorem law_c11 {p : Program} {l : Launch} {e : Env} {s : State} {m : MethodId} {args : Array Value} {below : List Frame} {meth : Method} {c : Code} {H : Heap} {locs : List Loc} {cells slots : Nat} {Q : State → Prop} {ls : Array Slot} {E : EE} {b L : Nat} {xs : Nat → Int32} (hst : l.stackTraces = false) (hC : LC p s m c E b L xs) {i o9 : Nat} {th : Int32} {S : St} {gA gB : Gh} {f : Nat → Int64} (hG : Good S) (hLI : LI E S S th gA gB o9 f H) (hS : va_S (LA s) s.heap H locs) (hl : lv_has ls 9 (LV b (gA.ad 1 0) (gB.ad 1 0) o9 i)) (hi : i + 6 ≤ L) (hcs : cells + 424 ≤ 601024 ∧ slots + 4952 ≤ 7293034)
    (kk : ∀ (S' : St) (th' : Int32) (gA1 gB1 : Gh) (f1 : Nat → Int64) (H1 : Heap) (locs1 : List Loc) (ls1 : Array Slot), Good S' → LI E S' S' th' gA1 gB1 o9 f1 H1 → va_S (LA s) s.heap H1 locs1 → lv_has ls1 9 (LV b (gA1.ad 1 0) (gB1.ad 1 0) o9 i) → W p l e room_1 s m args below meth c H1 locs1 (cells + 424) (slots + 4952) Q (F0 m 1954 ls1 [])) : W p l e room_1 s m args below meth c H locs cells slots Q (F0 m 1035 ls []) := by
  obtain ⟨hx, hb, hml, hown, hZ, hX0, hX, hbl, hN, hL⟩ := id hC
  have hT := hZ.1.1.1
  obtain ⟨S', code, ans, b', hG', hH, hR, ha⟩ := j_receipt (l := l) (E := E) hst hG (xs (i + 1)) (xs (i + 2)) (xs (i + 3))
  refine lv_aload_n hx hb dL_law_1035 rfl (lv_at hl 1 rfl) ?_
  refine law_ld hC (j := 1) hS (lv_at hl 0 rfl) (lv_at hl 4 rfl) rfl (by omega) dL_law_1036 dL_law_1037 dL_law_1039 dL_law_1040 dL_law_1041 ?_
  refine law_ld hC (j := 2) hS (lv_at hl 0 rfl) (lv_at hl 4 rfl) rfl (by omega) dL_law_1042 dL_law_1043 dL_law_1045 dL_law_1046 dL_law_1047 ?_
  refine law_ld hC (j := 3) hS (lv_at hl 0 rfl) (lv_at hl 4 rfl) rfl (by omega) dL_law_1048 dL_law_1049 dL_law_1051 dL_law_1052 dL_law_1053 ?_
  refine lv_aload_n hx hb dL_law_1054 rfl (lv_at hl 3 rfl) ?_
  refine wl_H hC (k := 5) hLI hS hl (hH gA o9) (zh_L_receipt hT) (zm_L_140 hT) (zt_L_receipt hT) ⟨rfl, by decide +kernel⟩ (fun U a h => zh_L_receipt h) rfl rfl (by decide) (Nat.le_of_ble_eq_true rfl) ⟨by omega, by omega⟩ dL_law_1055 (fun gA1 f1 H1 locs1 hLI e1 hf hS => ?_)
  refine lv_istore (lv' := (5, .int code) :: LV b (gA.ad 1 0) (gB.ad 1 0) o9 i) hx hb dL_law_1058 hl (by decide) rfl (fun ls hl => ?_)
  refine lv_aload_n hx hb dL_law_1060 rfl (lv_at hl 3 rfl) ?_
  refine law_ld hC (j := 1) hS (lv_at hl 1 rfl) (lv_at hl 5 rfl) rfl (by omega) dL_law_1061 dL_law_1062 dL_law_1064 dL_law_1065 dL_law_1066 ?_
  refine law_ld hC (j := 2) hS (lv_at hl 1 rfl) (lv_at hl 5 rfl) rfl (by omega) dL_law_1067 dL_law_1068 dL_law_1070 dL_law_1071 dL_law_1072 ?_
  refine law_ld hC (j := 3) hS (lv_at hl 1 rfl) (lv_at hl 5 rfl) rfl (by omega) dL_law_1073 dL_law_1074 dL_law_1076 dL_law_1077 dL_law_1078 ?_
  refine wl_R hC (k := 3) hLI hS hl hR (zm_L_142 hT) kv_X12_receipt rfl rfl (by decide) (Nat.le_of_ble_eq_true rfl) ⟨by omega, by omega⟩ dL_law_1079 (fun gB1 H2 locs2 hLI e2 hS => ?_)
  refine lv_istore (lv' := (6, .int b') :: (5, .int code) :: LV b (gA.ad 1 0) (gB.ad 1 0) o9 i) hx hb dL_law_1082 hl (by decide) rfl (fun ls hl => ?_)
  rw [← e1, ← e2] at hl
  exact law_tail hC hG' hLI hS hl ⟨by omega, by omega⟩ hf ha dL_law_1084 dL_law_1085 dL_law_1088 dL_law_1090 dL_law_1095 dL_law_1097 dL_law_1100 dL_law_1101 dL_law_1102 dL_law_1103 dL_law_1105 dL_law_1106 dL_law_1107 dL_law_1112 (by decide) (fun hl => W.widen (by omega) (by omega) (kk S' code gA1 gB1 f1 H2 locs2 ls hG' hLI hS hl))
theorem law_c12 {p : Program} {l : Launch} {e : Env} {s : State} {m : MethodId} {args : Array Value} {below : List Frame} {meth : Method} {c : Code} {H : Heap} {locs : List Loc} {cells slots : Nat} {Q : State → Prop} {ls : Array Slot} {E : EE} {b L : Nat} {xs : Nat → Int32} (hst : l.stackTraces = false) (hC : LC p s m c E b L xs) {i o9 : Nat} {th : Int32} {S : St} {gA gB : Gh} {f : Nat → Int64} (hG : Good S) (hLI : LI E S S th gA gB o9 f H) (hS : va_S (LA s) s.heap H locs) (hl : lv_has ls 9 (LV b (gA.ad 1 0) (gB.ad 1 0) o9 i)) (hi : i + 6 ≤ L) (hcs : cells + 424 ≤ 601024 ∧ slots + 4952 ≤ 7293034)
    (kk : ∀ (S' : St) (th' : Int32) (gA1 gB1 : Gh) (f1 : Nat → Int64) (H1 : Heap) (locs1 : List Loc) (ls1 : Array Slot), Good S' → LI E S' S' th' gA1 gB1 o9 f1 H1 → va_S (LA s) s.heap H1 locs1 → lv_has ls1 9 (LV b (gA1.ad 1 0) (gB1.ad 1 0) o9 i) → W p l e room_1 s m args below meth c H1 locs1 (cells + 424) (slots + 4952) Q (F0 m 1954 ls1 [])) : W p l e room_1 s m args below meth c H locs cells slots Q (F0 m 1115 ls []) := by
  obtain ⟨hx, hb, hml, hown, hZ, hX0, hX, hbl, hN, hL⟩ := id hC
  have hT := hZ.1.1.1
  obtain ⟨S', code, ans, b', hG', hH, hR, ha⟩ := j_split (l := l) (E := E) hst hG (xs (i + 1))
  refine lv_aload_n hx hb dL_law_1115 rfl (lv_at hl 1 rfl) ?_
  refine law_ld hC (j := 1) hS (lv_at hl 0 rfl) (lv_at hl 4 rfl) rfl (by omega) dL_law_1116 dL_law_1117 dL_law_1119 dL_law_1120 dL_law_1121 ?_
  refine lv_aload_n hx hb dL_law_1122 rfl (lv_at hl 3 rfl) ?_
  refine wl_H hC (k := 3) hLI hS hl (hH gA o9) (zh_L_split hT) (zm_L_143 hT) (zt_L_split hT) ⟨rfl, by decide +kernel⟩ (fun U a h => zh_L_split h) rfl rfl (by decide) (Nat.le_of_ble_eq_true rfl) ⟨by omega, by omega⟩ dL_law_1123 (fun gA1 f1 H1 locs1 hLI e1 hf hS => ?_)
  refine lv_istore (lv' := (5, .int code) :: LV b (gA.ad 1 0) (gB.ad 1 0) o9 i) hx hb dL_law_1126 hl (by decide) rfl (fun ls hl => ?_)
  refine lv_aload_n hx hb dL_law_1128 rfl (lv_at hl 3 rfl) ?_
  refine law_ld hC (j := 1) hS (lv_at hl 1 rfl) (lv_at hl 5 rfl) rfl (by omega) dL_law_1129 dL_law_1130 dL_law_1132 dL_law_1133 dL_law_1134 ?_
  refine wl_R hC (k := 1) hLI hS hl hR (zm_L_145 hT) kv_X12_split rfl rfl (by decide) (Nat.le_of_ble_eq_true rfl) ⟨by omega, by omega⟩ dL_law_1135 (fun gB1 H2 locs2 hLI e2 hS => ?_)
  refine lv_istore (lv' := (6, .int b') :: (5, .int code) :: LV b (gA.ad 1 0) (gB.ad 1 0) o9 i) hx hb dL_law_1138 hl (by decide) rfl (fun ls hl => ?_)
  rw [← e1, ← e2] at hl
  exact law_tail hC hG' hLI hS hl ⟨by omega, by omega⟩ hf ha dL_law_1140 dL_law_1141 dL_law_1144 dL_law_1146 dL_law_1151 dL_law_1153 dL_law_1156 dL_law_1157 dL_law_1158 dL_law_1159 dL_law_1161 dL_law_1162 dL_law_1163 dL_law_1168 (by decide) (fun hl => W.widen (by omega) (by omega) (kk S' code gA1 gB1 f1 H2 locs2 ls hG' hLI hS hl))
theorem law_c13 {p : Program} {l : Launch} {e : Env} {s : State} {m : MethodId} {args : Array Value} {below : List Frame} {meth : Method} {c : Code} {H : Heap} {locs : List Loc} {cells slots : Nat} {Q : State → Prop} {ls : Array Slot} {E : EE} {b L : Nat} {xs : Nat → Int32} (hst : l.stackTraces = false) (hC : LC p s m c E b L xs) {i o9 : Nat} {th : Int32} {S : St} {gA gB : Gh} {f : Nat → Int64} (hG : Good S) (hLI : LI E S S th gA gB o9 f H) (hS : va_S (LA s) s.heap H locs) (hl : lv_has ls 9 (LV b (gA.ad 1 0) (gB.ad 1 0) o9 i)) (hi : i + 6 ≤ L) (hcs : cells + 424 ≤ 601024 ∧ slots + 4952 ≤ 7293034)
    (kk : ∀ (S' : St) (th' : Int32) (gA1 gB1 : Gh) (f1 : Nat → Int64) (H1 : Heap) (locs1 : List Loc) (ls1 : Array Slot), Good S' → LI E S' S' th' gA1 gB1 o9 f1 H1 → va_S (LA s) s.heap H1 locs1 → lv_has ls1 9 (LV b (gA1.ad 1 0) (gB1.ad 1 0) o9 i) → W p l e room_1 s m args below meth c H1 locs1 (cells + 424) (slots + 4952) Q (F0 m 1954 ls1 [])) : W p l e room_1 s m args below meth c H locs cells slots Q (F0 m 1171 ls []) := by
  obtain ⟨hx, hb, hml, hown, hZ, hX0, hX, hbl, hN, hL⟩ := id hC
  have hT := hZ.1.1.1
  obtain ⟨S', code, ans, b', hG', hH, hR, ha⟩ := j_approve (l := l) (E := E) hst hG (xs (i + 1)) (xs (i + 2))
  refine lv_aload_n hx hb dL_law_1171 rfl (lv_at hl 1 rfl) ?_
  refine law_ld hC (j := 1) hS (lv_at hl 0 rfl) (lv_at hl 4 rfl) rfl (by omega) dL_law_1172 dL_law_1173 dL_law_1175 dL_law_1176 dL_law_1177 ?_
  refine law_ld hC (j := 2) hS (lv_at hl 0 rfl) (lv_at hl 4 rfl) rfl (by omega) dL_law_1178 dL_law_1179 dL_law_1181 dL_law_1182 dL_law_1183 ?_
  refine lv_aload_n hx hb dL_law_1184 rfl (lv_at hl 3 rfl) ?_
  refine wl_H hC (k := 4) hLI hS hl (hH gA o9) (zh_L_approve hT) (zm_L_146 hT) (zt_L_approve hT) ⟨rfl, by decide +kernel⟩ (fun U a h => zh_L_approve h) rfl rfl (by decide) (Nat.le_of_ble_eq_true rfl) ⟨by omega, by omega⟩ dL_law_1185 (fun gA1 f1 H1 locs1 hLI e1 hf hS => ?_)
  refine lv_istore (lv' := (5, .int code) :: LV b (gA.ad 1 0) (gB.ad 1 0) o9 i) hx hb dL_law_1188 hl (by decide) rfl (fun ls hl => ?_)
  refine lv_aload_n hx hb dL_law_1190 rfl (lv_at hl 3 rfl) ?_
  refine law_ld hC (j := 1) hS (lv_at hl 1 rfl) (lv_at hl 5 rfl) rfl (by omega) dL_law_1191 dL_law_1192 dL_law_1194 dL_law_1195 dL_law_1196 ?_
  refine law_ld hC (j := 2) hS (lv_at hl 1 rfl) (lv_at hl 5 rfl) rfl (by omega) dL_law_1197 dL_law_1198 dL_law_1200 dL_law_1201 dL_law_1202 ?_
  refine wl_R hC (k := 2) hLI hS hl hR (zm_L_148 hT) kv_X12_approve rfl rfl (by decide) (Nat.le_of_ble_eq_true rfl) ⟨by omega, by omega⟩ dL_law_1203 (fun gB1 H2 locs2 hLI e2 hS => ?_)
  refine lv_istore (lv' := (6, .int b') :: (5, .int code) :: LV b (gA.ad 1 0) (gB.ad 1 0) o9 i) hx hb dL_law_1206 hl (by decide) rfl (fun ls hl => ?_)
  rw [← e1, ← e2] at hl
  exact law_tail hC hG' hLI hS hl ⟨by omega, by omega⟩ hf ha dL_law_1208 dL_law_1209 dL_law_1212 dL_law_1214 dL_law_1219 dL_law_1221 dL_law_1224 dL_law_1225 dL_law_1226 dL_law_1227 dL_law_1229 dL_law_1230 dL_law_1231 dL_law_1236 (by decide) (fun hl => W.widen (by omega) (by omega) (kk S' code gA1 gB1 f1 H2 locs2 ls hG' hLI hS hl))
theorem law_c14 {p : Program} {l : Launch} {e : Env} {s : State} {m : MethodId} {args : Array Value} {below : List Frame} {meth : Method} {c : Code} {H : Heap} {locs : List Loc} {cells slots : Nat} {Q : State → Prop} {ls : Array Slot} {E : EE} {b L : Nat} {xs : Nat → Int32} (hst : l.stackTraces = false) (hC : LC p s m c E b L xs) {i o9 : Nat} {th : Int32} {S : St} {gA gB : Gh} {f : Nat → Int64} (hG : Good S) (hLI : LI E S S th gA gB o9 f H) (hS : va_S (LA s) s.heap H locs) (hl : lv_has ls 9 (LV b (gA.ad 1 0) (gB.ad 1 0) o9 i)) (hi : i + 6 ≤ L) (hcs : cells + 424 ≤ 601024 ∧ slots + 4952 ≤ 7293034)
    (kk : ∀ (S' : St) (th' : Int32) (gA1 gB1 : Gh) (f1 : Nat → Int64) (H1 : Heap) (locs1 : List Loc) (ls1 : Array Slot), Good S' → LI E S' S' th' gA1 gB1 o9 f1 H1 → va_S (LA s) s.heap H1 locs1 → lv_has ls1 9 (LV b (gA1.ad 1 0) (gB1.ad 1 0) o9 i) → W p l e room_1 s m args below meth c H1 locs1 (cells + 424) (slots + 4952) Q (F0 m 1954 ls1 [])) : W p l e room_1 s m args below meth c H locs cells slots Q (F0 m 1239 ls []) := by
  obtain ⟨hx, hb, hml, hown, hZ, hX0, hX, hbl, hN, hL⟩ := id hC
  have hT := hZ.1.1.1
  obtain ⟨S', code, ans, b', hG', hH, hR, ha⟩ := j_refuse (l := l) (E := E) hst hG (xs (i + 1)) (xs (i + 2))
  refine lv_aload_n hx hb dL_law_1239 rfl (lv_at hl 1 rfl) ?_
  refine law_ld hC (j := 1) hS (lv_at hl 0 rfl) (lv_at hl 4 rfl) rfl (by omega) dL_law_1240 dL_law_1241 dL_law_1243 dL_law_1244 dL_law_1245 ?_
  refine law_ld hC (j := 2) hS (lv_at hl 0 rfl) (lv_at hl 4 rfl) rfl (by omega) dL_law_1246 dL_law_1247 dL_law_1249 dL_law_1250 dL_law_1251 ?_
  refine lv_aload_n hx hb dL_law_1252 rfl (lv_at hl 3 rfl) ?_
  refine wl_H hC (k := 4) hLI hS hl (hH gA o9) (zh_L_refuse hT) (zm_L_149 hT) (zt_L_refuse hT) ⟨rfl, by decide +kernel⟩ (fun U a h => zh_L_refuse h) rfl rfl (by decide) (Nat.le_of_ble_eq_true rfl) ⟨by omega, by omega⟩ dL_law_1253 (fun gA1 f1 H1 locs1 hLI e1 hf hS => ?_)
  refine lv_istore (lv' := (5, .int code) :: LV b (gA.ad 1 0) (gB.ad 1 0) o9 i) hx hb dL_law_1256 hl (by decide) rfl (fun ls hl => ?_)
  refine lv_aload_n hx hb dL_law_1258 rfl (lv_at hl 3 rfl) ?_
  refine law_ld hC (j := 1) hS (lv_at hl 1 rfl) (lv_at hl 5 rfl) rfl (by omega) dL_law_1259 dL_law_1260 dL_law_1262 dL_law_1263 dL_law_1264 ?_
  refine law_ld hC (j := 2) hS (lv_at hl 1 rfl) (lv_at hl 5 rfl) rfl (by omega) dL_law_1265 dL_law_1266 dL_law_1268 dL_law_1269 dL_law_1270 ?_
  refine wl_R hC (k := 2) hLI hS hl hR (zm_L_151 hT) kv_X12_refuse_ rfl rfl (by decide) (Nat.le_of_ble_eq_true rfl) ⟨by omega, by omega⟩ dL_law_1271 (fun gB1 H2 locs2 hLI e2 hS => ?_)
  refine lv_istore (lv' := (6, .int b') :: (5, .int code) :: LV b (gA.ad 1 0) (gB.ad 1 0) o9 i) hx hb dL_law_1274 hl (by decide) rfl (fun ls hl => ?_)
  rw [← e1, ← e2] at hl
  exact law_tail hC hG' hLI hS hl ⟨by omega, by omega⟩ hf ha dL_law_1276 dL_law_1277 dL_law_1280 dL_law_1282 dL_law_1287 dL_law_1289 dL_law_1292 dL_law_1293 dL_law_1294 dL_law_1295 dL_law_1297 dL_law_1298 dL_law_1299 dL_law_1304 (by decide) (fun hl => W.widen (by omega) (by omega) (kk S' code gA1 gB1 f1 H2 locs2 ls hG' hLI hS hl))
theorem law_c15 {p : Program} {l : Launch} {e : Env} {s : State} {m : MethodId} {args : Array Value} {below : List Frame} {meth : Method} {c : Code} {H : Heap} {locs : List Loc} {cells slots : Nat} {Q : State → Prop} {ls : Array Slot} {E : EE} {b L : Nat} {xs : Nat → Int32} (hst : l.stackTraces = false) (hC : LC p s m c E b L xs) {i o9 : Nat} {th : Int32} {S : St} {gA gB : Gh} {f : Nat → Int64} (hG : Good S) (hLI : LI E S S th gA gB o9 f H) (hS : va_S (LA s) s.heap H locs) (hl : lv_has ls 9 (LV b (gA.ad 1 0) (gB.ad 1 0) o9 i)) (hi : i + 6 ≤ L) (hcs : cells + 424 ≤ 601024 ∧ slots + 4952 ≤ 7293034)
    (kk : ∀ (S' : St) (th' : Int32) (gA1 gB1 : Gh) (f1 : Nat → Int64) (H1 : Heap) (locs1 : List Loc) (ls1 : Array Slot), Good S' → LI E S' S' th' gA1 gB1 o9 f1 H1 → va_S (LA s) s.heap H1 locs1 → lv_has ls1 9 (LV b (gA1.ad 1 0) (gB1.ad 1 0) o9 i) → W p l e room_1 s m args below meth c H1 locs1 (cells + 424) (slots + 4952) Q (F0 m 1954 ls1 [])) : W p l e room_1 s m args below meth c H locs cells slots Q (F0 m 1307 ls []) := by
  obtain ⟨hx, hb, hml, hown, hZ, hX0, hX, hbl, hN, hL⟩ := id hC
  have hT := hZ.1.1.1
  obtain ⟨S', code, ans, b', hG', hH, hR, ha⟩ := j_settle (l := l) (E := E) hst hG (xs (i + 1)) (nz (xs (i + 2)))
  refine lv_aload_n hx hb dL_law_1307 rfl (lv_at hl 1 rfl) ?_
  refine law_ld hC (j := 1) hS (lv_at hl 0 rfl) (lv_at hl 4 rfl) rfl (by omega) dL_law_1308 dL_law_1309 dL_law_1311 dL_law_1312 dL_law_1313 ?_
  refine law_ld hC (j := 2) hS (lv_at hl 0 rfl) (lv_at hl 4 rfl) rfl (by omega) dL_law_1314 dL_law_1315 dL_law_1317 dL_law_1318 dL_law_1319 ?_
  refine law_nz hx hb dL_law_1320 dL_law_1323 dL_law_1324 dL_law_1327 ?_
  refine lv_aload_n hx hb dL_law_1328 rfl (lv_at hl 3 rfl) ?_
  refine wl_H hC (k := 4) hLI hS hl (hH gA o9) (zh_L_settle hT) (zm_L_152 hT) (zt_L_settle hT) ⟨rfl, by decide +kernel⟩ (fun U a h => zh_L_settle h) rfl rfl (by decide) (Nat.le_of_ble_eq_true rfl) ⟨by omega, by omega⟩ dL_law_1329 (fun gA1 f1 H1 locs1 hLI e1 hf hS => ?_)
  refine lv_istore (lv' := (5, .int code) :: LV b (gA.ad 1 0) (gB.ad 1 0) o9 i) hx hb dL_law_1332 hl (by decide) rfl (fun ls hl => ?_)
  refine lv_aload_n hx hb dL_law_1334 rfl (lv_at hl 3 rfl) ?_
  refine law_ld hC (j := 1) hS (lv_at hl 1 rfl) (lv_at hl 5 rfl) rfl (by omega) dL_law_1335 dL_law_1336 dL_law_1338 dL_law_1339 dL_law_1340 ?_
  refine law_ld hC (j := 2) hS (lv_at hl 1 rfl) (lv_at hl 5 rfl) rfl (by omega) dL_law_1341 dL_law_1342 dL_law_1344 dL_law_1345 dL_law_1346 ?_
  refine law_nz hx hb dL_law_1347 dL_law_1350 dL_law_1351 dL_law_1354 ?_
  refine wl_R hC (k := 2) hLI hS hl hR (zm_L_155 hT) kv_X12_settle rfl rfl (by decide) (Nat.le_of_ble_eq_true rfl) ⟨by omega, by omega⟩ dL_law_1355 (fun gB1 H2 locs2 hLI e2 hS => ?_)
  refine lv_istore (lv' := (6, .int b') :: (5, .int code) :: LV b (gA.ad 1 0) (gB.ad 1 0) o9 i) hx hb dL_law_1358 hl (by decide) rfl (fun ls hl => ?_)
  rw [← e1, ← e2] at hl
  exact law_tail hC hG' hLI hS hl ⟨by omega, by omega⟩ hf ha dL_law_1360 dL_law_1361 dL_law_1364 dL_law_1366 dL_law_1371 dL_law_1373 dL_law_1376 dL_law_1377 dL_law_1378 dL_law_1379 dL_law_1381 dL_law_1382 dL_law_1383 dL_law_1388 (by decide) (fun hl => W.widen (by omega) (by omega) (kk S' code gA1 gB1 f1 H2 locs2 ls hG' hLI hS hl))
theorem law_c16 {p : Program} {l : Launch} {e : Env} {s : State} {m : MethodId} {args : Array Value} {below : List Frame} {meth : Method} {c : Code} {H : Heap} {locs : List Loc} {cells slots : Nat} {Q : State → Prop} {ls : Array Slot} {E : EE} {b L : Nat} {xs : Nat → Int32} (hst : l.stackTraces = false) (hC : LC p s m c E b L xs) {i o9 : Nat} {th : Int32} {S : St} {gA gB : Gh} {f : Nat → Int64} (hG : Good S) (hLI : LI E S S th gA gB o9 f H) (hS : va_S (LA s) s.heap H locs) (hl : lv_has ls 9 (LV b (gA.ad 1 0) (gB.ad 1 0) o9 i)) (hi : i + 6 ≤ L) (hcs : cells + 424 ≤ 601024 ∧ slots + 4952 ≤ 7293034)
    (kk : ∀ (S' : St) (th' : Int32) (gA1 gB1 : Gh) (f1 : Nat → Int64) (H1 : Heap) (locs1 : List Loc) (ls1 : Array Slot), Good S' → LI E S' S' th' gA1 gB1 o9 f1 H1 → va_S (LA s) s.heap H1 locs1 → lv_has ls1 9 (LV b (gA1.ad 1 0) (gB1.ad 1 0) o9 i) → W p l e room_1 s m args below meth c H1 locs1 (cells + 424) (slots + 4952) Q (F0 m 1954 ls1 [])) : W p l e room_1 s m args below meth c H locs cells slots Q (F0 m 1391 ls []) := by
  obtain ⟨hx, hb, hml, hown, hZ, hX0, hX, hbl, hN, hL⟩ := id hC
  have hT := hZ.1.1.1
  obtain ⟨S', code, ans, b', hG', hH, hR, ha⟩ := j_ofCharge (l := l) (E := E) hst hG (xs (i + 1)) (xs (i + 2))
  refine lv_aload_n hx hb dL_law_1391 rfl (lv_at hl 1 rfl) ?_
  refine law_ld hC (j := 1) hS (lv_at hl 0 rfl) (lv_at hl 4 rfl) rfl (by omega) dL_law_1392 dL_law_1393 dL_law_1395 dL_law_1396 dL_law_1397 ?_
  refine law_ld hC (j := 2) hS (lv_at hl 0 rfl) (lv_at hl 4 rfl) rfl (by omega) dL_law_1398 dL_law_1399 dL_law_1401 dL_law_1402 dL_law_1403 ?_
  refine lv_aload_n hx hb dL_law_1404 rfl (lv_at hl 3 rfl) ?_
  refine wl_H hC (k := 4) hLI hS hl (hH gA o9) (zh_L_ofCharge hT) (zm_L_156 hT) (zt_L_ofCharge hT) ⟨rfl, by decide +kernel⟩ (fun U a h => zh_L_ofCharge h) rfl rfl (by decide) (Nat.le_of_ble_eq_true rfl) ⟨by omega, by omega⟩ dL_law_1405 (fun gA1 f1 H1 locs1 hLI e1 hf hS => ?_)
  refine lv_istore (lv' := (5, .int code) :: LV b (gA.ad 1 0) (gB.ad 1 0) o9 i) hx hb dL_law_1408 hl (by decide) rfl (fun ls hl => ?_)
  refine lv_aload_n hx hb dL_law_1410 rfl (lv_at hl 3 rfl) ?_
  refine law_ld hC (j := 1) hS (lv_at hl 1 rfl) (lv_at hl 5 rfl) rfl (by omega) dL_law_1411 dL_law_1412 dL_law_1414 dL_law_1415 dL_law_1416 ?_
  refine law_ld hC (j := 2) hS (lv_at hl 1 rfl) (lv_at hl 5 rfl) rfl (by omega) dL_law_1417 dL_law_1418 dL_law_1420 dL_law_1421 dL_law_1422 ?_
  refine wl_R hC (k := 2) hLI hS hl hR (zm_L_158 hT) kv_X12_ofCharge rfl rfl (by decide) (Nat.le_of_ble_eq_true rfl) ⟨by omega, by omega⟩ dL_law_1423 (fun gB1 H2 locs2 hLI e2 hS => ?_)
  refine lv_istore (lv' := (6, .int b') :: (5, .int code) :: LV b (gA.ad 1 0) (gB.ad 1 0) o9 i) hx hb dL_law_1426 hl (by decide) rfl (fun ls hl => ?_)
  rw [← e1, ← e2] at hl
  exact law_tail hC hG' hLI hS hl ⟨by omega, by omega⟩ hf ha dL_law_1428 dL_law_1429 dL_law_1432 dL_law_1434 dL_law_1439 dL_law_1441 dL_law_1444 dL_law_1445 dL_law_1446 dL_law_1447 dL_law_1449 dL_law_1450 dL_law_1451 dL_law_1456 (by decide) (fun hl => W.widen (by omega) (by omega) (kk S' code gA1 gB1 f1 H2 locs2 ls hG' hLI hS hl))
theorem law_c17 {p : Program} {l : Launch} {e : Env} {s : State} {m : MethodId} {args : Array Value} {below : List Frame} {meth : Method} {c : Code} {H : Heap} {locs : List Loc} {cells slots : Nat} {Q : State → Prop} {ls : Array Slot} {E : EE} {b L : Nat} {xs : Nat → Int32} (hst : l.stackTraces = false) (hC : LC p s m c E b L xs) {i o9 : Nat} {th : Int32} {S : St} {gA gB : Gh} {f : Nat → Int64} (hG : Good S) (hLI : LI E S S th gA gB o9 f H) (hS : va_S (LA s) s.heap H locs) (hl : lv_has ls 9 (LV b (gA.ad 1 0) (gB.ad 1 0) o9 i)) (hi : i + 6 ≤ L) (hcs : cells + 424 ≤ 601024 ∧ slots + 4952 ≤ 7293034)
    (kk : ∀ (S' : St) (th' : Int32) (gA1 gB1 : Gh) (f1 : Nat → Int64) (H1 : Heap) (locs1 : List Loc) (ls1 : Array Slot), Good S' → LI E S' S' th' gA1 gB1 o9 f1 H1 → va_S (LA s) s.heap H1 locs1 → lv_has ls1 9 (LV b (gA1.ad 1 0) (gB1.ad 1 0) o9 i) → W p l e room_1 s m args below meth c H1 locs1 (cells + 424) (slots + 4952) Q (F0 m 1954 ls1 [])) : W p l e room_1 s m args below meth c H locs cells slots Q (F0 m 1459 ls []) := by
  obtain ⟨hx, hb, hml, hown, hZ, hX0, hX, hbl, hN, hL⟩ := id hC
  have hT := hZ.1.1.1
  obtain ⟨S', code, ans, b', hG', hH, hR, ha⟩ := j_ofReceipt (l := l) (E := E) hst hG (xs (i + 1))
  refine lv_aload_n hx hb dL_law_1459 rfl (lv_at hl 1 rfl) ?_
  refine law_ld hC (j := 1) hS (lv_at hl 0 rfl) (lv_at hl 4 rfl) rfl (by omega) dL_law_1460 dL_law_1461 dL_law_1463 dL_law_1464 dL_law_1465 ?_
  refine lv_aload_n hx hb dL_law_1466 rfl (lv_at hl 3 rfl) ?_
  refine wl_H hC (k := 3) hLI hS hl (hH gA o9) (zh_L_ofReceipt hT) (zm_L_159 hT) (zt_L_ofReceipt hT) ⟨rfl, by decide +kernel⟩ (fun U a h => zh_L_ofReceipt h) rfl rfl (by decide) (Nat.le_of_ble_eq_true rfl) ⟨by omega, by omega⟩ dL_law_1467 (fun gA1 f1 H1 locs1 hLI e1 hf hS => ?_)
  refine lv_istore (lv' := (5, .int code) :: LV b (gA.ad 1 0) (gB.ad 1 0) o9 i) hx hb dL_law_1470 hl (by decide) rfl (fun ls hl => ?_)
  refine lv_aload_n hx hb dL_law_1472 rfl (lv_at hl 3 rfl) ?_
  refine law_ld hC (j := 1) hS (lv_at hl 1 rfl) (lv_at hl 5 rfl) rfl (by omega) dL_law_1473 dL_law_1474 dL_law_1476 dL_law_1477 dL_law_1478 ?_
  refine wl_R hC (k := 1) hLI hS hl hR (zm_L_161 hT) kv_X12_ofReceipt rfl rfl (by decide) (Nat.le_of_ble_eq_true rfl) ⟨by omega, by omega⟩ dL_law_1479 (fun gB1 H2 locs2 hLI e2 hS => ?_)
  refine lv_istore (lv' := (6, .int b') :: (5, .int code) :: LV b (gA.ad 1 0) (gB.ad 1 0) o9 i) hx hb dL_law_1482 hl (by decide) rfl (fun ls hl => ?_)
  rw [← e1, ← e2] at hl
  exact law_tail hC hG' hLI hS hl ⟨by omega, by omega⟩ hf ha dL_law_1484 dL_law_1485 dL_law_1488 dL_law_1490 dL_law_1495 dL_law_1497 dL_law_1500 dL_law_1501 dL_law_1502 dL_law_1503 dL_law_1505 dL_law_1506 dL_law_1507 dL_law_1512 (by decide) (fun hl => W.widen (by omega) (by omega) (kk S' code gA1 gB1 f1 H2 locs2 ls hG' hLI hS hl))
theorem law_c18 {p : Program} {l : Launch} {e : Env} {s : State} {m : MethodId} {args : Array Value} {below : List Frame} {meth : Method} {c : Code} {H : Heap} {locs : List Loc} {cells slots : Nat} {Q : State → Prop} {ls : Array Slot} {E : EE} {b L : Nat} {xs : Nat → Int32} (hst : l.stackTraces = false) (hC : LC p s m c E b L xs) {i o9 : Nat} {th : Int32} {S : St} {gA gB : Gh} {f : Nat → Int64} (hG : Good S) (hLI : LI E S S th gA gB o9 f H) (hS : va_S (LA s) s.heap H locs) (hl : lv_has ls 9 (LV b (gA.ad 1 0) (gB.ad 1 0) o9 i)) (hi : i + 6 ≤ L) (hcs : cells + 424 ≤ 601024 ∧ slots + 4952 ≤ 7293034)
    (kk : ∀ (S' : St) (th' : Int32) (gA1 gB1 : Gh) (f1 : Nat → Int64) (H1 : Heap) (locs1 : List Loc) (ls1 : Array Slot), Good S' → LI E S' S' th' gA1 gB1 o9 f1 H1 → va_S (LA s) s.heap H1 locs1 → lv_has ls1 9 (LV b (gA1.ad 1 0) (gB1.ad 1 0) o9 i) → W p l e room_1 s m args below meth c H1 locs1 (cells + 424) (slots + 4952) Q (F0 m 1954 ls1 [])) : W p l e room_1 s m args below meth c H locs cells slots Q (F0 m 1515 ls []) := by
  obtain ⟨hx, hb, hml, hown, hZ, hX0, hX, hbl, hN, hL⟩ := id hC
  have hT := hZ.1.1.1
  obtain ⟨S', code, ans, b', hG', hH, hR, ha⟩ := j_score (l := l) (E := E) hst hG (xs (i + 1)) (xs (i + 2))
  refine lv_aload_n hx hb dL_law_1515 rfl (lv_at hl 1 rfl) ?_
  refine law_ld hC (j := 1) hS (lv_at hl 0 rfl) (lv_at hl 4 rfl) rfl (by omega) dL_law_1516 dL_law_1517 dL_law_1519 dL_law_1520 dL_law_1521 ?_
  refine law_ld hC (j := 2) hS (lv_at hl 0 rfl) (lv_at hl 4 rfl) rfl (by omega) dL_law_1522 dL_law_1523 dL_law_1525 dL_law_1526 dL_law_1527 ?_
  refine lv_aload_n hx hb dL_law_1528 rfl (lv_at hl 3 rfl) ?_
  refine wl_H hC (k := 4) hLI hS hl (hH gA o9) (zh_L_score hT) (zm_L_162 hT) (zt_L_score hT) ⟨rfl, by decide +kernel⟩ (fun U a h => zh_L_score h) rfl rfl (by decide) (Nat.le_of_ble_eq_true rfl) ⟨by omega, by omega⟩ dL_law_1529 (fun gA1 f1 H1 locs1 hLI e1 hf hS => ?_)
  refine lv_istore (lv' := (5, .int code) :: LV b (gA.ad 1 0) (gB.ad 1 0) o9 i) hx hb dL_law_1532 hl (by decide) rfl (fun ls hl => ?_)
  refine lv_aload_n hx hb dL_law_1534 rfl (lv_at hl 3 rfl) ?_
  refine law_ld hC (j := 1) hS (lv_at hl 1 rfl) (lv_at hl 5 rfl) rfl (by omega) dL_law_1535 dL_law_1536 dL_law_1538 dL_law_1539 dL_law_1540 ?_
  refine law_ld hC (j := 2) hS (lv_at hl 1 rfl) (lv_at hl 5 rfl) rfl (by omega) dL_law_1541 dL_law_1542 dL_law_1544 dL_law_1545 dL_law_1546 ?_
  refine wl_R hC (k := 2) hLI hS hl hR (zm_L_164 hT) kv_X12_score rfl rfl (by decide) (Nat.le_of_ble_eq_true rfl) ⟨by omega, by omega⟩ dL_law_1547 (fun gB1 H2 locs2 hLI e2 hS => ?_)
  refine lv_istore (lv' := (6, .int b') :: (5, .int code) :: LV b (gA.ad 1 0) (gB.ad 1 0) o9 i) hx hb dL_law_1550 hl (by decide) rfl (fun ls hl => ?_)
  rw [← e1, ← e2] at hl
  exact law_tail hC hG' hLI hS hl ⟨by omega, by omega⟩ hf ha dL_law_1552 dL_law_1553 dL_law_1556 dL_law_1558 dL_law_1563 dL_law_1565 dL_law_1568 dL_law_1569 dL_law_1570 dL_law_1571 dL_law_1573 dL_law_1574 dL_law_1575 dL_law_1580 (by decide) (fun hl => W.widen (by omega) (by omega) (kk S' code gA1 gB1 f1 H2 locs2 ls hG' hLI hS hl))
theorem law_c19 {p : Program} {l : Launch} {e : Env} {s : State} {m : MethodId} {args : Array Value} {below : List Frame} {meth : Method} {c : Code} {H : Heap} {locs : List Loc} {cells slots : Nat} {Q : State → Prop} {ls : Array Slot} {E : EE} {b L : Nat} {xs : Nat → Int32} (hst : l.stackTraces = false) (hC : LC p s m c E b L xs) {i o9 : Nat} {th : Int32} {S : St} {gA gB : Gh} {f : Nat → Int64} (hG : Good S) (hLI : LI E S S th gA gB o9 f H) (hS : va_S (LA s) s.heap H locs) (hl : lv_has ls 9 (LV b (gA.ad 1 0) (gB.ad 1 0) o9 i)) (hi : i + 6 ≤ L) (hcs : cells + 424 ≤ 601024 ∧ slots + 4952 ≤ 7293034)
    (kk : ∀ (S' : St) (th' : Int32) (gA1 gB1 : Gh) (f1 : Nat → Int64) (H1 : Heap) (locs1 : List Loc) (ls1 : Array Slot), Good S' → LI E S' S' th' gA1 gB1 o9 f1 H1 → va_S (LA s) s.heap H1 locs1 → lv_has ls1 9 (LV b (gA1.ad 1 0) (gB1.ad 1 0) o9 i) → W p l e room_1 s m args below meth c H1 locs1 (cells + 424) (slots + 4952) Q (F0 m 1954 ls1 [])) : W p l e room_1 s m args below meth c H locs cells slots Q (F0 m 1583 ls []) := by
  obtain ⟨hx, hb, hml, hown, hZ, hX0, hX, hbl, hN, hL⟩ := id hC
  have hT := hZ.1.1.1
  obtain ⟨S', code, ans, b', hG', hH, hR, ha⟩ := j_day (l := l) (E := E) hst hG 
  refine lv_aload_n hx hb dL_law_1583 rfl (lv_at hl 1 rfl) ?_
  refine lv_aload_n hx hb dL_law_1584 rfl (lv_at hl 3 rfl) ?_
  refine wl_H hC (k := 2) hLI hS hl (hH gA o9) (zh_L_day hT) (zm_L_165 hT) (zt_L_day hT) ⟨rfl, by decide +kernel⟩ (fun U a h => zh_L_day h) rfl rfl (by decide) (Nat.le_of_ble_eq_true rfl) ⟨by omega, by omega⟩ dL_law_1585 (fun gA1 f1 H1 locs1 hLI e1 hf hS => ?_)
  refine lv_istore (lv' := (5, .int code) :: LV b (gA.ad 1 0) (gB.ad 1 0) o9 i) hx hb dL_law_1588 hl (by decide) rfl (fun ls hl => ?_)
  refine lv_aload_n hx hb dL_law_1590 rfl (lv_at hl 3 rfl) ?_
  refine wl_R hC (k := 0) hLI hS hl hR (zm_L_168 hT) kv_X12_day rfl rfl (by decide) (Nat.le_of_ble_eq_true rfl) ⟨by omega, by omega⟩ dL_law_1591 (fun gB1 H2 locs2 hLI e2 hS => ?_)
  refine lv_istore (lv' := (6, .int b') :: (5, .int code) :: LV b (gA.ad 1 0) (gB.ad 1 0) o9 i) hx hb dL_law_1594 hl (by decide) rfl (fun ls hl => ?_)
  rw [← e1, ← e2] at hl
  exact law_tail hC hG' hLI hS hl ⟨by omega, by omega⟩ hf ha dL_law_1596 dL_law_1597 dL_law_1600 dL_law_1602 dL_law_1607 dL_law_1609 dL_law_1612 dL_law_1613 dL_law_1614 dL_law_1615 dL_law_1617 dL_law_1618 dL_law_1619 dL_law_1624 (by decide) (fun hl => W.widen (by omega) (by omega) (kk S' code gA1 gB1 f1 H2 locs2 ls hG' hLI hS hl))
theorem law_c20 {p : Program} {l : Launch} {e : Env} {s : State} {m : MethodId} {args : Array Value} {below : List Frame} {meth : Method} {c : Code} {H : Heap} {locs : List Loc} {cells slots : Nat} {Q : State → Prop} {ls : Array Slot} {E : EE} {b L : Nat} {xs : Nat → Int32} (hst : l.stackTraces = false) (hC : LC p s m c E b L xs) {i o9 : Nat} {th : Int32} {S : St} {gA gB : Gh} {f : Nat → Int64} (hG : Good S) (hLI : LI E S S th gA gB o9 f H) (hS : va_S (LA s) s.heap H locs) (hl : lv_has ls 9 (LV b (gA.ad 1 0) (gB.ad 1 0) o9 i)) (hi : i + 6 ≤ L) (hcs : cells + 424 ≤ 601024 ∧ slots + 4952 ≤ 7293034)
    (kk : ∀ (S' : St) (th' : Int32) (gA1 gB1 : Gh) (f1 : Nat → Int64) (H1 : Heap) (locs1 : List Loc) (ls1 : Array Slot), Good S' → LI E S' S' th' gA1 gB1 o9 f1 H1 → va_S (LA s) s.heap H1 locs1 → lv_has ls1 9 (LV b (gA1.ad 1 0) (gB1.ad 1 0) o9 i) → W p l e room_1 s m args below meth c H1 locs1 (cells + 424) (slots + 4952) Q (F0 m 1954 ls1 [])) : W p l e room_1 s m args below meth c H locs cells slots Q (F0 m 1627 ls []) := by
  obtain ⟨hx, hb, hml, hown, hZ, hX0, hX, hbl, hN, hL⟩ := id hC
  have hT := hZ.1.1.1
  obtain ⟨S', code, ans, b', hG', hH, hR, ha⟩ := j_many (l := l) (E := E) hst hG (xs (i + 1))
  refine lv_aload_n hx hb dL_law_1627 rfl (lv_at hl 1 rfl) ?_
  refine law_ld hC (j := 1) hS (lv_at hl 0 rfl) (lv_at hl 4 rfl) rfl (by omega) dL_law_1628 dL_law_1629 dL_law_1631 dL_law_1632 dL_law_1633 ?_
  refine lv_aload_n hx hb dL_law_1634 rfl (lv_at hl 3 rfl) ?_
  refine wl_H hC (k := 3) hLI hS hl (hH gA o9) (zh_L_many hT) (zm_L_169 hT) (zt_L_many hT) ⟨rfl, by decide +kernel⟩ (fun U a h => zh_L_many h) rfl rfl (by decide) (Nat.le_of_ble_eq_true rfl) ⟨by omega, by omega⟩ dL_law_1635 (fun gA1 f1 H1 locs1 hLI e1 hf hS => ?_)
  refine lv_istore (lv' := (5, .int code) :: LV b (gA.ad 1 0) (gB.ad 1 0) o9 i) hx hb dL_law_1638 hl (by decide) rfl (fun ls hl => ?_)
  refine lv_aload_n hx hb dL_law_1640 rfl (lv_at hl 3 rfl) ?_
  refine law_ld hC (j := 1) hS (lv_at hl 1 rfl) (lv_at hl 5 rfl) rfl (by omega) dL_law_1641 dL_law_1642 dL_law_1644 dL_law_1645 dL_law_1646 ?_
  refine wl_R hC (k := 1) hLI hS hl hR (zm_L_171 hT) kv_X12_many rfl rfl (by decide) (Nat.le_of_ble_eq_true rfl) ⟨by omega, by omega⟩ dL_law_1647 (fun gB1 H2 locs2 hLI e2 hS => ?_)
  refine lv_istore (lv' := (6, .int b') :: (5, .int code) :: LV b (gA.ad 1 0) (gB.ad 1 0) o9 i) hx hb dL_law_1650 hl (by decide) rfl (fun ls hl => ?_)
  rw [← e1, ← e2] at hl
  exact law_tail hC hG' hLI hS hl ⟨by omega, by omega⟩ hf ha dL_law_1652 dL_law_1653 dL_law_1656 dL_law_1658 dL_law_1663 dL_law_1665 dL_law_1668 dL_law_1669 dL_law_1670 dL_law_1671 dL_law_1673 dL_law_1674 dL_law_1675 dL_law_1680 (by decide) (fun hl => W.widen (by omega) (by omega) (kk S' code gA1 gB1 f1 H2 locs2 ls hG' hLI hS hl))
theorem law_c22 {p : Program} {l : Launch} {e : Env} {s : State} {m : MethodId} {args : Array Value} {below : List Frame} {meth : Method} {c : Code} {H : Heap} {locs : List Loc} {cells slots : Nat} {Q : State → Prop} {ls : Array Slot} {E : EE} {b L : Nat} {xs : Nat → Int32} (hst : l.stackTraces = false) (hC : LC p s m c E b L xs) {i o9 : Nat} {th : Int32} {S : St} {gA gB : Gh} {f : Nat → Int64} (hG : Good S) (hLI : LI E S S th gA gB o9 f H) (hS : va_S (LA s) s.heap H locs) (hl : lv_has ls 9 (LV b (gA.ad 1 0) (gB.ad 1 0) o9 i)) (hi : i + 6 ≤ L) (hcs : cells + 424 ≤ 601024 ∧ slots + 4952 ≤ 7293034)
    (kk : ∀ (S' : St) (th' : Int32) (gA1 gB1 : Gh) (f1 : Nat → Int64) (H1 : Heap) (locs1 : List Loc) (ls1 : Array Slot), Good S' → LI E S' S' th' gA1 gB1 o9 f1 H1 → va_S (LA s) s.heap H1 locs1 → lv_has ls1 9 (LV b (gA1.ad 1 0) (gB1.ad 1 0) o9 i) → W p l e room_1 s m args below meth c H1 locs1 (cells + 424) (slots + 4952) Q (F0 m 1954 ls1 [])) : W p l e room_1 s m args below meth c H locs cells slots Q (F0 m 1724 ls []) := by
  obtain ⟨hx, hb, hml, hown, hZ, hX0, hX, hbl, hN, hL⟩ := id hC
  have hT := hZ.1.1.1
  obtain ⟨S', code, ans, b', hG', hH, hR, ha⟩ := j_wouldMatch (l := l) (E := E) hst hG (xs (i + 1)) (xs (i + 2)) (xs (i + 3))
  refine lv_aload_n hx hb dL_law_1724 rfl (lv_at hl 1 rfl) ?_
  refine law_ld hC (j := 1) hS (lv_at hl 0 rfl) (lv_at hl 4 rfl) rfl (by omega) dL_law_1725 dL_law_1726 dL_law_1728 dL_law_1729 dL_law_1730 ?_
  refine law_ld hC (j := 2) hS (lv_at hl 0 rfl) (lv_at hl 4 rfl) rfl (by omega) dL_law_1731 dL_law_1732 dL_law_1734 dL_law_1735 dL_law_1736 ?_
  refine law_ld hC (j := 3) hS (lv_at hl 0 rfl) (lv_at hl 4 rfl) rfl (by omega) dL_law_1737 dL_law_1738 dL_law_1740 dL_law_1741 dL_law_1742 ?_
  refine lv_aload_n hx hb dL_law_1743 rfl (lv_at hl 3 rfl) ?_
  refine wl_H hC (k := 5) hLI hS hl (hH gA o9) (zh_L_wouldMatch hT) (zm_L_177 hT) (zt_L_wouldMatch hT) ⟨rfl, by decide +kernel⟩ (fun U a h => zh_L_wouldMatch h) rfl rfl (by decide) (Nat.le_of_ble_eq_true rfl) ⟨by omega, by omega⟩ dL_law_1744 (fun gA1 f1 H1 locs1 hLI e1 hf hS => ?_)
  refine lv_istore (lv' := (5, .int code) :: LV b (gA.ad 1 0) (gB.ad 1 0) o9 i) hx hb dL_law_1747 hl (by decide) rfl (fun ls hl => ?_)
  refine lv_aload_n hx hb dL_law_1749 rfl (lv_at hl 3 rfl) ?_
  refine law_ld hC (j := 1) hS (lv_at hl 1 rfl) (lv_at hl 5 rfl) rfl (by omega) dL_law_1750 dL_law_1751 dL_law_1753 dL_law_1754 dL_law_1755 ?_
  refine law_ld hC (j := 2) hS (lv_at hl 1 rfl) (lv_at hl 5 rfl) rfl (by omega) dL_law_1756 dL_law_1757 dL_law_1759 dL_law_1760 dL_law_1761 ?_
  refine law_ld hC (j := 3) hS (lv_at hl 1 rfl) (lv_at hl 5 rfl) rfl (by omega) dL_law_1762 dL_law_1763 dL_law_1765 dL_law_1766 dL_law_1767 ?_
  refine wl_R hC (k := 3) hLI hS hl hR (zm_L_179 hT) kv_X12_wouldMatch rfl rfl (by decide) (Nat.le_of_ble_eq_true rfl) ⟨by omega, by omega⟩ dL_law_1768 (fun gB1 H2 locs2 hLI e2 hS => ?_)
  refine lv_istore (lv' := (6, .int b') :: (5, .int code) :: LV b (gA.ad 1 0) (gB.ad 1 0) o9 i) hx hb dL_law_1771 hl (by decide) rfl (fun ls hl => ?_)
  rw [← e1, ← e2] at hl
  exact law_tail hC hG' hLI hS hl ⟨by omega, by omega⟩ hf ha dL_law_1773 dL_law_1774 dL_law_1777 dL_law_1779 dL_law_1784 dL_law_1786 dL_law_1789 dL_law_1790 dL_law_1791 dL_law_1792 dL_law_1794 dL_law_1795 dL_law_1796 dL_law_1801 (by decide) (fun hl => W.widen (by omega) (by omega) (kk S' code gA1 gB1 f1 H2 locs2 ls hG' hLI hS hl))
theorem law_c23 {p : Program} {l : Launch} {e : Env} {s : State} {m : MethodId} {args : Array Value} {below : List Frame} {meth : Method} {c : Code} {H : Heap} {locs : List Loc} {cells slots : Nat} {Q : State → Prop} {ls : Array Slot} {E : EE} {b L : Nat} {xs : Nat → Int32} (hst : l.stackTraces = false) (hC : LC p s m c E b L xs) {i o9 : Nat} {th : Int32} {S : St} {gA gB : Gh} {f : Nat → Int64} (hG : Good S) (hLI : LI E S S th gA gB o9 f H) (hS : va_S (LA s) s.heap H locs) (hl : lv_has ls 9 (LV b (gA.ad 1 0) (gB.ad 1 0) o9 i)) (hi : i + 6 ≤ L) (hcs : cells + 424 ≤ 601024 ∧ slots + 4952 ≤ 7293034)
    (kk : ∀ (S' : St) (th' : Int32) (gA1 gB1 : Gh) (f1 : Nat → Int64) (H1 : Heap) (locs1 : List Loc) (ls1 : Array Slot), Good S' → LI E S' S' th' gA1 gB1 o9 f1 H1 → va_S (LA s) s.heap H1 locs1 → lv_has ls1 9 (LV b (gA1.ad 1 0) (gB1.ad 1 0) o9 i) → W p l e room_1 s m args below meth c H1 locs1 (cells + 424) (slots + 4952) Q (F0 m 1954 ls1 [])) : W p l e room_1 s m args below meth c H locs cells slots Q (F0 m 1804 ls []) := by
  obtain ⟨hx, hb, hml, hown, hZ, hX0, hX, hbl, hN, hL⟩ := id hC
  have hT := hZ.1.1.1
  obtain ⟨S', code, ans, b', hG', hH, hR, ha⟩ := j_trustBehind (l := l) (E := E) hst hG (xs (i + 1)) (xs (i + 2))
  refine lv_aload_n hx hb dL_law_1804 rfl (lv_at hl 1 rfl) ?_
  refine law_ld hC (j := 1) hS (lv_at hl 0 rfl) (lv_at hl 4 rfl) rfl (by omega) dL_law_1805 dL_law_1806 dL_law_1808 dL_law_1809 dL_law_1810 ?_
  refine law_ld hC (j := 2) hS (lv_at hl 0 rfl) (lv_at hl 4 rfl) rfl (by omega) dL_law_1811 dL_law_1812 dL_law_1814 dL_law_1815 dL_law_1816 ?_
  refine lv_aload_n hx hb dL_law_1817 rfl (lv_at hl 3 rfl) ?_
  refine wl_H hC (k := 4) hLI hS hl (hH gA o9) (zh_L_trustBehind hT) (zm_L_180 hT) (zt_L_trustBehind hT) ⟨rfl, by decide +kernel⟩ (fun U a h => zh_L_trustBehind h) rfl rfl (by decide) (Nat.le_of_ble_eq_true rfl) ⟨by omega, by omega⟩ dL_law_1818 (fun gA1 f1 H1 locs1 hLI e1 hf hS => ?_)
  refine lv_istore (lv' := (5, .int code) :: LV b (gA.ad 1 0) (gB.ad 1 0) o9 i) hx hb dL_law_1821 hl (by decide) rfl (fun ls hl => ?_)
  refine lv_aload_n hx hb dL_law_1823 rfl (lv_at hl 3 rfl) ?_
  refine law_ld hC (j := 1) hS (lv_at hl 1 rfl) (lv_at hl 5 rfl) rfl (by omega) dL_law_1824 dL_law_1825 dL_law_1827 dL_law_1828 dL_law_1829 ?_
  refine law_ld hC (j := 2) hS (lv_at hl 1 rfl) (lv_at hl 5 rfl) rfl (by omega) dL_law_1830 dL_law_1831 dL_law_1833 dL_law_1834 dL_law_1835 ?_
  refine wl_R hC (k := 2) hLI hS hl hR (zm_L_182 hT) kv_X12_trustBehind rfl rfl (by decide) (Nat.le_of_ble_eq_true rfl) ⟨by omega, by omega⟩ dL_law_1836 (fun gB1 H2 locs2 hLI e2 hS => ?_)
  refine lv_istore (lv' := (6, .int b') :: (5, .int code) :: LV b (gA.ad 1 0) (gB.ad 1 0) o9 i) hx hb dL_law_1839 hl (by decide) rfl (fun ls hl => ?_)
  rw [← e1, ← e2] at hl
  exact law_tail hC hG' hLI hS hl ⟨by omega, by omega⟩ hf ha dL_law_1841 dL_law_1842 dL_law_1845 dL_law_1847 dL_law_1852 dL_law_1854 dL_law_1857 dL_law_1858 dL_law_1859 dL_law_1860 dL_law_1862 dL_law_1863 dL_law_1864 dL_law_1869 (by decide) (fun hl => W.widen (by omega) (by omega) (kk S' code gA1 gB1 f1 H2 locs2 ls hG' hLI hS hl))
theorem law_c24 {p : Program} {l : Launch} {e : Env} {s : State} {m : MethodId} {args : Array Value} {below : List Frame} {meth : Method} {c : Code} {H : Heap} {locs : List Loc} {cells slots : Nat} {Q : State → Prop} {ls : Array Slot} {E : EE} {b L : Nat} {xs : Nat → Int32} (hst : l.stackTraces = false) (hC : LC p s m c E b L xs) {i o9 : Nat} {th : Int32} {S : St} {gA gB : Gh} {f : Nat → Int64} (hG : Good S) (hLI : LI E S S th gA gB o9 f H) (hS : va_S (LA s) s.heap H locs) (hl : lv_has ls 9 (LV b (gA.ad 1 0) (gB.ad 1 0) o9 i)) (hi : i + 6 ≤ L) (hcs : cells + 424 ≤ 601024 ∧ slots + 4952 ≤ 7293034)
    (kk : ∀ (S' : St) (th' : Int32) (gA1 gB1 : Gh) (f1 : Nat → Int64) (H1 : Heap) (locs1 : List Loc) (ls1 : Array Slot), Good S' → LI E S' S' th' gA1 gB1 o9 f1 H1 → va_S (LA s) s.heap H1 locs1 → lv_has ls1 9 (LV b (gA1.ad 1 0) (gB1.ad 1 0) o9 i) → W p l e room_1 s m args below meth c H1 locs1 (cells + 424) (slots + 4952) Q (F0 m 1954 ls1 [])) : W p l e room_1 s m args below meth c H locs cells slots Q (F0 m 1872 ls []) := by
  obtain ⟨hx, hb, hml, hown, hZ, hX0, hX, hbl, hN, hL⟩ := id hC
  have hT := hZ.1.1.1
  obtain ⟨S', code, ans, b', hG', hH, hR, ha⟩ := j_leftWith (l := l) (E := E) hst hG (xs (i + 1)) (xs (i + 2))
  refine lv_aload_n hx hb dL_law_1872 rfl (lv_at hl 1 rfl) ?_
  refine law_ld hC (j := 1) hS (lv_at hl 0 rfl) (lv_at hl 4 rfl) rfl (by omega) dL_law_1873 dL_law_1874 dL_law_1876 dL_law_1877 dL_law_1878 ?_
  refine law_ld hC (j := 2) hS (lv_at hl 0 rfl) (lv_at hl 4 rfl) rfl (by omega) dL_law_1879 dL_law_1880 dL_law_1882 dL_law_1883 dL_law_1884 ?_
  refine lv_aload_n hx hb dL_law_1885 rfl (lv_at hl 3 rfl) ?_
  refine wl_H hC (k := 4) hLI hS hl (hH gA o9) (zh_L_leftWith hT) (zm_L_183 hT) (zt_L_leftWith hT) ⟨rfl, by decide +kernel⟩ (fun U a h => zh_L_leftWith h) rfl rfl (by decide) (Nat.le_of_ble_eq_true rfl) ⟨by omega, by omega⟩ dL_law_1886 (fun gA1 f1 H1 locs1 hLI e1 hf hS => ?_)
  refine lv_istore (lv' := (5, .int code) :: LV b (gA.ad 1 0) (gB.ad 1 0) o9 i) hx hb dL_law_1889 hl (by decide) rfl (fun ls hl => ?_)
  refine lv_aload_n hx hb dL_law_1891 rfl (lv_at hl 3 rfl) ?_
  refine law_ld hC (j := 1) hS (lv_at hl 1 rfl) (lv_at hl 5 rfl) rfl (by omega) dL_law_1892 dL_law_1893 dL_law_1895 dL_law_1896 dL_law_1897 ?_
  refine law_ld hC (j := 2) hS (lv_at hl 1 rfl) (lv_at hl 5 rfl) rfl (by omega) dL_law_1898 dL_law_1899 dL_law_1901 dL_law_1902 dL_law_1903 ?_
  refine wl_R hC (k := 2) hLI hS hl hR (zm_L_185 hT) kv_X12_leftWith rfl rfl (by decide) (Nat.le_of_ble_eq_true rfl) ⟨by omega, by omega⟩ dL_law_1904 (fun gB1 H2 locs2 hLI e2 hS => ?_)
  refine lv_istore (lv' := (6, .int b') :: (5, .int code) :: LV b (gA.ad 1 0) (gB.ad 1 0) o9 i) hx hb dL_law_1907 hl (by decide) rfl (fun ls hl => ?_)
  rw [← e1, ← e2] at hl
  exact law_tail hC hG' hLI hS hl ⟨by omega, by omega⟩ hf ha dL_law_1909 dL_law_1910 dL_law_1913 dL_law_1915 dL_law_1920 dL_law_1922 dL_law_1925 dL_law_1926 dL_law_1927 dL_law_1928 dL_law_1930 dL_law_1931 dL_law_1932 dL_law_1937 (by decide) (fun hl => W.widen (by omega) (by omega) (kk S' code gA1 gB1 f1 H2 locs2 ls hG' hLI hS hl))
