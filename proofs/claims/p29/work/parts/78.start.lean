/-! THE CLAIM OUT OF ONE WALK OF THE LAW'S BODY. Your part is whole_start (and what it stands on); all else here is the same for every law, but numbers. -/
def R_law : String := "ApprovalGridLaw"
def lw_P (b : Addr) (xs : List Int32) (args : Array Value) (s : State) : Prop := args = #[.ref b] ∧ s.IntsAt b xs ∧ xs.length ≤ 260 ∧ (Jvm.Cond.and given_1 narrow_1).before args s = true
def lw_Q (_ : Array Value) (s : State) (o : Outcome) (t : State) : Prop := o = .returned (some (.int 1)) ∧ Framed s o t [] 682005 7055682
def lw_Z (below : List Frame) (a : Array Value) (s : State) : State → Prop := fun t => ∃ o, t.status = .running ∧ Ended t below o ∧ lw_Q a s o t
/-- the law's own end, with 1 on the stack, nothing written that was there before, its room as the claim has it -/
theorem lw_ret {p : Program} {l : Launch} {e : Env} {s : State} {m : MethodId} {below : List Frame} {meth : Method} {c : Code} {b : Nat} (hx : p.tables.exec = Jvm.exec) (hb : c.code = code) (hr : meth.sig.returnType = ret) (hlocks : meth.locks = false) {pc : Nat} {H : Heap} {ls : Array Slot} (hdg : decode code pc = .ok (.ireturn, 1)) : W p l e room_1 s m #[Value.ref b] below meth c H [] 682005 7055682 (lw_Z below #[Value.ref b] s) (F0 m pc ls [.int 1]) := by
  intro T hT X
  obtain ⟨fs, hret, hrun, hended, hW, hframe⟩ := X.leave (v := some (.int 1)) (hlocks := hlocks) (fun h => by rw [hr] at h; cases h)
  have hmeth' : T.vm.method? m = some meth := X.method'
  refine ⟨T.setFrames fs, ?_, .returned (some (.int 1)), hrun, hended, rfl, ⟨_, rfl⟩, hW, hframe⟩
  jvm_step X.here [X.here.top, hx, hb, hdg, hmeth', hr, ret, narrow_b1]
  (try refine ⟨rfl, ?_⟩); (try refine ⟨rfl, ?_⟩)
  first | (intro acts; rw [hret _ acts rfl rfl rfl]) | rw [hret _ _ rfl rfl rfl]
  exact Steps.refl _
/-- what holds at the law's entry: the machine, the code, the tables' words (any of lw_tbl by 'hts w (by decide +kernel)'), the script of L ints xs at the cell b, what the Statement gives of the start (any of its parts by flat_of_before) -/
def lw_At (p : Program) (s : State) (m : MethodId) (meth : Method) (c : Code) (b L : Nat) (xs : Nat → Int32) : Prop :=
  p.tables.exec = Jvm.exec ∧ c.code = code ∧ meth.sig.returnType = ret ∧ c.maxLocals = 24 ∧ s.vm.findClass R_law = some m.cls ∧ (∀ w ∈ lw_tbl, w.before #[Value.ref b] s = true) ∧ va_X b L xs s s.heap ∧ b < s.heap.size ∧ meth.locks = false ∧ (Jvm.Cond.and given_1 narrow_1).before #[Value.ref b] s = true
/-! the entry: what the start gives, in the contracts' words -/
theorem ent_arr {s : State} {args : Array Value} {ty : FieldType} (h : (Cond.arrayClass ty).before args s = true) : ∃ cA : ClassId, ArrOfT s cA ty ∧ s.vm.findClass ("[" ++ ty.toString) = some cA := by
  obtain ⟨c, k, comp, h1, h2, h3⟩ := Cond.arrayClass_spec h
  exact ⟨c, fun N z => ⟨(fun k h => by cases h), k, h2, comp, h3⟩, h1⟩
theorem ent_obj {s : State} {args : Array Value} {n : String} (h : (Cond.arrayOver (.object n)).before args s = true) : ∃ cA : ClassId, ArrOfT s cA (.object n) ∧ va_RA s cA (.object n) := by
  obtain ⟨comp, c, k, h1, h2, h3, h4, h5⟩ := Cond.arrayOver_spec h
  exact ⟨c, fun N z => ⟨(fun k h => by cases h), k, h3, comp, h4⟩, k, comp, h3, h4, h1, h5⟩
theorem ent_len0 {s : State} {args : Array Value} {t : Term} {a : Nat} {cell : Cell} (h : (Cond.eq (.length t) (.int 0)).before args s = true) (ht : t.eval args s none [] s = some (.ref a)) (hc : s.heap[a]? = some cell) : cell.slots.size = 0 := by
  cases hl : (Term.length t).eval args s none [] s with
  | none => simp [Cond.before, Cond.holds, Cond.value, hl] at h
  | some v =>
    obtain ⟨a', cell', e1, e2, rfl⟩ := Term.length_spec hl
    rw [ht] at e1
    cases e1
    obtain ⟨e3, -, -, -⟩ := State.arrayAt?_spec e2
    rw [hc] at e3
    cases e3
    have hlt : cell.slots.size < 2 ^ 31 := by
      by_cases hz : cell.slots.size < 2 ^ 31
      · exact hz
      · simp [Term.eval, ht, e2, hz] at hl
    have hv := Cond.eq_ints hl (Term.int_eval (args := args) (first := s) (o := none) (s := s) (idx := []) 0)
    have hd : cell.slots.size.toInt32 = 0 := by simpa [Cond.before, Cond.holds, hv] using h
    have h2 := nI_toInt hlt
    have h3 : (nI cell.slots.size).toInt = (0 : Int32).toInt := congrArg Int32.toInt (show nI cell.slots.size = 0 from hd)
    have h0 : (0 : Int32).toInt = 0 := rfl
    omega
theorem ent_TB {s : State} {b : Nat} (hts : ∀ w ∈ lw_tbl, w.before #[Value.ref b] s = true) : TB s := fun a w hm hg => by
  rcases good_of_word hg with h1 | ⟨ty, rfl⟩
  · simp only [Bool.and_eq_true] at h1
    exact va_tabs h1.1 rfl (hts w hm)
  · exact hts _ hm
theorem ent_TF {s : State} {b : Nat} (hts : ∀ w ∈ lw_tbl, w.before #[Value.ref b] s = true) : TF s := fun a w hm hg => by
  simp only [Bool.and_eq_true] at hg
  exact va_tabs hg.1 rfl (hts w hm)
theorem ent_K {s : State} (hT : TB s) : ∃ (dC : Nat → ClassId) (dI : Nat → Nat → Nat), ∀ (k : Nat) (q : vw_C), vwCl[k]? = some q → u_Kn s q.1 q.2.1 q.2.2 (dC k) (dI k) := by
  obtain ⟨c0, i0, k0⟩ := u_known (C := RJx4a65c) (T := TJx4a65c) (N := 3) (n := 3) (args := #[]) (twJx4a65c hT) (fun _ h => h) (zI_Jx4a65c hT)
  obtain ⟨c1, i1, k1⟩ := u_known (C := RX0) (T := TX0) (N := 13) (n := 13) (args := #[]) (twX0 hT) (fun _ h => h) (zI_X0 hT)
  obtain ⟨c2, i2, k2⟩ := u_known (C := RX2) (T := TX2) (N := 6) (n := 6) (args := #[]) (twX2 hT) (fun _ h => h) (zI_X2 hT)
  obtain ⟨c3, i3, k3⟩ := u_known (C := RX3) (T := TX3) (N := 5) (n := 5) (args := #[]) (twX3 hT) (fun _ h => h) (zI_X3 hT)
  obtain ⟨c4, i4, k4⟩ := u_known (C := RX4) (T := TX4) (N := 3) (n := 3) (args := #[]) (twX4 hT) (fun _ h => h) (zI_X4 hT)
  obtain ⟨c5, i5, k5⟩ := u_known (C := RX4) (T := TX4) (N := 3) (n := 3) (args := #[]) (twX4 hT) (fun _ h => h) (zI_X4 hT)
  obtain ⟨c6, i6, k6⟩ := u_known (C := RX6) (T := TX6) (N := 9) (n := 9) (args := #[]) (twX6 hT) (fun _ h => h) (zI_X6 hT)
  refine ⟨fun k => if k = 0 then c0 else if k = 1 then c1 else if k = 2 then c2 else if k = 3 then c3 else if k = 4 then c4 else if k = 5 then c5 else c6, fun k => if k = 0 then i0 else if k = 1 then i1 else if k = 2 then i2 else if k = 3 then i3 else if k = 4 then i4 else if k = 5 then i5 else i6, ?_⟩
  intro k q hq
  match k, hq with
  | 0, hq => cases hq; exact k0
  | 1, hq => cases hq; exact k1
  | 2, hq => cases hq; exact k2
  | 3, hq => cases hq; exact k3
  | 4, hq => cases hq; exact k4
  | 5, hq => cases hq; exact k5
  | 6, hq => cases hq; exact k6
  | k + 7, hq => exact absurd (List.getElem?_eq_some_iff.mp hq).1 (Nat.not_lt.mpr (Nat.le_add_left _ _))
set_option maxRecDepth 100000 in
theorem ent_SG {s : State} {b : Nat} (hts : ∀ w ∈ lw_tbl, w.before #[Value.ref b] s = true) (hgv : (Jvm.Cond.and given_1 narrow_1).before #[Value.ref b] s = true) : SG s := by
  have hs := flat_of_before _ hgv
  intro x hx
  have hx : x = (322, "no such person") ∨ x = (57, "there are 8 people") ∨ x = (329, "no such kind") ∨ x = (335, "a value is out of its range") ∨ x = (88, "nobody stands in for oneself") ∨ x = (331, "no such land") ∨ x = (333, "no such period") ∨ x = (151, "there are 30 charges") ∨ x = (153, "the amount is more than there is") ∨ x = (175, "there are 30 receipts") ∨ x = (325, "no such charge") ∨ x = (339, "the charge is not matched, or somebody else has to") ∨ x = (337, "the charge is in another state") ∨ x = (327, "no such receipt") ∨ x = (251, "it is the last day") := by simpa [sgl] using hx
  rcases hx with rfl | rfl | rfl | rfl | rfl | rfl | rfl | rfl | rfl | rfl | rfl | rfl | rfl | rfl | rfl
  · obtain ⟨a, c, cA, kA, q1, -⟩ := Cond.exactly_spec (hs (Cond.exactly (.string "ApprovalGrid" 322) "java/lang/String") (by decide +kernel))
    exact ⟨a, vk_R.of (hts (.stringRef "ApprovalGrid" 322 "no such person") (List.mem_of_getElem? (i := 193) (by decide +kernel))) q1⟩
  · obtain ⟨a, c, cA, kA, q1, -⟩ := Cond.exactly_spec (hs (Cond.exactly (.string "ApprovalGrid" 57) "java/lang/String") (by decide +kernel))
    exact ⟨a, vk_R.of (hts (.stringRef "ApprovalGrid" 57 "there are 8 people") (List.mem_of_getElem? (i := 244) (by decide +kernel))) q1⟩
  · obtain ⟨a, c, cA, kA, q1, -⟩ := Cond.exactly_spec (hs (Cond.exactly (.string "ApprovalGrid" 329) "java/lang/String") (by decide +kernel))
    exact ⟨a, vk_R.of (hts (.stringRef "ApprovalGrid" 329 "no such kind") (List.mem_of_getElem? (i := 352) (by decide +kernel))) q1⟩
  · obtain ⟨a, c, cA, kA, q1, -⟩ := Cond.exactly_spec (hs (Cond.exactly (.string "ApprovalGrid" 335) "java/lang/String") (by decide +kernel))
    exact ⟨a, vk_R.of (hts (.stringRef "ApprovalGrid" 335 "a value is out of its range") (List.mem_of_getElem? (i := 365) (by decide +kernel))) q1⟩
  · obtain ⟨a, c, cA, kA, q1, -⟩ := Cond.exactly_spec (hs (Cond.exactly (.string "ApprovalGrid" 88) "java/lang/String") (by decide +kernel))
    exact ⟨a, vk_R.of (hts (.stringRef "ApprovalGrid" 88 "nobody stands in for oneself") (List.mem_of_getElem? (i := 384) (by decide +kernel))) q1⟩
  · obtain ⟨a, c, cA, kA, q1, -⟩ := Cond.exactly_spec (hs (Cond.exactly (.string "ApprovalGrid" 331) "java/lang/String") (by decide +kernel))
    exact ⟨a, vk_R.of (hts (.stringRef "ApprovalGrid" 331 "no such land") (List.mem_of_getElem? (i := 437) (by decide +kernel))) q1⟩
  · obtain ⟨a, c, cA, kA, q1, -⟩ := Cond.exactly_spec (hs (Cond.exactly (.string "ApprovalGrid" 333) "java/lang/String") (by decide +kernel))
    exact ⟨a, vk_R.of (hts (.stringRef "ApprovalGrid" 333 "no such period") (List.mem_of_getElem? (i := 463) (by decide +kernel))) q1⟩
  · obtain ⟨a, c, cA, kA, q1, -⟩ := Cond.exactly_spec (hs (Cond.exactly (.string "ApprovalGrid" 151) "java/lang/String") (by decide +kernel))
    exact ⟨a, vk_R.of (hts (.stringRef "ApprovalGrid" 151 "there are 30 charges") (List.mem_of_getElem? (i := 498) (by decide +kernel))) q1⟩
  · obtain ⟨a, c, cA, kA, q1, -⟩ := Cond.exactly_spec (hs (Cond.exactly (.string "ApprovalGrid" 153) "java/lang/String") (by decide +kernel))
    exact ⟨a, vk_R.of (hts (.stringRef "ApprovalGrid" 153 "the amount is more than there is") (List.mem_of_getElem? (i := 499) (by decide +kernel))) q1⟩
  · obtain ⟨a, c, cA, kA, q1, -⟩ := Cond.exactly_spec (hs (Cond.exactly (.string "ApprovalGrid" 175) "java/lang/String") (by decide +kernel))
    exact ⟨a, vk_R.of (hts (.stringRef "ApprovalGrid" 175 "there are 30 receipts") (List.mem_of_getElem? (i := 596) (by decide +kernel))) q1⟩
  · obtain ⟨a, c, cA, kA, q1, -⟩ := Cond.exactly_spec (hs (Cond.exactly (.string "ApprovalGrid" 325) "java/lang/String") (by decide +kernel))
    exact ⟨a, vk_R.of (hts (.stringRef "ApprovalGrid" 325 "no such charge") (List.mem_of_getElem? (i := 628) (by decide +kernel))) q1⟩
  · obtain ⟨a, c, cA, kA, q1, -⟩ := Cond.exactly_spec (hs (Cond.exactly (.string "ApprovalGrid" 339) "java/lang/String") (by decide +kernel))
    exact ⟨a, vk_R.of (hts (.stringRef "ApprovalGrid" 339 "the charge is not matched, or somebody else has to") (List.mem_of_getElem? (i := 633) (by decide +kernel))) q1⟩
  · obtain ⟨a, c, cA, kA, q1, -⟩ := Cond.exactly_spec (hs (Cond.exactly (.string "ApprovalGrid" 337) "java/lang/String") (by decide +kernel))
    exact ⟨a, vk_R.of (hts (.stringRef "ApprovalGrid" 337 "the charge is in another state") (List.mem_of_getElem? (i := 649) (by decide +kernel))) q1⟩
  · obtain ⟨a, c, cA, kA, q1, -⟩ := Cond.exactly_spec (hs (Cond.exactly (.string "ApprovalGrid" 327) "java/lang/String") (by decide +kernel))
    exact ⟨a, vk_R.of (hts (.stringRef "ApprovalGrid" 327 "no such receipt") (List.mem_of_getElem? (i := 662) (by decide +kernel))) q1⟩
  · obtain ⟨a, c, cA, kA, q1, -⟩ := Cond.exactly_spec (hs (Cond.exactly (.string "ApprovalGrid" 251) "java/lang/String") (by decide +kernel))
    exact ⟨a, vk_R.of (hts (.stringRef "ApprovalGrid" 251 "it is the last day") (List.mem_of_getElem? (i := 671) (by decide +kernel))) q1⟩
set_option maxRecDepth 100000 in
theorem ent_all {s : State} {b : Nat} (hts : ∀ w ∈ lw_tbl, w.before #[Value.ref b] s = true) (hgv : (Jvm.Cond.and given_1 narrow_1).before #[Value.ref b] s = true) : ∃ E : EE, eN E = s.heap.size ∧ CY E s ∧ XZ (fun q => s.heap.size ≤ q) s s.heap ∧ ZE E s.heap := by
  have hs := flat_of_before _ hgv
  have hT := ent_TB hts
  obtain ⟨dC, dI, hK⟩ := ent_K hT
  obtain ⟨cI, aI, nmI⟩ := ent_arr (args := #[]) (zA_75 hT)
  have hAO : (Cond.arrayOver (.object "java/lang/Object")).before #[Value.ref b] s = true := hts _ (List.mem_of_getElem? (i := 335) (by decide +kernel))
  obtain ⟨cO, aO, rO⟩ := ent_obj hAO
  have hls : (Cond.laysStatic "java/util/ArrayList" "DEFAULTCAPACITY_EMPTY_ELEMENTDATA" "[Ljava/lang/Object;").before #[Value.ref b] s = true := hts _ (List.mem_of_getElem? (i := 79) (by decide +kernel))
  have hli : (Cond.initialized "java/util/ArrayList").before #[Value.ref b] s = true := hts _ (List.mem_of_getElem? (i := 40) (by decide +kernel))
  have hex : (Cond.exactly (.static "java/util/ArrayList" "DEFAULTCAPACITY_EMPTY_ELEMENTDATA" "[Ljava/lang/Object;") "[Ljava/lang/Object;").before #[Value.ref b] s = true := hs _ (by decide +kernel)
  have hln : (Cond.eq (.length (.static "java/util/ArrayList" "DEFAULTCAPACITY_EMPTY_ELEMENTDATA" "[Ljava/lang/Object;")) (.int 0)).before #[Value.ref b] s = true := hs _ (by decide +kernel)
  obtain ⟨miK, hmi⟩ := va_Mi.of (C := "[Ljava/lang/Object;") (hs _ (by decide +kernel))
  obtain ⟨cl, kl, fi, f, aA, cellA, l1, l2, l3, l4, l5, l6, l7, l8, l9⟩ := Cond.laysStatic_spec hls
  obtain ⟨aE, cX, cellE, kX, x1, x2, x3, x4, x5, x6, -⟩ := Cond.exactly_spec hex
  obtain ⟨-, aA', cellA', y1, y2, -, y4⟩ := Term.static_spec l2 x1
  have ea : aA' = aA := Option.some.inj (y1.symm.trans l4)
  subst ea
  have ec : cellA' = cellA := Option.some.inj (y2.symm.trans l5)
  subst ec
  have hcO : cX = cO := by
    obtain ⟨k9, comp9, r1, r2, r3, r4⟩ := rO
    have e9 : "[" ++ (FieldType.object "java/lang/Object").toString = "[Ljava/lang/Object;" := by decide +kernel
    rw [e9] at r4
    exact Option.some.inj (x2.symm.trans r4)
  have hi9 : kl.init = .initialized := Cond.initialized_spec l1 (State.fieldFound?_spec l2).1 hli
  refine ⟨((dC, dI), cI, cI, cO, cI, cI, aA', f.slot, aE, miK, s.heap.size), rfl, ⟨⟨hT, ⟨hK, fun k q hq => ?_⟩, ⟨cl, kl, fi, f, l2, l3, hi9, l4, rfl⟩, hmi, va_AO.of hAO, va_Dc.of (hts _ (List.mem_of_getElem? (i := 777) (by decide +kernel))), fun C hC => ?_⟩, ent_TF hts, ent_SG hts hgv⟩, ⟨?_, ?_⟩, ⟨(Array.getElem?_eq_some_iff.mp y2).1, (Array.getElem?_eq_some_iff.mp x3).1, ⟨cellA', y2, l6, y4⟩, ⟨cellE, x3, x6.trans hcO, ent_len0 hln x1 x3, x5⟩⟩⟩
  · match k, hq with
    | 0, hq => cases hq; exact ⟨aI, nmI⟩
    | 1, hq => cases hq; exact ⟨aI, nmI⟩
    | 2, hq => cases hq; exact ⟨aO, rO⟩
    | 3, hq => cases hq; exact ⟨aI, nmI⟩
    | 4, hq => cases hq; exact ⟨aI, nmI⟩
    | k + 5, hq => exact absurd (List.getElem?_eq_some_iff.mp hq).1 (Nat.not_lt.mpr (Nat.le_add_left _ _))
  · have hC : C = RX0 ∨ C = RX2 ∨ C = RX3 := by simpa [cObj] using hC
    rcases hC with rfl | rfl | rfl
    · exact va_Nw.of rfl (hts (.castable RX0 "java/lang/Object") (List.mem_of_getElem? (i := 771) (by decide +kernel)))
    · exact va_Nw.of rfl (hts (.castable RX2 "java/lang/Object") (List.mem_of_getElem? (i := 769) (by decide +kernel)))
    · exact va_Nw.of rfl (hts (.castable RX3 "java/lang/Object") (List.mem_of_getElem? (i := 772) (by decide +kernel)))
  · exact vx_Zqof (hts _ (List.mem_of_getElem? (i := 179) (by decide +kernel))) (zn_Throwable hT (a := #[Value.ref b])) (hs _ (by decide +kernel)) (fun a h => Nat.not_le.mpr h)
  · exact vx_Zqof (hts _ (List.mem_of_getElem? (i := 181) (by decide +kernel))) (zn_Throwable hT (a := #[Value.ref b])) (hs _ (by decide +kernel)) (fun a h => Nat.not_le.mpr h)
set_option maxRecDepth 100000 in
set_option maxHeartbeats 4000000 in
theorem whole_start {p : Program} {e : Env} {s : State} {m : MethodId} {below : List Frame} {meth : Method} {c : Code} (l : Launch) (hflags : l.flags = flags0) {b L : Nat} {xs : Nat → Int32} (hL : L ≤ 260) (C0 : lw_At p s m meth c b L xs) : W p l e room_1 s m #[Value.ref b] below meth c s.heap [] 0 0 (lw_Z below #[Value.ref b] s) (entryFrame m ([Value.ref b] : List Value).toArray 24) := by
  obtain ⟨hx, hb, hr, hml, hown0, hts, hX, hbl, hlocks, hgv⟩ := id C0
  have hown : s.vm.findClass RL = some m.cls := hown0
  have hst : l.stackTraces = false := by
    unfold Launch.stackTraces
    rw [hflags]
    decide +kernel
  obtain ⟨E, hN, hY, hXZ, hZE⟩ := ent_all hts hgv
  have hC := hY.1
  have hT := hC.1
  have hb0 : c.code = code := hb
  have hb : c.code = cL_law := hb
  have hLC : LC p s m c E b L xs := ⟨hx, hb, hml, hown, hY, hXZ, hX, hbl, hN, hL⟩
  have hS : va_S (LA s) s.heap s.heap [] := va_S.rf
  have hl := lv_entry ([.ref b]) (n := 24) (Nat.le_of_ble_eq_true rfl)
  rw [lg_entry_eq]
  generalize (lg_sl ([.ref b]) ++ List.replicate (24 - (lg_sl ([.ref b])).length) Slot.unset).toArray = ls at hl ⊢
  have hl : lv_has ls 24 [(0, .ref b)] := hl
  obtain ⟨q6, hq6⟩ : ∃ a, a = s.heap.size := ⟨_, rfl⟩
  refine nw_X6 hx hb hown hC (zc_L_9 hT) hS (Nat.le_of_ble_eq_true rfl) (Nat.le_of_ble_eq_true rfl) dL_law_0 (fun H1 hO z1 o1 hS => ?_)
  rw [← hq6] at hO ⊢
  have hZE1 : ZE E H1 := hZE.kept (fun q h => o1 q (by omega))
  refine lv_dup hx hb dL_law_3 rfl ?_
  refine wc_I (As := []) hx hb hml hown hC hl (c_X6_init l E (q9 := q6) (by omega)) (zm_L_11 hT) kv_X6_init ⟨hO, hZE1⟩ hS (fun q h => h.elim (fun e => by have e : q = q6 := e; show s.heap.size ≤ q; omega) (fun e => by show s.heap.size ≤ q; omega)) rfl rfl ⟨Nat.le_of_ble_eq_true rfl, Nat.le_of_ble_eq_true rfl⟩ (Nat.le_of_ble_eq_true rfl) ⟨Nat.le_of_ble_eq_true rfl, Nat.le_of_ble_eq_true rfl⟩ dL_law_4 (fun v H2 locs2 hP z2 o2 hS => ?_)
  obtain ⟨⟨gA, hA, ha0, haw⟩, rfl⟩ := hP
  refine lv_astore_n (lv' := [(1, .ref q6), (0, .ref b)]) hx hb dL_law_7 rfl hl (by decide) rfl (fun ls hl => ?_)
  have hLI : LI E S0 gA q6 [] H2 := ⟨hA, ha0, fun q h => (haw q h).2, fun t ht => by cases ht⟩
  refine lv_iconst (v := 2) hx hb dL_law_8 (by decide) ?_
  refine lv_aload_n hx hb dL_law_9 rfl (lv_at hl 1 rfl) ?_
  refine lv_iconst (v := 0) hx hb dL_law_10 (by decide) ?_
  refine wl_cell (k := 0) hLC hS hl (by decide) (Nat.le_of_ble_eq_true rfl) ⟨Nat.le_of_ble_eq_true rfl, Nat.le_of_ble_eq_true rfl⟩ dL_law_11 (fun v11 => ?_)
  refine lv_bipush (v := 6) hx hb dL_law_14 (by decide) ?_
  refine wl_below (n := 6) hLC hl (by decide) (by decide) (Nat.le_of_ble_eq_true rfl) ⟨Nat.le_of_ble_eq_true rfl, Nat.le_of_ble_eq_true rfl⟩ dL_law_16 ?_
  obtain ⟨k6, hk6, ek6⟩ : ∃ k, k < 6 ∧ belN v11 6 = k := ⟨_, belN_lt (by decide) (by decide), rfl⟩
  rw [ek6]
  refine lv_iadd hx hb dL_law_19 ?_
  rw [show (2 : Int32) + nI k6 = nI (2 + k6) from nI_add 2 k6]
  obtain ⟨P, hP⟩ : ∃ P, P = 2 + k6 := ⟨_, rfl⟩
  rw [← hP]
  refine lv_istore_n (lv' := [(2, .int (nI P)), (1, .ref q6), (0, .ref b)]) hx hb dL_law_20 rfl hl (by decide) rfl (fun ls hl => ?_)
  refine lv_iconst (v := nI 0) hx hb dL_law_21 (by decide) ?_
  refine lv_istore_n (lv' := [(3, .int (nI 0)), (2, .int (nI P)), (1, .ref q6), (0, .ref b)]) hx hb dL_law_22 rfl hl (by decide) rfl (fun ls hl => ?_)
  refine law_people hLC (P := P) (by omega) (fun S g H locs ls cells slots hT1 hLI hS hl hcs => ?_) P 0 S0 gA H2 _ ls _ _ (Nat.zero_add _) set_0 hLI hS hl (show 0 + 1 + 12 + 10 * P ≤ 200 ∧ 0 + 9 + 88 + 300 * P ≤ 4000 from ⟨by omega, by omega⟩)
  refine lv_iconst (v := nI 0) hx hb dL_law_109 (by decide) ?_
  refine lv_istore_n (lv' := [(3, .int (nI 0)), (2, .int (nI P)), (1, .ref q6), (0, .ref b)]) hx hb dL_law_110 rfl hl (by decide) rfl (fun ls hl => ?_)
  refine law_kinds hLC (P := P) (fun S g H locs ls cells slots hT2 hLI hS hl hcs => ?_) 2 0 S g H locs ls _ _ rfl (set_12 hT1) hLI hS hl ⟨by omega, by omega⟩
  have hF := fine_set hT2
  refine lv_bipush (v := nI 30) hx hb dL_law_210 (by decide) ?_
  refine wl_new (N := 30) hLC hLI hS (by decide) ⟨by omega, by omega⟩ dL_law_212 (fun sa H hsa hLI hS => ?_)
  refine lv_astore_n (lv' := [(3, .ref sa), (2, .int (nI P)), (1, .ref q6), (0, .ref b)]) hx hb dL_law_214 rfl hl (by decide) rfl (fun ls hl => ?_)
  refine lv_iconst (v := nI 0) hx hb dL_law_215 (by decide) ?_
  refine lv_istore (lv' := [(4, .int (nI 0)), (3, .ref sa), (2, .int (nI P)), (1, .ref q6), (0, .ref b)]) hx hb dL_law_216 hl (by decide) rfl (fun ls hl => ?_)
  refine law_loop hLC hst (P := P) (sa := sa) (by omega) (by omega) (fun S2 g2 H2 locs2 ls2 cells2 slots2 ar i hF hLI hS hl hcs => ?_) 50 0 S g _ H locs ls _ _ rfl hF ⟨fun c _ e => by rcases e with e | e <;> exact absurd e (by decide), fun c _ => rfl⟩ hT2.2.1 hLI hS hl ⟨by omega, by omega⟩
  refine law_end hLC hF hLI hl hcs (fun ls => ?_)
  refine va_forget (fun q hq => hS.2.2 q hq) ?_
  refine W.widen (k := 682005) (n := 7055682) hcs.1 hcs.2 ?_
  exact lw_ret hx hb0 hr hlocks dL_law_1059
