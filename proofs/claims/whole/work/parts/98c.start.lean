/-! THE CLAIM OUT OF ONE WALK OF THE LAW'S BODY. Your part is whole_start (and what it stands on); all else here is the same for every law, but numbers. -/
def R_law : String := "ApprovalGridLaw"
def lw_P (b : Addr) (xs : List Int32) (args : Array Value) (s : State) : Prop := args = #[.ref b] ∧ s.IntsAt b xs ∧ xs.length ≤ 3072 ∧ (Jvm.Cond.and given_1 narrow_1).before args s = true
/-- what a walk over the start with the record d0 says of its end, said of the start itself -/
theorem lw_closed {s t : State} {o : Outcome} {d0 : Drawn} {L : List Loc} {k n : Nat} (hd0 : s.drawn.sameBut d0 lw_cs) (hv : ∃ v, o = .returned v) (hW : (s.setDrawn d0).WarmedH t.vm) (hs : (s.setDrawn d0).sameButNew ({ t with vm := s.vm } : State) L k n) : State.butDraws s t lw_cs (fun t1 => Framed s o t1 L k n) := by
  have h2 : t.drawn = d0 := congrArg State.drawn hs.1
  refine ⟨⟨hv, hW, State.sameButNew.setDrawn hs s.drawn⟩, ?_, by decide⟩
  rw [h2]
  exact hd0
def lw_Q (_ : Array Value) (s : State) (o : Outcome) (t : State) : Prop := o = .returned (some (.int 1)) ∧ State.butDraws s t lw_cs (fun t1 => Framed s o t1 [] 601024 7293034)
def lw_Z (below : List Frame) (a : Array Value) (s : State) : State → Prop := fun t => ∃ o, t.status = .running ∧ Ended t below o ∧ lw_Q a s o t
/-- the law's own end, with 1 on the stack, nothing written that was there before, its room as the claim has it; d0: the record of draws at this point (at the entry s.drawn: begin with 'refine W.base ?_' and 'have hd0 := Drawn.sameBut.refl s.drawn lw_cs') -/
theorem lw_ret {p : Program} {l : Launch} {e : Env} {s : State} {m : MethodId} {below : List Frame} {meth : Method} {c : Code} {b : Nat} {d0 : Drawn} (hd0 : s.drawn.sameBut d0 lw_cs) (hx : p.tables.exec = Jvm.exec) (hb : c.code = code) (hr : meth.sig.returnType = ret) (hlocks : meth.locks = false) {pc : Nat} {H : Heap} {ls : Array Slot} (hdg : decode code pc = .ok (.ireturn, 1)) : W p l e room_1 (s.setDrawn d0) m #[Value.ref b] below meth c H [] 601024 7293034 (lw_Z below #[Value.ref b] s) (F0 m pc ls [.int 1]) := by
  intro T hT X
  obtain ⟨fs, hret, hrun, hended, hW, hframe⟩ := X.leave (v := some (.int 1)) (hlocks := hlocks) (fun h => by rw [hr] at h; cases h)
  have hmeth' : T.vm.method? m = some meth := X.method'
  refine ⟨T.setFrames fs, ?_, .returned (some (.int 1)), hrun, hended, rfl, lw_closed hd0 ⟨_, rfl⟩ hW hframe⟩
  jvm_step X.here [X.here.top, hx, hb, hdg, hmeth', hr, ret, narrow_b1]
  (try refine ⟨rfl, ?_⟩); (try refine ⟨rfl, ?_⟩)
  first | (intro acts; rw [hret _ acts rfl rfl rfl]) | rw [hret _ _ rfl rfl rfl]
  exact Steps.refl _
/-- what holds at the law's entry: the machine, the code, the tables' words (any of lw_tbl by 'hts w (by decide +kernel)'), the script of L ints xs at the cell b, what the Statement gives of the start (any of its parts by flat_of_before) -/
def lw_At (p : Program) (s : State) (m : MethodId) (meth : Method) (c : Code) (b L : Nat) (xs : Nat → Int32) : Prop :=
  p.tables.exec = Jvm.exec ∧ c.code = code ∧ meth.sig.returnType = ret ∧ c.maxLocals = 9 ∧ s.vm.findClass R_law = some m.cls ∧ (∀ w ∈ lw_tbl, w.before #[Value.ref b] s = true) ∧ va_X b L xs s s.heap ∧ b < s.heap.size ∧ meth.locks = false ∧ (Jvm.Cond.and given_1 narrow_1).before #[Value.ref b] s = true
/-! the entry: what the start gives, in the contracts' words -/
theorem ent_arr {s : State} {args : Array Value} {ty : FieldType} (h : (Cond.arrayClass ty).before args s = true) : ∃ cA : ClassId, ArrOfT s cA ty ∧ s.vm.findClass ("[" ++ ty.toString) = some cA := by
  obtain ⟨c, k, comp, h1, h2, h3⟩ := Cond.arrayClass_spec h
  exact ⟨c, fun N z => ⟨(fun k h => by cases h), k, h2, comp, h3⟩, h1⟩
theorem ent_obj {s : State} {args : Array Value} {n : String} (h : (Cond.arrayOver (.object n)).before args s = true) : ∃ cA : ClassId, ArrOfT s cA (.object n) ∧ va_RA s cA (.object n) := by
  obtain ⟨comp, c, k, h1, h2, h3, h4, h5⟩ := Cond.arrayOver_spec h
  exact ⟨c, fun N z => ⟨(fun k h => by cases h), k, h3, comp, h4⟩, k, comp, h3, h4, h1, h5⟩
theorem ent_aoa {s : State} {args : Array Value} {t : FieldType} (h : (Cond.arrayOver (.array t)).before args s = true) : ∃ cA : ClassId, ArrOfT s cA (.array t) ∧ s.vm.findClass ("[" ++ (FieldType.array t).toString) = some cA := by
  obtain ⟨comp, c, k, h1, h2, h3, h4, h5⟩ := AOA_spec h
  exact ⟨c, fun N z => ⟨(fun k h => by cases h), k, h3, comp, h4⟩, h5⟩
theorem ent_len0 {s : State} {args : Array Value} {t : Term} {a : Nat} {cell : Cell} (h : (Cond.eq (.length t) (.int 0)).before args s = true) (ht : t.eval args s none [] s = some (.ref a)) (hc : s.heap[a]? = some cell) : cell.slots.size = 0 := by
  cases hl : (Term.length t).eval args s none [] s with
  | none => simp [Cond.before, Cond.holds, Cond.value, hl] at h
  | some v =>
    obtain ⟨a', cell', e1, e2, rfl⟩ := Term.length_spec hl
    rw [ht] at e1
    cases e1
    obtain ⟨e3, -, -, -⟩ := State.arrayAt?_spec e2
    rw [hc] at e3
    cases e3
    have hlt : cell.slots.size < 2 ^ 31 := by
      by_cases hz : cell.slots.size < 2 ^ 31
      · exact hz
      · simp [Term.eval, ht, e2, hz] at hl
    have hv := Cond.eq_ints hl (Term.int_eval (args := args) (first := s) (o := none) (s := s) (idx := []) 0)
    have hd : cell.slots.size.toInt32 = 0 := by simpa [Cond.before, Cond.holds, hv] using h
    have h2 := nI_toInt hlt
    have h3 : (nI cell.slots.size).toInt = (0 : Int32).toInt := congrArg Int32.toInt (show nI cell.slots.size = 0 from hd)
    have h0 : (0 : Int32).toInt = 0 := rfl
    omega
theorem ent_TB {s : State} {b : Nat} (hts : ∀ w ∈ lw_tbl, w.before #[Value.ref b] s = true) : TB s := fun a w hm hg => by
  rcases good_of_word hg with h1 | ⟨ty, rfl⟩
  · simp only [Bool.and_eq_true] at h1
    exact va_tabs h1.1 rfl (hts w hm)
  · exact hts _ hm
theorem ent_TF {s : State} {b : Nat} (hts : ∀ w ∈ lw_tbl, w.before #[Value.ref b] s = true) : TF s := fun a w hm hg => by
  simp only [Bool.and_eq_true] at hg
  exact va_tabs hg.1 rfl (hts w hm)
theorem ent_K {s : State} (hT : TB s) : ∃ (dC : Nat → ClassId) (dI : Nat → Nat → Nat), ∀ (k : Nat) (q : vw_C), vwCl[k]? = some q → u_Kn s q.1 q.2.1 q.2.2 (dC k) (dI k) := by
  obtain ⟨c0, i0, k0⟩ := u_known (C := RJx4a65c) (T := TJx4a65c) (N := 3) (n := 3) (args := #[]) (twJx4a65c hT) (fun _ h => h) (zI_Jx4a65c hT)
  obtain ⟨c1, i1, k1⟩ := u_known (C := RX0) (T := TX0) (N := 13) (n := 13) (args := #[]) (twX0 hT) (fun _ h => h) (zI_X0 hT)
  obtain ⟨c2, i2, k2⟩ := u_known (C := RX2) (T := TX2) (N := 6) (n := 6) (args := #[]) (twX2 hT) (fun _ h => h) (zI_X2 hT)
  obtain ⟨c3, i3, k3⟩ := u_known (C := RX3) (T := TX3) (N := 5) (n := 5) (args := #[]) (twX3 hT) (fun _ h => h) (zI_X3 hT)
  obtain ⟨c4, i4, k4⟩ := u_known (C := RX4) (T := TX4) (N := 3) (n := 3) (args := #[]) (twX4 hT) (fun _ h => h) (zI_X4 hT)
  obtain ⟨c5, i5, k5⟩ := u_known (C := RX5) (T := TX5) (N := 6) (n := 6) (args := #[]) (twX5 hT) (fun _ h => h) (zI_X5 hT)
  obtain ⟨c6, i6, k6⟩ := u_known (C := RX6) (T := TX6) (N := 9) (n := 9) (args := #[]) (twX6 hT) (fun _ h => h) (zI_X6 hT)
  obtain ⟨c7, i7, k7⟩ := u_known (C := RX7) (T := TX7) (N := 12) (n := 12) (args := #[]) (twX7 hT) (fun _ h => h) (zI_X7 hT)
  obtain ⟨c8, i8, k8⟩ := u_known (C := RX8) (T := TX8) (N := 8) (n := 8) (args := #[]) (twX8 hT) (fun _ h => h) (zI_X8 hT)
  obtain ⟨c9, i9, k9⟩ := u_known (C := RX9) (T := TX9) (N := 7) (n := 7) (args := #[]) (twX9 hT) (fun _ h => h) (zI_X9 hT)
  obtain ⟨c10, i10, k10⟩ := u_known (C := RX10) (T := TX10) (N := 4) (n := 4) (args := #[]) (twX10 hT) (fun _ h => h) (zI_X10 hT)
  obtain ⟨c11, i11, k11⟩ := u_known (C := RX11) (T := TX11) (N := 5) (n := 5) (args := #[]) (twX11 hT) (fun _ h => h) (zI_X11 hT)
  obtain ⟨c12, i12, k12⟩ := u_known (C := RX12) (T := TX12) (N := 2) (n := 2) (args := #[]) (twX12 hT) (fun _ h => h) (zI_X12 hT)
  refine ⟨fun k => if k = 0 then c0 else if k = 1 then c1 else if k = 2 then c2 else if k = 3 then c3 else if k = 4 then c4 else if k = 5 then c5 else if k = 6 then c6 else if k = 7 then c7 else if k = 8 then c8 else if k = 9 then c9 else if k = 10 then c10 else if k = 11 then c11 else c12, fun k => if k = 0 then i0 else if k = 1 then i1 else if k = 2 then i2 else if k = 3 then i3 else if k = 4 then i4 else if k = 5 then i5 else if k = 6 then i6 else if k = 7 then i7 else if k = 8 then i8 else if k = 9 then i9 else if k = 10 then i10 else if k = 11 then i11 else i12, ?_⟩
  intro k q hq
  match k, hq with
  | 0, hq => cases hq; exact k0
  | 1, hq => cases hq; exact k1
  | 2, hq => cases hq; exact k2
  | 3, hq => cases hq; exact k3
  | 4, hq => cases hq; exact k4
  | 5, hq => cases hq; exact k5
  | 6, hq => cases hq; exact k6
  | 7, hq => cases hq; exact k7
  | 8, hq => cases hq; exact k8
  | 9, hq => cases hq; exact k9
  | 10, hq => cases hq; exact k10
  | 11, hq => cases hq; exact k11
  | 12, hq => cases hq; exact k12
  | k + 13, hq => exact absurd (List.getElem?_eq_some_iff.mp hq).1 (Nat.not_lt.mpr (Nat.le_add_left _ _))
set_option maxRecDepth 100000 in
theorem ent_SG {s : State} {b : Nat} (hts : ∀ w ∈ lw_tbl, w.before #[Value.ref b] s = true) (hgv : (Jvm.Cond.and given_1 narrow_1).before #[Value.ref b] s = true) : SG s := by
  have hs := flat_of_before _ hgv
  intro x hx
  have hx : x = (335, "a value is out of its range") ∨ x = (322, "no such person") ∨ x = (329, "no such kind") ∨ x = (331, "no such land") ∨ x = (325, "no such charge") ∨ x = (327, "no such receipt") ∨ x = (57, "there are 8 people") ∨ x = (88, "nobody stands in for oneself") ∨ x = (108, "there are 8 trips") ∨ x = (333, "no such period") ∨ x = (151, "there are 30 charges") ∨ x = (153, "the amount is more than there is") ∨ x = (175, "there are 30 receipts") ∨ x = (337, "the charge is in another state") ∨ x = (339, "the charge is not matched, or somebody else has to") ∨ x = (251, "it is the last day") := by simpa [sgl] using hx
  rcases hx with rfl | rfl | rfl | rfl | rfl | rfl | rfl | rfl | rfl | rfl | rfl | rfl | rfl | rfl | rfl | rfl
  · obtain ⟨a, c, cA, kA, q1, -⟩ := Cond.exactly_spec (hs (Cond.exactly (.string "ApprovalGrid" 335) "java/lang/String") (by decide +kernel))
    exact ⟨a, vk_R.of (hts (.stringRef "ApprovalGrid" 335 "a value is out of its range") (List.mem_of_getElem? (i := 248) (by decide +kernel))) q1⟩
  · obtain ⟨a, c, cA, kA, q1, -⟩ := Cond.exactly_spec (hs (Cond.exactly (.string "ApprovalGrid" 322) "java/lang/String") (by decide +kernel))
    exact ⟨a, vk_R.of (hts (.stringRef "ApprovalGrid" 322 "no such person") (List.mem_of_getElem? (i := 330) (by decide +kernel))) q1⟩
  · obtain ⟨a, c, cA, kA, q1, -⟩ := Cond.exactly_spec (hs (Cond.exactly (.string "ApprovalGrid" 329) "java/lang/String") (by decide +kernel))
    exact ⟨a, vk_R.of (hts (.stringRef "ApprovalGrid" 329 "no such kind") (List.mem_of_getElem? (i := 375) (by decide +kernel))) q1⟩
  · obtain ⟨a, c, cA, kA, q1, -⟩ := Cond.exactly_spec (hs (Cond.exactly (.string "ApprovalGrid" 331) "java/lang/String") (by decide +kernel))
    exact ⟨a, vk_R.of (hts (.stringRef "ApprovalGrid" 331 "no such land") (List.mem_of_getElem? (i := 379) (by decide +kernel))) q1⟩
  · obtain ⟨a, c, cA, kA, q1, -⟩ := Cond.exactly_spec (hs (Cond.exactly (.string "ApprovalGrid" 325) "java/lang/String") (by decide +kernel))
    exact ⟨a, vk_R.of (hts (.stringRef "ApprovalGrid" 325 "no such charge") (List.mem_of_getElem? (i := 422) (by decide +kernel))) q1⟩
  · obtain ⟨a, c, cA, kA, q1, -⟩ := Cond.exactly_spec (hs (Cond.exactly (.string "ApprovalGrid" 327) "java/lang/String") (by decide +kernel))
    exact ⟨a, vk_R.of (hts (.stringRef "ApprovalGrid" 327 "no such receipt") (List.mem_of_getElem? (i := 431) (by decide +kernel))) q1⟩
  · obtain ⟨a, c, cA, kA, q1, -⟩ := Cond.exactly_spec (hs (Cond.exactly (.string "ApprovalGrid" 57) "java/lang/String") (by decide +kernel))
    exact ⟨a, vk_R.of (hts (.stringRef "ApprovalGrid" 57 "there are 8 people") (List.mem_of_getElem? (i := 461) (by decide +kernel))) q1⟩
  · obtain ⟨a, c, cA, kA, q1, -⟩ := Cond.exactly_spec (hs (Cond.exactly (.string "ApprovalGrid" 88) "java/lang/String") (by decide +kernel))
    exact ⟨a, vk_R.of (hts (.stringRef "ApprovalGrid" 88 "nobody stands in for oneself") (List.mem_of_getElem? (i := 589) (by decide +kernel))) q1⟩
  · obtain ⟨a, c, cA, kA, q1, -⟩ := Cond.exactly_spec (hs (Cond.exactly (.string "ApprovalGrid" 108) "java/lang/String") (by decide +kernel))
    exact ⟨a, vk_R.of (hts (.stringRef "ApprovalGrid" 108 "there are 8 trips") (List.mem_of_getElem? (i := 606) (by decide +kernel))) q1⟩
  · obtain ⟨a, c, cA, kA, q1, -⟩ := Cond.exactly_spec (hs (Cond.exactly (.string "ApprovalGrid" 333) "java/lang/String") (by decide +kernel))
    exact ⟨a, vk_R.of (hts (.stringRef "ApprovalGrid" 333 "no such period") (List.mem_of_getElem? (i := 652) (by decide +kernel))) q1⟩
  · obtain ⟨a, c, cA, kA, q1, -⟩ := Cond.exactly_spec (hs (Cond.exactly (.string "ApprovalGrid" 151) "java/lang/String") (by decide +kernel))
    exact ⟨a, vk_R.of (hts (.stringRef "ApprovalGrid" 151 "there are 30 charges") (List.mem_of_getElem? (i := 682) (by decide +kernel))) q1⟩
  · obtain ⟨a, c, cA, kA, q1, -⟩ := Cond.exactly_spec (hs (Cond.exactly (.string "ApprovalGrid" 153) "java/lang/String") (by decide +kernel))
    exact ⟨a, vk_R.of (hts (.stringRef "ApprovalGrid" 153 "the amount is more than there is") (List.mem_of_getElem? (i := 683) (by decide +kernel))) q1⟩
  · obtain ⟨a, c, cA, kA, q1, -⟩ := Cond.exactly_spec (hs (Cond.exactly (.string "ApprovalGrid" 175) "java/lang/String") (by decide +kernel))
    exact ⟨a, vk_R.of (hts (.stringRef "ApprovalGrid" 175 "there are 30 receipts") (List.mem_of_getElem? (i := 782) (by decide +kernel))) q1⟩
  · obtain ⟨a, c, cA, kA, q1, -⟩ := Cond.exactly_spec (hs (Cond.exactly (.string "ApprovalGrid" 337) "java/lang/String") (by decide +kernel))
    exact ⟨a, vk_R.of (hts (.stringRef "ApprovalGrid" 337 "the charge is in another state") (List.mem_of_getElem? (i := 817) (by decide +kernel))) q1⟩
  · obtain ⟨a, c, cA, kA, q1, -⟩ := Cond.exactly_spec (hs (Cond.exactly (.string "ApprovalGrid" 339) "java/lang/String") (by decide +kernel))
    exact ⟨a, vk_R.of (hts (.stringRef "ApprovalGrid" 339 "the charge is not matched, or somebody else has to") (List.mem_of_getElem? (i := 833) (by decide +kernel))) q1⟩
  · obtain ⟨a, c, cA, kA, q1, -⟩ := Cond.exactly_spec (hs (Cond.exactly (.string "ApprovalGrid" 251) "java/lang/String") (by decide +kernel))
    exact ⟨a, vk_R.of (hts (.stringRef "ApprovalGrid" 251 "it is the last day") (List.mem_of_getElem? (i := 870) (by decide +kernel))) q1⟩
set_option maxRecDepth 100000 in
theorem ent_all {s : State} {b : Nat} (hts : ∀ w ∈ lw_tbl, w.before #[Value.ref b] s = true) (hgv : (Jvm.Cond.and given_1 narrow_1).before #[Value.ref b] s = true) : ∃ E : EE, eN E = s.heap.size ∧ CZ E s ∧ XZ (fun q => s.heap.size ≤ q) s s.heap ∧ ZE E s.heap ∧ XN s := by
  have hs := flat_of_before _ hgv
  have hT := ent_TB hts
  obtain ⟨dC, dI, hK⟩ := ent_K hT
  obtain ⟨cI, aI, nmI⟩ := ent_arr (args := #[]) (zA_82 hT)
  obtain ⟨cZ, aZ, nmZ⟩ := ent_arr (args := #[]) (zA_1193 hT)
  obtain ⟨cJ, aJ, nmJ⟩ := ent_arr (args := #[]) (zA_1355 hT)
  have hAO : (Cond.arrayOver (.object "java/lang/Object")).before #[Value.ref b] s = true := hts _ (List.mem_of_getElem? (i := 561) (by decide +kernel))
  have hAA : (Cond.arrayOver (.array .int)).before #[Value.ref b] s = true := hts _ (List.mem_of_getElem? (i := 921) (by decide +kernel))
  obtain ⟨cO, aO, rO⟩ := ent_obj hAO
  obtain ⟨cM, aM, nmM⟩ := ent_aoa hAA
  have hls : (Cond.laysStatic "java/util/ArrayList" "DEFAULTCAPACITY_EMPTY_ELEMENTDATA" "[Ljava/lang/Object;").before #[Value.ref b] s = true := hts _ (List.mem_of_getElem? (i := 107) (by decide +kernel))
  have hli : (Cond.initialized "java/util/ArrayList").before #[Value.ref b] s = true := hts _ (List.mem_of_getElem? (i := 61) (by decide +kernel))
  have hex : (Cond.exactly (.static "java/util/ArrayList" "DEFAULTCAPACITY_EMPTY_ELEMENTDATA" "[Ljava/lang/Object;") "[Ljava/lang/Object;").before #[Value.ref b] s = true := hs _ (by decide +kernel)
  have hln : (Cond.eq (.length (.static "java/util/ArrayList" "DEFAULTCAPACITY_EMPTY_ELEMENTDATA" "[Ljava/lang/Object;")) (.int 0)).before #[Value.ref b] s = true := hs _ (by decide +kernel)
  obtain ⟨miK, hmi⟩ := va_Mi.of (C := "[Ljava/lang/Object;") (hs _ (by decide +kernel))
  obtain ⟨cl, kl, fi, f, aA, cellA, l1, l2, l3, l4, l5, l6, l7, l8, l9⟩ := Cond.laysStatic_spec hls
  obtain ⟨aE, cX, cellE, kX, x1, x2, x3, x4, x5, x6, -⟩ := Cond.exactly_spec hex
  obtain ⟨-, aA', cellA', y1, y2, -, y4⟩ := Term.static_spec l2 x1
  have ea : aA' = aA := Option.some.inj (y1.symm.trans l4)
  subst ea
  have ec : cellA' = cellA := Option.some.inj (y2.symm.trans l5)
  subst ec
  have hcO : cX = cO := by
    obtain ⟨k9, comp9, r1, r2, r3, r4⟩ := rO
    have e9 : "[" ++ (FieldType.object "java/lang/Object").toString = "[Ljava/lang/Object;" := by decide +kernel
    rw [e9] at r4
    exact Option.some.inj (x2.symm.trans r4)
  have hi9 : kl.init = .initialized := Cond.initialized_spec l1 (State.fieldFound?_spec l2).1 hli
  refine ⟨((dC, dI), cI, cZ, cO, cM, cJ, aA', f.slot, aE, miK, s.heap.size), rfl, ⟨⟨⟨hT, ⟨hK, fun k q hq => ?_⟩, ⟨cl, kl, fi, f, l2, l3, hi9, l4, rfl⟩, hmi, va_AO.of hAO, va_Dc.of (hts _ (List.mem_of_getElem? (i := 1434) (by decide +kernel))), fun C hC => ?_⟩, ent_TF hts, ent_SG hts hgv⟩, va_Nc.of (hs _ (by decide +kernel)), va_Nc.of (hs _ (by decide +kernel)), va_Nc.of (hs _ (by decide +kernel))⟩, ⟨?_, ?_⟩, ⟨(Array.getElem?_eq_some_iff.mp y2).1, (Array.getElem?_eq_some_iff.mp x3).1, ⟨cellA', y2, l6, y4⟩, ⟨cellE, x3, x6.trans hcO, ent_len0 hln x1 x3, x5⟩⟩, ⟨hAA, va_Nw.of rfl (hts _ (List.mem_of_getElem? (i := 914) (by decide +kernel)))⟩⟩
  · match k, hq with
    | 0, hq => cases hq; exact ⟨aI, nmI⟩
    | 1, hq => cases hq; exact ⟨aZ, nmZ⟩
    | 2, hq => cases hq; exact ⟨aO, rO⟩
    | 3, hq => cases hq; exact ⟨aM, nmM⟩
    | 4, hq => cases hq; exact ⟨aJ, nmJ⟩
    | k + 5, hq => exact absurd (List.getElem?_eq_some_iff.mp hq).1 (Nat.not_lt.mpr (Nat.le_add_left _ _))
  · have hC : C = RX0 ∨ C = RX2 ∨ C = RX3 ∨ C = RX5 ∨ C = RX7 ∨ C = RX9 ∨ C = RX10 ∨ C = RX11 := by simpa [cObj] using hC
    rcases hC with rfl | rfl | rfl | rfl | rfl | rfl | rfl | rfl
    · exact va_Nw.of rfl (hts (.castable RX0 "java/lang/Object") (List.mem_of_getElem? (i := 1426) (by decide +kernel)))
    · exact va_Nw.of rfl (hts (.castable RX2 "java/lang/Object") (List.mem_of_getElem? (i := 1421) (by decide +kernel)))
    · exact va_Nw.of rfl (hts (.castable RX3 "java/lang/Object") (List.mem_of_getElem? (i := 1428) (by decide +kernel)))
    · exact va_Nw.of rfl (hts (.castable RX5 "java/lang/Object") (List.mem_of_getElem? (i := 1424) (by decide +kernel)))
    · exact va_Nw.of rfl (hts (.castable RX7 "java/lang/Object") (List.mem_of_getElem? (i := 1427) (by decide +kernel)))
    · exact va_Nw.of rfl (hts (.castable RX9 "java/lang/Object") (List.mem_of_getElem? (i := 1422) (by decide +kernel)))
    · exact va_Nw.of rfl (hts (.castable RX10 "java/lang/Object") (List.mem_of_getElem? (i := 1429) (by decide +kernel)))
    · exact va_Nw.of rfl (hts (.castable RX11 "java/lang/Object") (List.mem_of_getElem? (i := 1425) (by decide +kernel)))
  · exact vx_Zqof (hts _ (List.mem_of_getElem? (i := 234) (by decide +kernel))) (zn_Throwable hT (a := #[Value.ref b])) (hs _ (by decide +kernel)) (fun a h => Nat.not_le.mpr h)
  · exact vx_Zqof (hts _ (List.mem_of_getElem? (i := 236) (by decide +kernel))) (zn_Throwable hT (a := #[Value.ref b])) (hs _ (by decide +kernel)) (fun a h => Nat.not_le.mpr h)
theorem g_newj {p : Program} {l : Launch} {e : Env} {R : Room} {s : State} {m : MethodId} {args : Array Value} {below : List Frame} {meth : Method} {c : Code} {H : Heap} {locs : List Loc} {cells slots : Nat} {Q : State → Prop} {cc : ByteArray} {pc : Nat} {ls : Array Slot} {rest : List Value} {E : EE} (hx : p.tables.exec = Jvm.exec) (hb : c.code = cc) (hC : CX E s) {A : Nat → Prop} {H0 : Heap} (hS : va_S A H0 H locs) (hcells : cells + 1 ≤ R.cells) (hslots : slots + 1 ≤ R.slots) (hdg : decode cc pc = .ok (.newarray .long, 2))
    (kk : ∀ (H1 : Heap), va_at E.1 vwCl (H.size, .inl (eJ E, 1, .inr (.inl (fun _ => 0)))) H1 → H1.size = H.size + 1 → (∀ q : Nat, q < H.size → H1[q]? = H[q]?) → va_S A H0 H1 locs → W p l e R s m args below meth c H1 locs (cells + 1) (slots + 1) Q (F0 m (pc + 2) ls (.ref H.size :: rest))) : W p l e R s m args below meth c H locs cells slots Q (F0 m pc ls (.int (nI 1) :: rest)) := by
  have hcl : (nI 1).toNatClampNeg = 1 := nI_clamp (by decide)
  have hnn : ¬ nI 1 < 0 := by decide
  refine va_newaK (atype := .long) hx hb (zA_1355 hC.1) rfl hdg rfl hnn hcl (by rw [show componentBytes (newarray.typeOf .long) = 8 from rfl]; omega) hcells hslots rfl fun H1 cA e1 z1 o1 hAr hNm => ?_
  obtain ⟨-, r4⟩ := hC.2.1.2 4 _ rfl
  have hNm2 : s.vm.findClass ("[" ++ (FieldType.long).toString) = some cA := hNm
  have r5 : s.vm.findClass ("[" ++ (FieldType.long).toString) = some (eJ E) := r4
  have e2 : cA = eJ E := Option.some.inj (hNm2.symm.trans r5)
  subst e2
  refine kk H1 ?_ z1 o1 ⟨Nat.le_trans hS.1 (by omega), fun x h1 h2 => (o1 x (Nat.lt_of_lt_of_le h1 hS.1)).trans (hS.2.1 x h1 h2), hS.2.2⟩
  show _ = some (vp_cell _ _)
  rw [vp_cell_l]
  exact e1
set_option maxRecDepth 100000 in
set_option maxHeartbeats 4000000 in
theorem whole_start {p : Program} {e : Env} {s : State} {m : MethodId} {below : List Frame} {meth : Method} {c : Code} (l : Launch) (hflags : l.flags = flags0) {b L : Nat} {xs : Nat → Int32} (hL : L ≤ 3072) (C0 : lw_At p s m meth c b L xs) : W p l e room_1 s m #[Value.ref b] below meth c s.heap [] 0 0 (lw_Z below #[Value.ref b] s) (entryFrame m ([Value.ref b] : List Value).toArray 9) := by
  obtain ⟨hx, hb, hr, hml, hown0, hts, hX, hbl, hlocks, hgv⟩ := id C0
  have hown : s.vm.findClass RL = some m.cls := hown0
  have hst : l.stackTraces = false := by
    unfold Launch.stackTraces
    rw [hflags]
    decide +kernel
  obtain ⟨E, hN, hZ, hXZ, hZE, hXN⟩ := ent_all hts hgv
  have hC := hZ.1.1
  have hT := hC.1
  have hLC : LC p s m c E b L xs := ⟨hx, hb, hml, hown, hZ, hXZ, hX, hbl, hN, hL⟩
  have hS : va_S (LA s) s.heap s.heap [] := va_S.rf
  have hl := lv_entry ([.ref b]) (n := 9) (Nat.le_of_ble_eq_true rfl)
  rw [lg_entry_eq]
  generalize (lg_sl ([.ref b]) ++ List.replicate (9 - (lg_sl ([.ref b])).length) Slot.unset).toArray = ls at hl ⊢
  have hl : lv_has ls 9 [(0, .ref b)] := hl
  have hb : c.code = cL_law := hb
  obtain ⟨q6, hq6⟩ : ∃ a, a = s.heap.size := ⟨_, rfl⟩
  refine nw_X6 hx hb hown hC (zc_L_8 hT) hS (Nat.le_of_ble_eq_true rfl) (Nat.le_of_ble_eq_true rfl) dL_law_0 (fun H1 hO z1 o1 hS => ?_)
  rw [← hq6] at hO ⊢
  have hZE1 : ZE E H1 := hZE.kept (fun q h => o1 q (by omega))
  refine lv_dup hx hb dL_law_3 rfl ?_
  refine wc_I (As := []) hx hb hml hown hC hl (c_X6_init l E (q9 := q6) (by omega)) (zm_L_94 hT) kv_X6_init ⟨hO, hZE1⟩ hS (fun q h => h.elim (fun e => by have e : q = q6 := e; show s.heap.size ≤ q; omega) (fun e => by show s.heap.size ≤ q; omega)) rfl rfl ⟨Nat.le_of_ble_eq_true rfl, Nat.le_of_ble_eq_true rfl⟩ (Nat.le_of_ble_eq_true rfl) ⟨Nat.le_of_ble_eq_true rfl, Nat.le_of_ble_eq_true rfl⟩ dL_law_4 (fun v H2 locs2 hP z2 o2 hS => ?_)
  obtain ⟨⟨gA, hA, ha0, haw⟩, rfl⟩ := hP
  refine lv_astore_n (lv' := [(1, .ref q6), (0, .ref b)]) hx hb dL_law_7 rfl hl (by decide) rfl (fun ls hl => ?_)
  obtain ⟨q12, hq12⟩ : ∃ a, a = H2.size := ⟨_, rfl⟩
  refine nw_X12 hx hb hown hC (zc_L_95 hT) hS (Nat.le_of_ble_eq_true rfl) (Nat.le_of_ble_eq_true rfl) dL_law_8 (fun H3 hO3 z3 o3 hS => ?_)
  rw [← hq12] at hO3 ⊢
  have hA3 : RA E S0 gA H3 := hA.kept (fun q h => o3 q h)
  refine lv_dup hx hb dL_law_11 rfl ?_
  refine wcx_I (As := []) hx hb hml hown hC hXN hl (c_X12_init l E (q9 := q12) (by omega)) (zm_L_97 hT) kv_X12_init ⟨hO3, hA3.2.2.2⟩ hS (fun q h => h.elim (fun e => by have e : q = q12 := e; show s.heap.size ≤ q; omega) (fun e => by show s.heap.size ≤ q; omega)) rfl rfl ⟨Nat.le_of_ble_eq_true rfl, Nat.le_of_ble_eq_true rfl⟩ (Nat.le_of_ble_eq_true rfl) ⟨Nat.le_of_ble_eq_true rfl, Nat.le_of_ble_eq_true rfl⟩ dL_law_12 (fun v H4 locs4 hP z4 o4 hS => ?_)
  obtain ⟨⟨gB, hB, hb0, hbw⟩, rfl⟩ := hP
  have hA4 : RA E S0 gA H4 := li_keptA hA3 (fun q h1 h2 => o4 q h1 (fun e => by
    have e : q = q12 := e
    rcases h2 with h2 | h2
    · have := (haw q h2).2; omega
    · omega))
  refine lv_astore_n (lv' := [(2, .ref q12), (1, .ref q6), (0, .ref b)]) hx hb dL_law_15 rfl hl (by decide) rfl (fun ls hl => ?_)
  refine lv_iconst (v := nI 1) hx hb dL_law_16 (by decide) ?_
  obtain ⟨o9, ho9⟩ : ∃ a, a = H4.size := ⟨_, rfl⟩
  refine g_newj hx hb hC hS (Nat.le_of_ble_eq_true rfl) (Nat.le_of_ble_eq_true rfl) dL_law_17 (fun H5 hO5 z5 o5 hS => ?_)
  rw [← ho9] at hO5 ⊢
  refine lv_astore_n (lv' := [(3, .ref o9), (2, .ref q12), (1, .ref q6), (0, .ref b)]) hx hb dL_law_19 rfl hl (by decide) rfl (fun ls hl => ?_)
  refine lv_iconst (v := nI (6 * 0)) hx hb dL_law_20 (by decide) ?_
  refine lv_istore (lv' := [(4, .int (nI (6 * 0))), (3, .ref o9), (2, .ref q12), (1, .ref q6), (0, .ref b)]) hx hb dL_law_21 hl (by decide) rfl (fun ls hl => ?_)
  subst ha0
  subst hb0
  have hLI : LI E S0 S0 0 gA gB o9 (fun _ => 0) H5 := ⟨hA4.kept o5, hB.kept o5, hO5, fun q h1 h2 => by
      have h3 := (haw q h1).2
      rcases (hbw q h2).1 with h4 | h4 <;> omega,
    ⟨fun h => by have := (haw _ h).2; omega, fun h => by have := (hbw _ h).2; omega, by omega⟩, fun q h => by have := (haw q h).2; omega, fun q h => by have := (hbw q h).2; omega⟩
  refine law_loop hst hLC (o9 := o9) (fun H1 locs1 ls1 hS1 => ?_) 513 0 rfl S0 0 gA gB _ H5 _ ls _ _ good_0 hLI hS (lv_sub hl [4, 3, 2, 1, 0] rfl) ⟨Nat.le_of_ble_eq_true rfl, Nat.le_of_ble_eq_true rfl⟩
  refine va_forget (fun q hq => hS1.2.2 q hq) ?_
  refine lv_iconst (v := 1) hx hb dL_law_1960 (by decide) ?_
  refine W.base ?_
  exact lw_ret (Drawn.sameBut.refl s.drawn lw_cs) hx hb hr hlocks dL_law_1961
