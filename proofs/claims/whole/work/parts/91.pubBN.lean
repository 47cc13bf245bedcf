theorem rc_V9 {p : Program} {l : Launch} {e : Env} {R : Room} {s : State} {m : MethodId} {args : Array Value} {below : List Frame} {meth : Method} {c : Code} {H : Heap} {locs : List Loc} {cells slots : Nat} {Q : State → Prop} {cc : ByteArray} {pc : Nat} {ls : Array Slot} {rest : List Value} {E : EE} {own : String} {C : String} {y : MethodName} {b : ByteArray} {n nL k index : Nat} {ret : FieldType} {rm : Room} {a : Nat} {As st : List Value} {lv : List (Nat × Value)} {Pre : Heap → Prop} {val : Value} (hx : p.tables.exec = Jvm.exec) (hb : c.code = cc) (hml : c.maxLocals = nL) (hown : s.vm.findClass own = some m.cls) (hC : CX E s) (hl : lv_has ls nL lv) (hM : RM l E y b n ret rm (.ref a :: As) Pre val) (hrec : ∃ cell : Cell, H[a]? = some cell ∧ cell.vm.isStatics = false ∧ s.vm.findClass C = some cell.cls) (zm : (Cond.methodLink own index y).before args s = true) (kv : KV C y b n (some ret) k) (hPre : Pre H) (hn : As.length = k) (hst : st = As.reverse ++ .ref a :: rest) (hR : rm.frames + 1 ≤ R.frames ∧ 9 + (n + 11) + rm.locals ≤ R.locals) (hrm : rm.cells = 0 ∧ rm.slots = 0) (hW : (rest.map fun v => v.category).sum ≤ 9) (hcs : cells ≤ R.cells ∧ slots ≤ R.slots) (hdg : decode cc pc = .ok (.invokevirtual index, 3))
    (kk : W p l e R s m args below meth c H locs cells slots Q (F0 m (pc + 3) ls (val :: rest))) : W p l e R s m args below meth c H locs cells slots Q (F0 m pc ls st) := by
  subst hst
  have k1 := kv.1 s args hC.1
  refine rc_go (a := (Value.ref a :: As).toArray) ?_ kk
  have hbl : FrameBlind (va_Pc (.ref a :: As) (fun U => CX E U ∧ Pre U.heap)) := fun a U g mk q => ⟨q.1, q.2.1.calling, q.2.2⟩
  have hK : Back l R p e below s args y 3 9 (PreOf R 0 0 (va_Pc (.ref a :: As) (fun U => CX E U ∧ Pre U.heap))) (PostOf (RQ val) 0 0 (fun _ => False)) := back_of (bytes := b) (maxL := n) (ret := some ret) hM hbl hrm.1 hrm.2 hR.1 hR.2 (fun w hw a' U hW => by rw [List.mem_singleton.mp hw]; exact (kv.1 U a' (hC.1.moved hW)).1) (List.mem_singleton.mpr rfl) (fun a' U hW => (kv.1 U a' (hC.1.moved hW)).2.1)
  obtain ⟨cellB, hcB, hoB, hclB⟩ := hrec
  intro T hT X
  obtain ⟨v, vm₁, ⟨U', l2, c2, s2⟩, hW₁, X', ⟨g', mk, t, L, e1, e2, hq, h1, hL, h2, h3⟩, st⟩ := callV X hx (C := C) (bytes := b) (maxL := n) (ret := some ret) hown zm k1.2.2.1 k1.2.2.2 k1.1 kv.2.1 hK (by rw [hT]; exact hcB) hoB hclB (g := F0 m pc ls (As.reverse ++ .ref a :: rest)) rfl (hl.1.trans hml.symm) (argsL := As) (rest := rest) (fun sig h => by have hd := kv.2.2; rw [h] at hd; exact hn.trans (Option.some.inj hd).symm) rfl (by show 2 * 0 + _ ≤ 9; omega) (by rw [hb]; exact hdg)
    (fun vm₁ hW₁ => ⟨hcs.1, hcs.2, rfl, hC.moved hW₁, by show Pre (T.setVm vm₁).heap; rw [show (T.setVm vm₁).heap = H from hT]; exact hPre⟩)
  dsimp only [Pt.U, Pt.locs, Pt.cells, Pt.slots] at X' e1 e2 h1 h2 h3 st
  subst h1; subst h2; subst h3
  exact ⟨v, (T.setVm vm₁).calling g' mk (Value.ref a :: As).toArray, t, U', L, hT, X', hL, e1, e2, hq, st⟩
theorem i_nle3 {x y : Int32} (h : x ≤ y) : ¬ y < x := fun q => i_ltle q h
set_option maxRecDepth 100000 in
set_option maxHeartbeats 4000000 in
theorem c_X12_person0 (l : Launch) (E : EE) {S : St} {th : Int32} {g : Gh} (hI : Inv S) (h8 : S.np < 8) (hL0 : ∀ j, S.np * 4 ≤ j → S.tb 0 j = 0) : WM l E yX12_person cX12_person 2 (some .int) (wD 8 3 90) [.ref (g.ad 1 0), .int ((-1))] (RB E S th g) (ow g) (fun sz v H => (∃ g1, RB E (addP S none) 0 g1 H ∧ gX g g1 sz H.size) ∧ v = some (.int (nI S.np))) := by
  refine wm_of rfl (Nat.le_of_ble_eq_true rfl) (fun p e s m below meth c ls hx hb hr hml (hown : s.vm.findClass RX12 = some m.cls) hC hlocks hR hl hini => ?_)
  have hS : va_S (fun q => ow g q ∨ s.heap.size ≤ q) s.heap s.heap [] := va_S.rf
  have hl : lv_has ls 2 [(0, .ref (g.ad 1 0)), (1, .int ((-1)))] := hl
  refine lv_aload_n hx hb dX12_person_0 rfl (lv_at hl 0 rfl) ?_
  refine lv_iload_n hx hb dX12_person_1 rfl (lv_at hl 1 rfl) ?_
  refine lv_iconst (v := (-1)) hx hb dX12_person_2 (by decide) ?_
  refine lv_icmp_eq (tgt := 18) hx hb dX12_person_3 (by decide) (fun c_3 => ?_) (fun c_3 => ?_)
  ·
    refine lv_iconst (v := 0) hx hb dX12_person_18 (by decide) ?_
    refine lv_iconst (v := 1) hx hb dX12_person_19 (by decide) ?_
    refine wcw_V (As := [.int (0), .int (1)]) hx hb hml hown hC hl (c_X12_start0 l E hI (w9 := 1)) (rec_of hC (RB.x hR) rfl) (zm_X12_48 hC.1) kv_X12_start hR hS (fun q h => h.imp id (Nat.le_trans hS.1)) rfl rfl (wD_le (by decide) (by decide)) (Nat.le_of_ble_eq_true rfl) ⟨Nat.le_of_ble_eq_true rfl, Nat.le_of_ble_eq_true rfl⟩ dX12_person_20 (fun H1 locs1 hR hz hq hS => ?_)
    refine lv_if_ne (tgt := 54) hx hb dX12_person_23 (by decide) (fun c_23 => ?_) (fun c_23 => ?_)
    · exact absurd (by decide) c_23
    ·
      have c_23 : (0 : Int32) = (0) := c_23
      refine lv_aload_n hx hb dX12_person_26 rfl (lv_at hl 0 rfl) ?_
      refine lv_aload_n hx hb dX12_person_27 rfl (lv_at hl 0 rfl) ?_
      refine gf_X12_1 hx hb hown hC (RB.x hR) (zf_X12_10 hC.1) dX12_person_28 ?_
      refine gf_X8_0 hx hb hown hC (RB.dk hR) (zf_X12_24 hC.1) dX12_person_31 ?_
      refine rc_V (As := []) hx hb hml hown hC hl (c_size l E _ _ _ _) (rec_of hC (RB.ls hR (by decide : 0 < 4)) rfl) (zm_X12_28 hC.1) kv_Jx4a65c_size_8abf5 (RB.ls hR (by decide : 0 < 4)) rfl rfl (rwD_le (by decide) (by decide)) ⟨rfl, rfl⟩ (Nat.le_of_ble_eq_true rfl) ⟨Nat.zero_le _, Nat.zero_le _⟩ dX12_person_34 ?_
      refine lv_bipush (v := 8) hx hb dX12_person_37 (by decide) ?_
      refine lv_icmp_ne (tgt := 46) hx hb dX12_person_39 (by decide) (fun c_39 => ?_) (fun c_39 => ?_)
      ·
        have c_39 : ¬ (nI (S.np) : Int32) = (8) := c_39
        refine lv_iconst (v := 0) hx hb dX12_person_46 (by decide) ?_
        refine lv_iconst (v := 2) hx hb dX12_person_47 (by decide) ?_
        refine wcw_V (As := [.int (0), .int (2)]) hx hb hml hown hC hl (c_X12_refuse0 l E hI (w9 := 2)) (rec_of hC (RB.x hR) rfl) (zm_X12_20 hC.1) kv_X12_refuse hR hS (fun q h => h.imp id (Nat.le_trans hS.1)) rfl rfl (wD_le (by decide) (by decide)) (Nat.le_of_ble_eq_true rfl) ⟨Nat.le_of_ble_eq_true rfl, Nat.le_of_ble_eq_true rfl⟩ dX12_person_48 (fun H1 locs1 hR hz hq hS => ?_)
        refine lv_if_eq (tgt := 56) hx hb dX12_person_51 (by decide) (fun c_51 => ?_) (fun c_51 => ?_)
        ·
          have c_51 : (0 : Int32) = (0) := c_51
          refine lv_aload_n hx hb dX12_person_56 rfl (lv_at hl 0 rfl) ?_
          refine gf_X12_1 hx hb hown hC (RB.x hR) (zf_X12_10 hC.1) dX12_person_57 ?_
          refine gf_X8_0 hx hb hown hC (RB.dk hR) (zf_X12_24 hC.1) dX12_person_60 ?_
          obtain ⟨o9, ho9⟩ : ∃ o, o = H1.size := ⟨_, rfl⟩
          have hoS : s.heap.size ≤ o9 := by rw [ho9]; exact hS.1
          have hfr := hR.fresh
          have haN := hR.eN_le
          have hlt3 := hR.a3lt (i := 0) (by decide)
          refine nw_X9 hx hb hown hC (zc_X12_42 hC.1) hS (Nat.le_of_ble_eq_true rfl) (Nat.le_of_ble_eq_true rfl) dX12_person_63 (fun H1 hN hz hq hS => ?_)
          rw [← ho9] at hN hfr haN hlt3 ⊢
          have hR := hR.kept (fun q h => hq q h)
          refine lv_dup hx hb dX12_person_66 rfl ?_
          refine lv_aload_n hx hb dX12_person_67 rfl (lv_at hl 0 rfl) ?_
          refine gf_X12_1 hx hb hown hC (RB.x hR) (zf_X12_10 hC.1) dX12_person_68 ?_
          refine gf_X8_0 hx hb hown hC (RB.dk hR) (zf_X12_24 hC.1) dX12_person_71 ?_
          refine rc_V (As := []) hx hb hml hown hC hl (c_size l E _ _ _ _) (rec_of hC (RB.ls hR (by decide : 0 < 4)) rfl) (zm_X12_28 hC.1) kv_Jx4a65c_size_8abf5 (RB.ls hR (by decide : 0 < 4)) rfl rfl (rwD_le (by decide) (by decide)) ⟨rfl, rfl⟩ (Nat.le_of_ble_eq_true rfl) ⟨(Nat.le_of_ble_eq_true rfl), (Nat.le_of_ble_eq_true rfl)⟩ dX12_person_74 ?_
          refine lv_iload_n hx hb dX12_person_77 rfl (lv_at hl 1 rfl) ?_
          refine lv_iconst (v := (-1)) hx hb dX12_person_78 (by decide) ?_
          refine lv_icmp_ne (tgt := 86) hx hb dX12_person_79 (by decide) (fun c_79 => ?_) (fun c_79 => ?_)
          · exact absurd (by decide) c_79
          ·
            have c_79 : ((-1) : Int32) = ((-1)) := c_79
            refine lv_null hx hb dX12_person_82 ?_
            refine lv_goto (tgt := 91) hx hb dX12_person_83 (by decide) ?_
            obtain ⟨x9q, hx9q⟩ : ∃ b, b = H1.size := ⟨_, rfl⟩
            have hox : o9 < x9q := by rw [hx9q]; exact hN.lt
            have hfr2 : ∀ k i, valB S g k i → ¬ g.ad k i = x9q := by rw [hx9q]; exact hR.fresh
            refine wc_I (As := [.int (nI (S.np)), .null]) hx hb hml hown hC hl (c_X9_init l E (q9 := o9) (g := g) (n9 := nI S.np) (bo := none)) (zm_X12_55 hC.1) kv_X9_init hN hS (fun q h => h.elim (fun e => e ▸ (Or.inr hoS)) (fun e => Or.inr (Nat.le_trans hS.1 e))) rfl rfl (wD_le (by decide) (by decide)) (Nat.le_of_ble_eq_true rfl) ⟨(Nat.le_of_ble_eq_true rfl), (Nat.le_of_ble_eq_true rfl)⟩ dX12_person_91 (fun v H1 locs1 h9 hz hq hS => ?_)
            obtain ⟨⟨hN, hA9⟩, rfl⟩ := h9
            rw [← hx9q] at hN hA9
            have hR := hR.kept1 hfr haN (fun q h1 h2 => hq q h1 h2)
            obtain ⟨n2, hn2⟩ : ∃ n, n = H1.size := ⟨_, rfl⟩
            have hN0 : o9 < n2 := by rw [hn2]; exact hN.lt
            have h23 := hR.ne23 (i := 0) (by decide)
            have hX0 : x9q < n2 := by rw [hn2]; exact hA9.lt
            have hx2 : ¬ x9q = g.ad 2 0 := fun e => hfr2 2 0 (show 0 < 4 by decide) e.symm
            have hx3 : ¬ x9q = g.ad 3 0 := fun e => by omega
            have hvq : ¬ o9 = g.ad 2 0 := fun e => hfr 2 0 (show 0 < 4 by decide) e.symm
            have hva : ¬ o9 = g.ad 3 0 := fun e => by omega
            have hqN := hR.2.2.1.1 _ (hR.ow (k := 2) (i := 0) (show 0 < 4 by decide))
            refine wc_V (As := [.ref (o9)]) hx hb hml hown hC hl (c_add l E (q9 := g.ad 2 0) (a9 := g.ad 3 0) (v9 := o9) (n9 := S.np) (c9 := g.cap 0) (md := g.md 0) (ad9 := g.ad 6) (ci := 9) rfl (by simp [cObj]) (hR.2.1 0 (by decide)).1 (hR.2.1 0 (by decide)).2 (Nat.le_trans hI.np (by decide)) h23 hvq hva hqN (fun j hj e => hR.neK (i := 0) (by decide) (k := 6) hj (by decide) e)) (rec_of hC (hR.ls (i := 0) (by decide)) rfl) (zm_X12_58 hC.1) kv_Jx4a65c_add_9ea2d ⟨hR.ls (i := 0) (by decide), hR.lstA (i := 0) (by decide), fun j hj => ⟨_, hR.pe hj⟩, hN, hR.2.2.2⟩ hS (fun q h => h.elim (fun e => e.elim (fun e => Or.inl (e ▸ hR.ow (k := 2) (i := 0) (show 0 < 4 by decide))) (fun e => Or.inl (e.1 ▸ hR.ow (k := 3) (i := 0) ⟨by decide, e.2⟩))) (fun e => Or.inr (Nat.le_trans hS.1 e))) rfl rfl (wD_le (by decide) (by decide)) (Nat.le_of_ble_eq_true rfl) ⟨(Nat.le_of_ble_eq_true rfl), (Nat.le_of_ble_eq_true rfl)⟩ dX12_person_94 (fun v H1 locs1 hP hz hq hS => ?_)
            obtain ⟨⟨ea, cp, hL, hcp1, hcp2, hAr, hcs⟩, rfl⟩ := hP
            have hN := hN.kept (hq _ hN.lt (fun e => e.elim hvq (fun e => hva e.1)))
            have hA9 := hA9.kept (hq _ hA9.lt (fun e => e.elim hx2 (fun e => hx3 e.1)))
            have hcs : (ea = g.ad 3 0 ∧ 0 < g.cap 0) ∨ ea = n2 := by rw [hn2]; exact hcs
            have hz2 : n2 ≤ H1.size := by rw [hn2]; exact hz
            have hae : ¬ o9 = ea := by
              intro e9
              rcases hcs with hc1 | hc1
              · exact hva (e9.trans hc1.1)
              · omega
            have hxe : ¬ x9q = ea := by
              intro e9
              rcases hcs with hc1 | hc1
              · exact hx3 (e9.trans hc1.1)
              · omega
            have heN : eN E ≤ ea := by
              rcases hcs with hc1 | hc1
              · rw [hc1.1]; exact hR.2.2.1.1 _ (hR.ow (k := 3) (i := 0) ⟨by decide, hc1.2⟩)
              · omega
            have he : (ea = g.ad 3 0 ∧ 0 < g.cap 0) ∨ ∀ k' i', valB S g k' i' → ¬ g.ad k' i' = ea := by
              rcases hcs with hc1 | hc1
              · exact Or.inl hc1
              · refine Or.inr (fun k' i' hv e9 => ?_)
                have h9 : g.ad k' i' < n2 := by rw [hn2]; exact (hR.1 k' i' hv).2.lt
                omega
            have hArl : ea < H1.size := hAr.lt
            have hNl : o9 < H1.size := hN.lt
            have hgx : gX g (gA2 g 6 0 S.np o9 ea cp 13 x9q) s.heap.size H1.size := by
              refine gX_add2 (by decide) (by decide) ⟨hoS, hNl⟩ ?_ ⟨by omega, by omega⟩
              rcases hcs with hc1 | hc1
              · exact Or.inl ⟨hc1.1, hR.ow (k := 3) (i := 0) ⟨by decide, hc1.2⟩⟩
              · exact Or.inr ⟨by omega, hArl⟩
            have hR : RB E (addP S none) 0 (gA2 g 6 0 S.np o9 ea cp 13 x9q) H1 := RB.appP hR hI hfr he hae haN heN ⟨hcp1, hcp2⟩ (fun q h1 h2 h3 => hq q h1 (fun e => e.elim h2 h3)) hL hAr hN hA9 hfr2 (by omega) (by omega) hxe (fun j hj => by cases hj) hL0
            have hI : Inv (addP S none) := hI.adP h8 (fun j hj => by cases hj)
            refine lv_pop hx hb dX12_person_97 rfl ?_
            refine lv_aload_n hx hb dX12_person_98 rfl (lv_at hl 0 rfl) ?_
            refine gf_X12_1 hx hb hown hC (RB.x (g := (gA2 g 6 0 S.np o9 ea cp 13 x9q)) hR) (zf_X12_10 hC.1) dX12_person_99 ?_
            refine gf_X8_0 hx hb hown hC (RB.dk (g := (gA2 g 6 0 S.np o9 ea cp 13 x9q)) hR) (zf_X12_24 hC.1) dX12_person_102 ?_
            refine rc_V (As := []) hx hb hml hown hC hl (c_size l E _ _ _ _) (rec_of hC (RB.ls hR (by decide : 0 < 4)) rfl) (zm_X12_28 hC.1) kv_Jx4a65c_size_8abf5 (RB.ls hR (by decide : 0 < 4)) rfl rfl (rwD_le (by decide) (by decide)) ⟨rfl, rfl⟩ (Nat.le_of_ble_eq_true rfl) ⟨(Nat.le_of_ble_eq_true rfl), (Nat.le_of_ble_eq_true rfl)⟩ dX12_person_105 ?_
            refine lv_iconst (v := 1) hx hb dX12_person_108 (by decide) ?_
            refine lv_isub hx hb dX12_person_109 ?_
            exact wr_i hx hb hr hlocks hS ⟨⟨_, hR, hgx⟩, congrArg (fun v => some (Value.int v)) (show _ = nI S.np from nI_pred S.np)⟩ (Nat.le_of_ble_eq_true rfl) (Nat.le_of_ble_eq_true rfl) dX12_person_110
        · exact absurd (by decide) c_51
      · exact absurd c_39 (fun h => absurd ((nI_eq (a := S.np) (b := 8) (by have := hI.1; omega) (by decide)).mp h) (by omega))
  · exact absurd (by decide) c_3
set_option maxRecDepth 100000 in
set_option maxHeartbeats 4000000 in
theorem c_X12_person1 (l : Launch) (E : EE) {S : St} {th : Int32} {g : Gh} (hI : Inv S) {p9 : Nat} (hp9 : p9 < S.np) (h8 : S.np < 8) (hL0 : ∀ j, S.np * 4 ≤ j → S.tb 0 j = 0) : WM l E yX12_person cX12_person 2 (some .int) (wD 8 3 90) [.ref (g.ad 1 0), .int (nI p9)] (RB E S th g) (ow g) (fun sz v H => (∃ g1, RB E (addP S (some p9)) 0 g1 H ∧ gX g g1 sz H.size) ∧ v = some (.int (nI S.np))) := by
  refine wm_of rfl (Nat.le_of_ble_eq_true rfl) (fun p e s m below meth c ls hx hb hr hml (hown : s.vm.findClass RX12 = some m.cls) hC hlocks hR hl hini => ?_)
  have hS : va_S (fun q => ow g q ∨ s.heap.size ≤ q) s.heap s.heap [] := va_S.rf
  have hl : lv_has ls 2 [(0, .ref (g.ad 1 0)), (1, .int (nI p9))] := hl
  refine lv_aload_n hx hb dX12_person_0 rfl (lv_at hl 0 rfl) ?_
  refine lv_iload_n hx hb dX12_person_1 rfl (lv_at hl 1 rfl) ?_
  refine lv_iconst (v := (-1)) hx hb dX12_person_2 (by decide) ?_
  refine lv_icmp_eq (tgt := 18) hx hb dX12_person_3 (by decide) (fun c_3 => ?_) (fun c_3 => ?_)
  · exact absurd c_3 (nI_neg1 (Nat.lt_trans hp9 hI.np31))
  ·
    refine lv_aload_n hx hb dX12_person_6 rfl (lv_at hl 0 rfl) ?_
    refine lv_iload_n hx hb dX12_person_7 rfl (lv_at hl 1 rfl) ?_
    refine rc_V (As := [.int (nI p9)]) hx hb hml hown hC hl (k_isNo_0 l E hI hp9) (rec_of hC (RB.x hR) rfl) (zm_X12_44 hC.1) kv_X12_isNo hR rfl rfl (rwD_le (by decide) (by decide)) ⟨rfl, rfl⟩ (Nat.le_of_ble_eq_true rfl) ⟨Nat.zero_le _, Nat.zero_le _⟩ dX12_person_8 ?_
    refine lv_if_eq (tgt := 18) hx hb dX12_person_11 (by decide) (fun c_11 => ?_) (fun c_11 => ?_)
    ·
      refine lv_iconst (v := 0) hx hb dX12_person_18 (by decide) ?_
      refine lv_iconst (v := 1) hx hb dX12_person_19 (by decide) ?_
      refine wcw_V (As := [.int (0), .int (1)]) hx hb hml hown hC hl (c_X12_start0 l E hI (w9 := 1)) (rec_of hC (RB.x hR) rfl) (zm_X12_48 hC.1) kv_X12_start hR hS (fun q h => h.imp id (Nat.le_trans hS.1)) rfl rfl (wD_le (by decide) (by decide)) (Nat.le_of_ble_eq_true rfl) ⟨Nat.le_of_ble_eq_true rfl, Nat.le_of_ble_eq_true rfl⟩ dX12_person_20 (fun H1 locs1 hR hz hq hS => ?_)
      refine lv_if_ne (tgt := 54) hx hb dX12_person_23 (by decide) (fun c_23 => ?_) (fun c_23 => ?_)
      · exact absurd (by decide) c_23
      ·
        have c_23 : (0 : Int32) = (0) := c_23
        refine lv_aload_n hx hb dX12_person_26 rfl (lv_at hl 0 rfl) ?_
        refine lv_aload_n hx hb dX12_person_27 rfl (lv_at hl 0 rfl) ?_
        refine gf_X12_1 hx hb hown hC (RB.x hR) (zf_X12_10 hC.1) dX12_person_28 ?_
        refine gf_X8_0 hx hb hown hC (RB.dk hR) (zf_X12_24 hC.1) dX12_person_31 ?_
        refine rc_V (As := []) hx hb hml hown hC hl (c_size l E _ _ _ _) (rec_of hC (RB.ls hR (by decide : 0 < 4)) rfl) (zm_X12_28 hC.1) kv_Jx4a65c_size_8abf5 (RB.ls hR (by decide : 0 < 4)) rfl rfl (rwD_le (by decide) (by decide)) ⟨rfl, rfl⟩ (Nat.le_of_ble_eq_true rfl) ⟨Nat.zero_le _, Nat.zero_le _⟩ dX12_person_34 ?_
        refine lv_bipush (v := 8) hx hb dX12_person_37 (by decide) ?_
        refine lv_icmp_ne (tgt := 46) hx hb dX12_person_39 (by decide) (fun c_39 => ?_) (fun c_39 => ?_)
        ·
          have c_39 : ¬ (nI (S.np) : Int32) = (8) := c_39
          refine lv_iconst (v := 0) hx hb dX12_person_46 (by decide) ?_
          refine lv_iconst (v := 2) hx hb dX12_person_47 (by decide) ?_
          refine wcw_V (As := [.int (0), .int (2)]) hx hb hml hown hC hl (c_X12_refuse0 l E hI (w9 := 2)) (rec_of hC (RB.x hR) rfl) (zm_X12_20 hC.1) kv_X12_refuse hR hS (fun q h => h.imp id (Nat.le_trans hS.1)) rfl rfl (wD_le (by decide) (by decide)) (Nat.le_of_ble_eq_true rfl) ⟨Nat.le_of_ble_eq_true rfl, Nat.le_of_ble_eq_true rfl⟩ dX12_person_48 (fun H1 locs1 hR hz hq hS => ?_)
          refine lv_if_eq (tgt := 56) hx hb dX12_person_51 (by decide) (fun c_51 => ?_) (fun c_51 => ?_)
          ·
            have c_51 : (0 : Int32) = (0) := c_51
            refine lv_aload_n hx hb dX12_person_56 rfl (lv_at hl 0 rfl) ?_
            refine gf_X12_1 hx hb hown hC (RB.x hR) (zf_X12_10 hC.1) dX12_person_57 ?_
            refine gf_X8_0 hx hb hown hC (RB.dk hR) (zf_X12_24 hC.1) dX12_person_60 ?_
            obtain ⟨o9, ho9⟩ : ∃ o, o = H1.size := ⟨_, rfl⟩
            have hoS : s.heap.size ≤ o9 := by rw [ho9]; exact hS.1
            have hfr := hR.fresh
            have haN := hR.eN_le
            have hlt3 := hR.a3lt (i := 0) (by decide)
            refine nw_X9 hx hb hown hC (zc_X12_42 hC.1) hS (Nat.le_of_ble_eq_true rfl) (Nat.le_of_ble_eq_true rfl) dX12_person_63 (fun H1 hN hz hq hS => ?_)
            rw [← ho9] at hN hfr haN hlt3 ⊢
            have hR := hR.kept (fun q h => hq q h)
            refine lv_dup hx hb dX12_person_66 rfl ?_
            refine lv_aload_n hx hb dX12_person_67 rfl (lv_at hl 0 rfl) ?_
            refine gf_X12_1 hx hb hown hC (RB.x hR) (zf_X12_10 hC.1) dX12_person_68 ?_
            refine gf_X8_0 hx hb hown hC (RB.dk hR) (zf_X12_24 hC.1) dX12_person_71 ?_
            refine rc_V (As := []) hx hb hml hown hC hl (c_size l E _ _ _ _) (rec_of hC (RB.ls hR (by decide : 0 < 4)) rfl) (zm_X12_28 hC.1) kv_Jx4a65c_size_8abf5 (RB.ls hR (by decide : 0 < 4)) rfl rfl (rwD_le (by decide) (by decide)) ⟨rfl, rfl⟩ (Nat.le_of_ble_eq_true rfl) ⟨(Nat.le_of_ble_eq_true rfl), (Nat.le_of_ble_eq_true rfl)⟩ dX12_person_74 ?_
            refine lv_iload_n hx hb dX12_person_77 rfl (lv_at hl 1 rfl) ?_
            refine lv_iconst (v := (-1)) hx hb dX12_person_78 (by decide) ?_
            refine lv_icmp_ne (tgt := 86) hx hb dX12_person_79 (by decide) (fun c_79 => ?_) (fun c_79 => ?_)
            ·
              have c_79 : ¬ (nI p9 : Int32) = ((-1)) := c_79
              refine lv_aload_n hx hb dX12_person_86 rfl (lv_at hl 0 rfl) ?_
              refine lv_iload_n hx hb dX12_person_87 rfl (lv_at hl 1 rfl) ?_
              refine rc_V (As := [.int (nI p9)]) hx hb hml hown hC hl (c_X12_of_n l E (S := S) hp9) (rec_of hC (RB.x hR) rfl) (zm_X12_51 hC.1) kv_X12_of hR rfl rfl (rwD_le (by decide) (by decide)) ⟨rfl, rfl⟩ (Nat.le_of_ble_eq_true rfl) ⟨(Nat.le_of_ble_eq_true rfl), (Nat.le_of_ble_eq_true rfl)⟩ dX12_person_88 ?_
              obtain ⟨x9q, hx9q⟩ : ∃ b, b = H1.size := ⟨_, rfl⟩
              have hox : o9 < x9q := by rw [hx9q]; exact hN.lt
              have hfr2 : ∀ k i, valB S g k i → ¬ g.ad k i = x9q := by rw [hx9q]; exact hR.fresh
              refine wc_I (As := [.int (nI (S.np)), .ref (g.ad 6 (p9))]) hx hb hml hown hC hl (c_X9_init l E (q9 := o9) (g := g) (n9 := nI S.np) (bo := (some p9))) (zm_X12_55 hC.1) kv_X9_init hN hS (fun q h => h.elim (fun e => e ▸ (Or.inr hoS)) (fun e => Or.inr (Nat.le_trans hS.1 e))) rfl rfl (wD_le (by decide) (by decide)) (Nat.le_of_ble_eq_true rfl) ⟨(Nat.le_of_ble_eq_true rfl), (Nat.le_of_ble_eq_true rfl)⟩ dX12_person_91 (fun v H1 locs1 h9 hz hq hS => ?_)
              obtain ⟨⟨hN, hA9⟩, rfl⟩ := h9
              rw [← hx9q] at hN hA9
              have hR := hR.kept1 hfr haN (fun q h1 h2 => hq q h1 h2)
              obtain ⟨n2, hn2⟩ : ∃ n, n = H1.size := ⟨_, rfl⟩
              have hN0 : o9 < n2 := by rw [hn2]; exact hN.lt
              have h23 := hR.ne23 (i := 0) (by decide)
              have hX0 : x9q < n2 := by rw [hn2]; exact hA9.lt
              have hx2 : ¬ x9q = g.ad 2 0 := fun e => hfr2 2 0 (show 0 < 4 by decide) e.symm
              have hx3 : ¬ x9q = g.ad 3 0 := fun e => by omega
              have hvq : ¬ o9 = g.ad 2 0 := fun e => hfr 2 0 (show 0 < 4 by decide) e.symm
              have hva : ¬ o9 = g.ad 3 0 := fun e => by omega
              have hqN := hR.2.2.1.1 _ (hR.ow (k := 2) (i := 0) (show 0 < 4 by decide))
              refine wc_V (As := [.ref (o9)]) hx hb hml hown hC hl (c_add l E (q9 := g.ad 2 0) (a9 := g.ad 3 0) (v9 := o9) (n9 := S.np) (c9 := g.cap 0) (md := g.md 0) (ad9 := g.ad 6) (ci := 9) rfl (by simp [cObj]) (hR.2.1 0 (by decide)).1 (hR.2.1 0 (by decide)).2 (Nat.le_trans hI.np (by decide)) h23 hvq hva hqN (fun j hj e => hR.neK (i := 0) (by decide) (k := 6) hj (by decide) e)) (rec_of hC (hR.ls (i := 0) (by decide)) rfl) (zm_X12_58 hC.1) kv_Jx4a65c_add_9ea2d ⟨hR.ls (i := 0) (by decide), hR.lstA (i := 0) (by decide), fun j hj => ⟨_, hR.pe hj⟩, hN, hR.2.2.2⟩ hS (fun q h => h.elim (fun e => e.elim (fun e => Or.inl (e ▸ hR.ow (k := 2) (i := 0) (show 0 < 4 by decide))) (fun e => Or.inl (e.1 ▸ hR.ow (k := 3) (i := 0) ⟨by decide, e.2⟩))) (fun e => Or.inr (Nat.le_trans hS.1 e))) rfl rfl (wD_le (by decide) (by decide)) (Nat.le_of_ble_eq_true rfl) ⟨(Nat.le_of_ble_eq_true rfl), (Nat.le_of_ble_eq_true rfl)⟩ dX12_person_94 (fun v H1 locs1 hP hz hq hS => ?_)
              obtain ⟨⟨ea, cp, hL, hcp1, hcp2, hAr, hcs⟩, rfl⟩ := hP
              have hN := hN.kept (hq _ hN.lt (fun e => e.elim hvq (fun e => hva e.1)))
              have hA9 := hA9.kept (hq _ hA9.lt (fun e => e.elim hx2 (fun e => hx3 e.1)))
              have hcs : (ea = g.ad 3 0 ∧ 0 < g.cap 0) ∨ ea = n2 := by rw [hn2]; exact hcs
              have hz2 : n2 ≤ H1.size := by rw [hn2]; exact hz
              have hae : ¬ o9 = ea := by
                intro e9
                rcases hcs with hc1 | hc1
                · exact hva (e9.trans hc1.1)
                · omega
              have hxe : ¬ x9q = ea := by
                intro e9
                rcases hcs with hc1 | hc1
                · exact hx3 (e9.trans hc1.1)
                · omega
              have heN : eN E ≤ ea := by
                rcases hcs with hc1 | hc1
                · rw [hc1.1]; exact hR.2.2.1.1 _ (hR.ow (k := 3) (i := 0) ⟨by decide, hc1.2⟩)
                · omega
              have he : (ea = g.ad 3 0 ∧ 0 < g.cap 0) ∨ ∀ k' i', valB S g k' i' → ¬ g.ad k' i' = ea := by
                rcases hcs with hc1 | hc1
                · exact Or.inl hc1
                · refine Or.inr (fun k' i' hv e9 => ?_)
                  have h9 : g.ad k' i' < n2 := by rw [hn2]; exact (hR.1 k' i' hv).2.lt
                  omega
              have hArl : ea < H1.size := hAr.lt
              have hNl : o9 < H1.size := hN.lt
              have hgx : gX g (gA2 g 6 0 S.np o9 ea cp 13 x9q) s.heap.size H1.size := by
                refine gX_add2 (by decide) (by decide) ⟨hoS, hNl⟩ ?_ ⟨by omega, by omega⟩
                rcases hcs with hc1 | hc1
                · exact Or.inl ⟨hc1.1, hR.ow (k := 3) (i := 0) ⟨by decide, hc1.2⟩⟩
                · exact Or.inr ⟨by omega, hArl⟩
              have hR : RB E (addP S (some p9)) 0 (gA2 g 6 0 S.np o9 ea cp 13 x9q) H1 := RB.appP hR hI hfr he hae haN heN ⟨hcp1, hcp2⟩ (fun q h1 h2 h3 => hq q h1 (fun e => e.elim h2 h3)) hL hAr hN hA9 hfr2 (by omega) (by omega) hxe (fun j hj => by cases hj; exact hp9) hL0
              have hI : Inv (addP S (some p9)) := hI.adP h8 (fun j hj => by cases hj; exact hp9)
              refine lv_pop hx hb dX12_person_97 rfl ?_
              refine lv_aload_n hx hb dX12_person_98 rfl (lv_at hl 0 rfl) ?_
              refine gf_X12_1 hx hb hown hC (RB.x (g := (gA2 g 6 0 S.np o9 ea cp 13 x9q)) hR) (zf_X12_10 hC.1) dX12_person_99 ?_
              refine gf_X8_0 hx hb hown hC (RB.dk (g := (gA2 g 6 0 S.np o9 ea cp 13 x9q)) hR) (zf_X12_24 hC.1) dX12_person_102 ?_
              refine rc_V (As := []) hx hb hml hown hC hl (c_size l E _ _ _ _) (rec_of hC (RB.ls hR (by decide : 0 < 4)) rfl) (zm_X12_28 hC.1) kv_Jx4a65c_size_8abf5 (RB.ls hR (by decide : 0 < 4)) rfl rfl (rwD_le (by decide) (by decide)) ⟨rfl, rfl⟩ (Nat.le_of_ble_eq_true rfl) ⟨(Nat.le_of_ble_eq_true rfl), (Nat.le_of_ble_eq_true rfl)⟩ dX12_person_105 ?_
              refine lv_iconst (v := 1) hx hb dX12_person_108 (by decide) ?_
              refine lv_isub hx hb dX12_person_109 ?_
              exact wr_i hx hb hr hlocks hS ⟨⟨_, hR, hgx⟩, congrArg (fun v => some (Value.int v)) (show _ = nI S.np from nI_pred S.np)⟩ (Nat.le_of_ble_eq_true rfl) (Nat.le_of_ble_eq_true rfl) dX12_person_110
            · exact absurd c_79 (nI_neg1 (Nat.lt_trans hp9 hI.np31))
          · exact absurd (by decide) c_51
        · exact absurd c_39 (fun h => absurd ((nI_eq (a := S.np) (b := 8) (by have := hI.1; omega) (by decide)).mp h) (by omega))
    · exact absurd (by decide) c_11
set_option maxRecDepth 100000 in
set_option maxHeartbeats 4000000 in
theorem c_X12_trip (l : Launch) (E : EE) {S : St} {th : Int32} {g : Gh} (hI : Inv S) {p9 : Nat} (hp9 : p9 < S.np) {l9 : Nat} (hl9 : l9 < 3) {f9 : Int32} (hf91 : ¬ f9 < 0) (hf92 : ¬ 119 < f9) {t9 : Int32} (ht91 : ¬ t9 < 0) (ht92 : ¬ 119 < t9) {x9 : Int32} (hx91 : ¬ x9 < 0) (hx92 : ¬ 9999 < x9) (htf : ¬ t9 < f9) (h8 : S.nt < 8) : WM l E yX12_trip cX12_trip 6 (some .int) (wD 8 3 90) [.ref (g.ad 1 0), .int (nI p9), .int (nI l9), .int (f9), .int (t9), .int (x9)] (RB E S th g) (ow g) (fun sz v H => (∃ g1, RB E (addT S p9 l9 f9 t9 x9) 0 g1 H ∧ gX g g1 sz H.size) ∧ v = some (.int (nI S.nt))) := by
  refine wm_of rfl (Nat.le_of_ble_eq_true rfl) (fun p e s m below meth c ls hx hb hr hml (hown : s.vm.findClass RX12 = some m.cls) hC hlocks hR hl hini => ?_)
  have hS : va_S (fun q => ow g q ∨ s.heap.size ≤ q) s.heap s.heap [] := va_S.rf
  have hl : lv_has ls 6 [(0, .ref (g.ad 1 0)), (1, .int (nI p9)), (2, .int (nI l9)), (3, .int (f9)), (4, .int (t9)), (5, .int (x9))] := hl
  refine lv_aload_n hx hb dX12_trip_0 rfl (lv_at hl 0 rfl) ?_
  refine lv_aload_n hx hb dX12_trip_1 rfl (lv_at hl 0 rfl) ?_
  refine lv_iload_n hx hb dX12_trip_2 rfl (lv_at hl 1 rfl) ?_
  refine rc_V (As := [.int (nI p9)]) hx hb hml hown hC hl (k_isNo_0 l E hI hp9) (rec_of hC (RB.x hR) rfl) (zm_X12_44 hC.1) kv_X12_isNo hR rfl rfl (rwD_le (by decide) (by decide)) ⟨rfl, rfl⟩ (Nat.le_of_ble_eq_true rfl) ⟨Nat.zero_le _, Nat.zero_le _⟩ dX12_trip_3 ?_
  refine lv_if_ne (tgt := 16) hx hb dX12_trip_6 (by decide) (fun c_6 => ?_) (fun c_6 => ?_)
  · exact absurd (by decide) c_6
  ·
    refine lv_iload_n hx hb dX12_trip_9 rfl (lv_at hl 2 rfl) ?_
    refine rc_S (As := [.int (nI l9)]) hx hb hml hown hC hl (k_isNoLand_0 l E hl9) (zm_X12_84 hC.1) kv_X12_isNoLand True.intro rfl rfl (rwD_le (by decide) (by decide)) ⟨rfl, rfl⟩ (Nat.le_of_ble_eq_true rfl) ⟨Nat.zero_le _, Nat.zero_le _⟩ dX12_trip_10 ?_
    refine lv_if_eq (tgt := 20) hx hb dX12_trip_13 (by decide) (fun c_13 => ?_) (fun c_13 => ?_)
    ·
      refine lv_iconst (v := 0) hx hb dX12_trip_20 (by decide) ?_
      refine lv_iconst (v := 1) hx hb dX12_trip_21 (by decide) ?_
      refine wcw_V (As := [.int (0), .int (1)]) hx hb hml hown hC hl (c_X12_start0 l E hI (w9 := 1)) (rec_of hC (RB.x hR) rfl) (zm_X12_48 hC.1) kv_X12_start hR hS (fun q h => h.imp id (Nat.le_trans hS.1)) rfl rfl (wD_le (by decide) (by decide)) (Nat.le_of_ble_eq_true rfl) ⟨Nat.le_of_ble_eq_true rfl, Nat.le_of_ble_eq_true rfl⟩ dX12_trip_22 (fun H1 locs1 hR hz hq hS => ?_)
      refine lv_if_ne (tgt := 102) hx hb dX12_trip_25 (by decide) (fun c_25 => ?_) (fun c_25 => ?_)
      · exact absurd (by decide) c_25
      ·
        have c_25 : (0 : Int32) = (0) := c_25
        refine lv_aload_n hx hb dX12_trip_28 rfl (lv_at hl 0 rfl) ?_
        refine lv_iload_n hx hb dX12_trip_29 rfl (lv_at hl 3 rfl) ?_
        refine rc_S (As := [.int (f9)]) hx hb hml hown hC hl (k_isNoDay_0 l E hf91 hf92) (zm_X12_69 hC.1) kv_X12_isNoDay True.intro rfl rfl (rwD_le (by decide) (by decide)) ⟨rfl, rfl⟩ (Nat.le_of_ble_eq_true rfl) ⟨Nat.zero_le _, Nat.zero_le _⟩ dX12_trip_30 ?_
        refine lv_if_ne (tgt := 62) hx hb dX12_trip_33 (by decide) (fun c_33 => ?_) (fun c_33 => ?_)
        · exact absurd (by decide) c_33
        ·
          have c_33 : (0 : Int32) = (0) := c_33
          refine lv_iload hx hb dX12_trip_36 (lv_at hl 4 rfl) ?_
          refine rc_S (As := [.int (t9)]) hx hb hml hown hC hl (k_isNoDay_0 l E ht91 ht92) (zm_X12_69 hC.1) kv_X12_isNoDay True.intro rfl rfl (rwD_le (by decide) (by decide)) ⟨rfl, rfl⟩ (Nat.le_of_ble_eq_true rfl) ⟨Nat.zero_le _, Nat.zero_le _⟩ dX12_trip_38 ?_
          refine lv_if_ne (tgt := 62) hx hb dX12_trip_41 (by decide) (fun c_41 => ?_) (fun c_41 => ?_)
          · exact absurd (by decide) c_41
          ·
            have c_41 : (0 : Int32) = (0) := c_41
            refine lv_iload hx hb dX12_trip_44 (lv_at hl 4 rfl) ?_
            refine lv_iload_n hx hb dX12_trip_46 rfl (lv_at hl 3 rfl) ?_
            refine lv_icmp_lt (tgt := 62) hx hb dX12_trip_47 (by decide) (fun c_47 => ?_) (fun c_47 => ?_)
            · exact absurd c_47 htf
            ·
              have c_47 : ¬ (t9 : Int32) < (f9) := c_47
              refine lv_iload hx hb dX12_trip_50 (lv_at hl 5 rfl) ?_
              refine lv_iconst (v := 0) hx hb dX12_trip_52 (by decide) ?_
              refine lv_sipush (v := 9999) hx hb dX12_trip_53 (by decide) ?_
              refine rc_S (As := [.int (x9), .int (0), .int (9999)]) hx hb hml hown hC hl (k_isIn_1 l E hx91 hx92) (zm_X12_34 hC.1) kv_X12_isIn True.intro rfl rfl (rwD_le (by decide) (by decide)) ⟨rfl, rfl⟩ (Nat.le_of_ble_eq_true rfl) ⟨Nat.zero_le _, Nat.zero_le _⟩ dX12_trip_56 ?_
              refine lv_if_ne (tgt := 66) hx hb dX12_trip_59 (by decide) (fun c_59 => ?_) (fun c_59 => ?_)
              ·
                have c_59 : ¬ (1 : Int32) = (0) := c_59
                refine lv_iconst (v := 0) hx hb dX12_trip_66 (by decide) ?_
                refine lv_iconst (v := 2) hx hb dX12_trip_67 (by decide) ?_
                refine wcw_V (As := [.int (0), .int (2)]) hx hb hml hown hC hl (c_X12_refuse0 l E hI (w9 := 2)) (rec_of hC (RB.x hR) rfl) (zm_X12_20 hC.1) kv_X12_refuse hR hS (fun q h => h.imp id (Nat.le_trans hS.1)) rfl rfl (wD_le (by decide) (by decide)) (Nat.le_of_ble_eq_true rfl) ⟨Nat.le_of_ble_eq_true rfl, Nat.le_of_ble_eq_true rfl⟩ dX12_trip_68 (fun H1 locs1 hR hz hq hS => ?_)
                refine lv_if_ne (tgt := 102) hx hb dX12_trip_71 (by decide) (fun c_71 => ?_) (fun c_71 => ?_)
                · exact absurd (by decide) c_71
                ·
                  have c_71 : (0 : Int32) = (0) := c_71
                  refine lv_aload_n hx hb dX12_trip_74 rfl (lv_at hl 0 rfl) ?_
                  refine lv_aload_n hx hb dX12_trip_75 rfl (lv_at hl 0 rfl) ?_
                  refine gf_X12_1 hx hb hown hC (RB.x hR) (zf_X12_10 hC.1) dX12_trip_76 ?_
                  refine gf_X8_1 hx hb hown hC (RB.dk hR) (zf_X12_87 hC.1) dX12_trip_79 ?_
                  refine rc_V (As := []) hx hb hml hown hC hl (c_size l E _ _ _ _) (rec_of hC (RB.ls hR (by decide : 1 < 4)) rfl) (zm_X12_28 hC.1) kv_Jx4a65c_size_8abf5 (RB.ls hR (by decide : 1 < 4)) rfl rfl (rwD_le (by decide) (by decide)) ⟨rfl, rfl⟩ (Nat.le_of_ble_eq_true rfl) ⟨Nat.zero_le _, Nat.zero_le _⟩ dX12_trip_82 ?_
                  refine lv_bipush (v := 8) hx hb dX12_trip_85 (by decide) ?_
                  refine lv_icmp_ne (tgt := 94) hx hb dX12_trip_87 (by decide) (fun c_87 => ?_) (fun c_87 => ?_)
                  ·
                    have c_87 : ¬ (nI (S.nt) : Int32) = (8) := c_87
                    refine lv_iconst (v := 0) hx hb dX12_trip_94 (by decide) ?_
                    refine lv_iconst (v := 3) hx hb dX12_trip_95 (by decide) ?_
                    refine wcw_V (As := [.int (0), .int (3)]) hx hb hml hown hC hl (c_X12_refuse0 l E hI (w9 := 3)) (rec_of hC (RB.x hR) rfl) (zm_X12_20 hC.1) kv_X12_refuse hR hS (fun q h => h.imp id (Nat.le_trans hS.1)) rfl rfl (wD_le (by decide) (by decide)) (Nat.le_of_ble_eq_true rfl) ⟨Nat.le_of_ble_eq_true rfl, Nat.le_of_ble_eq_true rfl⟩ dX12_trip_96 (fun H1 locs1 hR hz hq hS => ?_)
                    refine lv_if_eq (tgt := 104) hx hb dX12_trip_99 (by decide) (fun c_99 => ?_) (fun c_99 => ?_)
                    ·
                      have c_99 : (0 : Int32) = (0) := c_99
                      refine lv_aload_n hx hb dX12_trip_104 rfl (lv_at hl 0 rfl) ?_
                      refine gf_X12_1 hx hb hown hC (RB.x hR) (zf_X12_10 hC.1) dX12_trip_105 ?_
                      refine gf_X8_1 hx hb hown hC (RB.dk hR) (zf_X12_87 hC.1) dX12_trip_108 ?_
                      obtain ⟨o9, ho9⟩ : ∃ o, o = H1.size := ⟨_, rfl⟩
                      have hoS : s.heap.size ≤ o9 := by rw [ho9]; exact hS.1
                      have hfr := hR.fresh
                      have haN := hR.eN_le
                      have hlt3 := hR.a3lt (i := 1) (by decide)
                      refine nw_X11 hx hb hown hC (zc_X12_90 hC.1) hS (Nat.le_of_ble_eq_true rfl) (Nat.le_of_ble_eq_true rfl) dX12_trip_111 (fun H1 hN hz hq hS => ?_)
                      rw [← ho9] at hN hfr haN hlt3 ⊢
                      have hR := hR.kept (fun q h => hq q h)
                      refine lv_dup hx hb dX12_trip_114 rfl ?_
                      refine lv_iload_n hx hb dX12_trip_115 rfl (lv_at hl 1 rfl) ?_
                      refine lv_iload_n hx hb dX12_trip_116 rfl (lv_at hl 2 rfl) ?_
                      refine lv_iload_n hx hb dX12_trip_117 rfl (lv_at hl 3 rfl) ?_
                      refine lv_iload hx hb dX12_trip_118 (lv_at hl 4 rfl) ?_
                      refine lv_iload hx hb dX12_trip_120 (lv_at hl 5 rfl) ?_
                      refine wcv_I (As := [.int (nI p9), .int (nI l9), .int (f9), .int (t9), .int (x9)]) hx hb hml hown hC hl (c_X11_init l E (q9 := o9)) (zm_X12_92 hC.1) kv_X11_init hN hS (fun q h => h.elim (fun e => e ▸ (Or.inr hoS)) (fun e => Or.inr (Nat.le_trans hS.1 e))) rfl rfl (wD_le (by decide) (by decide)) (Nat.le_of_ble_eq_true rfl) ⟨(Nat.le_of_ble_eq_true rfl), (Nat.le_of_ble_eq_true rfl)⟩ dX12_trip_122 (fun H1 locs1 hN hz hq hS => ?_)
                      have hR := hR.kept1 hfr haN (fun q h1 h2 => hq q h1 h2)
                      obtain ⟨n2, hn2⟩ : ∃ n, n = H1.size := ⟨_, rfl⟩
                      have hN0 : o9 < n2 := by rw [hn2]; exact hN.lt
                      have h23 := hR.ne23 (i := 1) (by decide)
                      have hvq : ¬ o9 = g.ad 2 1 := fun e => hfr 2 1 (show 1 < 4 by decide) e.symm
                      have hva : ¬ o9 = g.ad 3 1 := fun e => by omega
                      have hqN := hR.2.2.1.1 _ (hR.ow (k := 2) (i := 1) (show 1 < 4 by decide))
                      refine wc_V (As := [.ref (o9)]) hx hb hml hown hC hl (c_add l E (q9 := g.ad 2 1) (a9 := g.ad 3 1) (v9 := o9) (n9 := S.nt) (c9 := g.cap 1) (md := g.md 1) (ad9 := g.ad 7) (ci := 11) rfl (by simp [cObj]) (hR.2.1 1 (by decide)).1 (hR.2.1 1 (by decide)).2 (Nat.le_trans hI.nt (by decide)) h23 hvq hva hqN (fun j hj e => hR.neK (i := 1) (by decide) (k := 7) hj (by decide) e)) (rec_of hC (hR.ls (i := 1) (by decide)) rfl) (zm_X12_58 hC.1) kv_Jx4a65c_add_9ea2d ⟨hR.ls (i := 1) (by decide), hR.lstA (i := 1) (by decide), fun j hj => ⟨_, hR.tp hj⟩, hN, hR.2.2.2⟩ hS (fun q h => h.elim (fun e => e.elim (fun e => Or.inl (e ▸ hR.ow (k := 2) (i := 1) (show 1 < 4 by decide))) (fun e => Or.inl (e.1 ▸ hR.ow (k := 3) (i := 1) ⟨by decide, e.2⟩))) (fun e => Or.inr (Nat.le_trans hS.1 e))) rfl rfl (wD_le (by decide) (by decide)) (Nat.le_of_ble_eq_true rfl) ⟨(Nat.le_of_ble_eq_true rfl), (Nat.le_of_ble_eq_true rfl)⟩ dX12_trip_125 (fun v H1 locs1 hP hz hq hS => ?_)
                      obtain ⟨⟨ea, cp, hL, hcp1, hcp2, hAr, hcs⟩, rfl⟩ := hP
                      have hN := hN.kept (hq _ hN.lt (fun e => e.elim hvq (fun e => hva e.1)))
                      have hcs : (ea = g.ad 3 1 ∧ 0 < g.cap 1) ∨ ea = n2 := by rw [hn2]; exact hcs
                      have hz2 : n2 ≤ H1.size := by rw [hn2]; exact hz
                      have hae : ¬ o9 = ea := by
                        intro e9
                        rcases hcs with hc1 | hc1
                        · exact hva (e9.trans hc1.1)
                        · omega
                      have heN : eN E ≤ ea := by
                        rcases hcs with hc1 | hc1
                        · rw [hc1.1]; exact hR.2.2.1.1 _ (hR.ow (k := 3) (i := 1) ⟨by decide, hc1.2⟩)
                        · omega
                      have he : (ea = g.ad 3 1 ∧ 0 < g.cap 1) ∨ ∀ k' i', valB S g k' i' → ¬ g.ad k' i' = ea := by
                        rcases hcs with hc1 | hc1
                        · exact Or.inl hc1
                        · refine Or.inr (fun k' i' hv e9 => ?_)
                          have h9 : g.ad k' i' < n2 := by rw [hn2]; exact (hR.1 k' i' hv).2.lt
                          omega
                      have hArl : ea < H1.size := hAr.lt
                      have hNl : o9 < H1.size := hN.lt
                      have hgx : gX g (gA2 g 7 1 S.nt o9 ea cp 15 o9) s.heap.size H1.size := by
                        refine gX_add2 (by decide) (by decide) ⟨hoS, hNl⟩ ?_ ⟨by omega, by omega⟩
                        rcases hcs with hc1 | hc1
                        · exact Or.inl ⟨hc1.1, hR.ow (k := 3) (i := 1) ⟨by decide, hc1.2⟩⟩
                        · exact Or.inr ⟨by omega, hArl⟩
                      have hR : RB E (addT S p9 l9 f9 t9 x9) 0 (gA2 g 7 1 S.nt o9 ea cp 15 o9) H1 := RB.appT hR hI hfr he hae haN heN ⟨hcp1, hcp2⟩ (fun q h1 h2 h3 => hq q h1 (fun e => e.elim h2 h3)) hL hAr hN
                      have hI : Inv (addT S p9 l9 f9 t9 x9) := hI.adT h8 hp9 hl9
                      refine lv_pop hx hb dX12_trip_128 rfl ?_
                      refine lv_aload_n hx hb dX12_trip_129 rfl (lv_at hl 0 rfl) ?_
                      refine gf_X12_1 hx hb hown hC (RB.x (g := (gA2 g 7 1 S.nt o9 ea cp 15 o9)) hR) (zf_X12_10 hC.1) dX12_trip_130 ?_
                      refine gf_X8_1 hx hb hown hC (RB.dk (g := (gA2 g 7 1 S.nt o9 ea cp 15 o9)) hR) (zf_X12_87 hC.1) dX12_trip_133 ?_
                      refine rc_V (As := []) hx hb hml hown hC hl (c_size l E _ _ _ _) (rec_of hC (RB.ls hR (by decide : 1 < 4)) rfl) (zm_X12_28 hC.1) kv_Jx4a65c_size_8abf5 (RB.ls hR (by decide : 1 < 4)) rfl rfl (rwD_le (by decide) (by decide)) ⟨rfl, rfl⟩ (Nat.le_of_ble_eq_true rfl) ⟨(Nat.le_of_ble_eq_true rfl), (Nat.le_of_ble_eq_true rfl)⟩ dX12_trip_136 ?_
                      refine lv_iconst (v := 1) hx hb dX12_trip_139 (by decide) ?_
                      refine lv_isub hx hb dX12_trip_140 ?_
                      exact wr_i hx hb hr hlocks hS ⟨⟨_, hR, hgx⟩, congrArg (fun v => some (Value.int v)) (show _ = nI S.nt from nI_pred S.nt)⟩ (Nat.le_of_ble_eq_true rfl) (Nat.le_of_ble_eq_true rfl) dX12_trip_141
                    · exact absurd (by decide) c_99
                  · exact absurd c_87 (fun h => absurd ((nI_eq (a := S.nt) (b := 8) (by have := hI.1; omega) (by decide)).mp h) (by omega))
              · exact absurd c_59 (by decide)
    · exact absurd (by decide) c_13
set_option maxRecDepth 100000 in
set_option maxHeartbeats 4000000 in
theorem c_X12_receipt (l : Launch) (E : EE) {S : St} {th : Int32} {g : Gh} (hI : Inv S) {am : Int32} (ham1 : ¬ am < 1) (ham2 : ¬ 9999 < am) {dy : Int32} (hdy1 : ¬ dy < 0) (hdy2 : ¬ 119 < dy) {tx : Int32} (htx1 : ¬ tx < 0) (htx2 : ¬ 9 < tx) (h30 : S.nr < 30) : WM l E yX12_receipt cX12_receipt 5 (some .int) (wD 8 3 90) [.ref (g.ad 1 0), .int (am), .int (dy), .int (tx)] (RB E S th g) (ow g) (fun sz v H => (∃ g1, RB E (passS (mpS (addR S am dy tx))) 0 g1 H ∧ gX g g1 sz H.size) ∧ v = some (.int (irI ((passS (mpS (addR S am dy tx))).ro S.nr)))) := by
  refine wm_of rfl (Nat.le_of_ble_eq_true rfl) (fun p e s m below meth c ls hx hb hr hml (hown : s.vm.findClass RX12 = some m.cls) hC hlocks hR hl hini => ?_)
  have hS : va_S (fun q => ow g q ∨ s.heap.size ≤ q) s.heap s.heap [] := va_S.rf
  have hl : lv_has ls 5 [(0, .ref (g.ad 1 0)), (1, .int (am)), (2, .int (dy)), (3, .int (tx))] := hl
  refine lv_aload_n hx hb dX12_receipt_0 rfl (lv_at hl 0 rfl) ?_
  refine lv_iload_n hx hb dX12_receipt_1 rfl (lv_at hl 1 rfl) ?_
  refine lv_iload_n hx hb dX12_receipt_2 rfl (lv_at hl 2 rfl) ?_
  refine lv_iload_n hx hb dX12_receipt_3 rfl (lv_at hl 3 rfl) ?_
  refine wcw_V (As := [.int (am), .int (dy), .int (tx)]) hx hb hml hown hC hl (c_X12_isNoReceipt_0 l E hI ham1 ham2 hdy1 hdy2 htx1 htx2) (rec_of hC (RB.x hR) rfl) (zm_X12_182 hC.1) kv_X12_isNoReceipt hR hS (fun q h => h.imp id (Nat.le_trans hS.1)) rfl rfl (wD_le (by decide) (by decide)) (Nat.le_of_ble_eq_true rfl) ⟨Nat.le_of_ble_eq_true rfl, Nat.le_of_ble_eq_true rfl⟩ dX12_receipt_4 (fun H1 locs1 hR hz hq hS => ?_)
  refine lv_if_ne (tgt := 38) hx hb dX12_receipt_7 (by decide) (fun c_7 => ?_) (fun c_7 => ?_)
  · exact absurd (by decide) c_7
  ·
    have c_7 : (0 : Int32) = (0) := c_7
    refine lv_aload_n hx hb dX12_receipt_10 rfl (lv_at hl 0 rfl) ?_
    refine lv_aload_n hx hb dX12_receipt_11 rfl (lv_at hl 0 rfl) ?_
    refine gf_X12_1 hx hb hown hC (RB.x hR) (zf_X12_10 hC.1) dX12_receipt_12 ?_
    refine gf_X8_3 hx hb hown hC (RB.dk hR) (zf_X12_185 hC.1) dX12_receipt_15 ?_
    refine rc_V (As := []) hx hb hml hown hC hl (c_size l E _ _ _ _) (rec_of hC (RB.ls hR (by decide : 3 < 4)) rfl) (zm_X12_28 hC.1) kv_Jx4a65c_size_8abf5 (RB.ls hR (by decide : 3 < 4)) rfl rfl (rwD_le (by decide) (by decide)) ⟨rfl, rfl⟩ (Nat.le_of_ble_eq_true rfl) ⟨Nat.zero_le _, Nat.zero_le _⟩ dX12_receipt_18 ?_
    refine lv_bipush (v := 30) hx hb dX12_receipt_21 (by decide) ?_
    refine lv_icmp_ne (tgt := 30) hx hb dX12_receipt_23 (by decide) (fun c_23 => ?_) (fun c_23 => ?_)
    ·
      have c_23 : ¬ (nI (S.nr) : Int32) = (30) := c_23
      refine lv_iconst (v := 0) hx hb dX12_receipt_30 (by decide) ?_
      refine lv_iconst (v := 2) hx hb dX12_receipt_31 (by decide) ?_
      refine wcw_V (As := [.int (0), .int (2)]) hx hb hml hown hC hl (c_X12_refuse0 l E hI (w9 := 2)) (rec_of hC (RB.x hR) rfl) (zm_X12_20 hC.1) kv_X12_refuse hR hS (fun q h => h.imp id (Nat.le_trans hS.1)) rfl rfl (wD_le (by decide) (by decide)) (Nat.le_of_ble_eq_true rfl) ⟨Nat.le_of_ble_eq_true rfl, Nat.le_of_ble_eq_true rfl⟩ dX12_receipt_32 (fun H1 locs1 hR hz hq hS => ?_)
      refine lv_if_eq (tgt := 40) hx hb dX12_receipt_35 (by decide) (fun c_35 => ?_) (fun c_35 => ?_)
      ·
        have c_35 : (0 : Int32) = (0) := c_35
        obtain ⟨o9, ho9⟩ : ∃ o, o = H1.size := ⟨_, rfl⟩
        have hoS : s.heap.size ≤ o9 := by rw [ho9]; exact hS.1
        have hfr := hR.fresh
        have haN := hR.eN_le
        have hlt3 := hR.a3lt (i := 3) (by decide)
        refine nw_X10 hx hb hown hC (zc_X12_188 hC.1) hS (Nat.le_of_ble_eq_true rfl) (Nat.le_of_ble_eq_true rfl) dX12_receipt_40 (fun H1 hN hz hq hS => ?_)
        rw [← ho9] at hN hfr haN hlt3 ⊢
        have hR := hR.kept (fun q h => hq q h)
        refine lv_dup hx hb dX12_receipt_43 rfl ?_
        refine lv_iload_n hx hb dX12_receipt_44 rfl (lv_at hl 1 rfl) ?_
        refine lv_iload_n hx hb dX12_receipt_45 rfl (lv_at hl 2 rfl) ?_
        refine lv_iload_n hx hb dX12_receipt_46 rfl (lv_at hl 3 rfl) ?_
        refine wcv_I (As := [.int (am), .int (dy), .int (tx)]) hx hb hml hown hC hl (c_X10_init l E (q9 := o9)) (zm_X12_190 hC.1) kv_X10_init hN hS (fun q h => h.elim (fun e => e ▸ (Or.inr hoS)) (fun e => Or.inr (Nat.le_trans hS.1 e))) rfl rfl (wD_le (by decide) (by decide)) (Nat.le_of_ble_eq_true rfl) ⟨(Nat.le_of_ble_eq_true rfl), (Nat.le_of_ble_eq_true rfl)⟩ dX12_receipt_47 (fun H1 locs1 hN hz hq hS => ?_)
        have hR := hR.kept1 hfr haN (fun q h1 h2 => hq q h1 h2)
        refine lv_astore (lv' := [(4, .ref (o9)), (0, .ref (g.ad 1 0)), (1, .int (am)), (2, .int (dy)), (3, .int (tx))]) hx hb dX12_receipt_50 hl (by decide) rfl (fun ls hl => ?_)
        refine lv_aload_n hx hb dX12_receipt_52 rfl (lv_at hl 1 rfl) ?_
        refine gf_X12_1 hx hb hown hC (RB.x hR) (zf_X12_10 hC.1) dX12_receipt_53 ?_
        refine gf_X8_3 hx hb hown hC (RB.dk hR) (zf_X12_185 hC.1) dX12_receipt_56 ?_
        refine lv_aload hx hb dX12_receipt_59 (lv_at hl 0 rfl) ?_
        obtain ⟨n2, hn2⟩ : ∃ n, n = H1.size := ⟨_, rfl⟩
        have hN0 : o9 < n2 := by rw [hn2]; exact hN.lt
        have h23 := hR.ne23 (i := 3) (by decide)
        have hvq : ¬ o9 = g.ad 2 3 := fun e => hfr 2 3 (show 3 < 4 by decide) e.symm
        have hva : ¬ o9 = g.ad 3 3 := fun e => by omega
        have hqN := hR.2.2.1.1 _ (hR.ow (k := 2) (i := 3) (show 3 < 4 by decide))
        refine wc_V (As := [.ref (o9)]) hx hb hml hown hC hl (c_add l E (q9 := g.ad 2 3) (a9 := g.ad 3 3) (v9 := o9) (n9 := S.nr) (c9 := g.cap 3) (md := g.md 3) (ad9 := g.ad 9) (ci := 10) rfl (by simp [cObj]) (hR.2.1 3 (by decide)).1 (hR.2.1 3 (by decide)).2 (Nat.le_trans hI.nr (by decide)) h23 hvq hva hqN (fun j hj e => hR.neK (i := 3) (by decide) (k := 9) hj (by decide) e)) (rec_of hC (hR.ls (i := 3) (by decide)) rfl) (zm_X12_58 hC.1) kv_Jx4a65c_add_9ea2d ⟨hR.ls (i := 3) (by decide), hR.lstA (i := 3) (by decide), fun j hj => ⟨_, hR.re hj⟩, hN, hR.2.2.2⟩ hS (fun q h => h.elim (fun e => e.elim (fun e => Or.inl (e ▸ hR.ow (k := 2) (i := 3) (show 3 < 4 by decide))) (fun e => Or.inl (e.1 ▸ hR.ow (k := 3) (i := 3) ⟨by decide, e.2⟩))) (fun e => Or.inr (Nat.le_trans hS.1 e))) rfl rfl (wD_le (by decide) (by decide)) (Nat.le_of_ble_eq_true rfl) ⟨(Nat.le_of_ble_eq_true rfl), (Nat.le_of_ble_eq_true rfl)⟩ dX12_receipt_61 (fun v H1 locs1 hP hz hq hS => ?_)
        obtain ⟨⟨ea, cp, hL, hcp1, hcp2, hAr, hcs⟩, rfl⟩ := hP
        have hN := hN.kept (hq _ hN.lt (fun e => e.elim hvq (fun e => hva e.1)))
        have hcs : (ea = g.ad 3 3 ∧ 0 < g.cap 3) ∨ ea = n2 := by rw [hn2]; exact hcs
        have hz2 : n2 ≤ H1.size := by rw [hn2]; exact hz
        have hae : ¬ o9 = ea := by
          intro e9
          rcases hcs with hc1 | hc1
          · exact hva (e9.trans hc1.1)
          · omega
        have heN : eN E ≤ ea := by
          rcases hcs with hc1 | hc1
          · rw [hc1.1]; exact hR.2.2.1.1 _ (hR.ow (k := 3) (i := 3) ⟨by decide, hc1.2⟩)
          · omega
        have he : (ea = g.ad 3 3 ∧ 0 < g.cap 3) ∨ ∀ k' i', valB S g k' i' → ¬ g.ad k' i' = ea := by
          rcases hcs with hc1 | hc1
          · exact Or.inl hc1
          · refine Or.inr (fun k' i' hv e9 => ?_)
            have h9 : g.ad k' i' < n2 := by rw [hn2]; exact (hR.1 k' i' hv).2.lt
            omega
        have hArl : ea < H1.size := hAr.lt
        have hNl : o9 < H1.size := hN.lt
        have hgx : gX g (gA2 g 9 3 S.nr o9 ea cp 15 o9) s.heap.size H1.size := by
          refine gX_add2 (by decide) (by decide) ⟨hoS, hNl⟩ ?_ ⟨by omega, by omega⟩
          rcases hcs with hc1 | hc1
          · exact Or.inl ⟨hc1.1, hR.ow (k := 3) (i := 3) ⟨by decide, hc1.2⟩⟩
          · exact Or.inr ⟨by omega, hArl⟩
        have hR : RB E (addR S am dy tx) 0 (gA2 g 9 3 S.nr o9 ea cp 15 o9) H1 := RB.appR hR hI hfr he hae haN heN ⟨hcp1, hcp2⟩ (fun q h1 h2 h3 => hq q h1 (fun e => e.elim h2 h3)) hL hAr hN
        have hI : Inv (addR S am dy tx) := hI.adR h30
        refine lv_pop hx hb dX12_receipt_64 rfl ?_
        refine lv_aload_n hx hb dX12_receipt_65 rfl (lv_at hl 1 rfl) ?_
        refine gf_X12_1 hx hb hown hC (RB.x (g := (gA2 g 9 3 S.nr o9 ea cp 15 o9)) hR) (zf_X12_10 hC.1) dX12_receipt_66 ?_
        refine wcv_V (As := []) hx hb hml hown hC hl (c_X8_matchAll l E hI) (rec_of hC (RB.dk hR) rfl) (zm_X12_179 hC.1) kv_X8_matchAll hR hS (fun q h => h.elim (fun w => (hgx.1 q w).imp id And.left) (fun w => Or.inr (Nat.le_trans hS.1 w))) rfl rfl (wD_le (by decide) (by decide)) (Nat.le_of_ble_eq_true rfl) ⟨Nat.le_of_ble_eq_true rfl, Nat.le_of_ble_eq_true rfl⟩ dX12_receipt_69 (fun H1 locs1 hR hz hq hS => ?_)
        have hI : Inv (mpS (addR S am dy tx)) := hI.mp
        have hgx := hgx.mono hz
        refine lv_aload_n hx hb dX12_receipt_72 rfl (lv_at hl 1 rfl) ?_
        refine gf_X12_1 hx hb hown hC (RB.x (g := (gA2 g 9 3 S.nr o9 ea cp 15 o9)) hR) (zf_X12_10 hC.1) dX12_receipt_73 ?_
        refine wcv_V (As := []) hx hb hml hown hC hl (c_X8_goOn l E hI) (rec_of hC (RB.dk hR) rfl) (zm_X12_81 hC.1) kv_X8_goOn hR hS (fun q h => h.elim (fun w => (hgx.1 q w).imp id And.left) (fun w => Or.inr (Nat.le_trans hS.1 w))) rfl rfl (wD_le (by decide) (by decide)) (Nat.le_of_ble_eq_true rfl) ⟨Nat.le_of_ble_eq_true rfl, Nat.le_of_ble_eq_true rfl⟩ dX12_receipt_76 (fun H1 locs1 hR hz hq hS => ?_)
        have hI : Inv (passS (mpS (addR S am dy tx))) := hI.pS
        have hgx := hgx.mono hz
        refine lv_aload hx hb dX12_receipt_79 (lv_at hl 0 rfl) ?_
        have hcN : S.nr < ((passS (mpS (addR S am dy tx)))).nr := by rw [passS_nr, mpS_nr]; exact Nat.lt_succ_self _
        have hN : va_at E.1 vwCl (o9, .inr (10, [.int ((passS (mpS (addR S am dy tx))).ra (S.nr)), .int ((passS (mpS (addR S am dy tx))).rd (S.nr)), .int ((passS (mpS (addR S am dy tx))).rx (S.nr)), .int (irI ((passS (mpS (addR S am dy tx))).ro (S.nr)))])) H1 := by
          have h9 := RB.re hR hcN
          rw [show (gA2 g 9 3 S.nr o9 ea cp 15 o9).ad 9 S.nr = o9 from gA2_new] at h9
          exact h9
        refine gf_X10_3 hx hb hown hC hN (zf_X12_193 hC.1) dX12_receipt_81 ?_
        exact wr_i hx hb hr hlocks hS ⟨⟨_, hR, hgx⟩, rfl⟩ (Nat.le_of_ble_eq_true rfl) (Nat.le_of_ble_eq_true rfl) dX12_receipt_84
      · exact absurd (by decide) c_35
    · exact absurd c_23 (fun h => absurd ((nI_eq (a := S.nr) (b := 30) (by have := hI.1; omega) (by decide)).mp h) (by omega))
set_option maxRecDepth 100000 in
set_option maxHeartbeats 4000000 in
theorem c_X12_charge (l : Launch) (E : EE) {S : St} {th : Int32} {g : Gh} (hI : Inv S) {p9 : Nat} (hp9 : p9 < S.np) {k9 : Nat} (hk9 : k9 < 4) {l9 : Nat} (hl9 : l9 < 3) {a9 : Int32} (ha91 : ¬ a9 < 1) (ha92 : ¬ 9999 < a9) {x9 : Int32} (hx91 : ¬ x9 < 0) (hx92 : ¬ 9 < x9) (h30 : S.nc < 30) (hs1 : ¬ spendA S p9 k9 (nI l9) < a9) (hs2 : a9 ≤ leftL S k9 0 (S.td / 30 + 1)) : WM l E yX12_charge cX12_charge 6 (some .int) (wD 8 3 90) [.ref (g.ad 1 0), .int (nI p9), .int (nI k9), .int (nI l9), .int (a9), .int (x9)] (RB E S th g) (ow g) (fun sz v H => (∃ g1, RB E (passS (mpS (addC S p9 k9 l9 a9 x9 (tripA S p9 (nI l9))))) 0 g1 H ∧ gX g g1 sz H.size) ∧ v = some (.int (nI S.nc))) := by
  refine wm_of rfl (Nat.le_of_ble_eq_true rfl) (fun p e s m below meth c ls hx hb hr hml (hown : s.vm.findClass RX12 = some m.cls) hC hlocks hR hl hini => ?_)
  have hS : va_S (fun q => ow g q ∨ s.heap.size ≤ q) s.heap s.heap [] := va_S.rf
  have hl : lv_has ls 6 [(0, .ref (g.ad 1 0)), (1, .int (nI p9)), (2, .int (nI k9)), (3, .int (nI l9)), (4, .int (a9)), (5, .int (x9))] := hl
  have htd : S.td / 30 < 4 := by have := hI.td; omega
  refine lv_aload_n hx hb dX12_charge_0 rfl (lv_at hl 0 rfl) ?_
  refine lv_aload_n hx hb dX12_charge_1 rfl (lv_at hl 0 rfl) ?_
  refine lv_iload_n hx hb dX12_charge_2 rfl (lv_at hl 1 rfl) ?_
  refine rc_V (As := [.int (nI p9)]) hx hb hml hown hC hl (k_isNo_0 l E hI hp9) (rec_of hC (RB.x hR) rfl) (zm_X12_44 hC.1) kv_X12_isNo hR rfl rfl (rwD_le (by decide) (by decide)) ⟨rfl, rfl⟩ (Nat.le_of_ble_eq_true rfl) ⟨Nat.zero_le _, Nat.zero_le _⟩ dX12_charge_3 ?_
  refine lv_if_ne (tgt := 23) hx hb dX12_charge_6 (by decide) (fun c_6 => ?_) (fun c_6 => ?_)
  · exact absurd (by decide) c_6
  ·
    refine lv_iload_n hx hb dX12_charge_9 rfl (lv_at hl 2 rfl) ?_
    refine rc_S (As := [.int (nI k9)]) hx hb hml hown hC hl (k_isNoKind_0 l E hk9) (zm_X12_62 hC.1) kv_X12_isNoKind True.intro rfl rfl (rwD_le (by decide) (by decide)) ⟨rfl, rfl⟩ (Nat.le_of_ble_eq_true rfl) ⟨Nat.zero_le _, Nat.zero_le _⟩ dX12_charge_10 ?_
    refine lv_if_ne (tgt := 23) hx hb dX12_charge_13 (by decide) (fun c_13 => ?_) (fun c_13 => ?_)
    · exact absurd (by decide) c_13
    ·
      refine lv_iload_n hx hb dX12_charge_16 rfl (lv_at hl 3 rfl) ?_
      refine rc_S (As := [.int (nI l9)]) hx hb hml hown hC hl (k_isNoLand_0 l E hl9) (zm_X12_84 hC.1) kv_X12_isNoLand True.intro rfl rfl (rwD_le (by decide) (by decide)) ⟨rfl, rfl⟩ (Nat.le_of_ble_eq_true rfl) ⟨Nat.zero_le _, Nat.zero_le _⟩ dX12_charge_17 ?_
      refine lv_if_eq (tgt := 27) hx hb dX12_charge_20 (by decide) (fun c_20 => ?_) (fun c_20 => ?_)
      ·
        refine lv_iconst (v := 0) hx hb dX12_charge_27 (by decide) ?_
        refine lv_iconst (v := 1) hx hb dX12_charge_28 (by decide) ?_
        refine wcw_V (As := [.int (0), .int (1)]) hx hb hml hown hC hl (c_X12_start0 l E hI (w9 := 1)) (rec_of hC (RB.x hR) rfl) (zm_X12_48 hC.1) kv_X12_start hR hS (fun q h => h.imp id (Nat.le_trans hS.1)) rfl rfl (wD_le (by decide) (by decide)) (Nat.le_of_ble_eq_true rfl) ⟨Nat.le_of_ble_eq_true rfl, Nat.le_of_ble_eq_true rfl⟩ dX12_charge_29 (fun H1 locs1 hR hz hq hS => ?_)
        refine lv_if_ne (tgt := 68) hx hb dX12_charge_32 (by decide) (fun c_32 => ?_) (fun c_32 => ?_)
        · exact absurd (by decide) c_32
        ·
          have c_32 : (0 : Int32) = (0) := c_32
          refine lv_aload_n hx hb dX12_charge_35 rfl (lv_at hl 0 rfl) ?_
          refine lv_iload hx hb dX12_charge_36 (lv_at hl 4 rfl) ?_
          refine lv_iconst (v := 1) hx hb dX12_charge_38 (by decide) ?_
          refine lv_sipush (v := 9999) hx hb dX12_charge_39 (by decide) ?_
          refine rc_S (As := [.int (a9), .int (1), .int (9999)]) hx hb hml hown hC hl (k_isIn_1 l E ha91 ha92) (zm_X12_34 hC.1) kv_X12_isIn True.intro rfl rfl (rwD_le (by decide) (by decide)) ⟨rfl, rfl⟩ (Nat.le_of_ble_eq_true rfl) ⟨Nat.zero_le _, Nat.zero_le _⟩ dX12_charge_42 ?_
          refine lv_if_eq (tgt := 56) hx hb dX12_charge_45 (by decide) (fun c_45 => ?_) (fun c_45 => ?_)
          · exact absurd c_45 (by decide)
          ·
            have c_45 : ¬ (1 : Int32) = (0) := c_45
            refine lv_iload hx hb dX12_charge_48 (lv_at hl 5 rfl) ?_
            refine rc_S (As := [.int (x9)]) hx hb hml hown hC hl (k_isNoText_0 l E hx91 hx92) (zm_X12_167 hC.1) kv_X12_isNoText True.intro rfl rfl (rwD_le (by decide) (by decide)) ⟨rfl, rfl⟩ (Nat.le_of_ble_eq_true rfl) ⟨Nat.zero_le _, Nat.zero_le _⟩ dX12_charge_50 ?_
            refine lv_if_eq (tgt := 60) hx hb dX12_charge_53 (by decide) (fun c_53 => ?_) (fun c_53 => ?_)
            ·
              have c_53 : (0 : Int32) = (0) := c_53
              refine lv_iconst (v := 0) hx hb dX12_charge_60 (by decide) ?_
              refine lv_iconst (v := 2) hx hb dX12_charge_61 (by decide) ?_
              refine wcw_V (As := [.int (0), .int (2)]) hx hb hml hown hC hl (c_X12_refuse0 l E hI (w9 := 2)) (rec_of hC (RB.x hR) rfl) (zm_X12_20 hC.1) kv_X12_refuse hR hS (fun q h => h.imp id (Nat.le_trans hS.1)) rfl rfl (wD_le (by decide) (by decide)) (Nat.le_of_ble_eq_true rfl) ⟨Nat.le_of_ble_eq_true rfl, Nat.le_of_ble_eq_true rfl⟩ dX12_charge_62 (fun H1 locs1 hR hz hq hS => ?_)
              refine lv_if_eq (tgt := 70) hx hb dX12_charge_65 (by decide) (fun c_65 => ?_) (fun c_65 => ?_)
              ·
                have c_65 : (0 : Int32) = (0) := c_65
                refine lv_aload_n hx hb dX12_charge_70 rfl (lv_at hl 0 rfl) ?_
                refine lv_aload_n hx hb dX12_charge_71 rfl (lv_at hl 0 rfl) ?_
                refine gf_X12_1 hx hb hown hC (RB.x hR) (zf_X12_10 hC.1) dX12_charge_72 ?_
                refine gf_X8_2 hx hb hown hC (RB.dk hR) (zf_X12_95 hC.1) dX12_charge_75 ?_
                refine rc_V (As := []) hx hb hml hown hC hl (c_size l E _ _ _ _) (rec_of hC (RB.ls hR (by decide : 2 < 4)) rfl) (zm_X12_28 hC.1) kv_Jx4a65c_size_8abf5 (RB.ls hR (by decide : 2 < 4)) rfl rfl (rwD_le (by decide) (by decide)) ⟨rfl, rfl⟩ (Nat.le_of_ble_eq_true rfl) ⟨Nat.zero_le _, Nat.zero_le _⟩ dX12_charge_78 ?_
                refine lv_bipush (v := 30) hx hb dX12_charge_81 (by decide) ?_
                refine lv_icmp_eq (tgt := 125) hx hb dX12_charge_83 (by decide) (fun c_83 => ?_) (fun c_83 => ?_)
                · exact absurd c_83 (fun h => absurd ((nI_eq (a := S.nc) (b := 30) (by have := hI.1; omega) (by decide)).mp h) (by omega))
                ·
                  have c_83 : ¬ (nI (S.nc) : Int32) = (30) := c_83
                  refine lv_iload hx hb dX12_charge_86 (lv_at hl 4 rfl) ?_
                  refine lv_aload_n hx hb dX12_charge_88 rfl (lv_at hl 0 rfl) ?_
                  refine gf_X12_1 hx hb hown hC (RB.x hR) (zf_X12_10 hC.1) dX12_charge_89 ?_
                  refine lv_iload_n hx hb dX12_charge_92 rfl (lv_at hl 1 rfl) ?_
                  refine lv_iload_n hx hb dX12_charge_93 rfl (lv_at hl 2 rfl) ?_
                  refine lv_iload_n hx hb dX12_charge_94 rfl (lv_at hl 3 rfl) ?_
                  refine rc_V (As := [.int (nI p9), .int (nI k9), .int (nI l9)]) hx hb hml hown hC hl (c_X8_maySpend l E hI hp9 hk9 (nI l9)) (rec_of hC (RB.dk hR) rfl) (zm_X12_144 hC.1) kv_X8_maySpend hR rfl rfl (rwD_le (by decide) (by decide)) ⟨rfl, rfl⟩ (Nat.le_of_ble_eq_true rfl) ⟨Nat.zero_le _, Nat.zero_le _⟩ dX12_charge_95 ?_
                  refine lv_icmp_gt (tgt := 125) hx hb dX12_charge_98 (by decide) (fun c_98 => ?_) (fun c_98 => ?_)
                  · exact absurd c_98 hs1
                  ·
                    have c_98 : ¬ (spendA S (p9) (k9) (nI l9) : Int32) < (a9) := c_98
                    refine lv_iload hx hb dX12_charge_101 (lv_at hl 4 rfl) ?_
                    refine lv_aload_n hx hb dX12_charge_103 rfl (lv_at hl 0 rfl) ?_
                    refine gf_X12_1 hx hb hown hC (RB.x hR) (zf_X12_10 hC.1) dX12_charge_104 ?_
                    refine lv_iload_n hx hb dX12_charge_107 rfl (lv_at hl 2 rfl) ?_
                    refine lv_aload_n hx hb dX12_charge_108 rfl (lv_at hl 0 rfl) ?_
                    refine gf_X12_1 hx hb hown hC (RB.x hR) (zf_X12_10 hC.1) dX12_charge_109 ?_
                    refine gf_X8_7 hx hb hown hC (RB.dk hR) (zf_X12_170 hC.1) dX12_charge_112 ?_
                    refine lv_bipush (v := 30) hx hb dX12_charge_115 (by decide) ?_
                    refine lv_idiv hx hb dX12_charge_117 (by decide) ?_
                    rw [div30 S.td (Nat.lt_succ_of_le hI.td)]
                    refine lv_iconst (v := 0) hx hb dX12_charge_118 (by decide) ?_
                    refine rc_V (As := [.int (nI k9), .int (nI (S.td / 30)), .int (0)]) hx hb hml hown hC hl (c_X8_left l E hI hk9 (0) _ htd) (rec_of hC (RB.dk hR) rfl) (zm_X12_163 hC.1) kv_X8_left hR rfl rfl (rwD_le (by omega) (by decide)) ⟨rfl, rfl⟩ (Nat.le_of_ble_eq_true rfl) ⟨Nat.zero_le _, Nat.zero_le _⟩ dX12_charge_119 ?_
                    refine lv_icmp_le (tgt := 129) hx hb dX12_charge_122 (by decide) (fun c_122 => ?_) (fun c_122 => ?_)
                    ·
                      have c_122 : (a9 : Int32) ≤ (leftL S (k9) (0) ((S.td / 30) + 1)) := c_122
                      refine lv_iconst (v := 0) hx hb dX12_charge_129 (by decide) ?_
                      refine lv_iconst (v := 3) hx hb dX12_charge_130 (by decide) ?_
                      refine wcw_V (As := [.int (0), .int (3)]) hx hb hml hown hC hl (c_X12_refuse0 l E hI (w9 := 3)) (rec_of hC (RB.x hR) rfl) (zm_X12_20 hC.1) kv_X12_refuse hR hS (fun q h => h.imp id (Nat.le_trans hS.1)) rfl rfl (wD_le (by decide) (by decide)) (Nat.le_of_ble_eq_true rfl) ⟨Nat.le_of_ble_eq_true rfl, Nat.le_of_ble_eq_true rfl⟩ dX12_charge_131 (fun H1 locs1 hR hz hq hS => ?_)
                      refine lv_if_eq (tgt := 139) hx hb dX12_charge_134 (by decide) (fun c_134 => ?_) (fun c_134 => ?_)
                      ·
                        have c_134 : (0 : Int32) = (0) := c_134
                        refine lv_aload_n hx hb dX12_charge_139 rfl (lv_at hl 0 rfl) ?_
                        refine gf_X12_1 hx hb hown hC (RB.x hR) (zf_X12_10 hC.1) dX12_charge_140 ?_
                        refine gf_X8_2 hx hb hown hC (RB.dk hR) (zf_X12_95 hC.1) dX12_charge_143 ?_
                        obtain ⟨o9, ho9⟩ : ∃ o, o = H1.size := ⟨_, rfl⟩
                        have hoS : s.heap.size ≤ o9 := by rw [ho9]; exact hS.1
                        have hfr := hR.fresh
                        have haN := hR.eN_le
                        have hlt3 := hR.a3lt (i := 2) (by decide)
                        refine nw_X7 hx hb hown hC (zc_X12_98 hC.1) hS (Nat.le_of_ble_eq_true rfl) (Nat.le_of_ble_eq_true rfl) dX12_charge_146 (fun H1 hN hz hq hS => ?_)
                        rw [← ho9] at hN hfr haN hlt3 ⊢
                        have hR := hR.kept (fun q h => hq q h)
                        refine lv_dup hx hb dX12_charge_149 rfl ?_
                        refine lv_iload_n hx hb dX12_charge_150 rfl (lv_at hl 1 rfl) ?_
                        refine lv_iload_n hx hb dX12_charge_151 rfl (lv_at hl 2 rfl) ?_
                        refine lv_iload_n hx hb dX12_charge_152 rfl (lv_at hl 3 rfl) ?_
                        refine lv_iload hx hb dX12_charge_153 (lv_at hl 4 rfl) ?_
                        refine lv_iload hx hb dX12_charge_155 (lv_at hl 5 rfl) ?_
                        refine lv_aload_n hx hb dX12_charge_157 rfl (lv_at hl 0 rfl) ?_
                        refine gf_X12_1 hx hb hown hC (RB.x hR) (zf_X12_10 hC.1) dX12_charge_158 ?_
                        refine gf_X8_7 hx hb hown hC (RB.dk hR) (zf_X12_170 hC.1) dX12_charge_161 ?_
                        refine lv_aload_n hx hb dX12_charge_164 rfl (lv_at hl 0 rfl) ?_
                        refine gf_X12_1 hx hb hown hC (RB.x hR) (zf_X12_10 hC.1) dX12_charge_165 ?_
                        refine lv_iload_n hx hb dX12_charge_168 rfl (lv_at hl 1 rfl) ?_
                        refine lv_iload_n hx hb dX12_charge_169 rfl (lv_at hl 3 rfl) ?_
                        refine rc_V9 (As := [.int (nI p9), .int (nI l9)]) hx hb hml hown hC hl (c_X8_tripOf l E hI hp9 (nI l9)) (rec_of hC (RB.dk hR) rfl) (zm_X12_173 hC.1) kv_X8_tripOf hR rfl rfl ⟨Nat.le_of_ble_eq_true rfl, Nat.le_of_ble_eq_true rfl⟩ ⟨rfl, rfl⟩ (Nat.le_of_ble_eq_true rfl) ⟨(Nat.le_of_ble_eq_true rfl), (Nat.le_of_ble_eq_true rfl)⟩ dX12_charge_170 ?_
                        obtain ⟨x9q, hx9q⟩ : ∃ b, b = H1.size := ⟨_, rfl⟩
                        have hox : o9 < x9q := by rw [hx9q]; exact hN.lt
                        have hfr2 : ∀ k i, valB S g k i → ¬ g.ad k i = x9q := by rw [hx9q]; exact hR.fresh
                        refine wc_I (As := [.int (nI p9), .int (nI k9), .int (nI l9), .int (a9), .int (x9), .int (nI S.td), .int (irI (tripA S (p9) (nI l9)))]) hx hb hml hown hC hl (c_X7_init l E (q9 := o9)) (zm_X12_176 hC.1) kv_X7_init hN hS (fun q h => h.elim (fun e => e ▸ (Or.inr hoS)) (fun e => Or.inr (Nat.le_trans hS.1 e))) rfl rfl (wD_le (by decide) (by decide)) (Nat.le_of_ble_eq_true rfl) ⟨(Nat.le_of_ble_eq_true rfl), (Nat.le_of_ble_eq_true rfl)⟩ dX12_charge_173 (fun v H1 locs1 h9 hz hq hS => ?_)
                        obtain ⟨⟨hN, hA9⟩, rfl⟩ := h9
                        rw [← hx9q] at hN hA9
                        have hR := hR.kept1 hfr haN (fun q h1 h2 => hq q h1 h2)
                        obtain ⟨n2, hn2⟩ : ∃ n, n = H1.size := ⟨_, rfl⟩
                        have hN0 : o9 < n2 := by rw [hn2]; exact hN.lt
                        have h23 := hR.ne23 (i := 2) (by decide)
                        have hX0 : x9q < n2 := by rw [hn2]; exact hA9.lt
                        have hx2 : ¬ x9q = g.ad 2 2 := fun e => hfr2 2 2 (show 2 < 4 by decide) e.symm
                        have hx3 : ¬ x9q = g.ad 3 2 := fun e => by omega
                        have hvq : ¬ o9 = g.ad 2 2 := fun e => hfr 2 2 (show 2 < 4 by decide) e.symm
                        have hva : ¬ o9 = g.ad 3 2 := fun e => by omega
                        have hqN := hR.2.2.1.1 _ (hR.ow (k := 2) (i := 2) (show 2 < 4 by decide))
                        refine wc_V (As := [.ref (o9)]) hx hb hml hown hC hl (c_add l E (q9 := g.ad 2 2) (a9 := g.ad 3 2) (v9 := o9) (n9 := S.nc) (c9 := g.cap 2) (md := g.md 2) (ad9 := g.ad 8) (ci := 7) rfl (by simp [cObj]) (hR.2.1 2 (by decide)).1 (hR.2.1 2 (by decide)).2 (Nat.le_trans hI.nc (by decide)) h23 hvq hva hqN (fun j hj e => hR.neK (i := 2) (by decide) (k := 8) hj (by decide) e)) (rec_of hC (hR.ls (i := 2) (by decide)) rfl) (zm_X12_58 hC.1) kv_Jx4a65c_add_9ea2d ⟨hR.ls (i := 2) (by decide), hR.lstA (i := 2) (by decide), fun j hj => ⟨_, hR.ch hj⟩, hN, hR.2.2.2⟩ hS (fun q h => h.elim (fun e => e.elim (fun e => Or.inl (e ▸ hR.ow (k := 2) (i := 2) (show 2 < 4 by decide))) (fun e => Or.inl (e.1 ▸ hR.ow (k := 3) (i := 2) ⟨by decide, e.2⟩))) (fun e => Or.inr (Nat.le_trans hS.1 e))) rfl rfl (wD_le (by decide) (by decide)) (Nat.le_of_ble_eq_true rfl) ⟨(Nat.le_of_ble_eq_true rfl), (Nat.le_of_ble_eq_true rfl)⟩ dX12_charge_176 (fun v H1 locs1 hP hz hq hS => ?_)
                        obtain ⟨⟨ea, cp, hL, hcp1, hcp2, hAr, hcs⟩, rfl⟩ := hP
                        have hN := hN.kept (hq _ hN.lt (fun e => e.elim hvq (fun e => hva e.1)))
                        have hA9 := hA9.kept (hq _ hA9.lt (fun e => e.elim hx2 (fun e => hx3 e.1)))
                        have hcs : (ea = g.ad 3 2 ∧ 0 < g.cap 2) ∨ ea = n2 := by rw [hn2]; exact hcs
                        have hz2 : n2 ≤ H1.size := by rw [hn2]; exact hz
                        have hae : ¬ o9 = ea := by
                          intro e9
                          rcases hcs with hc1 | hc1
                          · exact hva (e9.trans hc1.1)
                          · omega
                        have hxe : ¬ x9q = ea := by
                          intro e9
                          rcases hcs with hc1 | hc1
                          · exact hx3 (e9.trans hc1.1)
                          · omega
                        have heN : eN E ≤ ea := by
                          rcases hcs with hc1 | hc1
                          · rw [hc1.1]; exact hR.2.2.1.1 _ (hR.ow (k := 3) (i := 2) ⟨by decide, hc1.2⟩)
                          · omega
                        have he : (ea = g.ad 3 2 ∧ 0 < g.cap 2) ∨ ∀ k' i', valB S g k' i' → ¬ g.ad k' i' = ea := by
                          rcases hcs with hc1 | hc1
                          · exact Or.inl hc1
                          · refine Or.inr (fun k' i' hv e9 => ?_)
                            have h9 : g.ad k' i' < n2 := by rw [hn2]; exact (hR.1 k' i' hv).2.lt
                            omega
                        have hArl : ea < H1.size := hAr.lt
                        have hNl : o9 < H1.size := hN.lt
                        have hgx : gX g (gA2 g 8 2 S.nc o9 ea cp 14 x9q) s.heap.size H1.size := by
                          refine gX_add2 (by decide) (by decide) ⟨hoS, hNl⟩ ?_ ⟨by omega, by omega⟩
                          rcases hcs with hc1 | hc1
                          · exact Or.inl ⟨hc1.1, hR.ow (k := 3) (i := 2) ⟨by decide, hc1.2⟩⟩
                          · exact Or.inr ⟨by omega, hArl⟩
                        have hR : RB E (addC S p9 k9 l9 a9 x9 (tripA S p9 (nI l9))) 0 (gA2 g 8 2 S.nc o9 ea cp 14 x9q) H1 := RB.appC hR hI hfr he hae haN heN ⟨hcp1, hcp2⟩ (fun q h1 h2 h3 => hq q h1 (fun e => e.elim h2 h3)) hL hAr hN hA9 hfr2 (by omega) (by omega) hxe
                        have hI : Inv (addC S p9 k9 l9 a9 x9 (tripA S p9 (nI l9))) := hI.adC h30 hp9 hk9 hl9 (rng1 ha91 ha92) (fun j hj => fstB_lt hj)
                        refine lv_pop hx hb dX12_charge_179 rfl ?_
                        refine lv_aload_n hx hb dX12_charge_180 rfl (lv_at hl 0 rfl) ?_
                        refine gf_X12_1 hx hb hown hC (RB.x (g := (gA2 g 8 2 S.nc o9 ea cp 14 x9q)) hR) (zf_X12_10 hC.1) dX12_charge_181 ?_
                        refine wcv_V (As := []) hx hb hml hown hC hl (c_X8_matchAll l E hI) (rec_of hC (RB.dk hR) rfl) (zm_X12_179 hC.1) kv_X8_matchAll hR hS (fun q h => h.elim (fun w => (hgx.1 q w).imp id And.left) (fun w => Or.inr (Nat.le_trans hS.1 w))) rfl rfl (wD_le (by decide) (by decide)) (Nat.le_of_ble_eq_true rfl) ⟨Nat.le_of_ble_eq_true rfl, Nat.le_of_ble_eq_true rfl⟩ dX12_charge_184 (fun H1 locs1 hR hz hq hS => ?_)
                        have hI : Inv (mpS (addC S p9 k9 l9 a9 x9 (tripA S p9 (nI l9)))) := hI.mp
                        have hgx := hgx.mono hz
                        refine lv_aload_n hx hb dX12_charge_187 rfl (lv_at hl 0 rfl) ?_
                        refine gf_X12_1 hx hb hown hC (RB.x (g := (gA2 g 8 2 S.nc o9 ea cp 14 x9q)) hR) (zf_X12_10 hC.1) dX12_charge_188 ?_
                        refine wcv_V (As := []) hx hb hml hown hC hl (c_X8_goOn l E hI) (rec_of hC (RB.dk hR) rfl) (zm_X12_81 hC.1) kv_X8_goOn hR hS (fun q h => h.elim (fun w => (hgx.1 q w).imp id And.left) (fun w => Or.inr (Nat.le_trans hS.1 w))) rfl rfl (wD_le (by decide) (by decide)) (Nat.le_of_ble_eq_true rfl) ⟨Nat.le_of_ble_eq_true rfl, Nat.le_of_ble_eq_true rfl⟩ dX12_charge_191 (fun H1 locs1 hR hz hq hS => ?_)
                        have hI : Inv (passS (mpS (addC S p9 k9 l9 a9 x9 (tripA S p9 (nI l9))))) := hI.pS
                        have hgx := hgx.mono hz
                        refine lv_aload_n hx hb dX12_charge_194 rfl (lv_at hl 0 rfl) ?_
                        refine gf_X12_1 hx hb hown hC (RB.x (g := (gA2 g 8 2 S.nc o9 ea cp 14 x9q)) hR) (zf_X12_10 hC.1) dX12_charge_195 ?_
                        refine gf_X8_2 hx hb hown hC (RB.dk (g := (gA2 g 8 2 S.nc o9 ea cp 14 x9q)) hR) (zf_X12_95 hC.1) dX12_charge_198 ?_
                        refine rc_V (As := []) hx hb hml hown hC hl (c_size l E _ _ _ _) (rec_of hC (RB.ls hR (by decide : 2 < 4)) rfl) (zm_X12_28 hC.1) kv_Jx4a65c_size_8abf5 (RB.ls hR (by decide : 2 < 4)) rfl rfl (rwD_le (by decide) (by decide)) ⟨rfl, rfl⟩ (Nat.le_of_ble_eq_true rfl) ⟨(Nat.le_of_ble_eq_true rfl), (Nat.le_of_ble_eq_true rfl)⟩ dX12_charge_201 ?_
                        refine lv_iconst (v := 1) hx hb dX12_charge_204 (by decide) ?_
                        refine lv_isub hx hb dX12_charge_205 ?_
                        exact wr_i hx hb hr hlocks hS ⟨⟨_, hR, hgx⟩, congrArg (fun v => some (Value.int v)) (by rw [show (passS (mpS (addC S p9 k9 l9 a9 x9 (tripA S p9 (nI l9))))).cnt 2 = S.nc + 1 from by show (passS (mpS (addC S p9 k9 l9 a9 x9 (tripA S p9 (nI l9))))).nc = _; rw [passS_nc, mpS_nc]; rfl]; exact nI_pred S.nc)⟩ (Nat.le_of_ble_eq_true rfl) (Nat.le_of_ble_eq_true rfl) dX12_charge_206
                      · exact absurd (by decide) c_134
                    · exact absurd hs2 c_122
              · exact absurd (by decide) c_65
            · exact absurd (by decide) c_53
      · exact absurd (by decide) c_20
