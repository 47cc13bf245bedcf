set_option maxRecDepth 100000 in
set_option maxHeartbeats 4000000 in
theorem c_grow0 (l : Launch) (E : EE) {q9 m9 : Nat} {md n8 : Int32} (hm : m9 ≤ 10) : WM l E yJx4a65c_grow_92f84 cJx4a65c_grow_92f84 4 (some (.array (.object "java/lang/Object"))) (wD 2 1 10) [.ref (q9), .int (nI m9)] (fun H => va_at E.1 vwCl (q9, .inr (0, [.int (md), .ref (eE E), .int (n8)])) H ∧ ZE E H) (fun x => x = q9) (fun sz v H => v = some (.ref sz) ∧ va_at E.1 vwCl (q9, .inr (0, [.int (md), .ref (sz), .int (n8)])) H ∧ va_at E.1 vwCl (sz, .inl (eO E, 10, .inr (.inr (.inr (.inr (fun _ => none)))))) H) := by
  refine wm_of rfl (Nat.le_of_ble_eq_true rfl) (fun p e s m below meth c ls hx hb hr hml (hown : s.vm.findClass RJx4a65c = some m.cls) hC hlocks ⟨hO, hX⟩ hl hini => ?_)
  have hS : va_S (fun q => (fun x => x = q9) q ∨ s.heap.size ≤ q) s.heap s.heap [] := va_S.rf
  have hl : lv_has ls 4 [(0, .ref (q9)), (1, .int (nI m9))] := hl
  have hO0 := hO
  refine lv_aload_n hx hb dJx4a65c_grow_92f84_0 rfl (lv_at hl 0 rfl) ?_
  refine gf_Jx4a65c_1 hx hb hown hC hO (zf_Jx4a65c_9 hC.1) dJx4a65c_grow_92f84_1 ?_
  refine g_alenZ hx hb hC hX.2.2.2 dJx4a65c_grow_92f84_4 ?_
  refine lv_istore_n (lv' := [(2, .int (nI (0))), (0, .ref (q9)), (1, .int (nI m9))]) hx hb dJx4a65c_grow_92f84_5 rfl hl (by decide) rfl (fun ls hl => ?_)
  refine lv_iload_n hx hb dJx4a65c_grow_92f84_6 rfl (lv_at hl 0 rfl) ?_
  refine lv_if_gt (tgt := 20) hx hb dJx4a65c_grow_92f84_7 (by decide) (fun c_7 => ?_) (fun c_7 => ?_)
  · exact absurd c_7 (by decide)
  ·
    refine lv_aload_n hx hb dJx4a65c_grow_92f84_10 rfl (lv_at hl 1 rfl) ?_
    refine gf_Jx4a65c_1 hx hb hown hC hO (zf_Jx4a65c_9 hC.1) dJx4a65c_grow_92f84_11 ?_
    refine g_gets hx hb hown hC hX (zf_Jx4a65c_39 hC.1) dJx4a65c_grow_92f84_14 ?_
    refine lv_acmp_eq (rx := some (eE E)) (ry := some (eE E)) (tgt := 45) hx hb dJx4a65c_grow_92f84_17 (by decide) (fun _ => ?_) (fun h => absurd rfl h)
    refine lv_aload_n hx hb dJx4a65c_grow_92f84_45 rfl (lv_at hl 1 rfl) ?_
    refine lv_bipush (v := 10) hx hb dJx4a65c_grow_92f84_46 (by decide) ?_
    refine lv_iload_n hx hb dJx4a65c_grow_92f84_48 rfl (lv_at hl 2 rfl) ?_
    refine va_mmax hx hb (hml.trans hl.1.symm) hown (zm_Jx4a65c_79 hC.1) (ztm_max hC.1) (znm hC.1) (zkm_max hC.1) (Nat.le_of_ble_eq_true rfl) (Nat.le_of_ble_eq_true rfl) (Nat.zero_le _) (Nat.zero_le _) dJx4a65c_grow_92f84_49 ?_
    rw [show (if (10 : Int32) < nI m9 then nI m9 else 10) = nI 10 from if_neg (nI_nlt (a := 10) (b := m9) hm (by decide))]
    refine g_anew (N := 10) hx hb hown hC (zc_Jx4a65c_7 hC.1) hS (by decide) (Nat.le_refl _) (Nat.le_refl _) dJx4a65c_grow_92f84_52 (fun H1 hA hz hq hS => ?_)
    have hO := hO.kept (hq _ hO.lt)
    refine lv_dup_x1 hx hb dJx4a65c_grow_92f84_55 rfl rfl ?_
    refine pf_Jx4a65c_1 hx hb hown hC hO hS (Or.inl rfl) (zf_Jx4a65c_9 hC.1) rfl rfl dJx4a65c_grow_92f84_56 (fun H1 locs1 hO hz hq hS => ?_)
    have hA := hA.kept (hq _ (fun e => Nat.ne_of_lt hO0.lt e.symm))
    exact wr_r hx hb hr (Or.inr ⟨_, rfl⟩) hlocks hS ⟨rfl, hO, hA⟩ (Nat.le_refl _) (Nat.le_refl _) dJx4a65c_grow_92f84_59
set_option maxRecDepth 100000 in
set_option maxHeartbeats 4000000 in
theorem c_growC (l : Launch) (E : EE) {q9 a9 n9 : Nat} {md n8 : Int32} {f9 : Nat → Option Nat} {ci : Nat} {C : String} {T : u_T} {N : Nat} (hci : vwCl[ci]? = some (C, T, N)) (hco : C ∈ cObj) (h0 : 0 < n9) (h30 : n9 ≤ 30) (hne : ¬ q9 = a9) : WM l E yJx4a65c_grow_92f84 cJx4a65c_grow_92f84 4 (some (.array (.object "java/lang/Object"))) (wD 3 1 (n9 + max 1 (n9 / 2))) [.ref (q9), .int (nI (n9 + 1))] (fun H => va_at E.1 vwCl (q9, .inr (0, [.int (md), .ref (a9), .int (n8)])) H ∧ va_at E.1 vwCl (a9, .inl (eO E, n9, .inr (.inr (.inr (.inr (f9)))))) H ∧ (∀ j y, j < n9 → f9 j = some y → ∃ vs, va_at E.1 vwCl (y, .inr (ci, vs)) H)) (fun x => x = q9 ∨ x = a9) (fun sz v H => v = some (.ref sz) ∧ va_at E.1 vwCl (q9, .inr (0, [.int (md), .ref (sz), .int (n8)])) H ∧ va_at E.1 vwCl (sz, .inl (eO E, (n9 + max 1 (n9 / 2)), .inr (.inr (.inr (.inr (fun j => if j < n9 then f9 j else none)))))) H) := by
  refine wm_of rfl (Nat.le_of_ble_eq_true rfl) (fun p e s m below meth c ls hx hb hr hml (hown : s.vm.findClass RJx4a65c = some m.cls) hC hlocks ⟨hO, hR⟩ hl hini => ?_)
  have hS : va_S (fun q => (fun x => x = q9 ∨ x = a9) q ∨ s.heap.size ≤ q) s.heap s.heap [] := va_S.rf
  have hl : lv_has ls 4 [(0, .ref (q9)), (1, .int (nI (n9 + 1)))] := hl
  have hO0 := hO
  refine lv_aload_n hx hb dJx4a65c_grow_92f84_0 rfl (lv_at hl 0 rfl) ?_
  refine gf_Jx4a65c_1 hx hb hown hC hO (zf_Jx4a65c_9 hC.1) dJx4a65c_grow_92f84_1 ?_
  refine g_alenO hx hb hC hR.1 dJx4a65c_grow_92f84_4 ?_
  refine lv_istore_n (lv' := [(2, .int (nI (n9))), (0, .ref (q9)), (1, .int (nI (n9 + 1)))]) hx hb dJx4a65c_grow_92f84_5 rfl hl (by decide) rfl (fun ls hl => ?_)
  refine lv_iload_n hx hb dJx4a65c_grow_92f84_6 rfl (lv_at hl 0 rfl) ?_
  refine lv_if_gt (tgt := 20) hx hb dJx4a65c_grow_92f84_7 (by decide) (fun c_7 => ?_) (fun c_7 => ?_)
  ·
    refine lv_iload_n hx hb dJx4a65c_grow_92f84_20 rfl (lv_at hl 0 rfl) ?_
    refine lv_iload_n hx hb dJx4a65c_grow_92f84_21 rfl (lv_at hl 2 rfl) ?_
    refine lv_iload_n hx hb dJx4a65c_grow_92f84_22 rfl (lv_at hl 0 rfl) ?_
    refine lv_isub hx hb dJx4a65c_grow_92f84_23 ?_
    rw [nI_sub1]
    refine lv_iload_n hx hb dJx4a65c_grow_92f84_24 rfl (lv_at hl 0 rfl) ?_
    refine lv_iconst (v := 1) hx hb dJx4a65c_grow_92f84_25 (by decide) ?_
    refine lv_ishr hx hb dJx4a65c_grow_92f84_26 ?_
    rw [shr1 n9 (by omega)]
    refine rc_S (As := [.int (nI (n9)), .int (nI (1)), .int (nI (n9 / 2))]) hx hb hml hown hC hl (c_newLength l E (a9 := n9) (b9 := 1) (d9 := n9 / 2) (by decide) (by omega)) (zm_Jx4a65c_73 hC.1) kv_J8_newLength_cabcc True.intro rfl rfl (rwD_le (by decide) (by decide)) ⟨rfl, rfl⟩ (Nat.le_of_ble_eq_true rfl) ⟨Nat.zero_le _, Nat.zero_le _⟩ dJx4a65c_grow_92f84_27 ?_
    refine lv_istore_n (lv' := [(3, .int (nI (n9 + max 1 (n9 / 2)))), (2, .int (nI (n9))), (0, .ref (q9)), (1, .int (nI (n9 + 1)))]) hx hb dJx4a65c_grow_92f84_30 rfl hl (by decide) rfl (fun ls hl => ?_)
    refine lv_aload_n hx hb dJx4a65c_grow_92f84_31 rfl (lv_at hl 2 rfl) ?_
    refine lv_aload_n hx hb dJx4a65c_grow_92f84_32 rfl (lv_at hl 2 rfl) ?_
    refine gf_Jx4a65c_1 hx hb hown hC hO (zf_Jx4a65c_9 hC.1) dJx4a65c_grow_92f84_33 ?_
    refine lv_iload_n hx hb dJx4a65c_grow_92f84_36 rfl (lv_at hl 0 rfl) ?_
    refine wc_S (As := [.ref (a9), .int (nI (n9 + max 1 (n9 / 2)))]) hx hb hml hown hC hl (c_copyOf l E (N9 := (n9 + max 1 (n9 / 2))) hci hco (by omega) (by omega)) (zm_Jx4a65c_66 hC.1) kv_J7_copyOf_1904c hR hS (fun q h => h.elim (fun e => Or.inl (Or.inr e)) Or.inr) rfl rfl (wD_le (by decide) (by decide)) (Nat.le_of_ble_eq_true rfl) ⟨Nat.le_of_eq (Nat.zero_add _), Nat.le_of_eq (Nat.zero_add _)⟩ dJx4a65c_grow_92f84_37 (fun v H1 locs1 hP hz hq hS => ?_)
    obtain ⟨rfl, hA, -⟩ := hP
    have hO := hO.kept (hq _ hO.lt (fun e => hne e))
    refine lv_dup_x1 hx hb dJx4a65c_grow_92f84_40 rfl rfl ?_
    refine pf_Jx4a65c_1 hx hb hown hC hO hS (Or.inl (Or.inl rfl)) (zf_Jx4a65c_9 hC.1) rfl rfl dJx4a65c_grow_92f84_41 (fun H1 locs1 hO hz hq hS => ?_)
    have hA := hA.kept (hq _ (fun e => Nat.ne_of_lt hO0.lt e.symm))
    exact wr_r hx hb hr (Or.inr ⟨_, rfl⟩) hlocks hS ⟨rfl, hO, hA⟩ (Nat.le_of_eq (Nat.zero_add _)) (Nat.le_of_eq (Nat.zero_add _)) dJx4a65c_grow_92f84_44
  · exact absurd (nI_lt (a := 0) h0 (by omega)) c_7
set_option maxRecDepth 100000 in
set_option maxHeartbeats 4000000 in
theorem c_growE (l : Launch) (E : EE) {q9 : Nat} {md : Int32} : WM l E yJx4a65c_grow_d5877 cJx4a65c_grow_d5877 1 (some (.array (.object "java/lang/Object"))) (wD 3 1 10) [.ref (q9)] (fun H => va_at E.1 vwCl (q9, .inr (0, [.int (md), .ref (eE E), .int (nI 0)])) H ∧ ZE E H) (fun x => x = q9) (fun sz v H => v = some (.ref sz) ∧ va_at E.1 vwCl (q9, .inr (0, [.int (md), .ref (sz), .int (nI 0)])) H ∧ va_at E.1 vwCl (sz, .inl (eO E, 10, .inr (.inr (.inr (.inr (fun _ => none)))))) H) := by
  refine wm_of rfl (Nat.le_of_ble_eq_true rfl) (fun p e s m below meth c ls hx hb hr hml (hown : s.vm.findClass RJx4a65c = some m.cls) hC hlocks ⟨hO, hX⟩ hl hini => ?_)
  have hS : va_S (fun q => (fun x => x = q9) q ∨ s.heap.size ≤ q) s.heap s.heap [] := va_S.rf
  have hl : lv_has ls 1 [(0, .ref (q9))] := hl
  refine lv_aload_n hx hb dJx4a65c_grow_d5877_0 rfl (lv_at hl 0 rfl) ?_
  refine lv_aload_n hx hb dJx4a65c_grow_d5877_1 rfl (lv_at hl 0 rfl) ?_
  refine gf_Jx4a65c_2 hx hb hown hC hO (zf_Jx4a65c_48 hC.1) dJx4a65c_grow_d5877_2 ?_
  refine lv_iconst (v := 1) hx hb dJx4a65c_grow_d5877_5 (by decide) ?_
  refine lv_iadd hx hb dJx4a65c_grow_d5877_6 ?_
  rw [← nI_succ 0]
  refine wc_V (As := [.int (nI (0 + 1))]) hx hb hml hown hC hl (c_grow0 l E (m9 := 0 + 1) (by decide)) (rec_of hC hO rfl) (zm_Jx4a65c_69 hC.1) kv_Jx4a65c_grow_92f84 ⟨hO, hX⟩ hS (fun q h => h) rfl rfl (wD_le (by decide) (by decide)) (Nat.le_of_ble_eq_true rfl) ⟨Nat.le_of_ble_eq_true rfl, Nat.le_of_ble_eq_true rfl⟩ dJx4a65c_grow_d5877_7 (fun v H1 locs1 hP hz hq hS => ?_)
  obtain ⟨rfl, hO, hA⟩ := hP
  exact wr_r hx hb hr (Or.inr ⟨_, rfl⟩) hlocks hS ⟨rfl, hO, hA⟩ (Nat.le_of_eq (Nat.zero_add _)) (Nat.le_of_eq (Nat.zero_add _)) dJx4a65c_grow_d5877_10
set_option maxRecDepth 100000 in
set_option maxHeartbeats 4000000 in
theorem c_growF (l : Launch) (E : EE) {q9 a9 n9 : Nat} {md : Int32} {f9 : Nat → Option Nat} {ci : Nat} {C : String} {T : u_T} {N : Nat} (hci : vwCl[ci]? = some (C, T, N)) (hco : C ∈ cObj) (h0 : 0 < n9) (h30 : n9 ≤ 30) (hne : ¬ q9 = a9) : WM l E yJx4a65c_grow_d5877 cJx4a65c_grow_d5877 1 (some (.array (.object "java/lang/Object"))) (wD 4 1 (n9 + max 1 (n9 / 2))) [.ref (q9)] (fun H => va_at E.1 vwCl (q9, .inr (0, [.int (md), .ref (a9), .int (nI n9)])) H ∧ va_at E.1 vwCl (a9, .inl (eO E, n9, .inr (.inr (.inr (.inr (f9)))))) H ∧ (∀ j y, j < n9 → f9 j = some y → ∃ vs, va_at E.1 vwCl (y, .inr (ci, vs)) H)) (fun x => x = q9 ∨ x = a9) (fun sz v H => v = some (.ref sz) ∧ va_at E.1 vwCl (q9, .inr (0, [.int (md), .ref (sz), .int (nI n9)])) H ∧ va_at E.1 vwCl (sz, .inl (eO E, (n9 + max 1 (n9 / 2)), .inr (.inr (.inr (.inr (fun j => if j < n9 then f9 j else none)))))) H) := by
  refine wm_of rfl (Nat.le_of_ble_eq_true rfl) (fun p e s m below meth c ls hx hb hr hml (hown : s.vm.findClass RJx4a65c = some m.cls) hC hlocks ⟨hO, hR⟩ hl hini => ?_)
  have hS : va_S (fun q => (fun x => x = q9 ∨ x = a9) q ∨ s.heap.size ≤ q) s.heap s.heap [] := va_S.rf
  have hl : lv_has ls 1 [(0, .ref (q9))] := hl
  refine lv_aload_n hx hb dJx4a65c_grow_d5877_0 rfl (lv_at hl 0 rfl) ?_
  refine lv_aload_n hx hb dJx4a65c_grow_d5877_1 rfl (lv_at hl 0 rfl) ?_
  refine gf_Jx4a65c_2 hx hb hown hC hO (zf_Jx4a65c_48 hC.1) dJx4a65c_grow_d5877_2 ?_
  refine lv_iconst (v := 1) hx hb dJx4a65c_grow_d5877_5 (by decide) ?_
  refine lv_iadd hx hb dJx4a65c_grow_d5877_6 ?_
  rw [← nI_succ n9]
  refine wc_V (As := [.int (nI (n9 + 1))]) hx hb hml hown hC hl (c_growC l E hci hco h0 h30 hne) (rec_of hC hO rfl) (zm_Jx4a65c_69 hC.1) kv_Jx4a65c_grow_92f84 ⟨hO, hR⟩ hS (fun q h => h) rfl rfl (wD_le (by decide) (by decide)) (Nat.le_of_ble_eq_true rfl) ⟨Nat.le_of_eq (Nat.zero_add _), Nat.le_of_eq (Nat.zero_add _)⟩ dJx4a65c_grow_d5877_7 (fun v H1 locs1 hP hz hq hS => ?_)
  obtain ⟨rfl, hO, hA⟩ := hP
  exact wr_r hx hb hr (Or.inr ⟨_, rfl⟩) hlocks hS ⟨rfl, hO, hA⟩ (Nat.le_of_eq (Nat.zero_add _)) (Nat.le_of_eq (Nat.zero_add _)) dJx4a65c_grow_d5877_10

