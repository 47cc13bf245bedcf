set_option maxRecDepth 100000 in
set_option maxHeartbeats 4000000 in
theorem c_X10_init (l : Launch) (E : EE) {q9 : Nat} {a9 b9 c9 : Int32} : WM l E yX10_init cX10_init 4 none (wD 2 0 0) [.ref (q9), .int (a9), .int (b9), .int (c9)] (fun H => va_at E.1 vwCl (q9, .inr (10, [.int (0), .int (0), .int (0), .int (0)])) H) (fun x => x = q9) (fun sz v H => (va_at E.1 vwCl (q9, .inr (10, [.int (a9), .int (b9), .int (c9), .int ((-1))])) H) ∧ v = none) := by
  refine wm_of rfl (Nat.le_of_ble_eq_true rfl) (fun p e s m below meth c ls hx hb hr hml (hown : s.vm.findClass RX10 = some m.cls) hC hlocks hO hl hini => ?_)
  have hS : va_S (fun q => (fun x => x = q9) q ∨ s.heap.size ≤ q) s.heap s.heap [] := va_S.rf
  have hl : lv_has ls 4 [(0, .ref (q9)), (1, .int (a9)), (2, .int (b9)), (3, .int (c9))] := hl
  refine lv_aload_n hx hb dX10_init_0 rfl (lv_at hl 0 rfl) ?_
  refine W.objInit hx hb hown (zm_X10_3 hC.1) (zi_Object_init hC.1) (zk_Object_init hC.1) rfl (hl.1.trans hml.symm) rfl dX10_init_1 (Nat.le_of_ble_eq_true rfl) (Nat.le_of_ble_eq_true rfl) ?_
  refine lv_aload_n hx hb dX10_init_4 rfl (lv_at hl 0 rfl) ?_
  refine lv_iconst (v := (-1)) hx hb dX10_init_5 (by decide) ?_
  refine pf_X10_3 hx hb hown hC hO hS (Or.inl rfl) (zf_X10_9 hC.1) rfl rfl dX10_init_6 (fun H1 locs1 hO hz hq hS => ?_)
  refine lv_aload_n hx hb dX10_init_9 rfl (lv_at hl 0 rfl) ?_
  refine lv_iload_n hx hb dX10_init_10 rfl (lv_at hl 1 rfl) ?_
  refine pf_X10_0 hx hb hown hC hO hS (Or.inl rfl) (zf_X10_15 hC.1) (hini rfl) rfl rfl rfl dX10_init_11 (fun H1 locs1 hO hz hq hS => ?_)
  refine lv_aload_n hx hb dX10_init_14 rfl (lv_at hl 0 rfl) ?_
  refine lv_iload_n hx hb dX10_init_15 rfl (lv_at hl 2 rfl) ?_
  refine pf_X10_1 hx hb hown hC hO hS (Or.inl rfl) (zf_X10_18 hC.1) (hini rfl) rfl rfl rfl dX10_init_16 (fun H1 locs1 hO hz hq hS => ?_)
  refine lv_aload_n hx hb dX10_init_19 rfl (lv_at hl 0 rfl) ?_
  refine lv_iload_n hx hb dX10_init_20 rfl (lv_at hl 3 rfl) ?_
  refine pf_X10_2 hx hb hown hC hO hS (Or.inl rfl) (zf_X10_21 hC.1) (hini rfl) rfl rfl rfl dX10_init_21 (fun H1 locs1 hO hz hq hS => ?_)
  exact wr_v hx hb hr hlocks hS ⟨hO, rfl⟩ (Nat.le_of_ble_eq_true rfl) (Nat.le_of_ble_eq_true rfl) dX10_init_24
set_option maxRecDepth 100000 in
set_option maxHeartbeats 4000000 in
theorem c_X11_init (l : Launch) (E : EE) {q9 : Nat} {p9 a9 b9 c9 d9 : Int32} : WM l E yX11_init cX11_init 6 none (wD 2 0 0) [.ref (q9), .int (p9), .int (a9), .int (b9), .int (c9), .int (d9)] (fun H => va_at E.1 vwCl (q9, .inr (11, [.int (0), .int (0), .int (0), .int (0), .int (0)])) H) (fun x => x = q9) (fun sz v H => (va_at E.1 vwCl (q9, .inr (11, [.int (p9), .int (a9), .int (b9), .int (c9), .int (d9)])) H) ∧ v = none) := by
  refine wm_of rfl (Nat.le_of_ble_eq_true rfl) (fun p e s m below meth c ls hx hb hr hml (hown : s.vm.findClass RX11 = some m.cls) hC hlocks hO hl hini => ?_)
  have hS : va_S (fun q => (fun x => x = q9) q ∨ s.heap.size ≤ q) s.heap s.heap [] := va_S.rf
  have hl : lv_has ls 6 [(0, .ref (q9)), (1, .int (p9)), (2, .int (a9)), (3, .int (b9)), (4, .int (c9)), (5, .int (d9))] := hl
  refine lv_aload_n hx hb dX11_init_0 rfl (lv_at hl 0 rfl) ?_
  refine W.objInit hx hb hown (zm_X11_1 hC.1) (zi_Object_init hC.1) (zk_Object_init hC.1) rfl (hl.1.trans hml.symm) rfl dX11_init_1 (Nat.le_of_ble_eq_true rfl) (Nat.le_of_ble_eq_true rfl) ?_
  refine lv_aload_n hx hb dX11_init_4 rfl (lv_at hl 0 rfl) ?_
  refine lv_iload_n hx hb dX11_init_5 rfl (lv_at hl 1 rfl) ?_
  refine pf_X11_0 hx hb hown hC hO hS (Or.inl rfl) (zf_X11_7 hC.1) (hini rfl) rfl rfl rfl dX11_init_6 (fun H1 locs1 hO hz hq hS => ?_)
  refine lv_aload_n hx hb dX11_init_9 rfl (lv_at hl 0 rfl) ?_
  refine lv_iload_n hx hb dX11_init_10 rfl (lv_at hl 2 rfl) ?_
  refine pf_X11_1 hx hb hown hC hO hS (Or.inl rfl) (zf_X11_13 hC.1) (hini rfl) rfl rfl rfl dX11_init_11 (fun H1 locs1 hO hz hq hS => ?_)
  refine lv_aload_n hx hb dX11_init_14 rfl (lv_at hl 0 rfl) ?_
  refine lv_iload_n hx hb dX11_init_15 rfl (lv_at hl 3 rfl) ?_
  refine pf_X11_2 hx hb hown hC hO hS (Or.inl rfl) (zf_X11_16 hC.1) (hini rfl) rfl rfl rfl dX11_init_16 (fun H1 locs1 hO hz hq hS => ?_)
  refine lv_aload_n hx hb dX11_init_19 rfl (lv_at hl 0 rfl) ?_
  refine lv_iload hx hb dX11_init_20 (lv_at hl 4 rfl) ?_
  refine pf_X11_3 hx hb hown hC hO hS (Or.inl rfl) (zf_X11_19 hC.1) (hini rfl) rfl rfl rfl dX11_init_22 (fun H1 locs1 hO hz hq hS => ?_)
  refine lv_aload_n hx hb dX11_init_25 rfl (lv_at hl 0 rfl) ?_
  refine lv_iload hx hb dX11_init_26 (lv_at hl 5 rfl) ?_
  refine pf_X11_4 hx hb hown hC hO hS (Or.inl rfl) (zf_X11_22 hC.1) (hini rfl) rfl rfl rfl dX11_init_28 (fun H1 locs1 hO hz hq hS => ?_)
  exact wr_v hx hb hr hlocks hS ⟨hO, rfl⟩ (Nat.le_of_ble_eq_true rfl) (Nat.le_of_ble_eq_true rfl) dX11_init_31
set_option maxRecDepth 100000 in
set_option maxHeartbeats 4000000 in
theorem c_X7_init (l : Launch) (E : EE) {q9 : Nat} {p9 k9 l9 a9 x9 d9 t9 : Int32} : WM l E yX7_init cX7_init 8 none (wD 2 1 31) [.ref (q9), .int (p9), .int (k9), .int (l9), .int (a9), .int (x9), .int (d9), .int (t9)] (fun H => va_at E.1 vwCl (q9, .inr (7, [.int (0), .int (0), .int (0), .int (0), .int (0), .int (0), .int (0), .null, .int (0), .int (0), .int (0), .int (0)])) H) (fun x => x = q9) (fun sz v H => (va_at E.1 vwCl (q9, .inr (7, [.int (p9), .int (k9), .int (l9), .int (a9), .int (x9), .int (d9), .int (t9), .ref (sz), .int (0), .int ((-1)), .int (0), .int (0)])) H ∧ va_at E.1 vwCl (sz, .inl (eZ E, 31, .inl (fun _ => 0))) H) ∧ v = none) := by
  refine wm_of rfl (Nat.le_of_ble_eq_true rfl) (fun p e s m below meth c ls hx hb hr hml (hown : s.vm.findClass RX7 = some m.cls) hC hlocks hO hl hini => ?_)
  have hS : va_S (fun q => (fun x => x = q9) q ∨ s.heap.size ≤ q) s.heap s.heap [] := va_S.rf
  have hl : lv_has ls 8 [(0, .ref (q9)), (1, .int (p9)), (2, .int (k9)), (3, .int (l9)), (4, .int (a9)), (5, .int (x9)), (6, .int (d9)), (7, .int (t9))] := hl
  have hne : ¬ s.heap.size = q9 := Nat.ne_of_gt hO.lt
  have hz9 : s.heap.size = s.heap.size := rfl
  refine lv_aload_n hx hb dX7_init_0 rfl (lv_at hl 0 rfl) ?_
  refine W.objInit hx hb hown (zm_X7_3 hC.1) (zi_Object_init hC.1) (zk_Object_init hC.1) rfl (hl.1.trans hml.symm) rfl dX7_init_1 (Nat.le_of_ble_eq_true rfl) (Nat.le_of_ble_eq_true rfl) ?_
  refine lv_aload_n hx hb dX7_init_4 rfl (lv_at hl 0 rfl) ?_
  refine lv_bipush (v := 31) hx hb dX7_init_5 (by decide) ?_
  refine g_newz (N := 31) hx hb hC hS (by decide) (Nat.le_of_ble_eq_true rfl) (Nat.le_of_ble_eq_true rfl) dX7_init_7 (fun H1 hA hz hq hS => ?_)
  have hO := hO.kept (hq _ hO.lt)
  refine pf_X7_7 hx hb hown hC hO hS (Or.inl rfl) (zf_X7_9 hC.1) (hini rfl) rfl rfl rfl dX7_init_9 (fun H1 locs1 hO hz hq hS => ?_)
  have hA := hA.kept (hq _ hne)
  refine lv_aload_n hx hb dX7_init_12 rfl (lv_at hl 0 rfl) ?_
  refine lv_iconst (v := 0) hx hb dX7_init_13 (by decide) ?_
  refine pf_X7_8 hx hb hown hC hO hS (Or.inl rfl) (zf_X7_15 hC.1) rfl rfl dX7_init_14 (fun H1 locs1 hO hz hq hS => ?_)
  have hA := hA.kept (hq _ hne)
  refine lv_aload_n hx hb dX7_init_17 rfl (lv_at hl 0 rfl) ?_
  refine lv_iconst (v := (-1)) hx hb dX7_init_18 (by decide) ?_
  refine pf_X7_9 hx hb hown hC hO hS (Or.inl rfl) (zf_X7_19 hC.1) rfl rfl dX7_init_19 (fun H1 locs1 hO hz hq hS => ?_)
  have hA := hA.kept (hq _ hne)
  refine lv_aload_n hx hb dX7_init_22 rfl (lv_at hl 0 rfl) ?_
  refine lv_iload_n hx hb dX7_init_23 rfl (lv_at hl 1 rfl) ?_
  refine pf_X7_0 hx hb hown hC hO hS (Or.inl rfl) (zf_X7_22 hC.1) (hini rfl) rfl rfl rfl dX7_init_24 (fun H1 locs1 hO hz hq hS => ?_)
  have hA := hA.kept (hq _ hne)
  refine lv_aload_n hx hb dX7_init_27 rfl (lv_at hl 0 rfl) ?_
  refine lv_iload_n hx hb dX7_init_28 rfl (lv_at hl 2 rfl) ?_
  refine pf_X7_1 hx hb hown hC hO hS (Or.inl rfl) (zf_X7_25 hC.1) (hini rfl) rfl rfl rfl dX7_init_29 (fun H1 locs1 hO hz hq hS => ?_)
  have hA := hA.kept (hq _ hne)
  refine lv_aload_n hx hb dX7_init_32 rfl (lv_at hl 0 rfl) ?_
  refine lv_iload_n hx hb dX7_init_33 rfl (lv_at hl 3 rfl) ?_
  refine pf_X7_2 hx hb hown hC hO hS (Or.inl rfl) (zf_X7_28 hC.1) (hini rfl) rfl rfl rfl dX7_init_34 (fun H1 locs1 hO hz hq hS => ?_)
  have hA := hA.kept (hq _ hne)
  refine lv_aload_n hx hb dX7_init_37 rfl (lv_at hl 0 rfl) ?_
  refine lv_iload hx hb dX7_init_38 (lv_at hl 4 rfl) ?_
  refine pf_X7_3 hx hb hown hC hO hS (Or.inl rfl) (zf_X7_31 hC.1) (hini rfl) rfl rfl rfl dX7_init_40 (fun H1 locs1 hO hz hq hS => ?_)
  have hA := hA.kept (hq _ hne)
  refine lv_aload_n hx hb dX7_init_43 rfl (lv_at hl 0 rfl) ?_
  refine lv_iload hx hb dX7_init_44 (lv_at hl 5 rfl) ?_
  refine pf_X7_4 hx hb hown hC hO hS (Or.inl rfl) (zf_X7_34 hC.1) (hini rfl) rfl rfl rfl dX7_init_46 (fun H1 locs1 hO hz hq hS => ?_)
  have hA := hA.kept (hq _ hne)
  refine lv_aload_n hx hb dX7_init_49 rfl (lv_at hl 0 rfl) ?_
  refine lv_iload hx hb dX7_init_50 (lv_at hl 6 rfl) ?_
  refine pf_X7_5 hx hb hown hC hO hS (Or.inl rfl) (zf_X7_37 hC.1) (hini rfl) rfl rfl rfl dX7_init_52 (fun H1 locs1 hO hz hq hS => ?_)
  have hA := hA.kept (hq _ hne)
  refine lv_aload_n hx hb dX7_init_55 rfl (lv_at hl 0 rfl) ?_
  refine lv_iload hx hb dX7_init_56 (lv_at hl 7 rfl) ?_
  refine pf_X7_6 hx hb hown hC hO hS (Or.inl rfl) (zf_X7_40 hC.1) (hini rfl) rfl rfl rfl dX7_init_58 (fun H1 locs1 hO hz hq hS => ?_)
  have hA := hA.kept (hq _ hne)
  exact wr_v hx hb hr hlocks hS ⟨⟨hO, hA⟩, rfl⟩ (Nat.le_of_ble_eq_true rfl) (Nat.le_of_ble_eq_true rfl) dX7_init_61
set_option maxRecDepth 100000 in
set_option maxHeartbeats 4000000 in
theorem c_X9_init (l : Launch) (E : EE) {q9 : Nat} {g : Gh} {n9 : Int32} {bo : Option Nat} : WM l E yX9_init cX9_init 3 none (wD 2 1 4) [.ref (q9), .int (n9), va_rf ((bo).map (g.ad 6))] (fun H => va_at E.1 vwCl (q9, .inr (9, [.int (0), .null, .int (0), .int (0), .null, .int (0), .int (0)])) H) (fun x => x = q9) (fun sz v H => (va_at E.1 vwCl (q9, .inr (9, [.int (n9), va_rf ((bo).map (g.ad 6)), .int (5), .int (0), .ref (sz), .int ((-1)), .int ((-1))])) H ∧ va_at E.1 vwCl (sz, .inl (eI E, 4, .inl (fun _ => 0))) H) ∧ v = none) := by
  refine wm_of rfl (by cases bo <;> exact Nat.le_of_ble_eq_true rfl) (fun p e s m below meth c ls hx hb hr hml (hown : s.vm.findClass RX9 = some m.cls) hC hlocks hO hl hini => ?_)
  have hS : va_S (fun q => (fun x => x = q9) q ∨ s.heap.size ≤ q) s.heap s.heap [] := va_S.rf
  have hl : lv_has ls 3 [(0, .ref (q9)), (1, .int (n9)), (2, va_rf ((bo).map (g.ad 6)))] := hl
  have hne : ¬ s.heap.size = q9 := Nat.ne_of_gt hO.lt
  have hz9 : s.heap.size = s.heap.size := rfl
  refine lv_aload_n hx hb dX9_init_0 rfl (lv_at hl 0 rfl) ?_
  refine W.objInit hx hb hown (zm_X9_3 hC.1) (zi_Object_init hC.1) (zk_Object_init hC.1) rfl (hl.1.trans hml.symm) rfl dX9_init_1 (Nat.le_of_ble_eq_true rfl) (Nat.le_of_ble_eq_true rfl) ?_
  refine lv_aload_n hx hb dX9_init_4 rfl (lv_at hl 0 rfl) ?_
  refine lv_iconst (v := 5) hx hb dX9_init_5 (by decide) ?_
  refine pf_X9_2 hx hb hown hC hO hS (Or.inl rfl) (zf_X9_9 hC.1) rfl rfl dX9_init_6 (fun H1 locs1 hO hz hq hS => ?_)
  have hz9 := hz.trans hz9
  refine lv_aload_n hx hb dX9_init_9 rfl (lv_at hl 0 rfl) ?_
  refine lv_iconst (v := 4) hx hb dX9_init_10 (by decide) ?_
  refine g_newi (N := 4) hx hb hC hS (by decide) (Nat.le_of_ble_eq_true rfl) (Nat.le_of_ble_eq_true rfl) dX9_init_11 (fun H1 hA hz hq hS => ?_)
  have hO := hO.kept (hq _ hO.lt)
  rw [hz9] at hA ⊢
  refine pf_X9_4 hx hb hown hC hO hS (Or.inl rfl) (zf_X9_15 hC.1) (hini rfl) rfl rfl rfl dX9_init_13 (fun H1 locs1 hO hz hq hS => ?_)
  have hA := hA.kept (hq _ hne)
  refine lv_aload_n hx hb dX9_init_16 rfl (lv_at hl 0 rfl) ?_
  refine lv_iconst (v := (-1)) hx hb dX9_init_17 (by decide) ?_
  refine pf_X9_5 hx hb hown hC hO hS (Or.inl rfl) (zf_X9_19 hC.1) rfl rfl dX9_init_18 (fun H1 locs1 hO hz hq hS => ?_)
  have hA := hA.kept (hq _ hne)
  refine lv_aload_n hx hb dX9_init_21 rfl (lv_at hl 0 rfl) ?_
  refine lv_iconst (v := (-1)) hx hb dX9_init_22 (by decide) ?_
  refine pf_X9_6 hx hb hown hC hO hS (Or.inl rfl) (zf_X9_22 hC.1) rfl rfl dX9_init_23 (fun H1 locs1 hO hz hq hS => ?_)
  have hA := hA.kept (hq _ hne)
  refine lv_aload_n hx hb dX9_init_26 rfl (lv_at hl 0 rfl) ?_
  refine lv_iload_n hx hb dX9_init_27 rfl (lv_at hl 1 rfl) ?_
  refine pf_X9_0 hx hb hown hC hO hS (Or.inl rfl) (zf_X9_25 hC.1) (hini rfl) rfl rfl rfl dX9_init_28 (fun H1 locs1 hO hz hq hS => ?_)
  have hA := hA.kept (hq _ hne)
  refine lv_aload_n hx hb dX9_init_31 rfl (lv_at hl 0 rfl) ?_
  refine lw_aload_n hx hb dX9_init_32 rfl (lv_at hl 2 rfl) ?_
  refine pf_X9_1 hx hb hown hC hO hS (Or.inl rfl) (zf_X9_28 hC.1) (hini rfl) rfl (va_rf_nar _) (va_rf_fit _) dX9_init_33 (fun H1 locs1 hO hz hq hS => ?_)
  have hA := hA.kept (hq _ hne)
  exact wr_v hx hb hr hlocks hS ⟨⟨hO, hA⟩, rfl⟩ (Nat.le_of_ble_eq_true rfl) (Nat.le_of_ble_eq_true rfl) dX9_init_36
