set_option maxRecDepth 100000 in
set_option maxHeartbeats 4000000 in
theorem c_X1_init_X2 (l : Launch) (E : EE) {q9 : Nat} {n9 : Int32} : WM l E yX1_init cX1_init 2 none (wD 2 0 0) [.ref (q9), .int (n9)] (fun H => va_at E.1 vwCl (q9, .inr (2, [.int (0), .null, .int (0), .int (0), .int (0), .null])) H) (fun x => x = q9) (fun sz v H => (va_at E.1 vwCl (q9, .inr (2, [.int (n9), .null, .int (0), .int (0), .int (0), .null])) H) ∧ v = none) := by
  refine wm_of rfl (Nat.le_of_ble_eq_true rfl) (fun p e s m below meth c ls hx hb hr hml (hown : s.vm.findClass RX1 = some m.cls) hC hlocks hO hl hini => ?_)
  have hS : va_S (fun q => (fun x => x = q9) q ∨ s.heap.size ≤ q) s.heap s.heap [] := va_S.rf
  have hl : lv_has ls 2 [(0, .ref (q9)), (1, .int (n9))] := hl
  refine lv_aload_n hx hb dX1_init_0 rfl (lv_at hl 0 rfl) ?_
  refine W.objInit hx hb hown (zm_X1_1 hC.1) (zi_Object_init hC.1) (zk_Object_init hC.1) rfl (hl.1.trans hml.symm) rfl dX1_init_1 (Nat.le_of_ble_eq_true rfl) (Nat.le_of_ble_eq_true rfl) ?_
  refine lv_aload_n hx hb dX1_init_4 rfl (lv_at hl 0 rfl) ?_
  refine lv_iload_n hx hb dX1_init_5 rfl (lv_at hl 1 rfl) ?_
  refine pf_X2_0 hx hb hown hC hO hS (Or.inl rfl) (zf_X1_7 hC.1) (hini rfl) rfl rfl rfl dX1_init_6 (fun H1 locs1 hO hz hq hS => ?_)
  exact wr_v hx hb hr hlocks hS ⟨hO, rfl⟩ (Nat.le_of_ble_eq_true rfl) (Nat.le_of_ble_eq_true rfl) dX1_init_9
set_option maxRecDepth 100000 in
set_option maxHeartbeats 4000000 in
theorem c_X1_init_X0 (l : Launch) (E : EE) {q9 : Nat} {n9 : Int32} : WM l E yX1_init cX1_init 2 none (wD 2 0 0) [.ref (q9), .int (n9)] (fun H => va_at E.1 vwCl (q9, .inr (1, [.int (0), .null, .int (0), .int (0), .int (0), .int (0), .int (0), .null, .int (0), .null, .int (0), .int (0), .int (0)])) H) (fun x => x = q9) (fun sz v H => (va_at E.1 vwCl (q9, .inr (1, [.int (n9), .null, .int (0), .int (0), .int (0), .int (0), .int (0), .null, .int (0), .null, .int (0), .int (0), .int (0)])) H) ∧ v = none) := by
  refine wm_of rfl (Nat.le_of_ble_eq_true rfl) (fun p e s m below meth c ls hx hb hr hml (hown : s.vm.findClass RX1 = some m.cls) hC hlocks hO hl hini => ?_)
  have hS : va_S (fun q => (fun x => x = q9) q ∨ s.heap.size ≤ q) s.heap s.heap [] := va_S.rf
  have hl : lv_has ls 2 [(0, .ref (q9)), (1, .int (n9))] := hl
  refine lv_aload_n hx hb dX1_init_0 rfl (lv_at hl 0 rfl) ?_
  refine W.objInit hx hb hown (zm_X1_1 hC.1) (zi_Object_init hC.1) (zk_Object_init hC.1) rfl (hl.1.trans hml.symm) rfl dX1_init_1 (Nat.le_of_ble_eq_true rfl) (Nat.le_of_ble_eq_true rfl) ?_
  refine lv_aload_n hx hb dX1_init_4 rfl (lv_at hl 0 rfl) ?_
  refine lv_iload_n hx hb dX1_init_5 rfl (lv_at hl 1 rfl) ?_
  refine pf_X0_0 hx hb hown hC hO hS (Or.inl rfl) (zf_X1_7 hC.1) (hini rfl) rfl rfl rfl dX1_init_6 (fun H1 locs1 hO hz hq hS => ?_)
  exact wr_v hx hb hr hlocks hS ⟨hO, rfl⟩ (Nat.le_of_ble_eq_true rfl) (Nat.le_of_ble_eq_true rfl) dX1_init_9
set_option maxRecDepth 100000 in
set_option maxHeartbeats 4000000 in
theorem c_X1_init_X3 (l : Launch) (E : EE) {q9 : Nat} {n9 : Int32} : WM l E yX1_init cX1_init 2 none (wD 2 0 0) [.ref (q9), .int (n9)] (fun H => va_at E.1 vwCl (q9, .inr (3, [.int (0), .int (0), .int (0), .int (0), .null])) H) (fun x => x = q9) (fun sz v H => (va_at E.1 vwCl (q9, .inr (3, [.int (n9), .int (0), .int (0), .int (0), .null])) H) ∧ v = none) := by
  refine wm_of rfl (Nat.le_of_ble_eq_true rfl) (fun p e s m below meth c ls hx hb hr hml (hown : s.vm.findClass RX1 = some m.cls) hC hlocks hO hl hini => ?_)
  have hS : va_S (fun q => (fun x => x = q9) q ∨ s.heap.size ≤ q) s.heap s.heap [] := va_S.rf
  have hl : lv_has ls 2 [(0, .ref (q9)), (1, .int (n9))] := hl
  refine lv_aload_n hx hb dX1_init_0 rfl (lv_at hl 0 rfl) ?_
  refine W.objInit hx hb hown (zm_X1_1 hC.1) (zi_Object_init hC.1) (zk_Object_init hC.1) rfl (hl.1.trans hml.symm) rfl dX1_init_1 (Nat.le_of_ble_eq_true rfl) (Nat.le_of_ble_eq_true rfl) ?_
  refine lv_aload_n hx hb dX1_init_4 rfl (lv_at hl 0 rfl) ?_
  refine lv_iload_n hx hb dX1_init_5 rfl (lv_at hl 1 rfl) ?_
  refine pf_X3_0 hx hb hown hC hO hS (Or.inl rfl) (zf_X1_7 hC.1) (hini rfl) rfl rfl rfl dX1_init_6 (fun H1 locs1 hO hz hq hS => ?_)
  exact wr_v hx hb hr hlocks hS ⟨hO, rfl⟩ (Nat.le_of_ble_eq_true rfl) (Nat.le_of_ble_eq_true rfl) dX1_init_9
set_option maxRecDepth 100000 in
set_option maxHeartbeats 4000000 in
theorem c_X2_init (l : Launch) (E : EE) {q9 : Nat} {g : Gh} {n9 : Int32} {bo : Option Nat} : WM l E yX2_init cX2_init 3 none (wD 3 0 0) [.ref (q9), .int (n9), va_rf ((bo).map (g.ad 6))] (fun H => va_at E.1 vwCl (q9, .inr (2, [.int (0), .null, .int (0), .int (0), .int (0), .null])) H) (fun x => x = q9) (fun sz v H => (va_at E.1 vwCl (q9, .inr (2, [.int (n9), va_rf ((bo).map (g.ad 6)), .int (5), .int (0), .int ((-1)), .null])) H) ∧ v = none) := by
  refine wm_of rfl (by cases bo <;> exact Nat.le_of_ble_eq_true rfl) (fun p e s m below meth c ls hx hb hr hml (hown : s.vm.findClass RX2 = some m.cls) hC hlocks hO hl hini => ?_)
  have hS : va_S (fun q => (fun x => x = q9) q ∨ s.heap.size ≤ q) s.heap s.heap [] := va_S.rf
  have hl : lv_has ls 3 [(0, .ref (q9)), (1, .int (n9)), (2, va_rf ((bo).map (g.ad 6)))] := hl
  refine lv_aload_n hx hb dX2_init_0 rfl (lv_at hl 0 rfl) ?_
  refine lv_iload_n hx hb dX2_init_1 rfl (lv_at hl 1 rfl) ?_
  refine wcv_I (As := [.int (n9)]) hx hb hml hown hC hl (c_X1_init_X2 l E (q9 := q9) (n9 := n9)) (zm_X2_3 hC.1) kv_X1_init hO hS (fun q h => h.elim (fun e => e ▸ (Or.inl rfl)) (fun e => Or.inr (Nat.le_trans hS.1 e))) rfl rfl (wD_le (by decide) (by decide)) (Nat.le_of_ble_eq_true rfl) ⟨Nat.le_of_ble_eq_true rfl, Nat.le_of_ble_eq_true rfl⟩ dX2_init_2 (fun H1 locs1 hO9 hz hq hS => ?_)
  have hO := hO9
  refine lv_aload_n hx hb dX2_init_5 rfl (lv_at hl 0 rfl) ?_
  refine lv_iconst (v := 5) hx hb dX2_init_6 (by decide) ?_
  refine pf_X2_2 hx hb hown hC hO hS (Or.inl rfl) (zf_X2_9 hC.1) rfl rfl dX2_init_7 (fun H1 locs1 hO hz hq hS => ?_)
  refine lv_aload_n hx hb dX2_init_10 rfl (lv_at hl 0 rfl) ?_
  refine lv_iconst (v := 0) hx hb dX2_init_11 (by decide) ?_
  refine pf_X2_3 hx hb hown hC hO hS (Or.inl rfl) (zf_X2_15 hC.1) rfl rfl dX2_init_12 (fun H1 locs1 hO hz hq hS => ?_)
  refine lv_aload_n hx hb dX2_init_15 rfl (lv_at hl 0 rfl) ?_
  refine lv_iconst (v := (-1)) hx hb dX2_init_16 (by decide) ?_
  refine pf_X2_4 hx hb hown hC hO hS (Or.inl rfl) (zf_X2_18 hC.1) rfl rfl dX2_init_17 (fun H1 locs1 hO hz hq hS => ?_)
  refine lv_aload_n hx hb dX2_init_20 rfl (lv_at hl 0 rfl) ?_
  refine lv_null hx hb dX2_init_21 ?_
  refine pf_X2_5 hx hb hown hC hO hS (Or.inl rfl) (zf_X2_21 hC.1) rfl rfl dX2_init_22 (fun H1 locs1 hO hz hq hS => ?_)
  refine lv_aload_n hx hb dX2_init_25 rfl (lv_at hl 0 rfl) ?_
  refine lw_aload_n hx hb dX2_init_26 rfl (lv_at hl 2 rfl) ?_
  refine pf_X2_1 hx hb hown hC hO hS (Or.inl rfl) (zf_X2_25 hC.1) (hini rfl) rfl (va_rf_nar _) (va_rf_fit _) dX2_init_27 (fun H1 locs1 hO hz hq hS => ?_)
  exact wr_v hx hb hr hlocks hS ⟨hO, rfl⟩ (Nat.le_of_ble_eq_true rfl) (Nat.le_of_ble_eq_true rfl) dX2_init_30
set_option maxRecDepth 100000 in
set_option maxHeartbeats 4000000 in
theorem c_X0_init (l : Launch) (E : EE) {q9 : Nat} {p9 : Nat} {n9 a9 b9 c9 d9 e9 : Int32} : WM l E yX0_init cX0_init 8 none (wD 3 0 0) [.ref (q9), .int (n9), .ref (p9), .int (a9), .int (b9), .int (c9), .int (d9), .int (e9)] (fun H => va_at E.1 vwCl (q9, .inr (1, [.int (0), .null, .int (0), .int (0), .int (0), .int (0), .int (0), .null, .int (0), .null, .int (0), .int (0), .int (0)])) H) (fun x => x = q9) (fun sz v H => (va_at E.1 vwCl (q9, .inr (1, [.int (n9), .ref (p9), .int (a9), .int (b9), .int (c9), .int (d9), .int (e9), .null, .int (0), .null, .int (0), .int (0), .int (0)])) H) ∧ v = none) := by
  refine wm_of rfl (Nat.le_of_ble_eq_true rfl) (fun p e s m below meth c ls hx hb hr hml (hown : s.vm.findClass RX0 = some m.cls) hC hlocks hO hl hini => ?_)
  have hS : va_S (fun q => (fun x => x = q9) q ∨ s.heap.size ≤ q) s.heap s.heap [] := va_S.rf
  have hl : lv_has ls 8 [(0, .ref (q9)), (1, .int (n9)), (2, .ref (p9)), (3, .int (a9)), (4, .int (b9)), (5, .int (c9)), (6, .int (d9)), (7, .int (e9))] := hl
  refine lv_aload_n hx hb dX0_init_0 rfl (lv_at hl 0 rfl) ?_
  refine lv_iload_n hx hb dX0_init_1 rfl (lv_at hl 1 rfl) ?_
  refine wcv_I (As := [.int (n9)]) hx hb hml hown hC hl (c_X1_init_X0 l E (q9 := q9) (n9 := n9)) (zm_X0_3 hC.1) kv_X1_init hO hS (fun q h => h.elim (fun e => e ▸ (Or.inl rfl)) (fun e => Or.inr (Nat.le_trans hS.1 e))) rfl rfl (wD_le (by decide) (by decide)) (Nat.le_of_ble_eq_true rfl) ⟨Nat.le_of_ble_eq_true rfl, Nat.le_of_ble_eq_true rfl⟩ dX0_init_2 (fun H1 locs1 hO9 hz hq hS => ?_)
  have hO := hO9
  refine lv_aload_n hx hb dX0_init_5 rfl (lv_at hl 0 rfl) ?_
  refine lv_null hx hb dX0_init_6 ?_
  refine pf_X0_7 hx hb hown hC hO hS (Or.inl rfl) (zf_X0_9 hC.1) rfl rfl dX0_init_7 (fun H1 locs1 hO hz hq hS => ?_)
  refine lv_aload_n hx hb dX0_init_10 rfl (lv_at hl 0 rfl) ?_
  refine lv_iconst (v := 0) hx hb dX0_init_11 (by decide) ?_
  refine pf_X0_8 hx hb hown hC hO hS (Or.inl rfl) (zf_X0_15 hC.1) rfl rfl dX0_init_12 (fun H1 locs1 hO hz hq hS => ?_)
  refine lv_aload_n hx hb dX0_init_15 rfl (lv_at hl 0 rfl) ?_
  refine lv_null hx hb dX0_init_16 ?_
  refine pf_X0_9 hx hb hown hC hO hS (Or.inl rfl) (zf_X0_19 hC.1) rfl rfl dX0_init_17 (fun H1 locs1 hO hz hq hS => ?_)
  refine lv_aload_n hx hb dX0_init_20 rfl (lv_at hl 0 rfl) ?_
  refine lv_iconst (v := 0) hx hb dX0_init_21 (by decide) ?_
  refine pf_X0_10 hx hb hown hC hO hS (Or.inl rfl) (zf_X0_23 hC.1) rfl rfl dX0_init_22 (fun H1 locs1 hO hz hq hS => ?_)
  refine lv_aload_n hx hb dX0_init_25 rfl (lv_at hl 0 rfl) ?_
  refine lv_iconst (v := 0) hx hb dX0_init_26 (by decide) ?_
  refine pf_X0_11 hx hb hown hC hO hS (Or.inl rfl) (zf_X0_26 hC.1) rfl rfl dX0_init_27 (fun H1 locs1 hO hz hq hS => ?_)
  refine lv_aload_n hx hb dX0_init_30 rfl (lv_at hl 0 rfl) ?_
  refine lv_iconst (v := 0) hx hb dX0_init_31 (by decide) ?_
  refine pf_X0_12 hx hb hown hC hO hS (Or.inl rfl) (zf_X0_30 hC.1) rfl rfl dX0_init_32 (fun H1 locs1 hO hz hq hS => ?_)
  refine lv_aload_n hx hb dX0_init_35 rfl (lv_at hl 0 rfl) ?_
  refine lv_aload_n hx hb dX0_init_36 rfl (lv_at hl 2 rfl) ?_
  refine pf_X0_1 hx hb hown hC hO hS (Or.inl rfl) (zf_X0_33 hC.1) (hini rfl) rfl rfl rfl dX0_init_37 (fun H1 locs1 hO hz hq hS => ?_)
  refine lv_aload_n hx hb dX0_init_40 rfl (lv_at hl 0 rfl) ?_
  refine lv_iload_n hx hb dX0_init_41 rfl (lv_at hl 3 rfl) ?_
  refine pf_X0_2 hx hb hown hC hO hS (Or.inl rfl) (zf_X0_37 hC.1) (hini rfl) rfl rfl rfl dX0_init_42 (fun H1 locs1 hO hz hq hS => ?_)
  refine lv_aload_n hx hb dX0_init_45 rfl (lv_at hl 0 rfl) ?_
  refine lv_iload hx hb dX0_init_46 (lv_at hl 4 rfl) ?_
  refine pf_X0_3 hx hb hown hC hO hS (Or.inl rfl) (zf_X0_40 hC.1) (hini rfl) rfl rfl rfl dX0_init_48 (fun H1 locs1 hO hz hq hS => ?_)
  refine lv_aload_n hx hb dX0_init_51 rfl (lv_at hl 0 rfl) ?_
  refine lv_iload hx hb dX0_init_52 (lv_at hl 5 rfl) ?_
  refine pf_X0_4 hx hb hown hC hO hS (Or.inl rfl) (zf_X0_43 hC.1) (hini rfl) rfl rfl rfl dX0_init_54 (fun H1 locs1 hO hz hq hS => ?_)
  refine lv_aload_n hx hb dX0_init_57 rfl (lv_at hl 0 rfl) ?_
  refine lv_iload hx hb dX0_init_58 (lv_at hl 6 rfl) ?_
  refine pf_X0_5 hx hb hown hC hO hS (Or.inl rfl) (zf_X0_46 hC.1) (hini rfl) rfl rfl rfl dX0_init_60 (fun H1 locs1 hO hz hq hS => ?_)
  refine lv_aload_n hx hb dX0_init_63 rfl (lv_at hl 0 rfl) ?_
  refine lv_iload hx hb dX0_init_64 (lv_at hl 7 rfl) ?_
  refine pf_X0_6 hx hb hown hC hO hS (Or.inl rfl) (zf_X0_49 hC.1) (hini rfl) rfl rfl rfl dX0_init_66 (fun H1 locs1 hO hz hq hS => ?_)
  exact wr_v hx hb hr hlocks hS ⟨hO, rfl⟩ (Nat.le_of_ble_eq_true rfl) (Nat.le_of_ble_eq_true rfl) dX0_init_69
set_option maxRecDepth 100000 in
set_option maxHeartbeats 4000000 in
theorem c_X3_init (l : Launch) (E : EE) {q9 : Nat} {n9 a9 b9 c9 : Int32} : WM l E yX3_init cX3_init 5 none (wD 3 0 0) [.ref (q9), .int (n9), .int (a9), .int (b9), .int (c9)] (fun H => va_at E.1 vwCl (q9, .inr (3, [.int (0), .int (0), .int (0), .int (0), .null])) H) (fun x => x = q9) (fun sz v H => (va_at E.1 vwCl (q9, .inr (3, [.int (n9), .int (a9), .int (b9), .int (c9), .null])) H) ∧ v = none) := by
  refine wm_of rfl (Nat.le_of_ble_eq_true rfl) (fun p e s m below meth c ls hx hb hr hml (hown : s.vm.findClass RX3 = some m.cls) hC hlocks hO hl hini => ?_)
  have hS : va_S (fun q => (fun x => x = q9) q ∨ s.heap.size ≤ q) s.heap s.heap [] := va_S.rf
  have hl : lv_has ls 5 [(0, .ref (q9)), (1, .int (n9)), (2, .int (a9)), (3, .int (b9)), (4, .int (c9))] := hl
  refine lv_aload_n hx hb dX3_init_0 rfl (lv_at hl 0 rfl) ?_
  refine lv_iload_n hx hb dX3_init_1 rfl (lv_at hl 1 rfl) ?_
  refine wcv_I (As := [.int (n9)]) hx hb hml hown hC hl (c_X1_init_X3 l E (q9 := q9) (n9 := n9)) (zm_X3_1 hC.1) kv_X1_init hO hS (fun q h => h.elim (fun e => e ▸ (Or.inl rfl)) (fun e => Or.inr (Nat.le_trans hS.1 e))) rfl rfl (wD_le (by decide) (by decide)) (Nat.le_of_ble_eq_true rfl) ⟨Nat.le_of_ble_eq_true rfl, Nat.le_of_ble_eq_true rfl⟩ dX3_init_2 (fun H1 locs1 hO9 hz hq hS => ?_)
  have hO := hO9
  refine lv_aload_n hx hb dX3_init_5 rfl (lv_at hl 0 rfl) ?_
  refine lv_null hx hb dX3_init_6 ?_
  refine pf_X3_4 hx hb hown hC hO hS (Or.inl rfl) (zf_X3_7 hC.1) rfl rfl dX3_init_7 (fun H1 locs1 hO hz hq hS => ?_)
  refine lv_aload_n hx hb dX3_init_10 rfl (lv_at hl 0 rfl) ?_
  refine lv_iload_n hx hb dX3_init_11 rfl (lv_at hl 2 rfl) ?_
  refine pf_X3_1 hx hb hown hC hO hS (Or.inl rfl) (zf_X3_13 hC.1) (hini rfl) rfl rfl rfl dX3_init_12 (fun H1 locs1 hO hz hq hS => ?_)
  refine lv_aload_n hx hb dX3_init_15 rfl (lv_at hl 0 rfl) ?_
  refine lv_iload_n hx hb dX3_init_16 rfl (lv_at hl 3 rfl) ?_
  refine pf_X3_2 hx hb hown hC hO hS (Or.inl rfl) (zf_X3_17 hC.1) (hini rfl) rfl rfl rfl dX3_init_17 (fun H1 locs1 hO hz hq hS => ?_)
  refine lv_aload_n hx hb dX3_init_20 rfl (lv_at hl 0 rfl) ?_
  refine lv_iload hx hb dX3_init_21 (lv_at hl 4 rfl) ?_
  refine pf_X3_3 hx hb hown hC hO hS (Or.inl rfl) (zf_X3_20 hC.1) (hini rfl) rfl rfl rfl dX3_init_23 (fun H1 locs1 hO hz hq hS => ?_)
  exact wr_v hx hb hr hlocks hS ⟨hO, rfl⟩ (Nat.le_of_ble_eq_true rfl) (Nat.le_of_ble_eq_true rfl) dX3_init_26
set_option maxRecDepth 100000 in
set_option maxHeartbeats 4000000 in
theorem c_Jxa1e45_init (l : Launch) (E : EE) {q9 : Nat}  : WM l E yJxa1e45_init_da8c8 cJxa1e45_init_da8c8 1 none (wD 2 0 0) [.ref (q9)] (fun H => va_at E.1 vwCl (q9, .inr (0, [.int (0), .null, .int (0)])) H) (fun x => x = q9) (fun sz v H => (va_at E.1 vwCl (q9, .inr (0, [.int (0), .null, .int (0)])) H) ∧ v = none) := by
  refine wm_of rfl (Nat.le_of_ble_eq_true rfl) (fun p e s m below meth c ls hx hb hr hml (hown : s.vm.findClass RJxa1e45 = some m.cls) hC hlocks hO hl hini => ?_)
  have hS : va_S (fun q => (fun x => x = q9) q ∨ s.heap.size ≤ q) s.heap s.heap [] := va_S.rf
  have hl : lv_has ls 1 [(0, .ref (q9))] := hl
  refine lv_aload_n hx hb dJxa1e45_init_da8c8_0 rfl (lv_at hl 0 rfl) ?_
  refine W.objInit hx hb hown (zm_Jxa1e45_1 hC.1) (zi_Object_init hC.1) (zk_Object_init hC.1) rfl (hl.1.trans hml.symm) rfl dJxa1e45_init_da8c8_1 (Nat.le_of_ble_eq_true rfl) (Nat.le_of_ble_eq_true rfl) ?_
  exact wr_v hx hb hr hlocks hS ⟨hO, rfl⟩ (Nat.le_of_ble_eq_true rfl) (Nat.le_of_ble_eq_true rfl) dJxa1e45_init_da8c8_4
set_option maxRecDepth 100000 in
set_option maxHeartbeats 4000000 in
theorem c_Jxc12de_init (l : Launch) (E : EE) {q9 : Nat}  : WM l E yJxc12de_init_da8c8 cJxc12de_init_da8c8 1 none (wD 3 0 0) [.ref (q9)] (fun H => va_at E.1 vwCl (q9, .inr (0, [.int (0), .null, .int (0)])) H) (fun x => x = q9) (fun sz v H => (va_at E.1 vwCl (q9, .inr (0, [.int (0), .null, .int (0)])) H) ∧ v = none) := by
  refine wm_of rfl (Nat.le_of_ble_eq_true rfl) (fun p e s m below meth c ls hx hb hr hml (hown : s.vm.findClass RJxc12de = some m.cls) hC hlocks hO hl hini => ?_)
  have hS : va_S (fun q => (fun x => x = q9) q ∨ s.heap.size ≤ q) s.heap s.heap [] := va_S.rf
  have hl : lv_has ls 1 [(0, .ref (q9))] := hl
  refine lv_aload_n hx hb dJxc12de_init_da8c8_0 rfl (lv_at hl 0 rfl) ?_
  refine wcv_I (As := []) hx hb hml hown hC hl (c_Jxa1e45_init l E (q9 := q9)) (zm_Jxc12de_1 hC.1) kv_Jxa1e45_init_da8c8 hO hS (fun q h => h.elim (fun e => e ▸ (Or.inl rfl)) (fun e => Or.inr (Nat.le_trans hS.1 e))) rfl rfl (wD_le (by decide) (by decide)) (Nat.le_of_ble_eq_true rfl) ⟨Nat.le_of_ble_eq_true rfl, Nat.le_of_ble_eq_true rfl⟩ dJxc12de_init_da8c8_1 (fun H1 locs1 hO9 hz hq hS => ?_)
  have hO := hO9
  refine lv_aload_n hx hb dJxc12de_init_da8c8_4 rfl (lv_at hl 0 rfl) ?_
  refine lv_iconst (v := 0) hx hb dJxc12de_init_da8c8_5 (by decide) ?_
  refine pf_Jx4a65c_0 hx hb hown hC hO hS (Or.inl rfl) (zf_Jxc12de_7 hC.1) rfl rfl dJxc12de_init_da8c8_6 (fun H1 locs1 hO hz hq hS => ?_)
  exact wr_v hx hb hr hlocks hS ⟨hO, rfl⟩ (Nat.le_of_ble_eq_true rfl) (Nat.le_of_ble_eq_true rfl) dJxc12de_init_da8c8_9
set_option maxRecDepth 100000 in
set_option maxHeartbeats 4000000 in
theorem c_Jx4a65c_init (l : Launch) (E : EE) {q9 : Nat} (hN9 : eN E ≤ q9) : WM l E yJx4a65c_init_da8c8 cJx4a65c_init_da8c8 1 none (wD 4 0 0) [.ref (q9)] (fun H => va_at E.1 vwCl (q9, .inr (0, [.int (0), .null, .int (0)])) H ∧ ZE E H) (fun x => x = q9) (fun sz v H => (va_at E.1 vwCl (q9, .inr (0, [.int (0), .ref (eE E), .int (0)])) H) ∧ v = none) := by
  refine wm_of rfl (Nat.le_of_ble_eq_true rfl) (fun p e s m below meth c ls hx hb hr hml (hown : s.vm.findClass RJx4a65c = some m.cls) hC hlocks ⟨hO, hX⟩ hl hini => ?_)
  have hS : va_S (fun q => (fun x => x = q9) q ∨ s.heap.size ≤ q) s.heap s.heap [] := va_S.rf
  have hl : lv_has ls 1 [(0, .ref (q9))] := hl
  have hOl := hO.lt
  refine lv_aload_n hx hb dJx4a65c_init_da8c8_0 rfl (lv_at hl 0 rfl) ?_
  refine wcv_I (As := []) hx hb hml hown hC hl (c_Jxc12de_init l E (q9 := q9)) (zm_Jx4a65c_1 hC.1) kv_Jxc12de_init_da8c8 hO hS (fun q h => h.elim (fun e => e ▸ (Or.inl rfl)) (fun e => Or.inr (Nat.le_trans hS.1 e))) rfl rfl (wD_le (by decide) (by decide)) (Nat.le_of_ble_eq_true rfl) ⟨Nat.le_of_ble_eq_true rfl, Nat.le_of_ble_eq_true rfl⟩ dJx4a65c_init_da8c8_1 (fun H1 locs1 hO9 hz hq hS => ?_)
  have hO := hO9
  have hX := hX.kept (fun q hh => hq q (Nat.lt_trans (Nat.lt_of_lt_of_le hh hN9) hOl) (fun e => by omega))
  refine lv_aload_n hx hb dJx4a65c_init_da8c8_4 rfl (lv_at hl 0 rfl) ?_
  refine g_gets hx hb hown hC hX (zf_Jx4a65c_39 hC.1) dJx4a65c_init_da8c8_5 ?_
  refine pf_Jx4a65c_1 hx hb hown hC hO hS (Or.inl rfl) (zf_Jx4a65c_9 hC.1) rfl rfl dJx4a65c_init_da8c8_8 (fun H1 locs1 hO hz hq hS => ?_)
  have hX := hX.kept (fun q hh => hq q (by omega))
  exact wr_v hx hb hr hlocks hS ⟨hO, rfl⟩ (Nat.le_of_ble_eq_true rfl) (Nat.le_of_ble_eq_true rfl) dJx4a65c_init_da8c8_11

