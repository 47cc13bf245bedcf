set_option maxRecDepth 100000 in
set_option maxHeartbeats 4000000 in
theorem c_X6_init (l : Launch) (E : EE) {q9 : Nat} (hN9 : eN E ≤ q9) : WM l E yX6_init cX6_init 1 none (wD 6 12 88) [.ref (q9)] (fun H => va_at E.1 vwCl (q9, .inr (6, [.null, .null, .null, .null, .null, .null, .null, .null, .int (0)])) H ∧ ZE E H) (fun x => x = q9) (fun sz v H => (∃ g, RA E S0 g H ∧ g.ad 1 0 = q9 ∧ ∀ x, ow g x → (x = q9 ∨ sz ≤ x) ∧ x < H.size) ∧ v = none) := by
  refine wm_of rfl (Nat.le_of_ble_eq_true rfl) (fun p e s m below meth c ls hx hb hr hml (hown : s.vm.findClass RX6 = some m.cls) hC hlocks ⟨hO, hX⟩ hl hini => ?_)
  have hS : va_S (fun q => (fun x => x = q9) q ∨ s.heap.size ≤ q) s.heap s.heap [] := va_S.rf
  have hl : lv_has ls 1 [(0, .ref (q9))] := hl
  refine lv_aload_n hx hb dX6_init_0 rfl (lv_at hl 0 rfl) ?_
  refine W.objInit hx hb hown (zm_X6_1 hC.1) (zi_Object_init hC.1) (zk_Object_init hC.1) rfl (hl.1.trans hml.symm) rfl dX6_init_1 (Nat.le_of_ble_eq_true rfl) (Nat.le_of_ble_eq_true rfl) ?_
  refine lv_aload_n hx hb dX6_init_4 rfl (lv_at hl 0 rfl) ?_
  obtain ⟨a0, ha0⟩ : ∃ a, a = s.heap.size := ⟨_, rfl⟩
  have hs_a0 : s.heap.size ≤ a0 := by rw [ha0]; exact hS.1
  have o0 : q9 < a0 := by rw [ha0]; exact hO.lt
  refine nw_Jx4a65c hx hb hown hC (zc_X6_7 hC.1) hS (Nat.le_of_ble_eq_true rfl) (Nat.le_of_ble_eq_true rfl) dX6_init_5 (fun H1 hL0 hz hq hS => ?_)
  rw [← ha0] at hL0 ⊢
  have hX := hX.kept (fun q h => hq q (Nat.lt_trans (Nat.lt_of_lt_of_le h hN9) hO.lt))
  have hO := hO.kept (hq _ hO.lt)
  refine lv_dup hx hb dX6_init_8 rfl ?_
  refine wcv_I (As := []) hx hb hml hown hC hl (c_Jx4a65c_init l E (q9 := a0) (by omega)) (zm_X6_9 hC.1) kv_Jx4a65c_init_da8c8 ⟨hL0, hX⟩ hS (fun q h => h.elim (fun e => Or.inr (e ▸ hs_a0)) (fun e => Or.inr (Nat.le_trans hS.1 e))) rfl rfl (wD_le (by decide) (by decide)) (Nat.le_of_ble_eq_true rfl) ⟨(Nat.le_of_ble_eq_true rfl), (Nat.le_of_ble_eq_true rfl)⟩ dX6_init_9 (fun H1 locs1 h9 hz hq hS => ?_)
  have hX := hX.kept (fun q h => hq q (Nat.lt_trans (Nat.lt_of_lt_of_le h hN9) hO.lt) (fun (e : q = a0) => by omega))
  have hO := hO.kept (hq _ hO.lt (show ¬ q9 = a0 by omega))
  have hL0 := h9
  refine pf_X6_0 hx hb hown hC hO hS (Or.inl rfl) (zf_X6_10 hC.1) (hini rfl) rfl rfl rfl dX6_init_12 (fun H1 locs1 hO hz hq hS => ?_)
  have hX := hX.kept (fun q h => hq q (fun e => by omega))
  have hL0 := hL0.kept (hq _ (show ¬ a0 = q9 by omega))
  refine lv_aload_n hx hb dX6_init_15 rfl (lv_at hl 0 rfl) ?_
  obtain ⟨a1, ha1⟩ : ∃ a, a = H1.size := ⟨_, rfl⟩
  have hs_a1 : s.heap.size ≤ a1 := by rw [ha1]; exact hS.1
  have o1 : a0 < a1 := by rw [ha1]; exact hL0.lt
  refine nw_Jx4a65c hx hb hown hC (zc_X6_7 hC.1) hS (Nat.le_of_ble_eq_true rfl) (Nat.le_of_ble_eq_true rfl) dX6_init_16 (fun H1 hL1 hz hq hS => ?_)
  rw [← ha1] at hL1 ⊢
  have hX := hX.kept (fun q h => hq q (Nat.lt_trans (Nat.lt_of_lt_of_le h hN9) hO.lt))
  have hO := hO.kept (hq _ hO.lt)
  have hL0 := hL0.kept (hq _ hL0.lt)
  refine lv_dup hx hb dX6_init_19 rfl ?_
  refine wcv_I (As := []) hx hb hml hown hC hl (c_Jx4a65c_init l E (q9 := a1) (by omega)) (zm_X6_9 hC.1) kv_Jx4a65c_init_da8c8 ⟨hL1, hX⟩ hS (fun q h => h.elim (fun e => Or.inr (e ▸ hs_a1)) (fun e => Or.inr (Nat.le_trans hS.1 e))) rfl rfl (wD_le (by decide) (by decide)) (Nat.le_of_ble_eq_true rfl) ⟨(Nat.le_of_ble_eq_true rfl), (Nat.le_of_ble_eq_true rfl)⟩ dX6_init_20 (fun H1 locs1 h9 hz hq hS => ?_)
  have hX := hX.kept (fun q h => hq q (Nat.lt_trans (Nat.lt_of_lt_of_le h hN9) hO.lt) (fun (e : q = a1) => by omega))
  have hO := hO.kept (hq _ hO.lt (show ¬ q9 = a1 by omega))
  have hL0 := hL0.kept (hq _ hL0.lt (show ¬ a0 = a1 by omega))
  have hL1 := h9
  refine pf_X6_1 hx hb hown hC hO hS (Or.inl rfl) (zf_X6_16 hC.1) (hini rfl) rfl rfl rfl dX6_init_23 (fun H1 locs1 hO hz hq hS => ?_)
  have hX := hX.kept (fun q h => hq q (fun e => by omega))
  have hL0 := hL0.kept (hq _ (show ¬ a0 = q9 by omega))
  have hL1 := hL1.kept (hq _ (show ¬ a1 = q9 by omega))
  refine lv_aload_n hx hb dX6_init_26 rfl (lv_at hl 0 rfl) ?_
  obtain ⟨a2, ha2⟩ : ∃ a, a = H1.size := ⟨_, rfl⟩
  have hs_a2 : s.heap.size ≤ a2 := by rw [ha2]; exact hS.1
  have o2 : a1 < a2 := by rw [ha2]; exact hL1.lt
  refine nw_Jx4a65c hx hb hown hC (zc_X6_7 hC.1) hS (Nat.le_of_ble_eq_true rfl) (Nat.le_of_ble_eq_true rfl) dX6_init_27 (fun H1 hL2 hz hq hS => ?_)
  rw [← ha2] at hL2 ⊢
  have hX := hX.kept (fun q h => hq q (Nat.lt_trans (Nat.lt_of_lt_of_le h hN9) hO.lt))
  have hO := hO.kept (hq _ hO.lt)
  have hL0 := hL0.kept (hq _ hL0.lt)
  have hL1 := hL1.kept (hq _ hL1.lt)
  refine lv_dup hx hb dX6_init_30 rfl ?_
  refine wcv_I (As := []) hx hb hml hown hC hl (c_Jx4a65c_init l E (q9 := a2) (by omega)) (zm_X6_9 hC.1) kv_Jx4a65c_init_da8c8 ⟨hL2, hX⟩ hS (fun q h => h.elim (fun e => Or.inr (e ▸ hs_a2)) (fun e => Or.inr (Nat.le_trans hS.1 e))) rfl rfl (wD_le (by decide) (by decide)) (Nat.le_of_ble_eq_true rfl) ⟨(Nat.le_of_ble_eq_true rfl), (Nat.le_of_ble_eq_true rfl)⟩ dX6_init_31 (fun H1 locs1 h9 hz hq hS => ?_)
  have hX := hX.kept (fun q h => hq q (Nat.lt_trans (Nat.lt_of_lt_of_le h hN9) hO.lt) (fun (e : q = a2) => by omega))
  have hO := hO.kept (hq _ hO.lt (show ¬ q9 = a2 by omega))
  have hL0 := hL0.kept (hq _ hL0.lt (show ¬ a0 = a2 by omega))
  have hL1 := hL1.kept (hq _ hL1.lt (show ¬ a1 = a2 by omega))
  have hL2 := h9
  refine pf_X6_2 hx hb hown hC hO hS (Or.inl rfl) (zf_X6_19 hC.1) (hini rfl) rfl rfl rfl dX6_init_34 (fun H1 locs1 hO hz hq hS => ?_)
  have hX := hX.kept (fun q h => hq q (fun e => by omega))
  have hL0 := hL0.kept (hq _ (show ¬ a0 = q9 by omega))
  have hL1 := hL1.kept (hq _ (show ¬ a1 = q9 by omega))
  have hL2 := hL2.kept (hq _ (show ¬ a2 = q9 by omega))
  refine lv_aload_n hx hb dX6_init_37 rfl (lv_at hl 0 rfl) ?_
  obtain ⟨a3, ha3⟩ : ∃ a, a = H1.size := ⟨_, rfl⟩
  have hs_a3 : s.heap.size ≤ a3 := by rw [ha3]; exact hS.1
  have o3 : a2 < a3 := by rw [ha3]; exact hL2.lt
  refine nw_Jx4a65c hx hb hown hC (zc_X6_7 hC.1) hS (Nat.le_of_ble_eq_true rfl) (Nat.le_of_ble_eq_true rfl) dX6_init_38 (fun H1 hL3 hz hq hS => ?_)
  rw [← ha3] at hL3 ⊢
  have hX := hX.kept (fun q h => hq q (Nat.lt_trans (Nat.lt_of_lt_of_le h hN9) hO.lt))
  have hO := hO.kept (hq _ hO.lt)
  have hL0 := hL0.kept (hq _ hL0.lt)
  have hL1 := hL1.kept (hq _ hL1.lt)
  have hL2 := hL2.kept (hq _ hL2.lt)
  refine lv_dup hx hb dX6_init_41 rfl ?_
  refine wcv_I (As := []) hx hb hml hown hC hl (c_Jx4a65c_init l E (q9 := a3) (by omega)) (zm_X6_9 hC.1) kv_Jx4a65c_init_da8c8 ⟨hL3, hX⟩ hS (fun q h => h.elim (fun e => Or.inr (e ▸ hs_a3)) (fun e => Or.inr (Nat.le_trans hS.1 e))) rfl rfl (wD_le (by decide) (by decide)) (Nat.le_of_ble_eq_true rfl) ⟨(Nat.le_of_ble_eq_true rfl), (Nat.le_of_ble_eq_true rfl)⟩ dX6_init_42 (fun H1 locs1 h9 hz hq hS => ?_)
  have hX := hX.kept (fun q h => hq q (Nat.lt_trans (Nat.lt_of_lt_of_le h hN9) hO.lt) (fun (e : q = a3) => by omega))
  have hO := hO.kept (hq _ hO.lt (show ¬ q9 = a3 by omega))
  have hL0 := hL0.kept (hq _ hL0.lt (show ¬ a0 = a3 by omega))
  have hL1 := hL1.kept (hq _ hL1.lt (show ¬ a1 = a3 by omega))
  have hL2 := hL2.kept (hq _ hL2.lt (show ¬ a2 = a3 by omega))
  have hL3 := h9
  refine pf_X6_3 hx hb hown hC hO hS (Or.inl rfl) (zf_X6_22 hC.1) (hini rfl) rfl rfl rfl dX6_init_45 (fun H1 locs1 hO hz hq hS => ?_)
  have hX := hX.kept (fun q h => hq q (fun e => by omega))
  have hL0 := hL0.kept (hq _ (show ¬ a0 = q9 by omega))
  have hL1 := hL1.kept (hq _ (show ¬ a1 = q9 by omega))
  have hL2 := hL2.kept (hq _ (show ¬ a2 = q9 by omega))
  have hL3 := hL3.kept (hq _ (show ¬ a3 = q9 by omega))
  refine lv_aload_n hx hb dX6_init_48 rfl (lv_at hl 0 rfl) ?_
  obtain ⟨t0, ht0⟩ : ∃ a, a = H1.size := ⟨_, rfl⟩
  have hs_t0 : s.heap.size ≤ t0 := by rw [ht0]; exact hS.1
  have o4 : a3 < t0 := by rw [ht0]; exact hL3.lt
  refine nw_X4 hx hb hown hC (zc_X6_25 hC.1) hS (Nat.le_of_ble_eq_true rfl) (Nat.le_of_ble_eq_true rfl) dX6_init_49 (fun H1 hT0 hz hq hS => ?_)
  rw [← ht0] at hT0 ⊢
  have hX := hX.kept (fun q h => hq q (Nat.lt_trans (Nat.lt_of_lt_of_le h hN9) hO.lt))
  have hO := hO.kept (hq _ hO.lt)
  have hL0 := hL0.kept (hq _ hL0.lt)
  have hL1 := hL1.kept (hq _ hL1.lt)
  have hL2 := hL2.kept (hq _ hL2.lt)
  have hL3 := hL3.kept (hq _ hL3.lt)
  refine lv_dup hx hb dX6_init_52 rfl ?_
  refine lv_bipush (v := 8) hx hb dX6_init_53 (by decide) ?_
  refine lv_iconst (v := 4) hx hb dX6_init_55 (by decide) ?_
  obtain ⟨b0, hb0⟩ : ∃ b, b = H1.size := ⟨_, rfl⟩
  have o5 : t0 < b0 := by rw [hb0]; exact hT0.lt
  refine wc_I (As := [.int (nI 8), .int (nI 4)]) hx hb hml hown hC hl (c_X4_init l E (q9 := t0) (r9 := 8) (c9 := 4) (by decide) (by decide) (by decide)) (zm_X6_27 hC.1) kv_X4_init hT0 hS (fun q h => h.elim (fun e => Or.inr (e ▸ hs_t0)) (fun e => Or.inr (Nat.le_trans hS.1 e))) rfl rfl (wD_le (by decide) (by decide)) (Nat.le_of_ble_eq_true rfl) ⟨(Nat.le_of_ble_eq_true rfl), (Nat.le_of_ble_eq_true rfl)⟩ dX6_init_56 (fun v H1 locs1 h9 hz hq hS => ?_)
  obtain ⟨⟨hT9, hB9⟩, rfl⟩ := h9
  rw [← hb0] at hT9 hB9
  have hX := hX.kept (fun q h => hq q (Nat.lt_trans (Nat.lt_of_lt_of_le h hN9) hO.lt) (fun (e : q = t0) => by omega))
  have hO := hO.kept (hq _ hO.lt (show ¬ q9 = t0 by omega))
  have hL0 := hL0.kept (hq _ hL0.lt (show ¬ a0 = t0 by omega))
  have hL1 := hL1.kept (hq _ hL1.lt (show ¬ a1 = t0 by omega))
  have hL2 := hL2.kept (hq _ hL2.lt (show ¬ a2 = t0 by omega))
  have hL3 := hL3.kept (hq _ hL3.lt (show ¬ a3 = t0 by omega))
  have hT0 := hT9
  have hB0 := hB9
  refine pf_X6_4 hx hb hown hC hO hS (Or.inl rfl) (zf_X6_30 hC.1) (hini rfl) rfl rfl rfl dX6_init_59 (fun H1 locs1 hO hz hq hS => ?_)
  have hX := hX.kept (fun q h => hq q (fun e => by omega))
  have hL0 := hL0.kept (hq _ (show ¬ a0 = q9 by omega))
  have hL1 := hL1.kept (hq _ (show ¬ a1 = q9 by omega))
  have hL2 := hL2.kept (hq _ (show ¬ a2 = q9 by omega))
  have hL3 := hL3.kept (hq _ (show ¬ a3 = q9 by omega))
  have hT0 := hT0.kept (hq _ (show ¬ t0 = q9 by omega))
  have hB0 := hB0.kept (hq _ (show ¬ b0 = q9 by omega))
  refine lv_aload_n hx hb dX6_init_62 rfl (lv_at hl 0 rfl) ?_
  obtain ⟨t1, ht1⟩ : ∃ a, a = H1.size := ⟨_, rfl⟩
  have hs_t1 : s.heap.size ≤ t1 := by rw [ht1]; exact hS.1
  have o6 : b0 < t1 := by rw [ht1]; exact hB0.lt
  refine nw_X4 hx hb hown hC (zc_X6_25 hC.1) hS (Nat.le_of_ble_eq_true rfl) (Nat.le_of_ble_eq_true rfl) dX6_init_63 (fun H1 hT1 hz hq hS => ?_)
  rw [← ht1] at hT1 ⊢
  have hX := hX.kept (fun q h => hq q (Nat.lt_trans (Nat.lt_of_lt_of_le h hN9) hO.lt))
  have hO := hO.kept (hq _ hO.lt)
  have hL0 := hL0.kept (hq _ hL0.lt)
  have hL1 := hL1.kept (hq _ hL1.lt)
  have hL2 := hL2.kept (hq _ hL2.lt)
  have hL3 := hL3.kept (hq _ hL3.lt)
  have hT0 := hT0.kept (hq _ hT0.lt)
  have hB0 := hB0.kept (hq _ hB0.lt)
  refine lv_dup hx hb dX6_init_66 rfl ?_
  refine lv_iconst (v := 4) hx hb dX6_init_67 (by decide) ?_
  refine lv_iconst (v := 4) hx hb dX6_init_68 (by decide) ?_
  obtain ⟨b1, hb1⟩ : ∃ b, b = H1.size := ⟨_, rfl⟩
  have o7 : t1 < b1 := by rw [hb1]; exact hT1.lt
  refine wc_I (As := [.int (nI 4), .int (nI 4)]) hx hb hml hown hC hl (c_X4_init l E (q9 := t1) (r9 := 4) (c9 := 4) (by decide) (by decide) (by decide)) (zm_X6_27 hC.1) kv_X4_init hT1 hS (fun q h => h.elim (fun e => Or.inr (e ▸ hs_t1)) (fun e => Or.inr (Nat.le_trans hS.1 e))) rfl rfl (wD_le (by decide) (by decide)) (Nat.le_of_ble_eq_true rfl) ⟨(Nat.le_of_ble_eq_true rfl), (Nat.le_of_ble_eq_true rfl)⟩ dX6_init_69 (fun v H1 locs1 h9 hz hq hS => ?_)
  obtain ⟨⟨hT9, hB9⟩, rfl⟩ := h9
  rw [← hb1] at hT9 hB9
  have hX := hX.kept (fun q h => hq q (Nat.lt_trans (Nat.lt_of_lt_of_le h hN9) hO.lt) (fun (e : q = t1) => by omega))
  have hO := hO.kept (hq _ hO.lt (show ¬ q9 = t1 by omega))
  have hL0 := hL0.kept (hq _ hL0.lt (show ¬ a0 = t1 by omega))
  have hL1 := hL1.kept (hq _ hL1.lt (show ¬ a1 = t1 by omega))
  have hL2 := hL2.kept (hq _ hL2.lt (show ¬ a2 = t1 by omega))
  have hL3 := hL3.kept (hq _ hL3.lt (show ¬ a3 = t1 by omega))
  have hT0 := hT0.kept (hq _ hT0.lt (show ¬ t0 = t1 by omega))
  have hB0 := hB0.kept (hq _ hB0.lt (show ¬ b0 = t1 by omega))
  have hT1 := hT9
  have hB1 := hB9
  refine pf_X6_5 hx hb hown hC hO hS (Or.inl rfl) (zf_X6_34 hC.1) (hini rfl) rfl rfl rfl dX6_init_72 (fun H1 locs1 hO hz hq hS => ?_)
  have hX := hX.kept (fun q h => hq q (fun e => by omega))
  have hL0 := hL0.kept (hq _ (show ¬ a0 = q9 by omega))
  have hL1 := hL1.kept (hq _ (show ¬ a1 = q9 by omega))
  have hL2 := hL2.kept (hq _ (show ¬ a2 = q9 by omega))
  have hL3 := hL3.kept (hq _ (show ¬ a3 = q9 by omega))
  have hT0 := hT0.kept (hq _ (show ¬ t0 = q9 by omega))
  have hB0 := hB0.kept (hq _ (show ¬ b0 = q9 by omega))
  have hT1 := hT1.kept (hq _ (show ¬ t1 = q9 by omega))
  have hB1 := hB1.kept (hq _ (show ¬ b1 = q9 by omega))
  refine lv_aload_n hx hb dX6_init_75 rfl (lv_at hl 0 rfl) ?_
  obtain ⟨t2, ht2⟩ : ∃ a, a = H1.size := ⟨_, rfl⟩
  have hs_t2 : s.heap.size ≤ t2 := by rw [ht2]; exact hS.1
  have o8 : b1 < t2 := by rw [ht2]; exact hB1.lt
  refine nw_X4 hx hb hown hC (zc_X6_25 hC.1) hS (Nat.le_of_ble_eq_true rfl) (Nat.le_of_ble_eq_true rfl) dX6_init_76 (fun H1 hT2 hz hq hS => ?_)
  rw [← ht2] at hT2 ⊢
  have hX := hX.kept (fun q h => hq q (Nat.lt_trans (Nat.lt_of_lt_of_le h hN9) hO.lt))
  have hO := hO.kept (hq _ hO.lt)
  have hL0 := hL0.kept (hq _ hL0.lt)
  have hL1 := hL1.kept (hq _ hL1.lt)
  have hL2 := hL2.kept (hq _ hL2.lt)
  have hL3 := hL3.kept (hq _ hL3.lt)
  have hT0 := hT0.kept (hq _ hT0.lt)
  have hB0 := hB0.kept (hq _ hB0.lt)
  have hT1 := hT1.kept (hq _ hT1.lt)
  have hB1 := hB1.kept (hq _ hB1.lt)
  refine lv_dup hx hb dX6_init_79 rfl ?_
  refine lv_iconst (v := 4) hx hb dX6_init_80 (by decide) ?_
  refine lv_iconst (v := 1) hx hb dX6_init_81 (by decide) ?_
  obtain ⟨b2, hb2⟩ : ∃ b, b = H1.size := ⟨_, rfl⟩
  have o9 : t2 < b2 := by rw [hb2]; exact hT2.lt
  refine wc_I (As := [.int (nI 4), .int (nI 1)]) hx hb hml hown hC hl (c_X4_init l E (q9 := t2) (r9 := 4) (c9 := 1) (by decide) (by decide) (by decide)) (zm_X6_27 hC.1) kv_X4_init hT2 hS (fun q h => h.elim (fun e => Or.inr (e ▸ hs_t2)) (fun e => Or.inr (Nat.le_trans hS.1 e))) rfl rfl (wD_le (by decide) (by decide)) (Nat.le_of_ble_eq_true rfl) ⟨(Nat.le_of_ble_eq_true rfl), (Nat.le_of_ble_eq_true rfl)⟩ dX6_init_82 (fun v H1 locs1 h9 hz hq hS => ?_)
  obtain ⟨⟨hT9, hB9⟩, rfl⟩ := h9
  rw [← hb2] at hT9 hB9
  have hX := hX.kept (fun q h => hq q (Nat.lt_trans (Nat.lt_of_lt_of_le h hN9) hO.lt) (fun (e : q = t2) => by omega))
  have hO := hO.kept (hq _ hO.lt (show ¬ q9 = t2 by omega))
  have hL0 := hL0.kept (hq _ hL0.lt (show ¬ a0 = t2 by omega))
  have hL1 := hL1.kept (hq _ hL1.lt (show ¬ a1 = t2 by omega))
  have hL2 := hL2.kept (hq _ hL2.lt (show ¬ a2 = t2 by omega))
  have hL3 := hL3.kept (hq _ hL3.lt (show ¬ a3 = t2 by omega))
  have hT0 := hT0.kept (hq _ hT0.lt (show ¬ t0 = t2 by omega))
  have hB0 := hB0.kept (hq _ hB0.lt (show ¬ b0 = t2 by omega))
  have hT1 := hT1.kept (hq _ hT1.lt (show ¬ t1 = t2 by omega))
  have hB1 := hB1.kept (hq _ hB1.lt (show ¬ b1 = t2 by omega))
  have hT2 := hT9
  have hB2 := hB9
  refine pf_X6_6 hx hb hown hC hO hS (Or.inl rfl) (zf_X6_37 hC.1) (hini rfl) rfl rfl rfl dX6_init_85 (fun H1 locs1 hO hz hq hS => ?_)
  have hX := hX.kept (fun q h => hq q (fun e => by omega))
  have hL0 := hL0.kept (hq _ (show ¬ a0 = q9 by omega))
  have hL1 := hL1.kept (hq _ (show ¬ a1 = q9 by omega))
  have hL2 := hL2.kept (hq _ (show ¬ a2 = q9 by omega))
  have hL3 := hL3.kept (hq _ (show ¬ a3 = q9 by omega))
  have hT0 := hT0.kept (hq _ (show ¬ t0 = q9 by omega))
  have hB0 := hB0.kept (hq _ (show ¬ b0 = q9 by omega))
  have hT1 := hT1.kept (hq _ (show ¬ t1 = q9 by omega))
  have hB1 := hB1.kept (hq _ (show ¬ b1 = q9 by omega))
  have hT2 := hT2.kept (hq _ (show ¬ t2 = q9 by omega))
  have hB2 := hB2.kept (hq _ (show ¬ b2 = q9 by omega))
  refine lv_aload_n hx hb dX6_init_88 rfl (lv_at hl 0 rfl) ?_
  obtain ⟨t3, ht3⟩ : ∃ a, a = H1.size := ⟨_, rfl⟩
  have hs_t3 : s.heap.size ≤ t3 := by rw [ht3]; exact hS.1
  have o10 : b2 < t3 := by rw [ht3]; exact hB2.lt
  refine nw_X4 hx hb hown hC (zc_X6_25 hC.1) hS (Nat.le_of_ble_eq_true rfl) (Nat.le_of_ble_eq_true rfl) dX6_init_89 (fun H1 hT3 hz hq hS => ?_)
  rw [← ht3] at hT3 ⊢
  have hX := hX.kept (fun q h => hq q (Nat.lt_trans (Nat.lt_of_lt_of_le h hN9) hO.lt))
  have hO := hO.kept (hq _ hO.lt)
  have hL0 := hL0.kept (hq _ hL0.lt)
  have hL1 := hL1.kept (hq _ hL1.lt)
  have hL2 := hL2.kept (hq _ hL2.lt)
  have hL3 := hL3.kept (hq _ hL3.lt)
  have hT0 := hT0.kept (hq _ hT0.lt)
  have hB0 := hB0.kept (hq _ hB0.lt)
  have hT1 := hT1.kept (hq _ hT1.lt)
  have hB1 := hB1.kept (hq _ hB1.lt)
  have hT2 := hT2.kept (hq _ hT2.lt)
  have hB2 := hB2.kept (hq _ hB2.lt)
  refine lv_dup hx hb dX6_init_92 rfl ?_
  refine lv_iconst (v := 3) hx hb dX6_init_93 (by decide) ?_
  refine lv_iconst (v := 4) hx hb dX6_init_94 (by decide) ?_
  obtain ⟨b3, hb3⟩ : ∃ b, b = H1.size := ⟨_, rfl⟩
  have o11 : t3 < b3 := by rw [hb3]; exact hT3.lt
  refine wc_I (As := [.int (nI 3), .int (nI 4)]) hx hb hml hown hC hl (c_X4_init l E (q9 := t3) (r9 := 3) (c9 := 4) (by decide) (by decide) (by decide)) (zm_X6_27 hC.1) kv_X4_init hT3 hS (fun q h => h.elim (fun e => Or.inr (e ▸ hs_t3)) (fun e => Or.inr (Nat.le_trans hS.1 e))) rfl rfl (wD_le (by decide) (by decide)) (Nat.le_of_ble_eq_true rfl) ⟨(Nat.le_of_ble_eq_true rfl), (Nat.le_of_ble_eq_true rfl)⟩ dX6_init_95 (fun v H1 locs1 h9 hz hq hS => ?_)
  obtain ⟨⟨hT9, hB9⟩, rfl⟩ := h9
  rw [← hb3] at hT9 hB9
  have hX := hX.kept (fun q h => hq q (Nat.lt_trans (Nat.lt_of_lt_of_le h hN9) hO.lt) (fun (e : q = t3) => by omega))
  have hO := hO.kept (hq _ hO.lt (show ¬ q9 = t3 by omega))
  have hL0 := hL0.kept (hq _ hL0.lt (show ¬ a0 = t3 by omega))
  have hL1 := hL1.kept (hq _ hL1.lt (show ¬ a1 = t3 by omega))
  have hL2 := hL2.kept (hq _ hL2.lt (show ¬ a2 = t3 by omega))
  have hL3 := hL3.kept (hq _ hL3.lt (show ¬ a3 = t3 by omega))
  have hT0 := hT0.kept (hq _ hT0.lt (show ¬ t0 = t3 by omega))
  have hB0 := hB0.kept (hq _ hB0.lt (show ¬ b0 = t3 by omega))
  have hT1 := hT1.kept (hq _ hT1.lt (show ¬ t1 = t3 by omega))
  have hB1 := hB1.kept (hq _ hB1.lt (show ¬ b1 = t3 by omega))
  have hT2 := hT2.kept (hq _ hT2.lt (show ¬ t2 = t3 by omega))
  have hB2 := hB2.kept (hq _ hB2.lt (show ¬ b2 = t3 by omega))
  have hT3 := hT9
  have hB3 := hB9
  refine pf_X6_7 hx hb hown hC hO hS (Or.inl rfl) (zf_X6_40 hC.1) (hini rfl) rfl rfl rfl dX6_init_98 (fun H1 locs1 hO hz hq hS => ?_)
  have hX := hX.kept (fun q h => hq q (fun e => by omega))
  have hL0 := hL0.kept (hq _ (show ¬ a0 = q9 by omega))
  have hL1 := hL1.kept (hq _ (show ¬ a1 = q9 by omega))
  have hL2 := hL2.kept (hq _ (show ¬ a2 = q9 by omega))
  have hL3 := hL3.kept (hq _ (show ¬ a3 = q9 by omega))
  have hT0 := hT0.kept (hq _ (show ¬ t0 = q9 by omega))
  have hB0 := hB0.kept (hq _ (show ¬ b0 = q9 by omega))
  have hT1 := hT1.kept (hq _ (show ¬ t1 = q9 by omega))
  have hB1 := hB1.kept (hq _ (show ¬ b1 = q9 by omega))
  have hT2 := hT2.kept (hq _ (show ¬ t2 = q9 by omega))
  have hB2 := hB2.kept (hq _ (show ¬ b2 = q9 by omega))
  have hT3 := hT3.kept (hq _ (show ¬ t3 = q9 by omega))
  have hB3 := hB3.kept (hq _ (show ¬ b3 = q9 by omega))
  refine lv_aload_n hx hb dX6_init_101 rfl (lv_at hl 0 rfl) ?_
  refine lv_iconst (v := 0) hx hb dX6_init_102 (by decide) ?_
  refine pf_X6_8 hx hb hown hC hO hS (Or.inl rfl) (zf_X6_43 hC.1) rfl rfl dX6_init_103 (fun H1 locs1 hO hz hq hS => ?_)
  have hX := hX.kept (fun q h => hq q (fun e => by omega))
  have hL0 := hL0.kept (hq _ (show ¬ a0 = q9 by omega))
  have hL1 := hL1.kept (hq _ (show ¬ a1 = q9 by omega))
  have hL2 := hL2.kept (hq _ (show ¬ a2 = q9 by omega))
  have hL3 := hL3.kept (hq _ (show ¬ a3 = q9 by omega))
  have hT0 := hT0.kept (hq _ (show ¬ t0 = q9 by omega))
  have hB0 := hB0.kept (hq _ (show ¬ b0 = q9 by omega))
  have hT1 := hT1.kept (hq _ (show ¬ t1 = q9 by omega))
  have hB1 := hB1.kept (hq _ (show ¬ b1 = q9 by omega))
  have hT2 := hT2.kept (hq _ (show ¬ t2 = q9 by omega))
  have hB2 := hB2.kept (hq _ (show ¬ b2 = q9 by omega))
  have hT3 := hT3.kept (hq _ (show ¬ t3 = q9 by omega))
  have hB3 := hB3.kept (hq _ (show ¬ b3 = q9 by omega))
  subst ha0
  have hb9 : b3 < H1.size := hB3.lt
  have hq9 : q9 < H1.size := hO.lt
  have hfin := RA.init o0 o1 o2 o3 o4 o5 o6 o7 o8 o9 o10 o11 hN9 hX hO hL0 hL1 hL2 hL3 hT0 hB0 hT1 hB1 hT2 hB2 hT3 hB3
  refine wr_v hx hb hr hlocks hS ?_ ?_ ?_ dX6_init_106
  · refine ⟨⟨_, hfin, rfl, fun x hw => ?_⟩, rfl⟩
    rcases g0_ow o0 o1 o2 o3 o4 o5 o6 o7 o8 o9 o10 o11 hw with h | h
    · exact ⟨Or.inl h, by omega⟩
    · exact ⟨Or.inr (by omega), by omega⟩
  · exact Nat.le_of_ble_eq_true rfl
  · exact Nat.le_of_ble_eq_true rfl

