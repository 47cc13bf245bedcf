theorem rD_le {n a b : Nat} (hab : a < b) (h : n ≤ 25) : (rD a).frames + 1 ≤ (rD b).frames ∧ 8 + (n + 11) + (rD a).locals ≤ (rD b).locals := ⟨hab, by show 8 + (n + 11) + 44 * a ≤ 44 * b; omega⟩
set_option maxRecDepth 100000 in
set_option maxHeartbeats 4000000 in
theorem c_size (l : Launch) (E : EE) (q : Nat) (v0 v1 : Value) (n : Int32) : RM l E yJx4a65c_size_8abf5 cJx4a65c_size_8abf5 1 .int (rD 0) [.ref q] (fun H => va_at E.1 vwCl (q, .inr (0, [v0, v1, .int n])) H) (.int n) := by
  refine rm_of rfl (Nat.le_of_ble_eq_true rfl) (fun p e s m below meth c ls hx hb hr hml (hown : s.vm.findClass RJx4a65c = some m.cls) hC hlocks hR hl => ?_)
  have hl : lv_has ls 1 [(0, .ref (q))] := hl
  refine lv_aload_n hx hb dJx4a65c_size_8abf5_0 rfl (lv_at hl 0 rfl) ?_
  refine gf_Jx4a65c_2 hx hb hown hC hR (zf_Jx4a65c_48 hC.1) dJx4a65c_size_8abf5_1 ?_
  exact rr_i hx hb hr hlocks rfl dJx4a65c_size_8abf5_4
set_option maxRecDepth 100000 in
set_option maxHeartbeats 4000000 in
theorem c_pcheck (l : Launch) (E : EE) (i n : Int32) (h1 : ¬ i < 0) (h2 : i < n) : RM l E yJ3_checkIndex_8e157 cJ3_checkIndex_8e157 3 .int (rD 0) [.int i, .int n, .null] (fun _ => True) (.int i) := by
  refine rm_of rfl (Nat.le_of_ble_eq_true rfl) (fun p e s m below meth c ls hx hb hr hml (hown : s.vm.findClass RJ3 = some m.cls) hC hlocks hR hl => ?_)
  have hl : lv_has ls 3 [(0, .int (i)), (1, .int (n)), (2, .null)] := hl
  refine lv_iload_n hx hb dJ3_checkIndex_8e157_0 rfl (lv_at hl 0 rfl) ?_
  refine lv_if_lt (tgt := 9) hx hb dJ3_checkIndex_8e157_1 (by decide) (fun c_1 => ?_) (fun c_1 => ?_)
  · exact absurd c_1 h1
  ·
    refine lv_iload_n hx hb dJ3_checkIndex_8e157_4 rfl (lv_at hl 0 rfl) ?_
    refine lv_iload_n hx hb dJ3_checkIndex_8e157_5 rfl (lv_at hl 1 rfl) ?_
    refine lv_icmp_lt (tgt := 16) hx hb dJ3_checkIndex_8e157_6 (by decide) (fun c_6 => ?_) (fun c_6 => ?_)
    ·
      refine lv_iload_n hx hb dJ3_checkIndex_8e157_16 rfl (lv_at hl 0 rfl) ?_
      exact rr_i hx hb hr hlocks rfl dJ3_checkIndex_8e157_17
    · exact absurd h2 c_6
set_option maxRecDepth 100000 in
set_option maxHeartbeats 4000000 in
theorem c_ocheck (l : Launch) (E : EE) (i n : Int32) (h1 : ¬ i < 0) (h2 : i < n) : RM l E yJ15_checkIndex_7cf53 cJ15_checkIndex_7cf53 2 .int (rD 1) [.int i, .int n] (fun _ => True) (.int i) := by
  refine rm_of rfl (Nat.le_of_ble_eq_true rfl) (fun p e s m below meth c ls hx hb hr hml (hown : s.vm.findClass RJ15 = some m.cls) hC hlocks hR hl => ?_)
  have hl : lv_has ls 2 [(0, .int (i)), (1, .int (n))] := hl
  refine lv_iload_n hx hb dJ15_checkIndex_7cf53_0 rfl (lv_at hl 0 rfl) ?_
  refine lv_iload_n hx hb dJ15_checkIndex_7cf53_1 rfl (lv_at hl 1 rfl) ?_
  refine lv_null hx hb dJ15_checkIndex_7cf53_2 ?_
  refine rc_S (As := [.int (i), .int (n), .null]) hx hb hml hown hC hl (c_pcheck l E (i) (n) h1 h2) (zm_J15_105 hC.1) kv_J3_checkIndex_8e157 True.intro rfl rfl (rD_le (by decide) (by decide)) ⟨rfl, rfl⟩ (Nat.le_of_ble_eq_true rfl) ⟨Nat.zero_le _, Nat.zero_le _⟩ dJ15_checkIndex_7cf53_3 ?_
  exact rr_i hx hb hr hlocks rfl dJ15_checkIndex_7cf53_6
set_option maxRecDepth 100000 in
set_option maxHeartbeats 4000000 in
theorem c_eldat (l : Launch) (E : EE) (ql a cap j q : Nat) (v0 : Value) (n i : Int32) (f : Nat → Option Nat) (hi : i = nI j ∧ j < cap ∧ cap < 2 ^ 31) (hf : f j = some q) : RM l E yJx4a65c_elementData_915e3 cJx4a65c_elementData_915e3 2 (.object "java/lang/Object") (rD 0) [.ref ql, .int i] (fun H => va_at E.1 vwCl (ql, .inr (0, [v0, .ref a, .int n])) H ∧ va_at E.1 vwCl (a, .inl (eO E, cap, .inr (.inr (.inr (.inr f))))) H) (.ref q) := by
  refine rm_of rfl (Nat.le_of_ble_eq_true rfl) (fun p e s m below meth c ls hx hb hr hml (hown : s.vm.findClass RJx4a65c = some m.cls) hC hlocks hR hl => ?_)
  have hl : lv_has ls 2 [(0, .ref (ql)), (1, .int (i))] := hl
  refine lv_aload_n hx hb dJx4a65c_elementData_915e3_0 rfl (lv_at hl 0 rfl) ?_
  refine gf_Jx4a65c_1 hx hb hown hC hR.1 (zf_Jx4a65c_9 hC.1) dJx4a65c_elementData_915e3_1 ?_
  refine lv_iload_n hx hb dJx4a65c_elementData_915e3_4 rfl (lv_at hl 1 rfl) ?_
  refine g_aald hx hb hC hR.2 hi hf dJx4a65c_elementData_915e3_5 ?_
  exact rr_r hx hb hr hlocks rfl dJx4a65c_elementData_915e3_6
set_option maxRecDepth 100000 in
set_option maxHeartbeats 4000000 in
theorem c_get (l : Launch) (E : EE) (ql a cap j q : Nat) (v0 : Value) (n i : Int32) (f : Nat → Option Nat) (hi : i = nI j ∧ j < cap ∧ cap < 2 ^ 31) (h1 : ¬ i < 0) (h2 : i < n) (hf : f j = some q) : RM l E yJx4a65c_get_915e3 cJx4a65c_get_915e3 2 (.object "java/lang/Object") (rD 2) [.ref ql, .int i] (fun H => va_at E.1 vwCl (ql, .inr (0, [v0, .ref a, .int n])) H ∧ va_at E.1 vwCl (a, .inl (eO E, cap, .inr (.inr (.inr (.inr f))))) H) (.ref q) := by
  refine rm_of rfl (Nat.le_of_ble_eq_true rfl) (fun p e s m below meth c ls hx hb hr hml (hown : s.vm.findClass RJx4a65c = some m.cls) hC hlocks hR hl => ?_)
  have hl : lv_has ls 2 [(0, .ref (ql)), (1, .int (i))] := hl
  refine lv_iload_n hx hb dJx4a65c_get_915e3_0 rfl (lv_at hl 1 rfl) ?_
  refine lv_aload_n hx hb dJx4a65c_get_915e3_1 rfl (lv_at hl 0 rfl) ?_
  refine gf_Jx4a65c_2 hx hb hown hC hR.1 (zf_Jx4a65c_48 hC.1) dJx4a65c_get_915e3_2 ?_
  refine rc_S (As := [.int (i), .int (n)]) hx hb hml hown hC hl (c_ocheck l E (i) (n) h1 h2) (zm_Jx4a65c_118 hC.1) kv_J15_checkIndex_7cf53 True.intro rfl rfl (rD_le (by decide) (by decide)) ⟨rfl, rfl⟩ (Nat.le_of_ble_eq_true rfl) ⟨Nat.zero_le _, Nat.zero_le _⟩ dJx4a65c_get_915e3_5 ?_
  refine lv_pop hx hb dJx4a65c_get_915e3_8 rfl ?_
  refine lv_aload_n hx hb dJx4a65c_get_915e3_9 rfl (lv_at hl 0 rfl) ?_
  refine lv_iload_n hx hb dJx4a65c_get_915e3_10 rfl (lv_at hl 1 rfl) ?_
  refine rc_V (As := [.int (i)]) hx hb hml hown hC hl (c_eldat l E ql a cap j q v0 n (i) f hi hf) (rec_of hC hR.1 rfl) (zm_Jx4a65c_123 hC.1) kv_Jx4a65c_elementData_915e3 hR rfl rfl (rD_le (by decide) (by decide)) ⟨rfl, rfl⟩ (Nat.le_of_ble_eq_true rfl) ⟨Nat.zero_le _, Nat.zero_le _⟩ dJx4a65c_get_915e3_11 ?_
  exact rr_r hx hb hr hlocks rfl dJx4a65c_get_915e3_14

