set_option maxRecDepth 100000 in
set_option maxHeartbeats 4000000 in
theorem c_X12_isNoOne (l : Launch) (E : EE) {S : St} {th : Int32} {g : Gh} (hI : Inv S) (v : Int32) : RM l E yX12_isNoOne cX12_isNoOne 2 .boolean (rD 1) [.ref (g.ad 1 0), .int (v)] (RB E S th g) (.int (noB v 0 (nI S.nr - 1))) := by
  refine rm_of rfl (Nat.le_of_ble_eq_true rfl) (fun p e s m below meth c ls hx hb hr hml (hown : s.vm.findClass RX12 = some m.cls) hC hlocks hR hl => ?_)
  have hl : lv_has ls 2 [(0, .ref (g.ad 1 0)), (1, .int (v))] := hl
  refine lv_iload_n hx hb dX12_isNoOne_0 rfl (lv_at hl 1 rfl) ?_
  refine lv_iconst (v := 0) hx hb dX12_isNoOne_1 (by decide) ?_
  refine lv_aload_n hx hb dX12_isNoOne_2 rfl (lv_at hl 0 rfl) ?_
  refine gf_X12_1 hx hb hown hC (RB.x hR) (zf_X12_10 hC.1) dX12_isNoOne_3 ?_
  refine gf_X8_3 hx hb hown hC (RB.dk hR) (zf_X12_185 hC.1) dX12_isNoOne_6 ?_
  refine rc_V (As := []) hx hb hml hown hC hl (c_size l E _ _ _ _) (rec_of hC (RB.ls hR (by decide : 3 < 4)) rfl) (zm_X12_28 hC.1) kv_Jx4a65c_size_8abf5 (RB.ls hR (by decide : 3 < 4)) rfl rfl (rD_le (by decide) (by decide)) ⟨rfl, rfl⟩ (Nat.le_of_ble_eq_true rfl) ⟨Nat.zero_le _, Nat.zero_le _⟩ dX12_isNoOne_9 ?_
  refine lv_iconst (v := 1) hx hb dX12_isNoOne_12 (by decide) ?_
  refine lv_isub hx hb dX12_isNoOne_13 ?_
  refine rc_S (As := [.int (v), .int (0), .int ((nI (S.nr)) - (1))]) hx hb hml hown hC hl (c_X12_isIn l E (v) (0) ((nI (S.nr)) - (1))) (zm_X12_34 hC.1) kv_X12_isIn True.intro rfl rfl (rD_le (by decide) (by decide)) ⟨rfl, rfl⟩ (Nat.le_of_ble_eq_true rfl) ⟨Nat.zero_le _, Nat.zero_le _⟩ dX12_isNoOne_14 ?_
  refine lv_if_ne (tgt := 24) hx hb dX12_isNoOne_17 (by decide) (fun c_17 => ?_) (fun c_17 => ?_)
  ·
    refine lv_iconst (v := 0) hx hb dX12_isNoOne_24 (by decide) ?_
    exact rr_z hx hb hr hlocks (by decide) (by unfold noB; rw [if_neg c_17]) dX12_isNoOne_25
  ·
    refine lv_iconst (v := 1) hx hb dX12_isNoOne_20 (by decide) ?_
    refine lv_goto (tgt := 25) hx hb dX12_isNoOne_21 (by decide) ?_
    exact rr_z hx hb hr hlocks (by decide) (by unfold noB; rw [if_pos c_17]) dX12_isNoOne_25
set_option maxRecDepth 100000 in
set_option maxHeartbeats 4000000 in
theorem c_X12_add (l : Launch) (E : EE) (a v : Int64) : RM l E yX12_add cX12_add 4 .long (rD 0) [.long (a), .long (v)] (fun _ => True) (.long (a * 31 + v)) := by
  refine rm_of rfl (Nat.le_of_ble_eq_true rfl) (fun p e s m below meth c ls hx hb hr hml (hown : s.vm.findClass RX12 = some m.cls) hC hlocks hR hl => ?_)
  have hl : lv_has ls 4 [(0, .long (a)), (2, .long (v))] := hl
  refine lv_lload_n hx hb dX12_add_0 rfl (lv_at hl 0 rfl) ?_
  refine lv_ldc2 hx hb hown (zl_X12_266 hC.1) dX12_add_1 ?_
  refine lv_lmul hx hb dX12_add_4 ?_
  refine lv_lload_n hx hb dX12_add_5 rfl (lv_at hl 1 rfl) ?_
  refine lv_ladd hx hb dX12_add_6 ?_
  exact rr_l hx hb hr hlocks rfl dX12_add_7
