set_option maxRecDepth 100000 in
set_option maxHeartbeats 4000000 in
theorem c_X12_isIn (l : Launch) (E : EE) (v a b : Int32) : RM l E yX12_isIn cX12_isIn 3 .boolean (rD 0) [.int (v), .int (a), .int (b)] (fun _ => True) (.int (inB v a b)) := by
  refine rm_of rfl (Nat.le_of_ble_eq_true rfl) (fun p e s m below meth c ls hx hb hr hml (hown : s.vm.findClass RX12 = some m.cls) hC hlocks hR hl => ?_)
  have hl : lv_has ls 3 [(0, .int (v)), (1, .int (a)), (2, .int (b))] := hl
  refine lv_iload_n hx hb dX12_isIn_0 rfl (lv_at hl 0 rfl) ?_
  refine lv_iload_n hx hb dX12_isIn_1 rfl (lv_at hl 1 rfl) ?_
  refine lv_icmp_lt (tgt := 14) hx hb dX12_isIn_2 (by decide) (fun c_2 => ?_) (fun c_2 => ?_)
  ·
    refine lv_iconst (v := 0) hx hb dX12_isIn_14 (by decide) ?_
    exact rr_z hx hb hr hlocks (by decide) (by unfold inB; rw [if_pos c_2]) dX12_isIn_15
  ·
    refine lv_iload_n hx hb dX12_isIn_5 rfl (lv_at hl 0 rfl) ?_
    refine lv_iload_n hx hb dX12_isIn_6 rfl (lv_at hl 2 rfl) ?_
    refine lv_icmp_gt (tgt := 14) hx hb dX12_isIn_7 (by decide) (fun c_7 => ?_) (fun c_7 => ?_)
    ·
      refine lv_iconst (v := 0) hx hb dX12_isIn_14 (by decide) ?_
      exact rr_z hx hb hr hlocks (by decide) (by unfold inB; rw [if_neg c_2, if_pos c_7]) dX12_isIn_15
    ·
      refine lv_iconst (v := 1) hx hb dX12_isIn_10 (by decide) ?_
      refine lv_goto (tgt := 15) hx hb dX12_isIn_11 (by decide) ?_
      exact rr_z hx hb hr hlocks (by decide) (by unfold inB; rw [if_neg c_2, if_neg c_7]) dX12_isIn_15
set_option maxRecDepth 100000 in
set_option maxHeartbeats 4000000 in
theorem c_X12_isNoKind (l : Launch) (E : EE) (v : Int32) : RM l E yX12_isNoKind cX12_isNoKind 1 .boolean (rD 1) [.int (v)] (fun _ => True) (.int (noB v 0 3)) := by
  refine rm_of rfl (Nat.le_of_ble_eq_true rfl) (fun p e s m below meth c ls hx hb hr hml (hown : s.vm.findClass RX12 = some m.cls) hC hlocks hR hl => ?_)
  have hl : lv_has ls 1 [(0, .int (v))] := hl
  refine lv_iload_n hx hb dX12_isNoKind_0 rfl (lv_at hl 0 rfl) ?_
  refine lv_iconst (v := 0) hx hb dX12_isNoKind_1 (by decide) ?_
  refine lv_iconst (v := 3) hx hb dX12_isNoKind_2 (by decide) ?_
  refine rc_S (As := [.int (v), .int (0), .int (3)]) hx hb hml hown hC hl (c_X12_isIn l E (v) (0) (3)) (zm_X12_34 hC.1) kv_X12_isIn True.intro rfl rfl (rD_le (by decide) (by decide)) ⟨rfl, rfl⟩ (Nat.le_of_ble_eq_true rfl) ⟨Nat.zero_le _, Nat.zero_le _⟩ dX12_isNoKind_3 ?_
  refine lv_if_ne (tgt := 13) hx hb dX12_isNoKind_6 (by decide) (fun c_6 => ?_) (fun c_6 => ?_)
  ·
    refine lv_iconst (v := 0) hx hb dX12_isNoKind_13 (by decide) ?_
    exact rr_z hx hb hr hlocks (by decide) (by unfold noB; rw [if_neg c_6]) dX12_isNoKind_14
  ·
    refine lv_iconst (v := 1) hx hb dX12_isNoKind_9 (by decide) ?_
    refine lv_goto (tgt := 14) hx hb dX12_isNoKind_10 (by decide) ?_
    exact rr_z hx hb hr hlocks (by decide) (by unfold noB; rw [if_pos c_6]) dX12_isNoKind_14
set_option maxRecDepth 100000 in
set_option maxHeartbeats 4000000 in
theorem c_X12_isNoLand (l : Launch) (E : EE) (v : Int32) : RM l E yX12_isNoLand cX12_isNoLand 1 .boolean (rD 1) [.int (v)] (fun _ => True) (.int (noB v 0 2)) := by
  refine rm_of rfl (Nat.le_of_ble_eq_true rfl) (fun p e s m below meth c ls hx hb hr hml (hown : s.vm.findClass RX12 = some m.cls) hC hlocks hR hl => ?_)
  have hl : lv_has ls 1 [(0, .int (v))] := hl
  refine lv_iload_n hx hb dX12_isNoLand_0 rfl (lv_at hl 0 rfl) ?_
  refine lv_iconst (v := 0) hx hb dX12_isNoLand_1 (by decide) ?_
  refine lv_iconst (v := 2) hx hb dX12_isNoLand_2 (by decide) ?_
  refine rc_S (As := [.int (v), .int (0), .int (2)]) hx hb hml hown hC hl (c_X12_isIn l E (v) (0) (2)) (zm_X12_34 hC.1) kv_X12_isIn True.intro rfl rfl (rD_le (by decide) (by decide)) ⟨rfl, rfl⟩ (Nat.le_of_ble_eq_true rfl) ⟨Nat.zero_le _, Nat.zero_le _⟩ dX12_isNoLand_3 ?_
  refine lv_if_ne (tgt := 13) hx hb dX12_isNoLand_6 (by decide) (fun c_6 => ?_) (fun c_6 => ?_)
  ·
    refine lv_iconst (v := 0) hx hb dX12_isNoLand_13 (by decide) ?_
    exact rr_z hx hb hr hlocks (by decide) (by unfold noB; rw [if_neg c_6]) dX12_isNoLand_14
  ·
    refine lv_iconst (v := 1) hx hb dX12_isNoLand_9 (by decide) ?_
    refine lv_goto (tgt := 14) hx hb dX12_isNoLand_10 (by decide) ?_
    exact rr_z hx hb hr hlocks (by decide) (by unfold noB; rw [if_pos c_6]) dX12_isNoLand_14
set_option maxRecDepth 100000 in
set_option maxHeartbeats 4000000 in
theorem c_X12_isNoDay (l : Launch) (E : EE) (v : Int32) : RM l E yX12_isNoDay cX12_isNoDay 1 .boolean (rD 1) [.int (v)] (fun _ => True) (.int (noB v 0 119)) := by
  refine rm_of rfl (Nat.le_of_ble_eq_true rfl) (fun p e s m below meth c ls hx hb hr hml (hown : s.vm.findClass RX12 = some m.cls) hC hlocks hR hl => ?_)
  have hl : lv_has ls 1 [(0, .int (v))] := hl
  refine lv_iload_n hx hb dX12_isNoDay_0 rfl (lv_at hl 0 rfl) ?_
  refine lv_iconst (v := 0) hx hb dX12_isNoDay_1 (by decide) ?_
  refine lv_bipush (v := 119) hx hb dX12_isNoDay_2 (by decide) ?_
  refine rc_S (As := [.int (v), .int (0), .int (119)]) hx hb hml hown hC hl (c_X12_isIn l E (v) (0) (119)) (zm_X12_34 hC.1) kv_X12_isIn True.intro rfl rfl (rD_le (by decide) (by decide)) ⟨rfl, rfl⟩ (Nat.le_of_ble_eq_true rfl) ⟨Nat.zero_le _, Nat.zero_le _⟩ dX12_isNoDay_4 ?_
  refine lv_if_ne (tgt := 14) hx hb dX12_isNoDay_7 (by decide) (fun c_7 => ?_) (fun c_7 => ?_)
  ·
    refine lv_iconst (v := 0) hx hb dX12_isNoDay_14 (by decide) ?_
    exact rr_z hx hb hr hlocks (by decide) (by unfold noB; rw [if_neg c_7]) dX12_isNoDay_15
  ·
    refine lv_iconst (v := 1) hx hb dX12_isNoDay_10 (by decide) ?_
    refine lv_goto (tgt := 15) hx hb dX12_isNoDay_11 (by decide) ?_
    exact rr_z hx hb hr hlocks (by decide) (by unfold noB; rw [if_pos c_7]) dX12_isNoDay_15
set_option maxRecDepth 100000 in
set_option maxHeartbeats 4000000 in
theorem c_X12_isNoText (l : Launch) (E : EE) (v : Int32) : RM l E yX12_isNoText cX12_isNoText 1 .boolean (rD 1) [.int (v)] (fun _ => True) (.int (noB v 0 9)) := by
  refine rm_of rfl (Nat.le_of_ble_eq_true rfl) (fun p e s m below meth c ls hx hb hr hml (hown : s.vm.findClass RX12 = some m.cls) hC hlocks hR hl => ?_)
  have hl : lv_has ls 1 [(0, .int (v))] := hl
  refine lv_iload_n hx hb dX12_isNoText_0 rfl (lv_at hl 0 rfl) ?_
  refine lv_iconst (v := 0) hx hb dX12_isNoText_1 (by decide) ?_
  refine lv_bipush (v := 9) hx hb dX12_isNoText_2 (by decide) ?_
  refine rc_S (As := [.int (v), .int (0), .int (9)]) hx hb hml hown hC hl (c_X12_isIn l E (v) (0) (9)) (zm_X12_34 hC.1) kv_X12_isIn True.intro rfl rfl (rD_le (by decide) (by decide)) ⟨rfl, rfl⟩ (Nat.le_of_ble_eq_true rfl) ⟨Nat.zero_le _, Nat.zero_le _⟩ dX12_isNoText_4 ?_
  refine lv_if_ne (tgt := 14) hx hb dX12_isNoText_7 (by decide) (fun c_7 => ?_) (fun c_7 => ?_)
  ·
    refine lv_iconst (v := 0) hx hb dX12_isNoText_14 (by decide) ?_
    exact rr_z hx hb hr hlocks (by decide) (by unfold noB; rw [if_neg c_7]) dX12_isNoText_15
  ·
    refine lv_iconst (v := 1) hx hb dX12_isNoText_10 (by decide) ?_
    refine lv_goto (tgt := 15) hx hb dX12_isNoText_11 (by decide) ?_
    exact rr_z hx hb hr hlocks (by decide) (by unfold noB; rw [if_pos c_7]) dX12_isNoText_15
set_option maxRecDepth 100000 in
set_option maxHeartbeats 4000000 in
theorem c_X12_isNo (l : Launch) (E : EE) {S : St} {th : Int32} {g : Gh} (hI : Inv S) (v : Int32) : RM l E yX12_isNo cX12_isNo 2 .boolean (rD 1) [.ref (g.ad 1 0), .int (v)] (RB E S th g) (.int (noB v 0 (nI S.np - 1))) := by
  refine rm_of rfl (Nat.le_of_ble_eq_true rfl) (fun p e s m below meth c ls hx hb hr hml (hown : s.vm.findClass RX12 = some m.cls) hC hlocks hR hl => ?_)
  have hl : lv_has ls 2 [(0, .ref (g.ad 1 0)), (1, .int (v))] := hl
  refine lv_iload_n hx hb dX12_isNo_0 rfl (lv_at hl 1 rfl) ?_
  refine lv_iconst (v := 0) hx hb dX12_isNo_1 (by decide) ?_
  refine lv_aload_n hx hb dX12_isNo_2 rfl (lv_at hl 0 rfl) ?_
  refine gf_X12_1 hx hb hown hC (RB.x hR) (zf_X12_10 hC.1) dX12_isNo_3 ?_
  refine gf_X8_0 hx hb hown hC (RB.dk hR) (zf_X12_24 hC.1) dX12_isNo_6 ?_
  refine rc_V (As := []) hx hb hml hown hC hl (c_size l E _ _ _ _) (rec_of hC (RB.ls hR (by decide : 0 < 4)) rfl) (zm_X12_28 hC.1) kv_Jx4a65c_size_8abf5 (RB.ls hR (by decide : 0 < 4)) rfl rfl (rD_le (by decide) (by decide)) ⟨rfl, rfl⟩ (Nat.le_of_ble_eq_true rfl) ⟨Nat.zero_le _, Nat.zero_le _⟩ dX12_isNo_9 ?_
  refine lv_iconst (v := 1) hx hb dX12_isNo_12 (by decide) ?_
  refine lv_isub hx hb dX12_isNo_13 ?_
  refine rc_S (As := [.int (v), .int (0), .int ((nI (S.np)) - (1))]) hx hb hml hown hC hl (c_X12_isIn l E (v) (0) ((nI (S.np)) - (1))) (zm_X12_34 hC.1) kv_X12_isIn True.intro rfl rfl (rD_le (by decide) (by decide)) ⟨rfl, rfl⟩ (Nat.le_of_ble_eq_true rfl) ⟨Nat.zero_le _, Nat.zero_le _⟩ dX12_isNo_14 ?_
  refine lv_if_ne (tgt := 24) hx hb dX12_isNo_17 (by decide) (fun c_17 => ?_) (fun c_17 => ?_)
  ·
    refine lv_iconst (v := 0) hx hb dX12_isNo_24 (by decide) ?_
    exact rr_z hx hb hr hlocks (by decide) (by unfold noB; rw [if_neg c_17]) dX12_isNo_25
  ·
    refine lv_iconst (v := 1) hx hb dX12_isNo_20 (by decide) ?_
    refine lv_goto (tgt := 25) hx hb dX12_isNo_21 (by decide) ?_
    exact rr_z hx hb hr hlocks (by decide) (by unfold noB; rw [if_pos c_17]) dX12_isNo_25
set_option maxRecDepth 100000 in
set_option maxHeartbeats 4000000 in
theorem c_X12_of (l : Launch) (E : EE) {S : St} {th : Int32} {g : Gh} (hI : Inv S) {p9 : Nat} (hp : p9 < S.np) : RM l E yX12_of cX12_of 2 (.object "ApprovalGridModel$Person") (rD 3) [.ref (g.ad 1 0), .int (nI p9)] (RB E S th g) (.ref (g.ad 6 p9)) := by
  refine rm_of rfl (Nat.le_of_ble_eq_true rfl) (fun p e s m below meth c ls hx hb hr hml (hown : s.vm.findClass RX12 = some m.cls) hC hlocks hR hl => ?_)
  have hl : lv_has ls 2 [(0, .ref (g.ad 1 0)), (1, .int (nI p9))] := hl
  refine lv_aload_n hx hb dX12_of_0 rfl (lv_at hl 0 rfl) ?_
  refine gf_X12_1 hx hb hown hC (RB.x hR) (zf_X12_10 hC.1) dX12_of_1 ?_
  refine gf_X8_0 hx hb hown hC (RB.dk hR) (zf_X12_24 hC.1) dX12_of_4 ?_
  refine lv_iload_n hx hb dX12_of_7 rfl (lv_at hl 1 rfl) ?_
  refine rc_V (As := [.int (nI p9)]) hx hb hml hown hC hl (c_getLB l E 0 rfl hR (by decide) hp) (rec_of hC (RB.ls hR (by decide : 0 < 4)) rfl) (zm_X12_38 hC.1) kv_Jx4a65c_get_915e3 (RB.gp hR 0 (by decide) hp) rfl rfl (rD_le (by decide) (by decide)) ⟨rfl, rfl⟩ (Nat.le_of_ble_eq_true rfl) ⟨Nat.zero_le _, Nat.zero_le _⟩ dX12_of_8 ?_
  refine g_cast hx hb hown hC (RB.pe hR hp) rfl (zc_X12_42 hC.1) dX12_of_11 ?_
  exact rr_r hx hb hr hlocks rfl dX12_of_14
set_option maxRecDepth 100000 in
set_option maxHeartbeats 4000000 in
theorem c_X12_charge_ (l : Launch) (E : EE) {S : St} {th : Int32} {g : Gh} (hI : Inv S) {c9 : Nat} (hc : c9 < S.nc) : RM l E yX12_charge_ cX12_charge_ 2 (.object "ApprovalGridModel$Charge") (rD 3) [.ref (g.ad 1 0), .int (nI c9)] (RB E S th g) (.ref (g.ad 8 c9)) := by
  refine rm_of rfl (Nat.le_of_ble_eq_true rfl) (fun p e s m below meth c ls hx hb hr hml (hown : s.vm.findClass RX12 = some m.cls) hC hlocks hR hl => ?_)
  have hl : lv_has ls 2 [(0, .ref (g.ad 1 0)), (1, .int (nI c9))] := hl
  refine lv_aload_n hx hb dX12_charge__0 rfl (lv_at hl 0 rfl) ?_
  refine gf_X12_1 hx hb hown hC (RB.x hR) (zf_X12_10 hC.1) dX12_charge__1 ?_
  refine gf_X8_2 hx hb hown hC (RB.dk hR) (zf_X12_95 hC.1) dX12_charge__4 ?_
  refine lv_iload_n hx hb dX12_charge__7 rfl (lv_at hl 1 rfl) ?_
  refine rc_V (As := [.int (nI c9)]) hx hb hml hown hC hl (c_getLB l E 2 rfl hR (by decide) hc) (rec_of hC (RB.ls hR (by decide : 2 < 4)) rfl) (zm_X12_38 hC.1) kv_Jx4a65c_get_915e3 (RB.gp hR 2 (by decide) hc) rfl rfl (rD_le (by decide) (by decide)) ⟨rfl, rfl⟩ (Nat.le_of_ble_eq_true rfl) ⟨Nat.zero_le _, Nat.zero_le _⟩ dX12_charge__8 ?_
  refine g_cast hx hb hown hC (RB.ch hR hc) rfl (zc_X12_98 hC.1) dX12_charge__11 ?_
  exact rr_r hx hb hr hlocks rfl dX12_charge__14
set_option maxRecDepth 100000 in
set_option maxHeartbeats 4000000 in
theorem c_X7_isRepaid (l : Launch) (E : EE) {S : St} {th : Int32} {g : Gh} (hI : Inv S) {c9 : Nat} (hc : c9 < S.nc) : RM l E yX7_isRepaid cX7_isRepaid 1 .boolean (rD 0) [.ref (g.ad 8 (c9))] (RB E S th g) (.int (isRepB S c9)) := by
  refine rm_of rfl (Nat.le_of_ble_eq_true rfl) (fun p e s m below meth c ls hx hb hr hml (hown : s.vm.findClass RX7 = some m.cls) hC hlocks hR hl => ?_)
  have hl : lv_has ls 1 [(0, .ref (g.ad 8 (c9)))] := hl
  refine lv_aload_n hx hb dX7_isRepaid_0 rfl (lv_at hl 0 rfl) ?_
  refine gf_X7_8 hx hb hown hC (RB.ch hR hc) (zf_X7_15 hC.1) dX7_isRepaid_1 ?_
  refine lv_iconst (v := 3) hx hb dX7_isRepaid_4 (by decide) ?_
  refine lv_icmp_ne (tgt := 12) hx hb dX7_isRepaid_5 (by decide) (fun c_5 => ?_) (fun c_5 => ?_)
  ·
    refine lv_iconst (v := 0) hx hb dX7_isRepaid_12 (by decide) ?_
    exact rr_z hx hb hr hlocks (by decide) (by unfold isRepB; rw [if_neg c_5]) dX7_isRepaid_13
  ·
    refine lv_iconst (v := 1) hx hb dX7_isRepaid_8 (by decide) ?_
    refine lv_goto (tgt := 13) hx hb dX7_isRepaid_9 (by decide) ?_
    exact rr_z hx hb hr hlocks (by decide) (by unfold isRepB; rw [if_pos c_5]) dX7_isRepaid_13
set_option maxRecDepth 100000 in
set_option maxHeartbeats 4000000 in
theorem c_X7_needs (l : Launch) (E : EE) {S : St} {th : Int32} {g : Gh} (hI : Inv S) {c9 : Nat} (hc : c9 < S.nc) : RM l E yX7_needs cX7_needs 1 .int (rD 0) [.ref (g.ad 8 (c9))] (RB E S th g) (.int (nI (needsB S c9))) := by
  refine rm_of rfl (Nat.le_of_ble_eq_true rfl) (fun p e s m below meth c ls hx hb hr hml (hown : s.vm.findClass RX7 = some m.cls) hC hlocks hR hl => ?_)
  have hl : lv_has ls 1 [(0, .ref (g.ad 8 (c9)))] := hl
  refine lv_aload_n hx hb dX7_needs_0 rfl (lv_at hl 0 rfl) ?_
  refine gf_X7_3 hx hb hown hC (RB.ch hR hc) (zf_X7_31 hC.1) dX7_needs_1 ?_
  refine lv_sipush (v := 2000) hx hb dX7_needs_4 (by decide) ?_
  refine lv_icmp_le (tgt := 14) hx hb dX7_needs_7 (by decide) (fun c_7 => ?_) (fun c_7 => ?_)
  ·
    refine lv_aload_n hx hb dX7_needs_14 rfl (lv_at hl 0 rfl) ?_
    refine gf_X7_3 hx hb hown hC (RB.ch hR hc) (zf_X7_31 hC.1) dX7_needs_15 ?_
    refine lv_sipush (v := 500) hx hb dX7_needs_18 (by decide) ?_
    refine lv_icmp_le (tgt := 28) hx hb dX7_needs_21 (by decide) (fun c_21 => ?_) (fun c_21 => ?_)
    ·
      refine lv_iconst (v := 1) hx hb dX7_needs_28 (by decide) ?_
      exact rr_i hx hb hr hlocks (by unfold needsB; rw [if_pos c_7, if_pos c_21]; rfl) dX7_needs_29
    ·
      refine lv_iconst (v := 2) hx hb dX7_needs_24 (by decide) ?_
      refine lv_goto (tgt := 29) hx hb dX7_needs_25 (by decide) ?_
      exact rr_i hx hb hr hlocks (by unfold needsB; rw [if_pos c_7, if_neg c_21]; rfl) dX7_needs_29
  ·
    refine lv_iconst (v := 3) hx hb dX7_needs_10 (by decide) ?_
    refine lv_goto (tgt := 29) hx hb dX7_needs_11 (by decide) ?_
    exact rr_i hx hb hr hlocks (by unfold needsB; rw [if_neg c_7]; rfl) dX7_needs_29
set_option maxRecDepth 100000 in
set_option maxHeartbeats 4000000 in
theorem c_X8_isAway (l : Launch) (E : EE) {S : St} {th : Int32} {g : Gh} (hI : Inv S) {p9 : Nat} (hp : p9 < S.np) : RM l E yX8_isAway cX8_isAway 2 .boolean (rD 3) [.ref (g.ad 12 0), .int (nI p9)] (RB E S th g) (.int (awayA S p9 (nI S.td))) := by
  refine rm_of rfl (Nat.le_of_ble_eq_true rfl) (fun p e s m below meth c ls hx hb hr hml (hown : s.vm.findClass RX8 = some m.cls) hC hlocks hR hl => ?_)
  have hl : lv_has ls 2 [(0, .ref (g.ad 12 0)), (1, .int (nI p9))] := hl
  refine lv_aload_n hx hb dX8_isAway_0 rfl (lv_at hl 0 rfl) ?_
  refine gf_X8_0 hx hb hown hC (RB.dk hR) (zf_X8_12 hC.1) dX8_isAway_1 ?_
  refine lv_iload_n hx hb dX8_isAway_4 rfl (lv_at hl 1 rfl) ?_
  refine rc_V (As := [.int (nI p9)]) hx hb hml hown hC hl (c_getLB l E 0 rfl hR (by decide) hp) (rec_of hC (RB.ls hR (by decide : 0 < 4)) rfl) (zm_X8_39 hC.1) kv_Jx4a65c_get_915e3 (RB.gp hR 0 (by decide) hp) rfl rfl (rD_le (by decide) (by decide)) ⟨rfl, rfl⟩ (Nat.le_of_ble_eq_true rfl) ⟨Nat.zero_le _, Nat.zero_le _⟩ dX8_isAway_5 ?_
  refine g_cast hx hb hown hC (RB.pe hR hp) rfl (zc_X8_43 hC.1) dX8_isAway_8 ?_
  refine gf_X9_5 hx hb hown hC (RB.pe hR hp) (zf_X8_45 hC.1) dX8_isAway_11 ?_
  refine lv_aload_n hx hb dX8_isAway_14 rfl (lv_at hl 0 rfl) ?_
  refine gf_X8_7 hx hb hown hC (RB.dk hR) (zf_X8_49 hC.1) dX8_isAway_15 ?_
  refine lv_icmp_lt (tgt := 25) hx hb dX8_isAway_18 (by decide) (fun c_18 => ?_) (fun c_18 => ?_)
  ·
    refine lv_iconst (v := 0) hx hb dX8_isAway_25 (by decide) ?_
    exact rr_z hx hb hr hlocks (by decide) (by unfold awayA; rw [if_pos c_18]) dX8_isAway_26
  ·
    refine lv_iconst (v := 1) hx hb dX8_isAway_21 (by decide) ?_
    refine lv_goto (tgt := 26) hx hb dX8_isAway_22 (by decide) ?_
    exact rr_z hx hb hr hlocks (by decide) (by unfold awayA; rw [if_neg c_18]) dX8_isAway_26
