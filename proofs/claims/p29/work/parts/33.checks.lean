set_option maxRecDepth 100000 in
set_option maxHeartbeats 4000000 in
theorem c_X6_personAt (l : Launch) (E : EE) {S : St} {g : Gh} (hI : Inv S) {i : Nat} (hi : i < S.np) : RM l E yX6_personAt cX6_personAt 2 (.object "ApprovalGrid$Person") (rD 3) [.ref (g.ad 1 0), .int (nI i)] (RA E S g) (.ref (g.ad 6 i)) := by
  refine rm_of rfl (Nat.le_of_ble_eq_true rfl) (fun p e s m below meth c ls hx hb hr hml (hown : s.vm.findClass RX6 = some m.cls) hC hlocks hR hl => ?_)
  have hl : lv_has ls 2 [(0, .ref (g.ad 1 0)), (1, .int (nI i))] := hl
  refine lv_iload_n hx hb dX6_personAt_0 rfl (lv_at hl 1 rfl) ?_
  refine lv_if_lt (tgt := 15) hx hb dX6_personAt_1 (by decide) (fun c_1 => ?_) (fun c_1 => ?_)
  · exact absurd c_1 (nI_pos (Nat.lt_trans hi hI.np31))
  ·
    refine lv_iload_n hx hb dX6_personAt_4 rfl (lv_at hl 1 rfl) ?_
    refine lv_aload_n hx hb dX6_personAt_5 rfl (lv_at hl 0 rfl) ?_
    refine gf_X6_0 hx hb hown hC (RA.x hR) (zf_X6_10 hC.1) dX6_personAt_6 ?_
    refine rc_V (As := []) hx hb hml hown hC hl (c_size l E _ _ _ _) (rec_of hC (RA.ls hR (by decide : 0 < 4)) rfl) (zm_X6_51 hC.1) kv_Jx4a65c_size_8abf5 (RA.ls hR (by decide : 0 < 4)) rfl rfl (rD_le (by decide) (by decide)) ⟨rfl, rfl⟩ (Nat.le_of_ble_eq_true rfl) ⟨Nat.zero_le _, Nat.zero_le _⟩ dX6_personAt_9 ?_
    refine lv_icmp_lt (tgt := 26) hx hb dX6_personAt_12 (by decide) (fun c_12 => ?_) (fun c_12 => ?_)
    ·
      refine lv_aload_n hx hb dX6_personAt_26 rfl (lv_at hl 0 rfl) ?_
      refine gf_X6_0 hx hb hown hC (RA.x hR) (zf_X6_10 hC.1) dX6_personAt_27 ?_
      refine lv_iload_n hx hb dX6_personAt_30 rfl (lv_at hl 1 rfl) ?_
      refine rc_V (As := [.int (nI i)]) hx hb hml hown hC hl (c_getL l E 0 rfl hR (by decide) hi) (rec_of hC (RA.ls hR (by decide : 0 < 4)) rfl) (zm_X6_253 hC.1) kv_Jx4a65c_get_915e3 (RA.gp hR 0 (by decide) hi) rfl rfl (rD_le (by decide) (by decide)) ⟨rfl, rfl⟩ (Nat.le_of_ble_eq_true rfl) ⟨Nat.zero_le _, Nat.zero_le _⟩ dX6_personAt_31 ?_
      refine g_cast hx hb hown hC (RA.pe hR hi) rfl (zc_X6_62 hC.1) dX6_personAt_34 ?_
      exact rr_r hx hb hr hlocks rfl dX6_personAt_37
    · exact absurd (nI_lt hi hI.np31) c_12
set_option maxRecDepth 100000 in
set_option maxHeartbeats 4000000 in
theorem t_X6_personAt (l : Launch) (E : EE) {S : St} {g : Gh} (hI : Inv S) (hst : l.stackTraces = false) {n9 : Int32} (hb9 : n9 < 0 ∨ nI (S.np) ≤ n9) : TM l E yX6_personAt cX6_personAt 2 (some (.object "ApprovalGrid$Person")) (tD 3) [.ref (g.ad 1 0), .int (n9)] (RA E S g) "java/lang/IndexOutOfBoundsException" := by
  refine tm_of rfl (Nat.le_of_ble_eq_true rfl) (fun p e s m below meth c ls hx hb hr hml (hown : s.vm.findClass RX6 = some m.cls) hY hZ hnt hlocks hR hl => ?_)
  have hC := hY.1
  have hl : lv_has ls 2 [(0, .ref (g.ad 1 0)), (1, .int (n9))] := hl
  refine lv_iload_n hx hb dX6_personAt_0 rfl (lv_at hl 1 rfl) ?_
  refine lv_if_lt (tgt := 15) hx hb dX6_personAt_1 (by decide) (fun c_1 => ?_) (fun c_1 => ?_)
  ·
    exact xw_IOOBE (is := 322) (text := "no such person") hst hx hb hml hown hY hZ hnt hlocks hl (by decide) dX6_personAt_15 dX6_personAt_18 dX6_personAt_19 dX6_personAt_22 dX6_personAt_25
  ·
    refine lv_iload_n hx hb dX6_personAt_4 rfl (lv_at hl 1 rfl) ?_
    refine lv_aload_n hx hb dX6_personAt_5 rfl (lv_at hl 0 rfl) ?_
    refine gf_X6_0 hx hb hown hC (RA.x hR) (zf_X6_10 hC.1) dX6_personAt_6 ?_
    refine rc_V (As := []) hx hb hml hown hC hl (c_size l E _ _ _ _) (rec_of hC (RA.ls hR (by decide : 0 < 4)) rfl) (zm_X6_51 hC.1) kv_Jx4a65c_size_8abf5 (RA.ls hR (by decide : 0 < 4)) rfl rfl (rtD_le (by decide) (by decide)) ⟨rfl, rfl⟩ (Nat.le_of_ble_eq_true rfl) ⟨Nat.zero_le _, Nat.zero_le _⟩ dX6_personAt_9 ?_
    refine lv_icmp_lt (tgt := 26) hx hb dX6_personAt_12 (by decide) (fun c_12 => ?_) (fun c_12 => ?_)
    · exact absurd c_12 (fun h => hb9.elim c_1 (i_ltle h))
    ·
      exact xw_IOOBE (is := 322) (text := "no such person") hst hx hb hml hown hY hZ hnt hlocks hl (by decide) dX6_personAt_15 dX6_personAt_18 dX6_personAt_19 dX6_personAt_22 dX6_personAt_25
set_option maxRecDepth 100000 in
set_option maxHeartbeats 4000000 in
theorem c_X6_chargeAt (l : Launch) (E : EE) {S : St} {g : Gh} (hI : Inv S) {i : Nat} (hi : i < S.nc) : RM l E yX6_chargeAt cX6_chargeAt 2 (.object "ApprovalGrid$Charge") (rD 3) [.ref (g.ad 1 0), .int (nI i)] (RA E S g) (.ref (g.ad 8 i)) := by
  refine rm_of rfl (Nat.le_of_ble_eq_true rfl) (fun p e s m below meth c ls hx hb hr hml (hown : s.vm.findClass RX6 = some m.cls) hC hlocks hR hl => ?_)
  have hl : lv_has ls 2 [(0, .ref (g.ad 1 0)), (1, .int (nI i))] := hl
  refine lv_iload_n hx hb dX6_chargeAt_0 rfl (lv_at hl 1 rfl) ?_
  refine lv_if_lt (tgt := 15) hx hb dX6_chargeAt_1 (by decide) (fun c_1 => ?_) (fun c_1 => ?_)
  · exact absurd c_1 (nI_pos (Nat.lt_trans hi hI.nc31))
  ·
    refine lv_iload_n hx hb dX6_chargeAt_4 rfl (lv_at hl 1 rfl) ?_
    refine lv_aload_n hx hb dX6_chargeAt_5 rfl (lv_at hl 0 rfl) ?_
    refine gf_X6_2 hx hb hown hC (RA.x hR) (zf_X6_19 hC.1) dX6_chargeAt_6 ?_
    refine rc_V (As := []) hx hb hml hown hC hl (c_size l E _ _ _ _) (rec_of hC (RA.ls hR (by decide : 2 < 4)) rfl) (zm_X6_51 hC.1) kv_Jx4a65c_size_8abf5 (RA.ls hR (by decide : 2 < 4)) rfl rfl (rD_le (by decide) (by decide)) ⟨rfl, rfl⟩ (Nat.le_of_ble_eq_true rfl) ⟨Nat.zero_le _, Nat.zero_le _⟩ dX6_chargeAt_9 ?_
    refine lv_icmp_lt (tgt := 26) hx hb dX6_chargeAt_12 (by decide) (fun c_12 => ?_) (fun c_12 => ?_)
    ·
      refine lv_aload_n hx hb dX6_chargeAt_26 rfl (lv_at hl 0 rfl) ?_
      refine gf_X6_2 hx hb hown hC (RA.x hR) (zf_X6_19 hC.1) dX6_chargeAt_27 ?_
      refine lv_iload_n hx hb dX6_chargeAt_30 rfl (lv_at hl 1 rfl) ?_
      refine rc_V (As := [.int (nI i)]) hx hb hml hown hC hl (c_getL l E 2 rfl hR (by decide) hi) (rec_of hC (RA.ls hR (by decide : 2 < 4)) rfl) (zm_X6_253 hC.1) kv_Jx4a65c_get_915e3 (RA.gp hR 2 (by decide) hi) rfl rfl (rD_le (by decide) (by decide)) ⟨rfl, rfl⟩ (Nat.le_of_ble_eq_true rfl) ⟨Nat.zero_le _, Nat.zero_le _⟩ dX6_chargeAt_31 ?_
      refine g_cast hx hb hown hC (RA.ch hR hi) rfl (zc_X6_155 hC.1) dX6_chargeAt_34 ?_
      exact rr_r hx hb hr hlocks rfl dX6_chargeAt_37
    · exact absurd (nI_lt hi hI.nc31) c_12
set_option maxRecDepth 100000 in
set_option maxHeartbeats 4000000 in
theorem t_X6_chargeAt (l : Launch) (E : EE) {S : St} {g : Gh} (hI : Inv S) (hst : l.stackTraces = false) {n9 : Int32} (hb9 : n9 < 0 ∨ nI (S.nc) ≤ n9) : TM l E yX6_chargeAt cX6_chargeAt 2 (some (.object "ApprovalGrid$Charge")) (tD 3) [.ref (g.ad 1 0), .int (n9)] (RA E S g) "java/lang/IndexOutOfBoundsException" := by
  refine tm_of rfl (Nat.le_of_ble_eq_true rfl) (fun p e s m below meth c ls hx hb hr hml (hown : s.vm.findClass RX6 = some m.cls) hY hZ hnt hlocks hR hl => ?_)
  have hC := hY.1
  have hl : lv_has ls 2 [(0, .ref (g.ad 1 0)), (1, .int (n9))] := hl
  refine lv_iload_n hx hb dX6_chargeAt_0 rfl (lv_at hl 1 rfl) ?_
  refine lv_if_lt (tgt := 15) hx hb dX6_chargeAt_1 (by decide) (fun c_1 => ?_) (fun c_1 => ?_)
  ·
    exact xw_IOOBE (is := 325) (text := "no such charge") hst hx hb hml hown hY hZ hnt hlocks hl (by decide) dX6_chargeAt_15 dX6_chargeAt_18 dX6_chargeAt_19 dX6_chargeAt_22 dX6_chargeAt_25
  ·
    refine lv_iload_n hx hb dX6_chargeAt_4 rfl (lv_at hl 1 rfl) ?_
    refine lv_aload_n hx hb dX6_chargeAt_5 rfl (lv_at hl 0 rfl) ?_
    refine gf_X6_2 hx hb hown hC (RA.x hR) (zf_X6_19 hC.1) dX6_chargeAt_6 ?_
    refine rc_V (As := []) hx hb hml hown hC hl (c_size l E _ _ _ _) (rec_of hC (RA.ls hR (by decide : 2 < 4)) rfl) (zm_X6_51 hC.1) kv_Jx4a65c_size_8abf5 (RA.ls hR (by decide : 2 < 4)) rfl rfl (rtD_le (by decide) (by decide)) ⟨rfl, rfl⟩ (Nat.le_of_ble_eq_true rfl) ⟨Nat.zero_le _, Nat.zero_le _⟩ dX6_chargeAt_9 ?_
    refine lv_icmp_lt (tgt := 26) hx hb dX6_chargeAt_12 (by decide) (fun c_12 => ?_) (fun c_12 => ?_)
    · exact absurd c_12 (fun h => hb9.elim c_1 (i_ltle h))
    ·
      exact xw_IOOBE (is := 325) (text := "no such charge") hst hx hb hml hown hY hZ hnt hlocks hl (by decide) dX6_chargeAt_15 dX6_chargeAt_18 dX6_chargeAt_19 dX6_chargeAt_22 dX6_chargeAt_25
set_option maxRecDepth 100000 in
set_option maxHeartbeats 4000000 in
theorem c_X6_receiptAt (l : Launch) (E : EE) {S : St} {g : Gh} (hI : Inv S) {i : Nat} (hi : i < S.nr) : RM l E yX6_receiptAt cX6_receiptAt 2 (.object "ApprovalGrid$Receipt") (rD 3) [.ref (g.ad 1 0), .int (nI i)] (RA E S g) (.ref (g.ad 9 i)) := by
  refine rm_of rfl (Nat.le_of_ble_eq_true rfl) (fun p e s m below meth c ls hx hb hr hml (hown : s.vm.findClass RX6 = some m.cls) hC hlocks hR hl => ?_)
  have hl : lv_has ls 2 [(0, .ref (g.ad 1 0)), (1, .int (nI i))] := hl
  refine lv_iload_n hx hb dX6_receiptAt_0 rfl (lv_at hl 1 rfl) ?_
  refine lv_if_lt (tgt := 15) hx hb dX6_receiptAt_1 (by decide) (fun c_1 => ?_) (fun c_1 => ?_)
  · exact absurd c_1 (nI_pos (Nat.lt_trans hi hI.nr31))
  ·
    refine lv_iload_n hx hb dX6_receiptAt_4 rfl (lv_at hl 1 rfl) ?_
    refine lv_aload_n hx hb dX6_receiptAt_5 rfl (lv_at hl 0 rfl) ?_
    refine gf_X6_3 hx hb hown hC (RA.x hR) (zf_X6_22 hC.1) dX6_receiptAt_6 ?_
    refine rc_V (As := []) hx hb hml hown hC hl (c_size l E _ _ _ _) (rec_of hC (RA.ls hR (by decide : 3 < 4)) rfl) (zm_X6_51 hC.1) kv_Jx4a65c_size_8abf5 (RA.ls hR (by decide : 3 < 4)) rfl rfl (rD_le (by decide) (by decide)) ⟨rfl, rfl⟩ (Nat.le_of_ble_eq_true rfl) ⟨Nat.zero_le _, Nat.zero_le _⟩ dX6_receiptAt_9 ?_
    refine lv_icmp_lt (tgt := 26) hx hb dX6_receiptAt_12 (by decide) (fun c_12 => ?_) (fun c_12 => ?_)
    ·
      refine lv_aload_n hx hb dX6_receiptAt_26 rfl (lv_at hl 0 rfl) ?_
      refine gf_X6_3 hx hb hown hC (RA.x hR) (zf_X6_22 hC.1) dX6_receiptAt_27 ?_
      refine lv_iload_n hx hb dX6_receiptAt_30 rfl (lv_at hl 1 rfl) ?_
      refine rc_V (As := [.int (nI i)]) hx hb hml hown hC hl (c_getL l E 3 rfl hR (by decide) hi) (rec_of hC (RA.ls hR (by decide : 3 < 4)) rfl) (zm_X6_253 hC.1) kv_Jx4a65c_get_915e3 (RA.gp hR 3 (by decide) hi) rfl rfl (rD_le (by decide) (by decide)) ⟨rfl, rfl⟩ (Nat.le_of_ble_eq_true rfl) ⟨Nat.zero_le _, Nat.zero_le _⟩ dX6_receiptAt_31 ?_
      refine g_cast hx hb hown hC (RA.re hR hi) rfl (zc_X6_177 hC.1) dX6_receiptAt_34 ?_
      exact rr_r hx hb hr hlocks rfl dX6_receiptAt_37
    · exact absurd (nI_lt hi hI.nr31) c_12
set_option maxRecDepth 100000 in
set_option maxHeartbeats 4000000 in
theorem t_X6_receiptAt (l : Launch) (E : EE) {S : St} {g : Gh} (hI : Inv S) (hst : l.stackTraces = false) {n9 : Int32} (hb9 : n9 < 0 ∨ nI (S.nr) ≤ n9) : TM l E yX6_receiptAt cX6_receiptAt 2 (some (.object "ApprovalGrid$Receipt")) (tD 3) [.ref (g.ad 1 0), .int (n9)] (RA E S g) "java/lang/IndexOutOfBoundsException" := by
  refine tm_of rfl (Nat.le_of_ble_eq_true rfl) (fun p e s m below meth c ls hx hb hr hml (hown : s.vm.findClass RX6 = some m.cls) hY hZ hnt hlocks hR hl => ?_)
  have hC := hY.1
  have hl : lv_has ls 2 [(0, .ref (g.ad 1 0)), (1, .int (n9))] := hl
  refine lv_iload_n hx hb dX6_receiptAt_0 rfl (lv_at hl 1 rfl) ?_
  refine lv_if_lt (tgt := 15) hx hb dX6_receiptAt_1 (by decide) (fun c_1 => ?_) (fun c_1 => ?_)
  ·
    exact xw_IOOBE (is := 327) (text := "no such receipt") hst hx hb hml hown hY hZ hnt hlocks hl (by decide) dX6_receiptAt_15 dX6_receiptAt_18 dX6_receiptAt_19 dX6_receiptAt_22 dX6_receiptAt_25
  ·
    refine lv_iload_n hx hb dX6_receiptAt_4 rfl (lv_at hl 1 rfl) ?_
    refine lv_aload_n hx hb dX6_receiptAt_5 rfl (lv_at hl 0 rfl) ?_
    refine gf_X6_3 hx hb hown hC (RA.x hR) (zf_X6_22 hC.1) dX6_receiptAt_6 ?_
    refine rc_V (As := []) hx hb hml hown hC hl (c_size l E _ _ _ _) (rec_of hC (RA.ls hR (by decide : 3 < 4)) rfl) (zm_X6_51 hC.1) kv_Jx4a65c_size_8abf5 (RA.ls hR (by decide : 3 < 4)) rfl rfl (rtD_le (by decide) (by decide)) ⟨rfl, rfl⟩ (Nat.le_of_ble_eq_true rfl) ⟨Nat.zero_le _, Nat.zero_le _⟩ dX6_receiptAt_9 ?_
    refine lv_icmp_lt (tgt := 26) hx hb dX6_receiptAt_12 (by decide) (fun c_12 => ?_) (fun c_12 => ?_)
    · exact absurd c_12 (fun h => hb9.elim c_1 (i_ltle h))
    ·
      exact xw_IOOBE (is := 327) (text := "no such receipt") hst hx hb hml hown hY hZ hnt hlocks hl (by decide) dX6_receiptAt_15 dX6_receiptAt_18 dX6_receiptAt_19 dX6_receiptAt_22 dX6_receiptAt_25
set_option maxRecDepth 100000 in
set_option maxHeartbeats 4000000 in
theorem c_X6_checkKind (l : Launch) (E : EE) {S : St} {g : Gh} (hI : Inv S) {k9 : Nat} (hk : k9 < 4) : RM0 l E yX6_checkKind cX6_checkKind 1 (rD 0) [.int (nI k9)] (RA E S g) := by
  refine rm0_of rfl (Nat.le_of_ble_eq_true rfl) (fun p e s m below meth c ls hx hb hr hml (hown : s.vm.findClass RX6 = some m.cls) hC hlocks hR hl => ?_)
  have hl : lv_has ls 1 [(0, .int (nI k9))] := hl
  refine lv_iload_n hx hb dX6_checkKind_0 rfl (lv_at hl 0 rfl) ?_
  refine lv_if_lt (tgt := 9) hx hb dX6_checkKind_1 (by decide) (fun c_1 => ?_) (fun c_1 => ?_)
  · exact absurd c_1 (nI_pos (by omega))
  ·
    refine lv_iload_n hx hb dX6_checkKind_4 rfl (lv_at hl 0 rfl) ?_
    refine lv_iconst (v := 4) hx hb dX6_checkKind_5 (by decide) ?_
    refine lv_icmp_lt (tgt := 20) hx hb dX6_checkKind_6 (by decide) (fun c_6 => ?_) (fun c_6 => ?_)
    ·
      exact rr_v hx hb hr hlocks dX6_checkKind_20
    · exact absurd (show nI k9 < nI 4 from nI_lt hk (by decide)) c_6
set_option maxRecDepth 100000 in
set_option maxHeartbeats 4000000 in
theorem t_X6_checkKind (l : Launch) (E : EE) {S : St} {g : Gh} (hI : Inv S) (hst : l.stackTraces = false) {n9 : Int32} (hb9 : n9 < 0 ∨ 4 ≤ n9) : TM l E yX6_checkKind cX6_checkKind 1 (none) (tD 0) [.int (n9)] (RA E S g) "java/lang/IndexOutOfBoundsException" := by
  refine tm_of rfl (Nat.le_of_ble_eq_true rfl) (fun p e s m below meth c ls hx hb hr hml (hown : s.vm.findClass RX6 = some m.cls) hY hZ hnt hlocks hR hl => ?_)
  have hC := hY.1
  have hl : lv_has ls 1 [(0, .int (n9))] := hl
  refine lv_iload_n hx hb dX6_checkKind_0 rfl (lv_at hl 0 rfl) ?_
  refine lv_if_lt (tgt := 9) hx hb dX6_checkKind_1 (by decide) (fun c_1 => ?_) (fun c_1 => ?_)
  ·
    exact xw_IOOBE (is := 329) (text := "no such kind") hst hx hb hml hown hY hZ hnt hlocks hl (by decide) dX6_checkKind_9 dX6_checkKind_12 dX6_checkKind_13 dX6_checkKind_16 dX6_checkKind_19
  ·
    refine lv_iload_n hx hb dX6_checkKind_4 rfl (lv_at hl 0 rfl) ?_
    refine lv_iconst (v := 4) hx hb dX6_checkKind_5 (by decide) ?_
    refine lv_icmp_lt (tgt := 20) hx hb dX6_checkKind_6 (by decide) (fun c_6 => ?_) (fun c_6 => ?_)
    · exact absurd c_6 (fun h => hb9.elim c_1 (i_ltle h))
    ·
      exact xw_IOOBE (is := 329) (text := "no such kind") hst hx hb hml hown hY hZ hnt hlocks hl (by decide) dX6_checkKind_9 dX6_checkKind_12 dX6_checkKind_13 dX6_checkKind_16 dX6_checkKind_19
set_option maxRecDepth 100000 in
set_option maxHeartbeats 4000000 in
theorem c_X6_checkLand (l : Launch) (E : EE) {S : St} {g : Gh} (hI : Inv S) {k9 : Nat} (hk : k9 < 3) : RM0 l E yX6_checkLand cX6_checkLand 1 (rD 0) [.int (nI k9)] (RA E S g) := by
  refine rm0_of rfl (Nat.le_of_ble_eq_true rfl) (fun p e s m below meth c ls hx hb hr hml (hown : s.vm.findClass RX6 = some m.cls) hC hlocks hR hl => ?_)
  have hl : lv_has ls 1 [(0, .int (nI k9))] := hl
  refine lv_iload_n hx hb dX6_checkLand_0 rfl (lv_at hl 0 rfl) ?_
  refine lv_if_lt (tgt := 9) hx hb dX6_checkLand_1 (by decide) (fun c_1 => ?_) (fun c_1 => ?_)
  · exact absurd c_1 (nI_pos (by omega))
  ·
    refine lv_iload_n hx hb dX6_checkLand_4 rfl (lv_at hl 0 rfl) ?_
    refine lv_iconst (v := 3) hx hb dX6_checkLand_5 (by decide) ?_
    refine lv_icmp_lt (tgt := 20) hx hb dX6_checkLand_6 (by decide) (fun c_6 => ?_) (fun c_6 => ?_)
    ·
      exact rr_v hx hb hr hlocks dX6_checkLand_20
    · exact absurd (show nI k9 < nI 3 from nI_lt hk (by decide)) c_6
set_option maxRecDepth 100000 in
set_option maxHeartbeats 4000000 in
theorem t_X6_checkLand (l : Launch) (E : EE) {S : St} {g : Gh} (hI : Inv S) (hst : l.stackTraces = false) {n9 : Int32} (hb9 : n9 < 0 ∨ 3 ≤ n9) : TM l E yX6_checkLand cX6_checkLand 1 (none) (tD 0) [.int (n9)] (RA E S g) "java/lang/IndexOutOfBoundsException" := by
  refine tm_of rfl (Nat.le_of_ble_eq_true rfl) (fun p e s m below meth c ls hx hb hr hml (hown : s.vm.findClass RX6 = some m.cls) hY hZ hnt hlocks hR hl => ?_)
  have hC := hY.1
  have hl : lv_has ls 1 [(0, .int (n9))] := hl
  refine lv_iload_n hx hb dX6_checkLand_0 rfl (lv_at hl 0 rfl) ?_
  refine lv_if_lt (tgt := 9) hx hb dX6_checkLand_1 (by decide) (fun c_1 => ?_) (fun c_1 => ?_)
  ·
    exact xw_IOOBE (is := 331) (text := "no such land") hst hx hb hml hown hY hZ hnt hlocks hl (by decide) dX6_checkLand_9 dX6_checkLand_12 dX6_checkLand_13 dX6_checkLand_16 dX6_checkLand_19
  ·
    refine lv_iload_n hx hb dX6_checkLand_4 rfl (lv_at hl 0 rfl) ?_
    refine lv_iconst (v := 3) hx hb dX6_checkLand_5 (by decide) ?_
    refine lv_icmp_lt (tgt := 20) hx hb dX6_checkLand_6 (by decide) (fun c_6 => ?_) (fun c_6 => ?_)
    · exact absurd c_6 (fun h => hb9.elim c_1 (i_ltle h))
    ·
      exact xw_IOOBE (is := 331) (text := "no such land") hst hx hb hml hown hY hZ hnt hlocks hl (by decide) dX6_checkLand_9 dX6_checkLand_12 dX6_checkLand_13 dX6_checkLand_16 dX6_checkLand_19
set_option maxRecDepth 100000 in
set_option maxHeartbeats 4000000 in
theorem c_X6_checkPeriod (l : Launch) (E : EE) {S : St} {g : Gh} (hI : Inv S) {k9 : Nat} (hk : k9 < 4) : RM0 l E yX6_checkPeriod cX6_checkPeriod 1 (rD 0) [.int (nI k9)] (RA E S g) := by
  refine rm0_of rfl (Nat.le_of_ble_eq_true rfl) (fun p e s m below meth c ls hx hb hr hml (hown : s.vm.findClass RX6 = some m.cls) hC hlocks hR hl => ?_)
  have hl : lv_has ls 1 [(0, .int (nI k9))] := hl
  refine lv_iload_n hx hb dX6_checkPeriod_0 rfl (lv_at hl 0 rfl) ?_
  refine lv_if_lt (tgt := 9) hx hb dX6_checkPeriod_1 (by decide) (fun c_1 => ?_) (fun c_1 => ?_)
  · exact absurd c_1 (nI_pos (by omega))
  ·
    refine lv_iload_n hx hb dX6_checkPeriod_4 rfl (lv_at hl 0 rfl) ?_
    refine lv_iconst (v := 4) hx hb dX6_checkPeriod_5 (by decide) ?_
    refine lv_icmp_lt (tgt := 20) hx hb dX6_checkPeriod_6 (by decide) (fun c_6 => ?_) (fun c_6 => ?_)
    ·
      exact rr_v hx hb hr hlocks dX6_checkPeriod_20
    · exact absurd (show nI k9 < nI 4 from nI_lt hk (by decide)) c_6
set_option maxRecDepth 100000 in
set_option maxHeartbeats 4000000 in
theorem t_X6_checkPeriod (l : Launch) (E : EE) {S : St} {g : Gh} (hI : Inv S) (hst : l.stackTraces = false) {n9 : Int32} (hb9 : n9 < 0 ∨ 4 ≤ n9) : TM l E yX6_checkPeriod cX6_checkPeriod 1 (none) (tD 0) [.int (n9)] (RA E S g) "java/lang/IndexOutOfBoundsException" := by
  refine tm_of rfl (Nat.le_of_ble_eq_true rfl) (fun p e s m below meth c ls hx hb hr hml (hown : s.vm.findClass RX6 = some m.cls) hY hZ hnt hlocks hR hl => ?_)
  have hC := hY.1
  have hl : lv_has ls 1 [(0, .int (n9))] := hl
  refine lv_iload_n hx hb dX6_checkPeriod_0 rfl (lv_at hl 0 rfl) ?_
  refine lv_if_lt (tgt := 9) hx hb dX6_checkPeriod_1 (by decide) (fun c_1 => ?_) (fun c_1 => ?_)
  ·
    exact xw_IOOBE (is := 333) (text := "no such period") hst hx hb hml hown hY hZ hnt hlocks hl (by decide) dX6_checkPeriod_9 dX6_checkPeriod_12 dX6_checkPeriod_13 dX6_checkPeriod_16 dX6_checkPeriod_19
  ·
    refine lv_iload_n hx hb dX6_checkPeriod_4 rfl (lv_at hl 0 rfl) ?_
    refine lv_iconst (v := 4) hx hb dX6_checkPeriod_5 (by decide) ?_
    refine lv_icmp_lt (tgt := 20) hx hb dX6_checkPeriod_6 (by decide) (fun c_6 => ?_) (fun c_6 => ?_)
    · exact absurd c_6 (fun h => hb9.elim c_1 (i_ltle h))
    ·
      exact xw_IOOBE (is := 333) (text := "no such period") hst hx hb hml hown hY hZ hnt hlocks hl (by decide) dX6_checkPeriod_9 dX6_checkPeriod_12 dX6_checkPeriod_13 dX6_checkPeriod_16 dX6_checkPeriod_19
set_option maxRecDepth 100000 in
set_option maxHeartbeats 4000000 in
theorem c_X6_checkRange (l : Launch) (E : EE) {S : St} {g : Gh} (hI : Inv S) {v a b : Int32} (h1 : ¬ v < a) (h2 : ¬ b < v) : RM0 l E yX6_checkRange cX6_checkRange 3 (rD 0) [.int (v), .int (a), .int (b)] (RA E S g) := by
  refine rm0_of rfl (Nat.le_of_ble_eq_true rfl) (fun p e s m below meth c ls hx hb hr hml (hown : s.vm.findClass RX6 = some m.cls) hC hlocks hR hl => ?_)
  have hl : lv_has ls 3 [(0, .int (v)), (1, .int (a)), (2, .int (b))] := hl
  refine lv_iload_n hx hb dX6_checkRange_0 rfl (lv_at hl 0 rfl) ?_
  refine lv_iload_n hx hb dX6_checkRange_1 rfl (lv_at hl 1 rfl) ?_
  refine lv_icmp_lt (tgt := 10) hx hb dX6_checkRange_2 (by decide) (fun c_2 => ?_) (fun c_2 => ?_)
  · exact absurd c_2 h1
  ·
    refine lv_iload_n hx hb dX6_checkRange_5 rfl (lv_at hl 0 rfl) ?_
    refine lv_iload_n hx hb dX6_checkRange_6 rfl (lv_at hl 2 rfl) ?_
    refine lv_icmp_le (tgt := 21) hx hb dX6_checkRange_7 (by decide) (fun c_7 => ?_) (fun c_7 => ?_)
    ·
      exact rr_v hx hb hr hlocks dX6_checkRange_21
    · exact absurd c_7 (fun h => h2 (i_nle h))
set_option maxRecDepth 100000 in
set_option maxHeartbeats 4000000 in
theorem t_X6_checkRange (l : Launch) (E : EE) {S : St} {g : Gh} (hI : Inv S) (hst : l.stackTraces = false) {v a b : Int32} (hb9 : v < a ∨ b < v) : TM l E yX6_checkRange cX6_checkRange 3 (none) (tD 0) [.int (v), .int (a), .int (b)] (RA E S g) "java/lang/IllegalArgumentException" := by
  refine tm_of rfl (Nat.le_of_ble_eq_true rfl) (fun p e s m below meth c ls hx hb hr hml (hown : s.vm.findClass RX6 = some m.cls) hY hZ hnt hlocks hR hl => ?_)
  have hC := hY.1
  have hl : lv_has ls 3 [(0, .int (v)), (1, .int (a)), (2, .int (b))] := hl
  refine lv_iload_n hx hb dX6_checkRange_0 rfl (lv_at hl 0 rfl) ?_
  refine lv_iload_n hx hb dX6_checkRange_1 rfl (lv_at hl 1 rfl) ?_
  refine lv_icmp_lt (tgt := 10) hx hb dX6_checkRange_2 (by decide) (fun c_2 => ?_) (fun c_2 => ?_)
  ·
    exact xw_IAE (is := 335) (text := "a value is out of its range") hst hx hb hml hown hY hZ hnt hlocks hl (by decide) dX6_checkRange_10 dX6_checkRange_13 dX6_checkRange_14 dX6_checkRange_17 dX6_checkRange_20
  ·
    refine lv_iload_n hx hb dX6_checkRange_5 rfl (lv_at hl 0 rfl) ?_
    refine lv_iload_n hx hb dX6_checkRange_6 rfl (lv_at hl 2 rfl) ?_
    refine lv_icmp_le (tgt := 21) hx hb dX6_checkRange_7 (by decide) (fun c_7 => ?_) (fun c_7 => ?_)
    · exact absurd c_7 (fun h => hb9.elim c_2 (fun h9 => i_ltle h9 h))
    ·
      exact xw_IAE (is := 335) (text := "a value is out of its range") hst hx hb hml hown hY hZ hnt hlocks hl (by decide) dX6_checkRange_10 dX6_checkRange_13 dX6_checkRange_14 dX6_checkRange_17 dX6_checkRange_20

