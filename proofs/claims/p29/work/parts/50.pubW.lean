set_option maxRecDepth 100000 in
set_option maxHeartbeats 4000000 in
theorem c_X6_checkReceipt (l : Launch) (E : EE) {S : St} {g : Gh} (hI : Inv S) {am dy tx : Int32} (h1 : ¬ am < 1) (h2 : ¬ 9999 < am) (h3 : ¬ dy < 0) (h4 : ¬ 119 < dy) (h5 : ¬ tx < 0) (h6 : ¬ 9 < tx) : RM0 l E yX6_checkReceipt cX6_checkReceipt 3 (rD 1) [.int (am), .int (dy), .int (tx)] (RA E S g) := by
  refine rm0_of rfl (Nat.le_of_ble_eq_true rfl) (fun p e s m below meth c ls hx hb hr hml (hown : s.vm.findClass RX6 = some m.cls) hC hlocks hR hl => ?_)
  have hl : lv_has ls 3 [(0, .int (am)), (1, .int (dy)), (2, .int (tx))] := hl
  refine lv_iload_n hx hb dX6_checkReceipt_0 rfl (lv_at hl 0 rfl) ?_
  refine lv_iconst (v := 1) hx hb dX6_checkReceipt_1 (by decide) ?_
  refine lv_sipush (v := 9999) hx hb dX6_checkReceipt_2 (by decide) ?_
  refine rc_S0 (As := [.int (am), .int (1), .int (9999)]) hx hb hml hown hC hl (c_X6_checkRange l E hI h1 h2) (zm_X6_78 hC.1) kv_X6_checkRange hR rfl rfl (rD_le (by decide) (by decide)) ⟨rfl, rfl⟩ (Nat.le_of_ble_eq_true rfl) ⟨Nat.zero_le _, Nat.zero_le _⟩ dX6_checkReceipt_5 ?_
  refine lv_iload_n hx hb dX6_checkReceipt_8 rfl (lv_at hl 1 rfl) ?_
  refine lv_iconst (v := 0) hx hb dX6_checkReceipt_9 (by decide) ?_
  refine lv_bipush (v := 119) hx hb dX6_checkReceipt_10 (by decide) ?_
  refine rc_S0 (As := [.int (dy), .int (0), .int (119)]) hx hb hml hown hC hl (c_X6_checkRange l E hI h3 h4) (zm_X6_78 hC.1) kv_X6_checkRange hR rfl rfl (rD_le (by decide) (by decide)) ⟨rfl, rfl⟩ (Nat.le_of_ble_eq_true rfl) ⟨Nat.zero_le _, Nat.zero_le _⟩ dX6_checkReceipt_12 ?_
  refine lv_iload_n hx hb dX6_checkReceipt_15 rfl (lv_at hl 2 rfl) ?_
  refine lv_iconst (v := 0) hx hb dX6_checkReceipt_16 (by decide) ?_
  refine lv_bipush (v := 9) hx hb dX6_checkReceipt_17 (by decide) ?_
  refine rc_S0 (As := [.int (tx), .int (0), .int (9)]) hx hb hml hown hC hl (c_X6_checkRange l E hI h5 h6) (zm_X6_78 hC.1) kv_X6_checkRange hR rfl rfl (rD_le (by decide) (by decide)) ⟨rfl, rfl⟩ (Nat.le_of_ble_eq_true rfl) ⟨Nat.zero_le _, Nat.zero_le _⟩ dX6_checkReceipt_19 ?_
  exact rr_v hx hb hr hlocks dX6_checkReceipt_22
set_option maxRecDepth 100000 in
set_option maxHeartbeats 4000000 in
theorem c_X6_checkState (l : Launch) (E : EE) {S : St} {g : Gh} (hI : Inv S) {c9 : Nat} (hc : c9 < S.nc) {w9 : Int32} (hs : S.cs c9 = w9) : RM0 l E yX6_checkState cX6_checkState 2 (rD 0) [.ref (g.ad 8 (c9)), .int (w9)] (RA E S g) := by
  refine rm0_of rfl (Nat.le_of_ble_eq_true rfl) (fun p e s m below meth c ls hx hb hr hml (hown : s.vm.findClass RX6 = some m.cls) hC hlocks hR hl => ?_)
  have hl : lv_has ls 2 [(0, .ref (g.ad 8 (c9))), (1, .int (w9))] := hl
  refine lv_aload_n hx hb dX6_checkState_0 rfl (lv_at hl 0 rfl) ?_
  refine gf_X0_8 hx hb hown hC (RA.ch hR hc) (zf_X6_197 hC.1) dX6_checkState_1 ?_
  refine lv_iload_n hx hb dX6_checkState_4 rfl (lv_at hl 1 rfl) ?_
  refine lv_icmp_eq (tgt := 19) hx hb dX6_checkState_5 (by decide) (fun c_5 => ?_) (fun c_5 => ?_)
  ·
    exact rr_v hx hb hr hlocks dX6_checkState_19
  · exact absurd hs c_5
set_option maxRecDepth 100000 in
set_option maxHeartbeats 4000000 in
theorem t_X6_checkState (l : Launch) (E : EE) {S : St} {g : Gh} (hI : Inv S) (hst : l.stackTraces = false) {c9 : Nat} (hc : c9 < S.nc) {w9 : Int32} (hs : ¬ S.cs c9 = w9) : TM l E yX6_checkState cX6_checkState 2 (none) (tD 0) [.ref (g.ad 8 (c9)), .int (w9)] (RA E S g) "java/lang/IllegalStateException" := by
  refine tm_of rfl (Nat.le_of_ble_eq_true rfl) (fun p e s m below meth c ls hx hb hr hml (hown : s.vm.findClass RX6 = some m.cls) hY hZ hnt hlocks hR hl => ?_)
  have hC := hY.1
  have hl : lv_has ls 2 [(0, .ref (g.ad 8 (c9))), (1, .int (w9))] := hl
  refine lv_aload_n hx hb dX6_checkState_0 rfl (lv_at hl 0 rfl) ?_
  refine gf_X0_8 hx hb hown hC (RA.ch hR hc) (zf_X6_197 hC.1) dX6_checkState_1 ?_
  refine lv_iload_n hx hb dX6_checkState_4 rfl (lv_at hl 1 rfl) ?_
  refine lv_icmp_eq (tgt := 19) hx hb dX6_checkState_5 (by decide) (fun c_5 => ?_) (fun c_5 => ?_)
  · exact absurd c_5 hs
  ·
    exact xw_ISE (is := 337) (text := "the charge is in another state") hst hx hb hml hown hY hZ hnt hlocks hl (by decide) dX6_checkState_8 dX6_checkState_11 dX6_checkState_12 dX6_checkState_15 dX6_checkState_18
set_option maxRecDepth 100000 in
set_option maxHeartbeats 4000000 in
theorem c_X6_checkNextApprover (l : Launch) (E : EE) {S : St} {g : Gh} (hI : Inv S) {c9 : Nat} (hc : c9 < S.nc) {p9 : Nat} (hp : p9 < S.np) (hs : apprA S c9 = some p9) : RM0 l E yX6_checkNextApprover cX6_checkNextApprover 3 (rD 4) [.ref (g.ad 1 0), .ref (g.ad 8 (c9)), .ref (g.ad 6 (p9))] (RA E S g) := by
  refine rm0_of rfl (Nat.le_of_ble_eq_true rfl) (fun p e s m below meth c ls hx hb hr hml (hown : s.vm.findClass RX6 = some m.cls) hC hlocks hR hl => ?_)
  have hl : lv_has ls 3 [(0, .ref (g.ad 1 0)), (1, .ref (g.ad 8 (c9))), (2, .ref (g.ad 6 (p9)))] := hl
  refine lv_aload_n hx hb dX6_checkNextApprover_0 rfl (lv_at hl 0 rfl) ?_
  refine lv_aload_n hx hb dX6_checkNextApprover_1 rfl (lv_at hl 1 rfl) ?_
  refine rc_V (As := [.ref (g.ad 8 (c9))]) hx hb hml hown hC hl (c_X6_nextApproverOf l E hI hc) (rec_of hC (RA.x hR) rfl) (zm_X6_235 hC.1) kv_X6_nextApproverOf hR rfl rfl (rD_le (by decide) (by decide)) ⟨rfl, rfl⟩ (Nat.le_of_ble_eq_true rfl) ⟨Nat.zero_le _, Nat.zero_le _⟩ dX6_checkNextApprover_2 ?_
  refine lv_aload_n hx hb dX6_checkNextApprover_5 rfl (lv_at hl 2 rfl) ?_
  refine lw_acmpo_eq (o := apprA S (c9)) (j := p9) (tgt := 20) hx hb (RA.iffo hR 6 (fun i h => (apprA_lt hI hc h)) hp) dX6_checkNextApprover_6 (by decide) (fun c_6 => ?_) (fun c_6 => ?_)
  ·
    exact rr_v hx hb hr hlocks dX6_checkNextApprover_20
  · exact absurd hs c_6
set_option maxRecDepth 100000 in
set_option maxHeartbeats 4000000 in
theorem t_X6_checkNextApprover (l : Launch) (E : EE) {S : St} {g : Gh} (hI : Inv S) (hst : l.stackTraces = false) {c9 : Nat} (hc : c9 < S.nc) {p9 : Nat} (hp : p9 < S.np) (hs : ¬ apprA S c9 = some p9) : TM l E yX6_checkNextApprover cX6_checkNextApprover 3 (none) (tD 4) [.ref (g.ad 1 0), .ref (g.ad 8 (c9)), .ref (g.ad 6 (p9))] (RA E S g) "java/lang/IllegalStateException" := by
  refine tm_of rfl (Nat.le_of_ble_eq_true rfl) (fun p e s m below meth c ls hx hb hr hml (hown : s.vm.findClass RX6 = some m.cls) hY hZ hnt hlocks hR hl => ?_)
  have hC := hY.1
  have hl : lv_has ls 3 [(0, .ref (g.ad 1 0)), (1, .ref (g.ad 8 (c9))), (2, .ref (g.ad 6 (p9)))] := hl
  refine lv_aload_n hx hb dX6_checkNextApprover_0 rfl (lv_at hl 0 rfl) ?_
  refine lv_aload_n hx hb dX6_checkNextApprover_1 rfl (lv_at hl 1 rfl) ?_
  refine rc_V (As := [.ref (g.ad 8 (c9))]) hx hb hml hown hC hl (c_X6_nextApproverOf l E hI hc) (rec_of hC (RA.x hR) rfl) (zm_X6_235 hC.1) kv_X6_nextApproverOf hR rfl rfl (rtD_le (by decide) (by decide)) ⟨rfl, rfl⟩ (Nat.le_of_ble_eq_true rfl) ⟨Nat.zero_le _, Nat.zero_le _⟩ dX6_checkNextApprover_2 ?_
  refine lv_aload_n hx hb dX6_checkNextApprover_5 rfl (lv_at hl 2 rfl) ?_
  refine lw_acmpo_eq (o := apprA S (c9)) (j := p9) (tgt := 20) hx hb (RA.iffo hR 6 (fun i h => (apprA_lt hI hc h)) hp) dX6_checkNextApprover_6 (by decide) (fun c_6 => ?_) (fun c_6 => ?_)
  · exact absurd c_6 hs
  ·
    exact xw_ISE (is := 339) (text := "the charge is not matched, or somebody else has to") hst hx hb hml hown hY hZ hnt hlocks hl (by decide) dX6_checkNextApprover_9 dX6_checkNextApprover_12 dX6_checkNextApprover_13 dX6_checkNextApprover_16 dX6_checkNextApprover_19
set_option maxRecDepth 100000 in
set_option maxHeartbeats 4000000 in
theorem c_X4_replace (l : Launch) (E : EE) {S : St} {g : Gh} (hI : Inv S) {t9 : Nat} (ht : t9 < 4) {r9 c9 : Nat} (hr9 : r9 < tR t9) (hc9 : c9 < tC t9) {v9 : Int32} : WM l E yX4_replace cX4_replace 5 (some .int) (wD 1 0 0) [.ref (g.ad 4 t9), .int (nI r9), .int (nI c9), .int (v9)] (RA E S g) (ow g) (fun _ v H => RA E (setT S t9 (r9 * tC t9 + c9) v9) g H ∧ v = some (.int (S.tb t9 (r9 * tC t9 + c9)))) := by
  refine wm_of rfl (Nat.le_of_ble_eq_true rfl) (fun p e s m below meth c ls hx hb hr hml (hown : s.vm.findClass RX4 = some m.cls) hC hlocks hR hl hini => ?_)
  have hS : va_S (fun q => ow g q ∨ s.heap.size ≤ q) s.heap s.heap [] := va_S.rf
  have hl : lv_has ls 5 [(0, .ref (g.ad 4 t9)), (1, .int (nI r9)), (2, .int (nI c9)), (3, .int (v9))] := hl
  have hR8 := tR_le t9
  have hC4 := tC_le t9
  have hix : (nI r9) * (nI (tC t9)) + (nI c9) = nI (r9 * tC t9 + c9) ∧ r9 * tC t9 + c9 < tR t9 * tC t9 ∧ tR t9 * tC t9 < 2 ^ 31 := ⟨ix_nI _ _ _, ix_lt hr9 hc9, Nat.lt_of_le_of_lt (Nat.mul_le_mul hR8 hC4) (by decide)⟩
  refine lv_aload_n hx hb dX4_replace_0 rfl (lv_at hl 0 rfl) ?_
  refine lv_iload_n hx hb dX4_replace_1 rfl (lv_at hl 1 rfl) ?_
  refine lv_iload_n hx hb dX4_replace_2 rfl (lv_at hl 2 rfl) ?_
  refine rc_V (As := [.int (nI r9), .int (nI c9)]) hx hb hml hown hC hl (c_X4_at l E hI ht (r9 := r9) (c9 := c9) hr9 hc9) (rec_of hC (RA.tb hR ht) rfl) (zm_X4_26 hC.1) kv_X4_at hR rfl rfl (rwD_le (by decide) (by decide)) ⟨rfl, rfl⟩ (Nat.le_of_ble_eq_true rfl) ⟨Nat.zero_le _, Nat.zero_le _⟩ dX4_replace_3 ?_
  refine lv_istore (lv' := [(4, .int (S.tb t9 (r9 * tC t9 + c9))), (0, .ref (g.ad 4 t9)), (1, .int (nI r9)), (2, .int (nI c9)), (3, .int (v9))]) hx hb dX4_replace_6 hl (by decide) rfl (fun ls hl => ?_)
  refine lv_iload_n hx hb dX4_replace_8 rfl (lv_at hl 2 rfl) ?_
  refine lv_if_lt (tgt := 46) hx hb dX4_replace_9 (by decide) (fun c_9 => ?_) (fun c_9 => ?_)
  · exact absurd c_9 (nI_pos (by omega))
  ·
    refine lv_iload_n hx hb dX4_replace_12 rfl (lv_at hl 2 rfl) ?_
    refine lv_aload_n hx hb dX4_replace_13 rfl (lv_at hl 1 rfl) ?_
    refine gf_X4_0 hx hb hown hC (RA.tb hR ht) (zf_X4_13 hC.1) dX4_replace_14 ?_
    refine lv_icmp_ge (tgt := 46) hx hb dX4_replace_17 (by decide) (fun c_17 => ?_) (fun c_17 => ?_)
    · exact absurd c_17 (nI_ge hr9 (by omega))
    ·
      refine lv_iload_n hx hb dX4_replace_20 rfl (lv_at hl 3 rfl) ?_
      refine lv_if_lt (tgt := 46) hx hb dX4_replace_21 (by decide) (fun c_21 => ?_) (fun c_21 => ?_)
      · exact absurd c_21 (nI_pos (by omega))
      ·
        refine lv_iload_n hx hb dX4_replace_24 rfl (lv_at hl 3 rfl) ?_
        refine lv_aload_n hx hb dX4_replace_25 rfl (lv_at hl 1 rfl) ?_
        refine gf_X4_1 hx hb hown hC (RA.tb hR ht) (zf_X4_19 hC.1) dX4_replace_26 ?_
        refine lv_icmp_ge (tgt := 46) hx hb dX4_replace_29 (by decide) (fun c_29 => ?_) (fun c_29 => ?_)
        · exact absurd c_29 (nI_ge hc9 (by omega))
        ·
          refine lv_aload_n hx hb dX4_replace_32 rfl (lv_at hl 1 rfl) ?_
          refine gf_X4_2 hx hb hown hC (RA.tb hR ht) (zf_X4_22 hC.1) dX4_replace_33 ?_
          refine lv_iload_n hx hb dX4_replace_36 rfl (lv_at hl 2 rfl) ?_
          refine lv_aload_n hx hb dX4_replace_37 rfl (lv_at hl 1 rfl) ?_
          refine gf_X4_1 hx hb hown hC (RA.tb hR ht) (zf_X4_19 hC.1) dX4_replace_38 ?_
          refine lv_imul hx hb dX4_replace_41 ?_
          refine lv_iload_n hx hb dX4_replace_42 rfl (lv_at hl 3 rfl) ?_
          refine lv_iadd hx hb dX4_replace_43 ?_
          refine lv_iload_n hx hb dX4_replace_44 rfl (lv_at hl 4 rfl) ?_
          refine g_iast hx hb hC (RA.ta hR ht) hS (Or.inl (RA.ow hR (k := 5) (i := t9) ht)) hix dX4_replace_45 (fun H1 locs1 hat hz hq hS => ?_)
          have hR : RA E (setT S t9 (r9 * tC t9 + c9) v9) g H1 := RA.s_tb hR ht hat hq
          refine lv_iload hx hb dX4_replace_46 (lv_at hl 0 rfl) ?_
          exact wr_i hx hb hr hlocks hS ⟨hR, rfl⟩ (Nat.le_of_ble_eq_true rfl) (Nat.le_of_ble_eq_true rfl) dX4_replace_48
set_option maxRecDepth 100000 in
set_option maxHeartbeats 4000000 in
theorem c_X6_limit (l : Launch) (E : EE) {S : St} {g : Gh} (hI : Inv S) {p9 : Nat} (hp : p9 < S.np) {k9 : Nat} (hk : k9 < 4) {v9 : Int32} (h1 : ¬ v9 < 0) (h2 : ¬ 9999 < v9) : WM l E yX6_limit cX6_limit 5 (some .int) (wD 5 0 0) [.ref (g.ad 1 0), .int (nI p9), .int (nI k9), .int (v9)] (RA E S g) (ow g) (fun _ v H => RA E (setT S 0 (p9 * 4 + k9) v9) g H ∧ v = some (.int (S.tb 0 (p9 * 4 + k9)))) := by
  refine wm_of rfl (Nat.le_of_ble_eq_true rfl) (fun p e s m below meth c ls hx hb hr hml (hown : s.vm.findClass RX6 = some m.cls) hC hlocks hR hl hini => ?_)
  have hS : va_S (fun q => ow g q ∨ s.heap.size ≤ q) s.heap s.heap [] := va_S.rf
  have hl : lv_has ls 5 [(0, .ref (g.ad 1 0)), (1, .int (nI p9)), (2, .int (nI k9)), (3, .int (v9))] := hl
  refine lv_aload_n hx hb dX6_limit_0 rfl (lv_at hl 0 rfl) ?_
  refine lv_iload_n hx hb dX6_limit_1 rfl (lv_at hl 1 rfl) ?_
  refine rc_V (As := [.int (nI p9)]) hx hb hml hown hC hl (c_X6_personAt l E hI hp) (rec_of hC (RA.x hR) rfl) (zm_X6_47 hC.1) kv_X6_personAt hR rfl rfl (rwD_le (by decide) (by decide)) ⟨rfl, rfl⟩ (Nat.le_of_ble_eq_true rfl) ⟨Nat.zero_le _, Nat.zero_le _⟩ dX6_limit_2 ?_
  refine lv_astore (lv' := [(4, .ref (g.ad 6 (p9))), (0, .ref (g.ad 1 0)), (1, .int (nI p9)), (2, .int (nI k9)), (3, .int (v9))]) hx hb dX6_limit_5 hl (by decide) rfl (fun ls hl => ?_)
  refine lv_iload_n hx hb dX6_limit_7 rfl (lv_at hl 3 rfl) ?_
  refine rc_S0 (As := [.int (nI k9)]) hx hb hml hown hC hl (c_X6_checkKind l E hI (k9 := k9) hk) (zm_X6_74 hC.1) kv_X6_checkKind hR rfl rfl (rwD_le (by decide) (by decide)) ⟨rfl, rfl⟩ (Nat.le_of_ble_eq_true rfl) ⟨Nat.zero_le _, Nat.zero_le _⟩ dX6_limit_8 ?_
  refine lv_iload_n hx hb dX6_limit_11 rfl (lv_at hl 4 rfl) ?_
  refine lv_iconst (v := 0) hx hb dX6_limit_12 (by decide) ?_
  refine lv_sipush (v := 9999) hx hb dX6_limit_13 (by decide) ?_
  refine rc_S0 (As := [.int (v9), .int (0), .int (9999)]) hx hb hml hown hC hl (c_X6_checkRange l E hI h1 h2) (zm_X6_78 hC.1) kv_X6_checkRange hR rfl rfl (rwD_le (by decide) (by decide)) ⟨rfl, rfl⟩ (Nat.le_of_ble_eq_true rfl) ⟨Nat.zero_le _, Nat.zero_le _⟩ dX6_limit_16 ?_
  refine lv_aload_n hx hb dX6_limit_19 rfl (lv_at hl 1 rfl) ?_
  refine gf_X6_4 hx hb hown hC (RA.x hR) (zf_X6_30 hC.1) dX6_limit_20 ?_
  refine lv_aload hx hb dX6_limit_23 (lv_at hl 0 rfl) ?_
  refine gf_X2_0_s hx hb hown hC (RA.pe hR hp) (zf_X6_71 hC.1) dX6_limit_25 ?_
  refine lv_iload_n hx hb dX6_limit_28 rfl (lv_at hl 3 rfl) ?_
  refine lv_iload_n hx hb dX6_limit_29 rfl (lv_at hl 4 rfl) ?_
  refine wcw_V (As := [.int (nI (p9)), .int (nI k9), .int (v9)]) hx hb hml hown hC hl (c_X4_replace l E hI (by decide : 0 < 4) (r9 := p9) (c9 := k9) (Nat.lt_of_lt_of_le hp hI.np) hk (v9 := v9)) (rec_of hC (RA.tb hR (by decide : 0 < 4)) rfl) (zm_X6_82 hC.1) kv_X4_replace hR hS (fun q h => h.imp id (Nat.le_trans hS.1)) rfl rfl (wD_le (by decide) (by decide)) (Nat.le_of_ble_eq_true rfl) ⟨Nat.le_of_ble_eq_true rfl, Nat.le_of_ble_eq_true rfl⟩ dX6_limit_30 (fun H1 locs1 hR hz hq hS => ?_)
  exact wr_i hx hb hr hlocks hS ⟨hR, rfl⟩ (Nat.le_of_ble_eq_true rfl) (Nat.le_of_ble_eq_true rfl) dX6_limit_33
set_option maxRecDepth 100000 in
set_option maxHeartbeats 4000000 in
theorem c_X6_plan (l : Launch) (E : EE) {S : St} {g : Gh} (hI : Inv S) {k9 : Nat} (hk : k9 < 4) {per9 : Nat} (hper : per9 < 4) {v9 : Int32} (h1 : ¬ v9 < 0) (h2 : ¬ 99999 < v9) : WM l E yX6_plan cX6_plan 4 (some .int) (wD 5 0 0) [.ref (g.ad 1 0), .int (nI k9), .int (nI per9), .int (v9)] (RA E S g) (ow g) (fun _ v H => RA E (setT S 1 (k9 * 4 + per9) v9) g H ∧ v = some (.int (S.tb 1 (k9 * 4 + per9)))) := by
  refine wm_of rfl (Nat.le_of_ble_eq_true rfl) (fun p e s m below meth c ls hx hb hr hml (hown : s.vm.findClass RX6 = some m.cls) hC hlocks hR hl hini => ?_)
  have hS : va_S (fun q => ow g q ∨ s.heap.size ≤ q) s.heap s.heap [] := va_S.rf
  have hl : lv_has ls 4 [(0, .ref (g.ad 1 0)), (1, .int (nI k9)), (2, .int (nI per9)), (3, .int (v9))] := hl
  refine lv_iload_n hx hb dX6_plan_0 rfl (lv_at hl 1 rfl) ?_
  refine rc_S0 (As := [.int (nI k9)]) hx hb hml hown hC hl (c_X6_checkKind l E hI (k9 := k9) hk) (zm_X6_74 hC.1) kv_X6_checkKind hR rfl rfl (rwD_le (by decide) (by decide)) ⟨rfl, rfl⟩ (Nat.le_of_ble_eq_true rfl) ⟨Nat.zero_le _, Nat.zero_le _⟩ dX6_plan_1 ?_
  refine lv_iload_n hx hb dX6_plan_4 rfl (lv_at hl 2 rfl) ?_
  refine rc_S0 (As := [.int (nI per9)]) hx hb hml hown hC hl (c_X6_checkPeriod l E hI (k9 := per9) hper) (zm_X6_143 hC.1) kv_X6_checkPeriod hR rfl rfl (rwD_le (by decide) (by decide)) ⟨rfl, rfl⟩ (Nat.le_of_ble_eq_true rfl) ⟨Nat.zero_le _, Nat.zero_le _⟩ dX6_plan_5 ?_
  refine lv_iload_n hx hb dX6_plan_8 rfl (lv_at hl 3 rfl) ?_
  refine lv_iconst (v := 0) hx hb dX6_plan_9 (by decide) ?_
  refine lv_ldc hx hb hown (zC_X6_146 hC.1) dX6_plan_10 ?_
  refine rc_S0 (As := [.int (v9), .int (0), .int (99999)]) hx hb hml hown hC hl (c_X6_checkRange l E hI h1 h2) (zm_X6_78 hC.1) kv_X6_checkRange hR rfl rfl (rwD_le (by decide) (by decide)) ⟨rfl, rfl⟩ (Nat.le_of_ble_eq_true rfl) ⟨Nat.zero_le _, Nat.zero_le _⟩ dX6_plan_12 ?_
  refine lv_aload_n hx hb dX6_plan_15 rfl (lv_at hl 0 rfl) ?_
  refine gf_X6_5 hx hb hown hC (RA.x hR) (zf_X6_34 hC.1) dX6_plan_16 ?_
  refine lv_iload_n hx hb dX6_plan_19 rfl (lv_at hl 1 rfl) ?_
  refine lv_iload_n hx hb dX6_plan_20 rfl (lv_at hl 2 rfl) ?_
  refine lv_iload_n hx hb dX6_plan_21 rfl (lv_at hl 3 rfl) ?_
  refine wcw_V (As := [.int (nI k9), .int (nI per9), .int (v9)]) hx hb hml hown hC hl (c_X4_replace l E hI (by decide : 1 < 4) (r9 := k9) (c9 := per9) hk hper (v9 := v9)) (rec_of hC (RA.tb hR (by decide : 1 < 4)) rfl) (zm_X6_82 hC.1) kv_X4_replace hR hS (fun q h => h.imp id (Nat.le_trans hS.1)) rfl rfl (wD_le (by decide) (by decide)) (Nat.le_of_ble_eq_true rfl) ⟨Nat.le_of_ble_eq_true rfl, Nat.le_of_ble_eq_true rfl⟩ dX6_plan_22 (fun H1 locs1 hR hz hq hS => ?_)
  exact wr_i hx hb hr hlocks hS ⟨hR, rfl⟩ (Nat.le_of_ble_eq_true rfl) (Nat.le_of_ble_eq_true rfl) dX6_plan_25
set_option maxRecDepth 100000 in
set_option maxHeartbeats 4000000 in
theorem c_X6_carry (l : Launch) (E : EE) {S : St} {g : Gh} (hI : Inv S) {k9 : Nat} (hk : k9 < 4) {v9 : Int32} (h1 : ¬ v9 < 0) (h2 : ¬ 100 < v9) : WM l E yX6_carry cX6_carry 3 (some .int) (wD 5 0 0) [.ref (g.ad 1 0), .int (nI k9), .int (v9)] (RA E S g) (ow g) (fun _ v H => RA E (setT S 2 (k9 * 1 + 0) v9) g H ∧ v = some (.int (S.tb 2 (k9 * 1 + 0)))) := by
  refine wm_of rfl (Nat.le_of_ble_eq_true rfl) (fun p e s m below meth c ls hx hb hr hml (hown : s.vm.findClass RX6 = some m.cls) hC hlocks hR hl hini => ?_)
  have hS : va_S (fun q => ow g q ∨ s.heap.size ≤ q) s.heap s.heap [] := va_S.rf
  have hl : lv_has ls 3 [(0, .ref (g.ad 1 0)), (1, .int (nI k9)), (2, .int (v9))] := hl
  refine lv_iload_n hx hb dX6_carry_0 rfl (lv_at hl 1 rfl) ?_
  refine rc_S0 (As := [.int (nI k9)]) hx hb hml hown hC hl (c_X6_checkKind l E hI (k9 := k9) hk) (zm_X6_74 hC.1) kv_X6_checkKind hR rfl rfl (rwD_le (by decide) (by decide)) ⟨rfl, rfl⟩ (Nat.le_of_ble_eq_true rfl) ⟨Nat.zero_le _, Nat.zero_le _⟩ dX6_carry_1 ?_
  refine lv_iload_n hx hb dX6_carry_4 rfl (lv_at hl 2 rfl) ?_
  refine lv_iconst (v := 0) hx hb dX6_carry_5 (by decide) ?_
  refine lv_bipush (v := 100) hx hb dX6_carry_6 (by decide) ?_
  refine rc_S0 (As := [.int (v9), .int (0), .int (100)]) hx hb hml hown hC hl (c_X6_checkRange l E hI h1 h2) (zm_X6_78 hC.1) kv_X6_checkRange hR rfl rfl (rwD_le (by decide) (by decide)) ⟨rfl, rfl⟩ (Nat.le_of_ble_eq_true rfl) ⟨Nat.zero_le _, Nat.zero_le _⟩ dX6_carry_8 ?_
  refine lv_aload_n hx hb dX6_carry_11 rfl (lv_at hl 0 rfl) ?_
  refine gf_X6_6 hx hb hown hC (RA.x hR) (zf_X6_37 hC.1) dX6_carry_12 ?_
  refine lv_iload_n hx hb dX6_carry_15 rfl (lv_at hl 1 rfl) ?_
  refine lv_iconst (v := 0) hx hb dX6_carry_16 (by decide) ?_
  refine lv_iload_n hx hb dX6_carry_17 rfl (lv_at hl 2 rfl) ?_
  refine wcw_V (As := [.int (nI k9), .int (0), .int (v9)]) hx hb hml hown hC hl (c_X4_replace l E hI (by decide : 2 < 4) (r9 := k9) (c9 := 0) hk (by decide) (v9 := v9)) (rec_of hC (RA.tb hR (by decide : 2 < 4)) rfl) (zm_X6_82 hC.1) kv_X4_replace hR hS (fun q h => h.imp id (Nat.le_trans hS.1)) rfl rfl (wD_le (by decide) (by decide)) (Nat.le_of_ble_eq_true rfl) ⟨Nat.le_of_ble_eq_true rfl, Nat.le_of_ble_eq_true rfl⟩ dX6_carry_18 (fun H1 locs1 hR hz hq hS => ?_)
  exact wr_i hx hb hr hlocks hS ⟨hR, rfl⟩ (Nat.le_of_ble_eq_true rfl) (Nat.le_of_ble_eq_true rfl) dX6_carry_21
set_option maxRecDepth 100000 in
set_option maxHeartbeats 4000000 in
theorem c_X6_rate (l : Launch) (E : EE) {S : St} {g : Gh} (hI : Inv S) {l9 : Nat} (hl9 : l9 < 3) {k9 : Nat} (hk : k9 < 4) {v9 : Int32} (h1 : ¬ v9 < 0) (h2 : ¬ 30 < v9) : WM l E yX6_rate cX6_rate 4 (some .int) (wD 5 0 0) [.ref (g.ad 1 0), .int (nI l9), .int (nI k9), .int (v9)] (RA E S g) (ow g) (fun _ v H => RA E (setT S 3 (l9 * 4 + k9) v9) g H ∧ v = some (.int (S.tb 3 (l9 * 4 + k9)))) := by
  refine wm_of rfl (Nat.le_of_ble_eq_true rfl) (fun p e s m below meth c ls hx hb hr hml (hown : s.vm.findClass RX6 = some m.cls) hC hlocks hR hl hini => ?_)
  have hS : va_S (fun q => ow g q ∨ s.heap.size ≤ q) s.heap s.heap [] := va_S.rf
  have hl : lv_has ls 4 [(0, .ref (g.ad 1 0)), (1, .int (nI l9)), (2, .int (nI k9)), (3, .int (v9))] := hl
  refine lv_iload_n hx hb dX6_rate_0 rfl (lv_at hl 1 rfl) ?_
  refine rc_S0 (As := [.int (nI l9)]) hx hb hml hown hC hl (c_X6_checkLand l E hI (k9 := l9) hl9) (zm_X6_105 hC.1) kv_X6_checkLand hR rfl rfl (rwD_le (by decide) (by decide)) ⟨rfl, rfl⟩ (Nat.le_of_ble_eq_true rfl) ⟨Nat.zero_le _, Nat.zero_le _⟩ dX6_rate_1 ?_
  refine lv_iload_n hx hb dX6_rate_4 rfl (lv_at hl 2 rfl) ?_
  refine rc_S0 (As := [.int (nI k9)]) hx hb hml hown hC hl (c_X6_checkKind l E hI (k9 := k9) hk) (zm_X6_74 hC.1) kv_X6_checkKind hR rfl rfl (rwD_le (by decide) (by decide)) ⟨rfl, rfl⟩ (Nat.le_of_ble_eq_true rfl) ⟨Nat.zero_le _, Nat.zero_le _⟩ dX6_rate_5 ?_
  refine lv_iload_n hx hb dX6_rate_8 rfl (lv_at hl 3 rfl) ?_
  refine lv_iconst (v := 0) hx hb dX6_rate_9 (by decide) ?_
  refine lv_bipush (v := 30) hx hb dX6_rate_10 (by decide) ?_
  refine rc_S0 (As := [.int (v9), .int (0), .int (30)]) hx hb hml hown hC hl (c_X6_checkRange l E hI h1 h2) (zm_X6_78 hC.1) kv_X6_checkRange hR rfl rfl (rwD_le (by decide) (by decide)) ⟨rfl, rfl⟩ (Nat.le_of_ble_eq_true rfl) ⟨Nat.zero_le _, Nat.zero_le _⟩ dX6_rate_12 ?_
  refine lv_aload_n hx hb dX6_rate_15 rfl (lv_at hl 0 rfl) ?_
  refine gf_X6_7 hx hb hown hC (RA.x hR) (zf_X6_40 hC.1) dX6_rate_16 ?_
  refine lv_iload_n hx hb dX6_rate_19 rfl (lv_at hl 1 rfl) ?_
  refine lv_iload_n hx hb dX6_rate_20 rfl (lv_at hl 2 rfl) ?_
  refine lv_iload_n hx hb dX6_rate_21 rfl (lv_at hl 3 rfl) ?_
  refine wcw_V (As := [.int (nI l9), .int (nI k9), .int (v9)]) hx hb hml hown hC hl (c_X4_replace l E hI (by decide : 3 < 4) (r9 := l9) (c9 := k9) hl9 hk (v9 := v9)) (rec_of hC (RA.tb hR (by decide : 3 < 4)) rfl) (zm_X6_82 hC.1) kv_X4_replace hR hS (fun q h => h.imp id (Nat.le_trans hS.1)) rfl rfl (wD_le (by decide) (by decide)) (Nat.le_of_ble_eq_true rfl) ⟨Nat.le_of_ble_eq_true rfl, Nat.le_of_ble_eq_true rfl⟩ dX6_rate_22 (fun H1 locs1 hR hz hq hS => ?_)
  exact wr_i hx hb hr hlocks hS ⟨hR, rfl⟩ (Nat.le_of_ble_eq_true rfl) (Nat.le_of_ble_eq_true rfl) dX6_rate_25
set_option maxRecDepth 100000 in
set_option maxHeartbeats 4000000 in
theorem c_X6_away (l : Launch) (E : EE) {S : St} {g : Gh} (hI : Inv S) {p9 : Nat} (hp : p9 < S.np) {o9 : Nat} (ho : o9 < S.np) (hne : ¬ o9 = p9) {v9 : Int32} (h1 : ¬ v9 < 0) (h2 : ¬ 119 < v9) : WM l E yX6_away cX6_away 7 (some .boolean) (wD 6 0 0) [.ref (g.ad 1 0), .int (nI p9), .int (v9), .int (nI o9)] (RA E S g) (ow g) (fun _ v H => RA E (awayS S p9 v9 o9) g H ∧ v = some (.int (awayA S p9 (nI S.td)))) := by
  refine wm_of rfl (Nat.le_of_ble_eq_true rfl) (fun p e s m below meth c ls hx hb hr hml (hown : s.vm.findClass RX6 = some m.cls) hC hlocks hR hl hini => ?_)
  have hS : va_S (fun q => ow g q ∨ s.heap.size ≤ q) s.heap s.heap [] := va_S.rf
  have hl : lv_has ls 7 [(0, .ref (g.ad 1 0)), (1, .int (nI p9)), (2, .int (v9)), (3, .int (nI o9))] := hl
  refine lv_aload_n hx hb dX6_away_0 rfl (lv_at hl 0 rfl) ?_
  refine lv_iload_n hx hb dX6_away_1 rfl (lv_at hl 1 rfl) ?_
  refine rc_V (As := [.int (nI p9)]) hx hb hml hown hC hl (c_X6_personAt l E hI hp) (rec_of hC (RA.x hR) rfl) (zm_X6_47 hC.1) kv_X6_personAt hR rfl rfl (rwD_le (by decide) (by decide)) ⟨rfl, rfl⟩ (Nat.le_of_ble_eq_true rfl) ⟨Nat.zero_le _, Nat.zero_le _⟩ dX6_away_2 ?_
  refine lv_astore (lv' := [(4, .ref (g.ad 6 (p9))), (0, .ref (g.ad 1 0)), (1, .int (nI p9)), (2, .int (v9)), (3, .int (nI o9))]) hx hb dX6_away_5 hl (by decide) rfl (fun ls hl => ?_)
  refine lv_aload_n hx hb dX6_away_7 rfl (lv_at hl 1 rfl) ?_
  refine lv_iload_n hx hb dX6_away_8 rfl (lv_at hl 4 rfl) ?_
  refine rc_V (As := [.int (nI o9)]) hx hb hml hown hC hl (c_X6_personAt l E hI ho) (rec_of hC (RA.x hR) rfl) (zm_X6_47 hC.1) kv_X6_personAt hR rfl rfl (rwD_le (by decide) (by decide)) ⟨rfl, rfl⟩ (Nat.le_of_ble_eq_true rfl) ⟨Nat.zero_le _, Nat.zero_le _⟩ dX6_away_9 ?_
  refine lv_astore (lv' := [(5, .ref (g.ad 6 (o9))), (4, .ref (g.ad 6 (p9))), (0, .ref (g.ad 1 0)), (1, .int (nI p9)), (2, .int (v9)), (3, .int (nI o9))]) hx hb dX6_away_12 hl (by decide) rfl (fun ls hl => ?_)
  refine lv_iload_n hx hb dX6_away_14 rfl (lv_at hl 4 rfl) ?_
  refine lv_iconst (v := 0) hx hb dX6_away_15 (by decide) ?_
  refine lv_bipush (v := 119) hx hb dX6_away_16 (by decide) ?_
  refine rc_S0 (As := [.int (v9), .int (0), .int (119)]) hx hb hml hown hC hl (c_X6_checkRange l E hI h1 h2) (zm_X6_78 hC.1) kv_X6_checkRange hR rfl rfl (rwD_le (by decide) (by decide)) ⟨rfl, rfl⟩ (Nat.le_of_ble_eq_true rfl) ⟨Nat.zero_le _, Nat.zero_le _⟩ dX6_away_18 ?_
  refine lv_iload_n hx hb dX6_away_21 rfl (lv_at hl 5 rfl) ?_
  refine lv_iload_n hx hb dX6_away_22 rfl (lv_at hl 3 rfl) ?_
  refine lv_icmp_ne (tgt := 36) hx hb dX6_away_23 (by decide) (fun c_23 => ?_) (fun c_23 => ?_)
  ·
    refine lv_aload hx hb dX6_away_36 (lv_at hl 1 rfl) ?_
    refine lv_aload_n hx hb dX6_away_38 rfl (lv_at hl 2 rfl) ?_
    refine gf_X6_8 hx hb hown hC (RA.x hR) (zf_X6_43 hC.1) dX6_away_39 ?_
    refine rc_V (As := [.int (nI S.td)]) hx hb hml hown hC hl (c_X2_isAwayOn l E hI hp (nI S.td)) (rec_of hC (RA.pe hR hp) rfl) (zm_X6_91 hC.1) kv_X2_isAwayOn hR rfl rfl (rwD_le (by decide) (by decide)) ⟨rfl, rfl⟩ (Nat.le_of_ble_eq_true rfl) ⟨Nat.zero_le _, Nat.zero_le _⟩ dX6_away_42 ?_
    refine lv_istore (lv' := [(6, .int (awayA S (p9) (nI S.td))), (5, .ref (g.ad 6 (o9))), (4, .ref (g.ad 6 (p9))), (0, .ref (g.ad 1 0)), (1, .int (nI p9)), (2, .int (v9)), (3, .int (nI o9))]) hx hb dX6_away_45 hl (by decide) rfl (fun ls hl => ?_)
    refine lv_aload hx hb dX6_away_47 (lv_at hl 2 rfl) ?_
    refine lv_iload_n hx hb dX6_away_49 rfl (lv_at hl 5 rfl) ?_
    refine pf_X2_4 hx hb hown hC (RA.pe hR hp) hS (Or.inl (RA.ow hR (k := 6) hp)) (zf_X6_95 hC.1) rfl rfl dX6_away_50 (fun H1 locs1 hat hz hq hS => ?_)
    have hR : RA E (u_aw S (p9) (v9)) g H1 := RA.s_aw (v := v9) hR hp hat hq
    refine lv_aload hx hb dX6_away_53 (lv_at hl 2 rfl) ?_
    refine lv_aload hx hb dX6_away_55 (lv_at hl 1 rfl) ?_
    refine pf_X2_5 hx hb hown hC (RA.pe hR hp) hS (Or.inl (RA.ow hR (k := 6) hp)) (zf_X6_98 hC.1) rfl rfl dX6_away_57 (fun H1 locs1 hat hz hq hS => ?_)
    have hR : RA E (u_si (u_aw S (p9) (v9)) (p9) ((some (o9)))) g H1 := RA.s_si (v := (some (o9))) hR hp hat hq
    have hI : Inv ((u_si (u_aw S (p9) (v9)) (p9) ((some (o9))))) := hI.away ho h1 h2
    refine lv_aload_n hx hb dX6_away_60 rfl (lv_at hl 3 rfl) ?_
    refine wcv_V (As := []) hx hb hml hown hC hl (c_X6_passSteps l E hI) (rec_of hC (RA.x hR) rfl) (zm_X6_102 hC.1) kv_X6_passSteps hR hS (fun q h => h.imp id (Nat.le_trans hS.1)) rfl rfl (wD_le (by decide) (by decide)) (Nat.le_of_ble_eq_true rfl) ⟨Nat.le_of_ble_eq_true rfl, Nat.le_of_ble_eq_true rfl⟩ dX6_away_61 (fun H1 locs1 hR hz hq hS => ?_)
    have hI : Inv (passS (u_si (u_aw S (p9) (v9)) (p9) ((some (o9))))) := hI.pS
    refine lv_iload hx hb dX6_away_64 (lv_at hl 0 rfl) ?_
    exact wr_z hx hb hr hlocks (by unfold awayA; split <;> rfl) hS ⟨hR, rfl⟩ (Nat.le_of_ble_eq_true rfl) (Nat.le_of_ble_eq_true rfl) dX6_away_66
  · exact absurd ((nI_eq (Nat.lt_trans ho hI.np31) (Nat.lt_trans hp hI.np31)).mp c_23) hne
set_option maxRecDepth 100000 in
set_option maxHeartbeats 4000000 in
theorem c_X6_approve (l : Launch) (E : EE) {S : St} {g : Gh} (hI : Inv S) {c9 : Nat} (hc : c9 < S.nc) {p9 : Nat} (hp : p9 < S.np) (hs : apprA S c9 = some p9) : WM l E yX6_approve cX6_approve 5 (some .int) (wD 6 0 0) [.ref (g.ad 1 0), .int (nI c9), .int (nI p9)] (RA E S g) (ow g) (fun _ v H => RA E (approveS S c9) g H ∧ v = some (.int ((approveS S c9).cs c9))) := by
  refine wm_of rfl (Nat.le_of_ble_eq_true rfl) (fun p e s m below meth c ls hx hb hr hml (hown : s.vm.findClass RX6 = some m.cls) hC hlocks hR hl hini => ?_)
  have hS : va_S (fun q => ow g q ∨ s.heap.size ≤ q) s.heap s.heap [] := va_S.rf
  have hl : lv_has ls 5 [(0, .ref (g.ad 1 0)), (1, .int (nI c9)), (2, .int (nI p9))] := hl
  refine lv_aload_n hx hb dX6_approve_0 rfl (lv_at hl 0 rfl) ?_
  refine lv_iload_n hx hb dX6_approve_1 rfl (lv_at hl 1 rfl) ?_
  refine rc_V (As := [.int (nI c9)]) hx hb hml hown hC hl (c_X6_chargeAt l E hI hc) (rec_of hC (RA.x hR) rfl) (zm_X6_186 hC.1) kv_X6_chargeAt hR rfl rfl (rwD_le (by decide) (by decide)) ⟨rfl, rfl⟩ (Nat.le_of_ble_eq_true rfl) ⟨Nat.zero_le _, Nat.zero_le _⟩ dX6_approve_2 ?_
  refine lv_astore_n (lv' := [(3, .ref (g.ad 8 (c9))), (0, .ref (g.ad 1 0)), (1, .int (nI c9)), (2, .int (nI p9))]) hx hb dX6_approve_5 rfl hl (by decide) rfl (fun ls hl => ?_)
  refine lv_aload_n hx hb dX6_approve_6 rfl (lv_at hl 1 rfl) ?_
  refine lv_iload_n hx hb dX6_approve_7 rfl (lv_at hl 3 rfl) ?_
  refine rc_V (As := [.int (nI p9)]) hx hb hml hown hC hl (c_X6_personAt l E hI hp) (rec_of hC (RA.x hR) rfl) (zm_X6_47 hC.1) kv_X6_personAt hR rfl rfl (rwD_le (by decide) (by decide)) ⟨rfl, rfl⟩ (Nat.le_of_ble_eq_true rfl) ⟨Nat.zero_le _, Nat.zero_le _⟩ dX6_approve_8 ?_
  refine lv_astore (lv' := [(4, .ref (g.ad 6 (p9))), (3, .ref (g.ad 8 (c9))), (0, .ref (g.ad 1 0)), (1, .int (nI c9)), (2, .int (nI p9))]) hx hb dX6_approve_11 hl (by decide) rfl (fun ls hl => ?_)
  refine lv_aload_n hx hb dX6_approve_13 rfl (lv_at hl 2 rfl) ?_
  refine lv_aload_n hx hb dX6_approve_14 rfl (lv_at hl 1 rfl) ?_
  refine lv_aload hx hb dX6_approve_15 (lv_at hl 0 rfl) ?_
  refine rc_V0 (As := [.ref (g.ad 8 (c9)), .ref (g.ad 6 (p9))]) hx hb hml hown hC hl (c_X6_checkNextApprover l E hI hc hp hs) (rec_of hC (RA.x hR) rfl) (zm_X6_200 hC.1) kv_X6_checkNextApprover hR rfl rfl (rwD_le (by decide) (by decide)) ⟨rfl, rfl⟩ (Nat.le_of_ble_eq_true rfl) ⟨Nat.zero_le _, Nat.zero_le _⟩ dX6_approve_17 ?_
  refine lv_aload_n hx hb dX6_approve_20 rfl (lv_at hl 1 rfl) ?_
  refine lv_dup hx hb dX6_approve_21 rfl ?_
  refine gf_X0_10 hx hb hown hC (RA.ch hR hc) (zf_X6_204 hC.1) dX6_approve_22 ?_
  refine lv_iconst (v := 1) hx hb dX6_approve_25 (by decide) ?_
  refine lv_iadd hx hb dX6_approve_26 ?_
  rw [← nI_succ (S.ce c9)]
  refine pf_X0_10 hx hb hown hC (RA.ch hR hc) hS (Or.inl (RA.ow hR (k := 8) hc)) (zf_X6_204 hC.1) rfl rfl dX6_approve_27 (fun H1 locs1 hat hz hq hS => ?_)
  have hR : RA E (u_ce S (c9) (S.ce c9 + 1)) g H1 := RA.s_ce (v := (S.ce c9 + 1)) hR hc hat hq
  have hI : Inv ((u_ce S (c9) (S.ce c9 + 1))) := hI.appr hs
  refine lv_aload_n hx hb dX6_approve_30 rfl (lv_at hl 2 rfl) ?_
  refine wcv_V (As := []) hx hb hml hown hC hl (c_X6_passSteps l E hI) (rec_of hC (RA.x hR) rfl) (zm_X6_102 hC.1) kv_X6_passSteps hR hS (fun q h => h.imp id (Nat.le_trans hS.1)) rfl rfl (wD_le (by decide) (by decide)) (Nat.le_of_ble_eq_true rfl) ⟨Nat.le_of_ble_eq_true rfl, Nat.le_of_ble_eq_true rfl⟩ dX6_approve_31 (fun H1 locs1 hR hz hq hS => ?_)
  have hI : Inv (passS (u_ce S (c9) (S.ce c9 + 1))) := hI.pS
  have hc : c9 < ((passS (u_ce S (c9) (S.ce c9 + 1)))).nc := by rw [passS_nc]; exact hc
  refine lv_aload_n hx hb dX6_approve_34 rfl (lv_at hl 1 rfl) ?_
  refine gf_X0_8 hx hb hown hC (RA.ch hR hc) (zf_X6_197 hC.1) dX6_approve_35 ?_
  exact wr_i hx hb hr hlocks hS ⟨hR, rfl⟩ (Nat.le_of_ble_eq_true rfl) (Nat.le_of_ble_eq_true rfl) dX6_approve_38
set_option maxRecDepth 100000 in
set_option maxHeartbeats 4000000 in
theorem c_X6_refuse (l : Launch) (E : EE) {S : St} {g : Gh} (hI : Inv S) {c9 : Nat} (hc : c9 < S.nc) {p9 : Nat} (hp : p9 < S.np) (hs : apprA S c9 = some p9) : WM l E yX6_refuse cX6_refuse 5 (some .int) (wD 6 0 0) [.ref (g.ad 1 0), .int (nI c9), .int (nI p9)] (RA E S g) (ow g) (fun _ v H => RA E (refuseS S c9) g H ∧ v = some (.int (inA (refuseS S c9) 4))) := by
  refine wm_of rfl (Nat.le_of_ble_eq_true rfl) (fun p e s m below meth c ls hx hb hr hml (hown : s.vm.findClass RX6 = some m.cls) hC hlocks hR hl hini => ?_)
  have hS : va_S (fun q => ow g q ∨ s.heap.size ≤ q) s.heap s.heap [] := va_S.rf
  have hl : lv_has ls 5 [(0, .ref (g.ad 1 0)), (1, .int (nI c9)), (2, .int (nI p9))] := hl
  refine lv_aload_n hx hb dX6_refuse_0 rfl (lv_at hl 0 rfl) ?_
  refine lv_iload_n hx hb dX6_refuse_1 rfl (lv_at hl 1 rfl) ?_
  refine rc_V (As := [.int (nI c9)]) hx hb hml hown hC hl (c_X6_chargeAt l E hI hc) (rec_of hC (RA.x hR) rfl) (zm_X6_186 hC.1) kv_X6_chargeAt hR rfl rfl (rwD_le (by decide) (by decide)) ⟨rfl, rfl⟩ (Nat.le_of_ble_eq_true rfl) ⟨Nat.zero_le _, Nat.zero_le _⟩ dX6_refuse_2 ?_
  refine lv_astore_n (lv' := [(3, .ref (g.ad 8 (c9))), (0, .ref (g.ad 1 0)), (1, .int (nI c9)), (2, .int (nI p9))]) hx hb dX6_refuse_5 rfl hl (by decide) rfl (fun ls hl => ?_)
  refine lv_aload_n hx hb dX6_refuse_6 rfl (lv_at hl 1 rfl) ?_
  refine lv_iload_n hx hb dX6_refuse_7 rfl (lv_at hl 3 rfl) ?_
  refine rc_V (As := [.int (nI p9)]) hx hb hml hown hC hl (c_X6_personAt l E hI hp) (rec_of hC (RA.x hR) rfl) (zm_X6_47 hC.1) kv_X6_personAt hR rfl rfl (rwD_le (by decide) (by decide)) ⟨rfl, rfl⟩ (Nat.le_of_ble_eq_true rfl) ⟨Nat.zero_le _, Nat.zero_le _⟩ dX6_refuse_8 ?_
  refine lv_astore (lv' := [(4, .ref (g.ad 6 (p9))), (3, .ref (g.ad 8 (c9))), (0, .ref (g.ad 1 0)), (1, .int (nI c9)), (2, .int (nI p9))]) hx hb dX6_refuse_11 hl (by decide) rfl (fun ls hl => ?_)
  refine lv_aload_n hx hb dX6_refuse_13 rfl (lv_at hl 2 rfl) ?_
  refine lv_aload_n hx hb dX6_refuse_14 rfl (lv_at hl 1 rfl) ?_
  refine lv_aload hx hb dX6_refuse_15 (lv_at hl 0 rfl) ?_
  refine rc_V0 (As := [.ref (g.ad 8 (c9)), .ref (g.ad 6 (p9))]) hx hb hml hown hC hl (c_X6_checkNextApprover l E hI hc hp hs) (rec_of hC (RA.x hR) rfl) (zm_X6_200 hC.1) kv_X6_checkNextApprover hR rfl rfl (rwD_le (by decide) (by decide)) ⟨rfl, rfl⟩ (Nat.le_of_ble_eq_true rfl) ⟨Nat.zero_le _, Nat.zero_le _⟩ dX6_refuse_17 ?_
  refine lv_aload_n hx hb dX6_refuse_20 rfl (lv_at hl 1 rfl) ?_
  refine lv_iconst (v := 4) hx hb dX6_refuse_21 (by decide) ?_
  refine pf_X0_8 hx hb hown hC (RA.ch hR hc) hS (Or.inl (RA.ow hR (k := 8) hc)) (zf_X6_197 hC.1) rfl rfl dX6_refuse_22 (fun H1 locs1 hat hz hq hS => ?_)
  have hR : RA E (u_cs S (c9) (4)) g H1 := RA.s_cs (v := 4) hR hc hat hq
  have hI : Inv ((u_cs S (c9) (4))) := hI.refu hc (apprA_1 hs).1
  refine lv_aload_n hx hb dX6_refuse_25 rfl (lv_at hl 2 rfl) ?_
  refine wcv_V (As := []) hx hb hml hown hC hl (c_X6_passSteps l E hI) (rec_of hC (RA.x hR) rfl) (zm_X6_102 hC.1) kv_X6_passSteps hR hS (fun q h => h.imp id (Nat.le_trans hS.1)) rfl rfl (wD_le (by decide) (by decide)) (Nat.le_of_ble_eq_true rfl) ⟨Nat.le_of_ble_eq_true rfl, Nat.le_of_ble_eq_true rfl⟩ dX6_refuse_26 (fun H1 locs1 hR hz hq hS => ?_)
  have hI : Inv (passS (u_cs S (c9) (4))) := hI.pS
  refine lv_aload_n hx hb dX6_refuse_29 rfl (lv_at hl 2 rfl) ?_
  refine lv_iconst (v := 4) hx hb dX6_refuse_30 (by decide) ?_
  refine rc_V (As := [.int (4)]) hx hb hml hown hC hl (c_X6_countInState l E hI (4)) (rec_of hC (RA.x hR) rfl) (zm_X6_207 hC.1) kv_X6_countInState hR rfl rfl (rwD_le (by decide) (by decide)) ⟨rfl, rfl⟩ (Nat.le_of_ble_eq_true rfl) ⟨Nat.zero_le _, Nat.zero_le _⟩ dX6_refuse_31 ?_
  exact wr_i hx hb hr hlocks hS ⟨hR, rfl⟩ (Nat.le_of_ble_eq_true rfl) (Nat.le_of_ble_eq_true rfl) dX6_refuse_34
set_option maxRecDepth 100000 in
set_option maxHeartbeats 4000000 in
theorem c_X6_settle (l : Launch) (E : EE) {S : St} {g : Gh} (hI : Inv S) {c9 : Nat} (hc : c9 < S.nc) (hs : S.cs c9 = 4) {b9 : Int32} : WM l E yX6_settle cX6_settle 4 (some .int) (wD 6 0 0) [.ref (g.ad 1 0), .int (nI c9), .int (b9)] (RA E S g) (ow g) (fun _ v H => RA E (settleS S c9 b9) g H ∧ v = some (.int ((settleS S c9 b9).cs c9))) := by
  refine wm_of rfl (Nat.le_of_ble_eq_true rfl) (fun p e s m below meth c ls hx hb hr hml (hown : s.vm.findClass RX6 = some m.cls) hC hlocks hR hl hini => ?_)
  have hS : va_S (fun q => ow g q ∨ s.heap.size ≤ q) s.heap s.heap [] := va_S.rf
  have hl : lv_has ls 4 [(0, .ref (g.ad 1 0)), (1, .int (nI c9)), (2, .int (b9))] := hl
  refine lv_aload_n hx hb dX6_settle_0 rfl (lv_at hl 0 rfl) ?_
  refine lv_iload_n hx hb dX6_settle_1 rfl (lv_at hl 1 rfl) ?_
  refine rc_V (As := [.int (nI c9)]) hx hb hml hown hC hl (c_X6_chargeAt l E hI hc) (rec_of hC (RA.x hR) rfl) (zm_X6_186 hC.1) kv_X6_chargeAt hR rfl rfl (rwD_le (by decide) (by decide)) ⟨rfl, rfl⟩ (Nat.le_of_ble_eq_true rfl) ⟨Nat.zero_le _, Nat.zero_le _⟩ dX6_settle_2 ?_
  refine lv_astore_n (lv' := [(3, .ref (g.ad 8 (c9))), (0, .ref (g.ad 1 0)), (1, .int (nI c9)), (2, .int (b9))]) hx hb dX6_settle_5 rfl hl (by decide) rfl (fun ls hl => ?_)
  refine lv_aload_n hx hb dX6_settle_6 rfl (lv_at hl 0 rfl) ?_
  refine lv_iconst (v := 4) hx hb dX6_settle_7 (by decide) ?_
  refine rc_S0 (As := [.ref (g.ad 8 (c9)), .int (4)]) hx hb hml hown hC hl (c_X6_checkState l E hI hc hs) (zm_X6_190 hC.1) kv_X6_checkState hR rfl rfl (rwD_le (by decide) (by decide)) ⟨rfl, rfl⟩ (Nat.le_of_ble_eq_true rfl) ⟨Nat.zero_le _, Nat.zero_le _⟩ dX6_settle_8 ?_
  refine lv_iload_n hx hb dX6_settle_11 rfl (lv_at hl 3 rfl) ?_
  refine lv_if_eq (tgt := 23) hx hb dX6_settle_12 (by decide) (fun c_12 => ?_) (fun c_12 => ?_)
  ·
    refine lv_aload_n hx hb dX6_settle_23 rfl (lv_at hl 0 rfl) ?_
    refine lv_iconst (v := 1) hx hb dX6_settle_24 (by decide) ?_
    refine pf_X0_8 hx hb hown hC (RA.ch hR hc) hS (Or.inl (RA.ow hR (k := 8) hc)) (zf_X6_197 hC.1) rfl rfl dX6_settle_25 (fun H1 locs1 hat hz hq hS => ?_)
    have hR : RA E (u_cs S (c9) (1)) g H1 := RA.s_cs (v := 1) hR hc hat hq
    refine lv_aload_n hx hb dX6_settle_28 rfl (lv_at hl 0 rfl) ?_
    refine lv_iconst (v := 0) hx hb dX6_settle_29 (by decide) ?_
    refine pf_X0_10 hx hb hown hC (RA.ch hR hc) hS (Or.inl (RA.ow hR (k := 8) hc)) (zf_X6_204 hC.1) rfl rfl dX6_settle_30 (fun H1 locs1 hat hz hq hS => ?_)
    have hR : RA E (u_ce (u_cs S (c9) (1)) (c9) (0)) g H1 := RA.s_ce (v := 0) hR hc hat hq
    have hI : Inv ((u_ce (u_cs S (c9) (1)) (c9) (0))) := hI.set1 hc hs
    refine lv_aload_n hx hb dX6_settle_33 rfl (lv_at hl 1 rfl) ?_
    refine wcv_V (As := []) hx hb hml hown hC hl (c_X6_passSteps l E hI) (rec_of hC (RA.x hR) rfl) (zm_X6_102 hC.1) kv_X6_passSteps hR hS (fun q h => h.imp id (Nat.le_trans hS.1)) rfl rfl (wD_le (by decide) (by decide)) (Nat.le_of_ble_eq_true rfl) ⟨Nat.le_of_ble_eq_true rfl, Nat.le_of_ble_eq_true rfl⟩ dX6_settle_34 (fun H1 locs1 hR hz hq hS => ?_)
    have hI : Inv (passS (u_ce (u_cs S (c9) (1)) (c9) (0))) := hI.pS
    have hc : c9 < ((passS (u_ce (u_cs S (c9) (1)) (c9) (0)))).nc := by rw [passS_nc]; exact hc
    refine lv_aload_n hx hb dX6_settle_37 rfl (lv_at hl 0 rfl) ?_
    refine gf_X0_8 hx hb hown hC (RA.ch hR hc) (zf_X6_197 hC.1) dX6_settle_38 ?_
    exact wr_i hx hb hr hlocks hS ⟨by unfold settleS; rw [if_pos c_12]; exact hR, by unfold settleS; rw [if_pos c_12]⟩ (Nat.le_of_ble_eq_true rfl) (Nat.le_of_ble_eq_true rfl) dX6_settle_41
  ·
    refine lv_aload_n hx hb dX6_settle_15 rfl (lv_at hl 0 rfl) ?_
    refine lv_iconst (v := 3) hx hb dX6_settle_16 (by decide) ?_
    refine pf_X0_8 hx hb hown hC (RA.ch hR hc) hS (Or.inl (RA.ow hR (k := 8) hc)) (zf_X6_197 hC.1) rfl rfl dX6_settle_17 (fun H1 locs1 hat hz hq hS => ?_)
    have hR : RA E (u_cs S (c9) (3)) g H1 := RA.s_cs (v := 3) hR hc hat hq
    refine lv_goto (tgt := 33) hx hb dX6_settle_20 (by decide) ?_
    have hI : Inv ((u_cs S (c9) (3))) := hI.set3
    refine lv_aload_n hx hb dX6_settle_33 rfl (lv_at hl 1 rfl) ?_
    refine wcv_V (As := []) hx hb hml hown hC hl (c_X6_passSteps l E hI) (rec_of hC (RA.x hR) rfl) (zm_X6_102 hC.1) kv_X6_passSteps hR hS (fun q h => h.imp id (Nat.le_trans hS.1)) rfl rfl (wD_le (by decide) (by decide)) (Nat.le_of_ble_eq_true rfl) ⟨Nat.le_of_ble_eq_true rfl, Nat.le_of_ble_eq_true rfl⟩ dX6_settle_34 (fun H1 locs1 hR hz hq hS => ?_)
    have hI : Inv (passS (u_cs S (c9) (3))) := hI.pS
    have hc : c9 < ((passS (u_cs S (c9) (3)))).nc := by rw [passS_nc]; exact hc
    refine lv_aload_n hx hb dX6_settle_37 rfl (lv_at hl 0 rfl) ?_
    refine gf_X0_8 hx hb hown hC (RA.ch hR hc) (zf_X6_197 hC.1) dX6_settle_38 ?_
    exact wr_i hx hb hr hlocks hS ⟨by unfold settleS; rw [if_neg c_12]; exact hR, by unfold settleS; rw [if_neg c_12]⟩ (Nat.le_of_ble_eq_true rfl) (Nat.le_of_ble_eq_true rfl) dX6_settle_41
set_option maxRecDepth 100000 in
set_option maxHeartbeats 4000000 in
theorem c_X6_day (l : Launch) (E : EE) {S : St} {g : Gh} (hI : Inv S) (ht : S.td < 119) : WM l E yX6_day cX6_day 4 (some .int) (wD 6 0 0) [.ref (g.ad 1 0)] (RA E S g) (ow g) (fun _ v H => RA E (dayS S) g H ∧ v = some (.int (dayR S))) := by
  refine wm_of rfl (Nat.le_of_ble_eq_true rfl) (fun p e s m below meth c ls hx hb hr hml (hown : s.vm.findClass RX6 = some m.cls) hC hlocks hR hl hini => ?_)
  have hS : va_S (fun q => ow g q ∨ s.heap.size ≤ q) s.heap s.heap [] := va_S.rf
  have hl : lv_has ls 4 [(0, .ref (g.ad 1 0))] := hl
  refine lv_aload_n hx hb dX6_day_0 rfl (lv_at hl 0 rfl) ?_
  refine gf_X6_8 hx hb hown hC (RA.x hR) (zf_X6_43 hC.1) dX6_day_1 ?_
  refine lv_bipush (v := 119) hx hb dX6_day_4 (by decide) ?_
  refine lv_icmp_lt (tgt := 19) hx hb dX6_day_6 (by decide) (fun c_6 => ?_) (fun c_6 => ?_)
  ·
    refine lv_aload_n hx hb dX6_day_19 rfl (lv_at hl 0 rfl) ?_
    refine lv_dup hx hb dX6_day_20 rfl ?_
    refine gf_X6_8 hx hb hown hC (RA.x hR) (zf_X6_43 hC.1) dX6_day_21 ?_
    refine lv_iconst (v := 1) hx hb dX6_day_24 (by decide) ?_
    refine lv_iadd hx hb dX6_day_25 ?_
    rw [← nI_succ]
    refine pf_X6_8 hx hb hown hC (RA.x hR) hS (Or.inl (RA.ow hR (k := 1) (i := 0) rfl)) (zf_X6_43 hC.1) rfl rfl dX6_day_26 (fun H1 locs1 hat hz hq hS => ?_)
    have hR : RA E (S.s_td (S.td + 1)) g H1 := RA.s_td (v := S.td + 1) hR hat hq
    have hI : Inv (S.s_td (S.td + 1)) := hI.tdS ht
    have hI0 := hI
    refine lv_iconst (v := 0) hx hb dX6_day_29 (by decide) ?_
    refine lv_istore_n (lv' := [(1, .int (0)), (0, .ref (g.ad 1 0))]) hx hb dX6_day_30 rfl hl (by decide) rfl (fun ls hl => ?_)
    refine lv_iconst (v := 0) hx hb dX6_day_31 (by decide) ?_
    refine lv_istore_n (lv' := [(2, .int (0)), (1, .int (0)), (0, .ref (g.ad 1 0))]) hx hb dX6_day_32 rfl hl (by decide) rfl (fun ls hl => ?_)
    have loop33 : ∀ (r i : Nat) (H1 : Heap) (locs1 : List Loc), i + r = S.nc → RA E ((dayF (S.s_td (S.td + 1)) i).1) g H1 → va_S (fun q => ow g q ∨ s.heap.size ≤ q) s.heap H1 locs1 → ∀ ls, lv_has ls 4 [(2, .int (nI (i))), (1, .int ((dayF (S.s_td (S.td + 1)) i).2)), (0, .ref (g.ad 1 0))] → W p l e (wD 6 0 0) s m ([.ref (g.ad 1 0)] : List Value).toArray below meth c H1 locs1 0 0 (MQ below (WQ (ow g) s.heap.size (fun v H => RA E (dayS S) g H ∧ v = some (.int (dayR S)))) ([.ref (g.ad 1 0)] : List Value).toArray s (wD 6 0 0).cells (wD 6 0 0).slots (fun q => ow g q ∨ s.heap.size ≤ q)) (F0 m 33 ls []) := by
      intro r
      induction r with
      | zero =>
        intro i H1 locs1 hE hR hS ls hl
        have hN : i = S.nc := by omega
        subst hN
        have hnc : ((dayF (S.s_td (S.td + 1)) S.nc).1).nc = S.nc := dayF_nc (S.s_td (S.td + 1)) S.nc
        have hI : Inv ((dayF (S.s_td (S.td + 1)) S.nc).1) := hI0.dayf S.nc
        refine lv_iload_n hx hb dX6_day_33 rfl (lv_at hl 0 rfl) ?_
        refine lv_aload_n hx hb dX6_day_34 rfl (lv_at hl 2 rfl) ?_
        refine gf_X6_2 hx hb hown hC (RA.x hR) (zf_X6_19 hC.1) dX6_day_35 ?_
        refine rc_V (As := []) hx hb hml hown hC hl (c_size l E _ _ _ _) (rec_of hC (RA.ls hR (by decide : 2 < 4)) rfl) (zm_X6_51 hC.1) kv_Jx4a65c_size_8abf5 (RA.ls hR (by decide : 2 < 4)) rfl rfl (rwD_le (by decide) (by decide)) ⟨rfl, rfl⟩ (Nat.le_of_ble_eq_true rfl) ⟨Nat.zero_le _, Nat.zero_le _⟩ dX6_day_38 ?_
        refine lv_icmp_ge (tgt := 78) hx hb dX6_day_41 (by decide) (fun c_41 => ?_) (fun c_41 => ?_)
        ·
          refine lv_aload_n hx hb dX6_day_78 rfl (lv_at hl 2 rfl) ?_
          refine wcv_V (As := []) hx hb hml hown hC hl (c_X6_passSteps l E hI) (rec_of hC (RA.x hR) rfl) (zm_X6_102 hC.1) kv_X6_passSteps hR hS (fun q h => h.imp id (Nat.le_trans hS.1)) rfl rfl (wD_le (by decide) (by decide)) (Nat.le_of_ble_eq_true rfl) ⟨Nat.le_of_ble_eq_true rfl, Nat.le_of_ble_eq_true rfl⟩ dX6_day_79 (fun H1 locs1 hR hz hq hS => ?_)
          have hI : Inv (passS ((dayF (S.s_td (S.td + 1)) S.nc).1)) := hI.pS
          refine lv_iload_n hx hb dX6_day_82 rfl (lv_at hl 1 rfl) ?_
          exact wr_i hx hb hr hlocks hS ⟨hR, rfl⟩ (Nat.le_of_ble_eq_true rfl) (Nat.le_of_ble_eq_true rfl) dX6_day_83
        · exact absurd (by rw [show ((dayF (S.s_td (S.td + 1)) S.nc).1).cnt 2 = S.nc from hnc]; exact Int32.le_refl _) c_41
      | succ r ih =>
        intro i H1 locs1 hE hR hS ls hl
        have hnc : ((dayF (S.s_td (S.td + 1)) i).1).nc = S.nc := dayF_nc (S.s_td (S.td + 1)) i
        have hlt : i < ((dayF (S.s_td (S.td + 1)) i).1).nc := by rw [hnc]; omega
        have hI : Inv ((dayF (S.s_td (S.td + 1)) i).1) := hI0.dayf i
        refine lv_iload_n hx hb dX6_day_33 rfl (lv_at hl 0 rfl) ?_
        refine lv_aload_n hx hb dX6_day_34 rfl (lv_at hl 2 rfl) ?_
        refine gf_X6_2 hx hb hown hC (RA.x hR) (zf_X6_19 hC.1) dX6_day_35 ?_
        refine rc_V (As := []) hx hb hml hown hC hl (c_size l E _ _ _ _) (rec_of hC (RA.ls hR (by decide : 2 < 4)) rfl) (zm_X6_51 hC.1) kv_Jx4a65c_size_8abf5 (RA.ls hR (by decide : 2 < 4)) rfl rfl (rwD_le (by decide) (by decide)) ⟨rfl, rfl⟩ (Nat.le_of_ble_eq_true rfl) ⟨Nat.zero_le _, Nat.zero_le _⟩ dX6_day_38 ?_
        refine lv_icmp_ge (tgt := 78) hx hb dX6_day_41 (by decide) (fun c_41 => ?_) (fun c_41 => ?_)
        · rw [show ((dayF (S.s_td (S.td + 1)) i).1).cnt 2 = S.nc from hnc] at c_41; exact absurd c_41 (nI_ge (by omega) hI0.nc31)
        ·
          refine lv_aload_n hx hb dX6_day_44 rfl (lv_at hl 2 rfl) ?_
          refine gf_X6_2 hx hb hown hC (RA.x hR) (zf_X6_19 hC.1) dX6_day_45 ?_
          refine lv_iload_n hx hb dX6_day_48 rfl (lv_at hl 0 rfl) ?_
          refine rc_V (As := [.int (nI (i))]) hx hb hml hown hC hl (c_getL l E 2 rfl hR (by decide) hlt) (rec_of hC (RA.ls hR (by decide : 2 < 4)) rfl) (zm_X6_253 hC.1) kv_Jx4a65c_get_915e3 (RA.gp hR 2 (by decide) hlt) rfl rfl (rwD_le (by decide) (by decide)) ⟨rfl, rfl⟩ (Nat.le_of_ble_eq_true rfl) ⟨Nat.zero_le _, Nat.zero_le _⟩ dX6_day_49 ?_
          refine g_cast hx hb hown hC (RA.ch hR hlt) rfl (zc_X6_155 hC.1) dX6_day_52 ?_
          refine lv_astore_n (lv' := [(3, .ref (g.ad 8 (i))), (2, .int (nI (i))), (1, .int ((dayF (S.s_td (S.td + 1)) i).2)), (0, .ref (g.ad 1 0))]) hx hb dX6_day_55 rfl hl (by decide) rfl (fun ls hl => ?_)
          refine lv_aload_n hx hb dX6_day_56 rfl (lv_at hl 3 rfl) ?_
          refine lv_aload_n hx hb dX6_day_57 rfl (lv_at hl 0 rfl) ?_
          refine rc_V (As := [.ref (g.ad 8 (i))]) hx hb hml hown hC hl (c_X6_isOverdue l E hI hlt) (rec_of hC (RA.x hR) rfl) (zm_X6_257 hC.1) kv_X6_isOverdue hR rfl rfl (rwD_le (by decide) (by decide)) ⟨rfl, rfl⟩ (Nat.le_of_ble_eq_true rfl) ⟨Nat.zero_le _, Nat.zero_le _⟩ dX6_day_58 ?_
          refine lv_if_eq (tgt := 72) hx hb dX6_day_61 (by decide) (fun c_61 => ?_) (fun c_61 => ?_)
          ·
            refine lv_iinc (v := nI (i) + 1) (lv' := [(2, .int (nI (i) + 1)), (3, .ref (g.ad 8 (i))), (1, .int ((dayF (S.s_td (S.td + 1)) i).2)), (0, .ref (g.ad 1 0))]) hx hb dX6_day_72 hl (k := 1) rfl rfl (by decide) rfl (fun ls hl => ?_)
            refine lv_goto (tgt := 33) hx hb dX6_day_75 (by decide) ?_
            refine ih (i + 1) _ _ (by omega) (by rw [show (dayF (S.s_td (S.td + 1)) (i + 1)).1 = (dayF (S.s_td (S.td + 1)) i).1 from grow_0 c_61]; exact hR) hS ls ?_
            rw [nI_succ i, show (dayF (S.s_td (S.td + 1)) (i + 1)).2 = (dayF (S.s_td (S.td + 1)) i).2 from if_pos c_61]
            exact lv_sub hl [0, 2, 3] rfl
          ·
            refine lv_aload_n hx hb dX6_day_64 rfl (lv_at hl 3 rfl) ?_
            refine lv_aload_n hx hb dX6_day_65 rfl (lv_at hl 0 rfl) ?_
            refine wcv_V (As := [.ref (g.ad 8 (i))]) hx hb hml hown hC hl (c_X6_bearDelay l E hI hlt) (rec_of hC (RA.x hR) rfl) (zm_X6_261 hC.1) kv_X6_bearDelay hR hS (fun q h => h.imp id (Nat.le_trans hS.1)) rfl rfl (wD_le (by decide) (by decide)) (Nat.le_of_ble_eq_true rfl) ⟨Nat.le_of_ble_eq_true rfl, Nat.le_of_ble_eq_true rfl⟩ dX6_day_66 (fun H1 locs1 hR hz hq hS => ?_)
            have hI : Inv (bearS ((dayF (S.s_td (S.td + 1)) i).1) (i)) := hI.bear
            refine lv_iinc (v := (dayF (S.s_td (S.td + 1)) i).2 + 1) (lv' := [(1, .int ((dayF (S.s_td (S.td + 1)) i).2 + 1)), (3, .ref (g.ad 8 (i))), (2, .int (nI (i))), (0, .ref (g.ad 1 0))]) hx hb dX6_day_69 hl (k := 2) rfl rfl (by decide) rfl (fun ls hl => ?_)
            refine lv_iinc (v := nI (i) + 1) (lv' := [(2, .int (nI (i) + 1)), (1, .int ((dayF (S.s_td (S.td + 1)) i).2 + 1)), (3, .ref (g.ad 8 (i))), (0, .ref (g.ad 1 0))]) hx hb dX6_day_72 hl (k := 2) rfl rfl (by decide) rfl (fun ls hl => ?_)
            refine lv_goto (tgt := 33) hx hb dX6_day_75 (by decide) ?_
            refine ih (i + 1) _ _ (by omega) (by rw [show (dayF (S.s_td (S.td + 1)) (i + 1)).1 = bearS ((dayF (S.s_td (S.td + 1)) i).1) i from grow_1 c_61]; exact hR) hS ls ?_
            rw [nI_succ i, show (dayF (S.s_td (S.td + 1)) (i + 1)).2 = (dayF (S.s_td (S.td + 1)) i).2 + 1 from if_neg c_61]
            exact lv_sub hl [0, 1, 3] rfl
    exact loop33 (S.nc) 0 H1 locs1 (Nat.zero_add _) hR hS ls (lv_sub hl [0, 1, 2] rfl)
  · exact absurd (nI_lt (b := 119) ht (by decide)) c_6

