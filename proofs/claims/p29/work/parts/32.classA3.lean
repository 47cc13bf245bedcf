set_option maxRecDepth 100000 in
set_option maxHeartbeats 4000000 in
theorem c_X0_wasSplitFrom (l : Launch) (E : EE) {S : St} {g : Gh} (hI : Inv S) {c9 : Nat} (hc : c9 < S.nc) (rq : Nat) (n9 am dy tx : Int32) (ro : Option Nat) : RM l E yX0_wasSplitFrom cX0_wasSplitFrom 2 .boolean (rD 0) [.ref (g.ad 8 (c9)), .ref (rq)] (fun H => RA E S g H ∧ va_at E.1 vwCl (rq, .inr (3, [.int n9, .int am, .int dy, .int tx, va_rf (ro.map (g.ad 8))])) H) (.int (splA S c9 n9)) := by
  refine rm_of rfl (Nat.le_of_ble_eq_true rfl) (fun p e s m below meth c ls hx hb hr hml (hown : s.vm.findClass RX0 = some m.cls) hC hlocks hR hl => ?_)
  have hl : lv_has ls 2 [(0, .ref (g.ad 8 (c9))), (1, .ref (rq))] := hl
  obtain ⟨hR, hq⟩ := hR
  refine lv_aload_n hx hb dX0_wasSplitFrom_0 rfl (lv_at hl 0 rfl) ?_
  refine gf_X0_12 hx hb hown hC (RA.ch hR hc) (zf_X0_30 hC.1) dX0_wasSplitFrom_1 ?_
  refine lv_iconst (v := 1) hx hb dX0_wasSplitFrom_4 (by decide) ?_
  refine lv_aload_n hx hb dX0_wasSplitFrom_5 rfl (lv_at hl 1 rfl) ?_
  refine gf_X3_0_s hx hb hown hC hq (zf_X0_52 hC.1) dX0_wasSplitFrom_6 ?_
  refine lv_ishl hx hb dX0_wasSplitFrom_9 ?_
  refine lv_iand hx hb dX0_wasSplitFrom_10 ?_
  refine lv_if_eq (tgt := 18) hx hb dX0_wasSplitFrom_11 (by decide) (fun c_11 => ?_) (fun c_11 => ?_)
  ·
    refine lv_iconst (v := 0) hx hb dX0_wasSplitFrom_18 (by decide) ?_
    exact rr_z hx hb hr hlocks (by decide) (by unfold splA; rw [if_pos c_11]) dX0_wasSplitFrom_19
  ·
    refine lv_iconst (v := 1) hx hb dX0_wasSplitFrom_14 (by decide) ?_
    refine lv_goto (tgt := 19) hx hb dX0_wasSplitFrom_15 (by decide) ?_
    exact rr_z hx hb hr hlocks (by decide) (by unfold splA; rw [if_neg c_11]) dX0_wasSplitFrom_19
set_option maxRecDepth 100000 in
set_option maxHeartbeats 4000000 in
theorem c_X6_scoreOf (l : Launch) (E : EE) {S : St} {g : Gh} (hI : Inv S) {c9 : Nat} (hc : c9 < S.nc) (rq : Nat) (n9 am dy tx : Int32) (ro : Option Nat) : RM l E yX6_scoreOf cX6_scoreOf 5 .int (rD 1) [.ref (g.ad 8 (c9)), .ref (rq)] (fun H => RA E S g H ∧ va_at E.1 vwCl (rq, .inr (3, [.int n9, .int am, .int dy, .int tx, va_rf (ro.map (g.ad 8))])) H) (.int (scA S c9 am dy tx)) := by
  refine rm_of rfl (Nat.le_of_ble_eq_true rfl) (fun p e s m below meth c ls hx hb hr hml (hown : s.vm.findClass RX6 = some m.cls) hC hlocks hR hl => ?_)
  have hl : lv_has ls 5 [(0, .ref (g.ad 8 (c9))), (1, .ref (rq))] := hl
  obtain ⟨hR, hq⟩ := hR
  refine lv_aload_n hx hb dX6_scoreOf_0 rfl (lv_at hl 0 rfl) ?_
  refine gf_X0_4 hx hb hown hC (RA.ch hR hc) (zf_X6_217 hC.1) dX6_scoreOf_1 ?_
  refine lv_aload_n hx hb dX6_scoreOf_4 rfl (lv_at hl 1 rfl) ?_
  refine gf_X3_1 hx hb hown hC hq (zf_X6_390 hC.1) dX6_scoreOf_5 ?_
  refine lv_isub hx hb dX6_scoreOf_8 ?_
  refine va_mabs hx hb (hml.trans hl.1.symm) hown (zm_X6_391 hC.1) (ztm_abs hC.1) (znm hC.1) (zkm_abs hC.1) (Nat.le_of_ble_eq_true rfl) (Nat.le_of_ble_eq_true rfl) (Nat.zero_le _) (Nat.zero_le _) dX6_scoreOf_9 ?_
  refine lv_istore_n (lv' := [(2, .int (absI ((S.ca (c9)) - (am)))), (0, .ref (g.ad 8 (c9))), (1, .ref (rq))]) hx hb dX6_scoreOf_12 rfl hl (by decide) rfl (fun ls hl => ?_)
  refine lv_aload_n hx hb dX6_scoreOf_13 rfl (lv_at hl 1 rfl) ?_
  refine gf_X0_6 hx hb hown hC (RA.ch hR hc) (zf_X6_220 hC.1) dX6_scoreOf_14 ?_
  refine lv_aload_n hx hb dX6_scoreOf_17 rfl (lv_at hl 2 rfl) ?_
  refine gf_X3_2 hx hb hown hC hq (zf_X6_394 hC.1) dX6_scoreOf_18 ?_
  refine lv_isub hx hb dX6_scoreOf_21 ?_
  refine va_mabs hx hb (hml.trans hl.1.symm) hown (zm_X6_391 hC.1) (ztm_abs hC.1) (znm hC.1) (zkm_abs hC.1) (Nat.le_of_ble_eq_true rfl) (Nat.le_of_ble_eq_true rfl) (Nat.zero_le _) (Nat.zero_le _) dX6_scoreOf_22 ?_
  refine lv_istore_n (lv' := [(3, .int (absI ((nI (S.cd (c9))) - (dy)))), (2, .int (absI ((S.ca (c9)) - (am)))), (0, .ref (g.ad 8 (c9))), (1, .ref (rq))]) hx hb dX6_scoreOf_25 rfl hl (by decide) rfl (fun ls hl => ?_)
  refine lv_iload_n hx hb dX6_scoreOf_26 rfl (lv_at hl 1 rfl) ?_
  refine lv_bipush (v := 10) hx hb dX6_scoreOf_27 (by decide) ?_
  refine lv_icmp_gt (tgt := 37) hx hb dX6_scoreOf_29 (by decide) (fun c_29 => ?_) (fun c_29 => ?_)
  ·
    refine lv_iconst (v := (-1)) hx hb dX6_scoreOf_37 (by decide) ?_
    exact rr_i hx hb hr hlocks (by unfold scA scoreA; rw [if_pos c_29]) dX6_scoreOf_38
  ·
    refine lv_iload_n hx hb dX6_scoreOf_32 rfl (lv_at hl 0 rfl) ?_
    refine lv_iconst (v := 3) hx hb dX6_scoreOf_33 (by decide) ?_
    refine lv_icmp_le (tgt := 39) hx hb dX6_scoreOf_34 (by decide) (fun c_34 => ?_) (fun c_34 => ?_)
    ·
      refine lv_bipush (v := 40) hx hb dX6_scoreOf_39 (by decide) ?_
      refine lv_iconst (v := 2) hx hb dX6_scoreOf_41 (by decide) ?_
      refine lv_iload_n hx hb dX6_scoreOf_42 rfl (lv_at hl 1 rfl) ?_
      refine lv_imul hx hb dX6_scoreOf_43 ?_
      refine lv_isub hx hb dX6_scoreOf_44 ?_
      refine lv_iconst (v := 5) hx hb dX6_scoreOf_45 (by decide) ?_
      refine lv_iload_n hx hb dX6_scoreOf_46 rfl (lv_at hl 0 rfl) ?_
      refine lv_imul hx hb dX6_scoreOf_47 ?_
      refine lv_isub hx hb dX6_scoreOf_48 ?_
      refine lv_istore (lv' := [(4, .int (((40) - ((2) * (absI ((S.ca (c9)) - (am))))) - ((5) * (absI ((nI (S.cd (c9))) - (dy)))))), (3, .int (absI ((nI (S.cd (c9))) - (dy)))), (2, .int (absI ((S.ca (c9)) - (am)))), (0, .ref (g.ad 8 (c9))), (1, .ref (rq))]) hx hb dX6_scoreOf_49 hl (by decide) rfl (fun ls hl => ?_)
      refine lv_aload_n hx hb dX6_scoreOf_51 rfl (lv_at hl 3 rfl) ?_
      refine gf_X0_5 hx hb hown hC (RA.ch hR hc) (zf_X6_395 hC.1) dX6_scoreOf_52 ?_
      refine lv_aload_n hx hb dX6_scoreOf_55 rfl (lv_at hl 4 rfl) ?_
      refine gf_X3_3 hx hb hown hC hq (zf_X6_398 hC.1) dX6_scoreOf_56 ?_
      refine lv_icmp_ne (tgt := 70) hx hb dX6_scoreOf_59 (by decide) (fun c_59 => ?_) (fun c_59 => ?_)
      ·
        refine lv_iload hx hb dX6_scoreOf_70 (lv_at hl 0 rfl) ?_
        exact rr_i hx hb hr hlocks (by unfold scA scoreA; rw [if_neg c_29, if_pos c_34, if_neg c_59]) dX6_scoreOf_72
      ·
        refine lv_iload hx hb dX6_scoreOf_62 (lv_at hl 0 rfl) ?_
        refine lv_bipush (v := 20) hx hb dX6_scoreOf_64 (by decide) ?_
        refine lv_iadd hx hb dX6_scoreOf_66 ?_
        refine lv_goto (tgt := 72) hx hb dX6_scoreOf_67 (by decide) ?_
        exact rr_i hx hb hr hlocks (by unfold scA scoreA; rw [if_neg c_29, if_pos c_34, if_pos c_59]) dX6_scoreOf_72
    ·
      refine lv_iconst (v := (-1)) hx hb dX6_scoreOf_37 (by decide) ?_
      exact rr_i hx hb hr hlocks (by unfold scA scoreA; rw [if_neg c_29, if_neg c_34]) dX6_scoreOf_38
set_option maxRecDepth 100000 in
set_option maxHeartbeats 4000000 in
theorem c_X6_goTogether (l : Launch) (E : EE) {S : St} {g : Gh} (hI : Inv S) {c9 : Nat} (hc : c9 < S.nc) (rq : Nat) (n9 am dy tx : Int32) (ro : Option Nat) : RM l E yX6_goTogether cX6_goTogether 2 .boolean (rD 2) [.ref (g.ad 8 (c9)), .ref (rq)] (fun H => RA E S g H ∧ va_at E.1 vwCl (rq, .inr (3, [.int n9, .int am, .int dy, .int tx, va_rf (ro.map (g.ad 8))])) H) (.int (goA S c9 n9 am dy tx ro)) := by
  refine rm_of rfl (Nat.le_of_ble_eq_true rfl) (fun p e s m below meth c ls hx hb hr hml (hown : s.vm.findClass RX6 = some m.cls) hC hlocks hR hl => ?_)
  have hl : lv_has ls 2 [(0, .ref (g.ad 8 (c9))), (1, .ref (rq))] := hl
  obtain ⟨hR, hq⟩ := hR
  refine lv_aload_n hx hb dX6_goTogether_0 rfl (lv_at hl 0 rfl) ?_
  refine gf_X0_8 hx hb hown hC (RA.ch hR hc) (zf_X6_197 hC.1) dX6_goTogether_1 ?_
  refine lv_if_ne (tgt := 35) hx hb dX6_goTogether_4 (by decide) (fun c_4 => ?_) (fun c_4 => ?_)
  ·
    refine lv_iconst (v := 0) hx hb dX6_goTogether_35 (by decide) ?_
    exact rr_z hx hb hr hlocks (by decide) (by unfold goA; rw [if_neg c_4]) dX6_goTogether_36
  ·
    refine lv_aload_n hx hb dX6_goTogether_7 rfl (lv_at hl 1 rfl) ?_
    refine gf_X3_4 hx hb hown hC hq (zf_X6_182 hC.1) dX6_goTogether_8 ?_
    refine lw_ifnonnull (tgt := 35) hx hb dX6_goTogether_11 (by decide) (fun j_11 o_11 => ?_) (fun o_11 => ?_)
    ·
      refine lv_iconst (v := 0) hx hb dX6_goTogether_35 (by decide) ?_
      exact rr_z hx hb hr hlocks (by decide) (by unfold goA; rw [if_pos c_4, if_neg (nsome o_11)]) dX6_goTogether_36
    ·
      refine lv_aload_n hx hb dX6_goTogether_14 rfl (lv_at hl 0 rfl) ?_
      refine lv_aload_n hx hb dX6_goTogether_15 rfl (lv_at hl 1 rfl) ?_
      refine rc_V (As := [.ref (rq)]) hx hb hml hown hC hl (c_X0_wasSplitFrom l E hI hc (rq) (n9) (am) (dy) (tx) (ro)) (rec_of hC (RA.ch hR hc) rfl) (zm_X6_386 hC.1) kv_X0_wasSplitFrom ⟨hR, hq⟩ rfl rfl (rD_le (by decide) (by decide)) ⟨rfl, rfl⟩ (Nat.le_of_ble_eq_true rfl) ⟨Nat.zero_le _, Nat.zero_le _⟩ dX6_goTogether_16 ?_
      refine lv_if_ne (tgt := 35) hx hb dX6_goTogether_19 (by decide) (fun c_19 => ?_) (fun c_19 => ?_)
      ·
        refine lv_iconst (v := 0) hx hb dX6_goTogether_35 (by decide) ?_
        exact rr_z hx hb hr hlocks (by decide) (by unfold goA; rw [if_pos c_4, if_pos o_11, if_neg c_19]) dX6_goTogether_36
      ·
        refine lv_aload_n hx hb dX6_goTogether_22 rfl (lv_at hl 0 rfl) ?_
        refine lv_aload_n hx hb dX6_goTogether_23 rfl (lv_at hl 1 rfl) ?_
        refine rc_S (As := [.ref (g.ad 8 (c9)), .ref (rq)]) hx hb hml hown hC hl (c_X6_scoreOf l E hI hc (rq) (n9) (am) (dy) (tx) (ro)) (zm_X6_247 hC.1) kv_X6_scoreOf ⟨hR, hq⟩ rfl rfl (rD_le (by decide) (by decide)) ⟨rfl, rfl⟩ (Nat.le_of_ble_eq_true rfl) ⟨Nat.zero_le _, Nat.zero_le _⟩ dX6_goTogether_24 ?_
        refine lv_iconst (v := (-1)) hx hb dX6_goTogether_27 (by decide) ?_
        refine lv_icmp_eq (tgt := 35) hx hb dX6_goTogether_28 (by decide) (fun c_28 => ?_) (fun c_28 => ?_)
        ·
          refine lv_iconst (v := 0) hx hb dX6_goTogether_35 (by decide) ?_
          exact rr_z hx hb hr hlocks (by decide) (by unfold goA; rw [if_pos c_4, if_pos o_11, if_pos c_19, if_pos c_28]) dX6_goTogether_36
        ·
          refine lv_iconst (v := 1) hx hb dX6_goTogether_31 (by decide) ?_
          refine lv_goto (tgt := 36) hx hb dX6_goTogether_32 (by decide) ?_
          exact rr_z hx hb hr hlocks (by decide) (by unfold goA; rw [if_pos c_4, if_pos o_11, if_pos c_19, if_neg c_28]) dX6_goTogether_36
set_option maxRecDepth 100000 in
set_option maxHeartbeats 4000000 in
theorem c_X6_bestReceiptFor (l : Launch) (E : EE) {S : St} {g : Gh} (hI : Inv S) {c9 : Nat} (hc : c9 < S.nc) : RM l E yX6_bestReceiptFor cX6_bestReceiptFor 6 (.object "ApprovalGrid$Receipt") (rD 3) [.ref (g.ad 1 0), .ref (g.ad 8 (c9))] (RA E S g) (va_rf ((bRA S c9).map (g.ad 9))) := by
  refine rm_of rfl (Nat.le_of_ble_eq_true rfl) (fun p e s m below meth c ls hx hb hr hml (hown : s.vm.findClass RX6 = some m.cls) hC hlocks hR hl => ?_)
  have hl : lv_has ls 6 [(0, .ref (g.ad 1 0)), (1, .ref (g.ad 8 (c9)))] := hl
  refine lv_null hx hb dX6_bestReceiptFor_0 ?_
  refine lv_astore_nN (lv' := [(2, .null), (0, .ref (g.ad 1 0)), (1, .ref (g.ad 8 (c9)))]) hx hb dX6_bestReceiptFor_1 rfl hl (by decide) rfl (fun ls hl => ?_)
  refine lv_iconst (v := (-1)) hx hb dX6_bestReceiptFor_2 (by decide) ?_
  refine lv_istore_n (lv' := [(3, .int ((-1))), (2, .null), (0, .ref (g.ad 1 0)), (1, .ref (g.ad 8 (c9)))]) hx hb dX6_bestReceiptFor_3 rfl hl (by decide) rfl (fun ls hl => ?_)
  refine lv_iconst (v := 0) hx hb dX6_bestReceiptFor_4 (by decide) ?_
  refine lv_istore (lv' := [(4, .int (0)), (3, .int ((-1))), (2, .null), (0, .ref (g.ad 1 0)), (1, .ref (g.ad 8 (c9)))]) hx hb dX6_bestReceiptFor_5 hl (by decide) rfl (fun ls hl => ?_)
  have loop7 : ∀ (n i : Nat), i ≤ S.nr → S.nr < i + n → ∀ ls, lv_has ls 6 [(4, .int (nI i)), (3, .int ((bR S c9 i).2)), (2, va_rf (((bR S c9 i).1).map (g.ad 9))), (0, .ref (g.ad 1 0)), (1, .ref (g.ad 8 (c9)))] → W p l e (rD 3) s m ([.ref (g.ad 1 0), .ref (g.ad 8 (c9))] : List Value).toArray below meth c s.heap [] 0 0 (MQ below (RQ (va_rf ((bRA S c9).map (g.ad 9)))) ([.ref (g.ad 1 0), .ref (g.ad 8 (c9))] : List Value).toArray s 0 0 (fun _ => False)) (F0 m 7 ls []) := by
    intro n
    induction n with
    | zero => intro i h1 h2; exact absurd h2 (by omega)
    | succ n ih =>
      intro i hi hin ls hl
      refine lv_iload hx hb dX6_bestReceiptFor_7 (lv_at hl 0 rfl) ?_
      refine lv_aload_n hx hb dX6_bestReceiptFor_9 rfl (lv_at hl 3 rfl) ?_
      refine gf_X6_3 hx hb hown hC (RA.x hR) (zf_X6_22 hC.1) dX6_bestReceiptFor_10 ?_
      refine rc_V (As := []) hx hb hml hown hC hl (c_size l E _ _ _ _) (rec_of hC (RA.ls hR (by decide : 3 < 4)) rfl) (zm_X6_51 hC.1) kv_Jx4a65c_size_8abf5 (RA.ls hR (by decide : 3 < 4)) rfl rfl (rD_le (by decide) (by decide)) ⟨rfl, rfl⟩ (Nat.le_of_ble_eq_true rfl) ⟨Nat.zero_le _, Nat.zero_le _⟩ dX6_bestReceiptFor_13 ?_
      refine lv_icmp_ge (tgt := 68) hx hb dX6_bestReceiptFor_16 (by decide) (fun c_16 => ?_) (fun c_16 => ?_)
      ·
        have hi := ge_in c_16 hi hI.nr31
        subst hi
        refine lw_aload_n hx hb dX6_bestReceiptFor_68 rfl (lv_at hl 2 rfl) ?_
        exact rr_a hx hb hr hlocks rfl dX6_bestReceiptFor_69
      ·
        have hlt := ge_out c_16 hi hI.nr31
        refine lv_aload_n hx hb dX6_bestReceiptFor_19 rfl (lv_at hl 3 rfl) ?_
        refine gf_X6_3 hx hb hown hC (RA.x hR) (zf_X6_22 hC.1) dX6_bestReceiptFor_20 ?_
        refine lv_iload hx hb dX6_bestReceiptFor_23 (lv_at hl 0 rfl) ?_
        refine rc_V (As := [.int (nI i)]) hx hb hml hown hC hl (c_getL l E 3 rfl hR (by decide) hlt) (rec_of hC (RA.ls hR (by decide : 3 < 4)) rfl) (zm_X6_253 hC.1) kv_Jx4a65c_get_915e3 (RA.gp hR 3 (by decide) hlt) rfl rfl (rD_le (by decide) (by decide)) ⟨rfl, rfl⟩ (Nat.le_of_ble_eq_true rfl) ⟨Nat.zero_le _, Nat.zero_le _⟩ dX6_bestReceiptFor_25 ?_
        refine g_cast hx hb hown hC (RA.re hR hlt) rfl (zc_X6_177 hC.1) dX6_bestReceiptFor_28 ?_
        refine lv_astore (lv' := [(5, .ref (g.ad 9 (i))), (4, .int (nI i)), (3, .int ((bR S c9 i).2)), (2, va_rf (((bR S c9 i).1).map (g.ad 9))), (0, .ref (g.ad 1 0)), (1, .ref (g.ad 8 (c9)))]) hx hb dX6_bestReceiptFor_31 hl (by decide) rfl (fun ls hl => ?_)
        refine lv_aload_n hx hb dX6_bestReceiptFor_33 rfl (lv_at hl 5 rfl) ?_
        refine lv_aload hx hb dX6_bestReceiptFor_34 (lv_at hl 0 rfl) ?_
        refine rc_S (As := [.ref (g.ad 8 (c9)), .ref (g.ad 9 (i))]) hx hb hml hown hC hl (c_X6_goTogether l E hI hc (g.ad 9 (i)) (nI (i)) (S.ra (i)) (S.rd (i)) (S.rx (i)) (S.ro (i))) (zm_X6_278 hC.1) kv_X6_goTogether ⟨hR, (RA.re hR hlt)⟩ rfl rfl (rD_le (by decide) (by decide)) ⟨rfl, rfl⟩ (Nat.le_of_ble_eq_true rfl) ⟨Nat.zero_le _, Nat.zero_le _⟩ dX6_bestReceiptFor_36 ?_
        refine lv_if_eq (tgt := 62) hx hb dX6_bestReceiptFor_39 (by decide) (fun c_39 => ?_) (fun c_39 => ?_)
        ·
          refine lv_iinc (v := nI i + 1) (lv' := [(4, .int (nI i + 1)), (5, .ref (g.ad 9 (i))), (3, .int ((bR S c9 i).2)), (2, va_rf (((bR S c9 i).1).map (g.ad 9))), (0, .ref (g.ad 1 0)), (1, .ref (g.ad 8 (c9)))]) hx hb dX6_bestReceiptFor_62 hl (k := 1) rfl rfl (by decide) rfl (fun ls hl => ?_)
          refine lv_goto (tgt := 7) hx hb dX6_bestReceiptFor_65 (by decide) ?_
          refine ih (i + 1) hlt (by omega) ls ?_
          rw [nI_succ i, bR_a c_39]
          exact lv_sub hl [0, 2, 3, 4, 5] rfl
        ·
          refine lv_aload_n hx hb dX6_bestReceiptFor_42 rfl (lv_at hl 5 rfl) ?_
          refine lv_aload hx hb dX6_bestReceiptFor_43 (lv_at hl 0 rfl) ?_
          refine rc_S (As := [.ref (g.ad 8 (c9)), .ref (g.ad 9 (i))]) hx hb hml hown hC hl (c_X6_scoreOf l E hI hc (g.ad 9 (i)) (nI (i)) (S.ra (i)) (S.rd (i)) (S.rx (i)) (S.ro (i))) (zm_X6_247 hC.1) kv_X6_scoreOf ⟨hR, (RA.re hR hlt)⟩ rfl rfl (rD_le (by decide) (by decide)) ⟨rfl, rfl⟩ (Nat.le_of_ble_eq_true rfl) ⟨Nat.zero_le _, Nat.zero_le _⟩ dX6_bestReceiptFor_45 ?_
          refine lv_iload_n hx hb dX6_bestReceiptFor_48 rfl (lv_at hl 2 rfl) ?_
          refine lv_icmp_le (tgt := 62) hx hb dX6_bestReceiptFor_49 (by decide) (fun c_49 => ?_) (fun c_49 => ?_)
          ·
            refine lv_iinc (v := nI i + 1) (lv' := [(4, .int (nI i + 1)), (5, .ref (g.ad 9 (i))), (3, .int ((bR S c9 i).2)), (2, va_rf (((bR S c9 i).1).map (g.ad 9))), (0, .ref (g.ad 1 0)), (1, .ref (g.ad 8 (c9)))]) hx hb dX6_bestReceiptFor_62 hl (k := 1) rfl rfl (by decide) rfl (fun ls hl => ?_)
            refine lv_goto (tgt := 7) hx hb dX6_bestReceiptFor_65 (by decide) ?_
            refine ih (i + 1) hlt (by omega) ls ?_
            rw [nI_succ i, bR_b c_39 c_49]
            exact lv_sub hl [0, 2, 3, 4, 5] rfl
          ·
            refine lv_aload hx hb dX6_bestReceiptFor_52 (lv_at hl 0 rfl) ?_
            refine lv_astore_n (lv' := [(2, .ref (g.ad 9 (i))), (5, .ref (g.ad 9 (i))), (4, .int (nI i)), (3, .int ((bR S c9 i).2)), (0, .ref (g.ad 1 0)), (1, .ref (g.ad 8 (c9)))]) hx hb dX6_bestReceiptFor_54 rfl hl (by decide) rfl (fun ls hl => ?_)
            refine lv_aload_n hx hb dX6_bestReceiptFor_55 rfl (lv_at hl 5 rfl) ?_
            refine lv_aload hx hb dX6_bestReceiptFor_56 (lv_at hl 1 rfl) ?_
            refine rc_S (As := [.ref (g.ad 8 (c9)), .ref (g.ad 9 (i))]) hx hb hml hown hC hl (c_X6_scoreOf l E hI hc (g.ad 9 (i)) (nI (i)) (S.ra (i)) (S.rd (i)) (S.rx (i)) (S.ro (i))) (zm_X6_247 hC.1) kv_X6_scoreOf ⟨hR, (RA.re hR hlt)⟩ rfl rfl (rD_le (by decide) (by decide)) ⟨rfl, rfl⟩ (Nat.le_of_ble_eq_true rfl) ⟨Nat.zero_le _, Nat.zero_le _⟩ dX6_bestReceiptFor_58 ?_
            refine lv_istore_n (lv' := [(3, .int (scA S (c9) (S.ra (i)) (S.rd (i)) (S.rx (i)))), (2, .ref (g.ad 9 (i))), (5, .ref (g.ad 9 (i))), (4, .int (nI i)), (0, .ref (g.ad 1 0)), (1, .ref (g.ad 8 (c9)))]) hx hb dX6_bestReceiptFor_61 rfl hl (by decide) rfl (fun ls hl => ?_)
            refine lv_iinc (v := nI i + 1) (lv' := [(4, .int (nI i + 1)), (3, .int (scA S (c9) (S.ra (i)) (S.rd (i)) (S.rx (i)))), (2, .ref (g.ad 9 (i))), (5, .ref (g.ad 9 (i))), (0, .ref (g.ad 1 0)), (1, .ref (g.ad 8 (c9)))]) hx hb dX6_bestReceiptFor_62 hl (k := 3) rfl rfl (by decide) rfl (fun ls hl => ?_)
            refine lv_goto (tgt := 7) hx hb dX6_bestReceiptFor_65 (by decide) ?_
            refine ih (i + 1) hlt (by omega) ls ?_
            rw [nI_succ i, bR_c c_39 c_49]
            exact lv_sub hl [0, 1, 2, 4, 5] rfl
  refine loop7 (S.nr + 1) 0 (Nat.zero_le _) (by omega) ls ?_
  exact lv_sub hl [0, 1, 2, 3, 4] rfl
set_option maxRecDepth 100000 in
set_option maxHeartbeats 4000000 in
theorem c_X6_leftOf (l : Launch) (E : EE) {S : St} {g : Gh} (hI : Inv S) {k9 : Nat} (hk : k9 < 4) {per9 : Nat} (hper : per9 < 4) (b : Int32) : RM l E yX6_leftOf cX6_leftOf 7 .int (rD 5) [.ref (g.ad 1 0), .int (nI k9), .int (nI per9), .int (b)] (RA E S g) (.int (leftL S k9 b (per9 + 1))) := by
  refine rm_of rfl (Nat.le_of_ble_eq_true rfl) (fun p e s m below meth c ls hx hb hr hml (hown : s.vm.findClass RX6 = some m.cls) hC hlocks hR hl => ?_)
  have hl : lv_has ls 7 [(0, .ref (g.ad 1 0)), (1, .int (nI k9)), (2, .int (nI per9)), (3, .int (b))] := hl
  refine lv_iconst (v := 0) hx hb dX6_leftOf_0 (by decide) ?_
  refine lv_istore (lv' := [(4, .int (0)), (0, .ref (g.ad 1 0)), (1, .int (nI k9)), (2, .int (nI per9)), (3, .int (b))]) hx hb dX6_leftOf_1 hl (by decide) rfl (fun ls hl => ?_)
  refine lv_iconst (v := 0) hx hb dX6_leftOf_3 (by decide) ?_
  refine lv_istore (lv' := [(5, .int (0)), (4, .int (0)), (0, .ref (g.ad 1 0)), (1, .int (nI k9)), (2, .int (nI per9)), (3, .int (b))]) hx hb dX6_leftOf_4 hl (by decide) rfl (fun ls hl => ?_)
  have loop6 : ∀ (r i : Nat), i + r = per9 + 1 → ∀ ls, lv_has ls 7 [(5, .int (nI i)), (4, .int (leftL S k9 b i)), (0, .ref (g.ad 1 0)), (1, .int (nI k9)), (2, .int (nI per9)), (3, .int (b))] → W p l e (rD 5) s m ([.ref (g.ad 1 0), .int (nI k9), .int (nI per9), .int (b)] : List Value).toArray below meth c s.heap [] 0 0 (MQ below (RQ (.int (leftL S k9 b (per9 + 1)))) ([.ref (g.ad 1 0), .int (nI k9), .int (nI per9), .int (b)] : List Value).toArray s 0 0 (fun _ => False)) (F0 m 6 ls []) := by
    intro r
    induction r with
    | zero =>
      intro i hr9 ls hl
      have hi9 : i = per9 + 1 := by omega
      subst hi9
      refine lv_iload hx hb dX6_leftOf_6 (lv_at hl 0 rfl) ?_
      refine lv_iload_n hx hb dX6_leftOf_8 rfl (lv_at hl 4 rfl) ?_
      refine lv_icmp_gt (tgt := 63) hx hb dX6_leftOf_9 (by decide) (fun c_9 => ?_) (fun c_9 => ?_)
      ·
        refine lv_iload hx hb dX6_leftOf_63 (lv_at hl 1 rfl) ?_
        exact rr_i hx hb hr hlocks rfl dX6_leftOf_65
      · exact absurd (nI_lt (Nat.lt_succ_self per9) (by omega)) c_9
    | succ r ih =>
      intro i hr9 ls hl
      have hi4 : i < 4 := by omega
      refine lv_iload hx hb dX6_leftOf_6 (lv_at hl 0 rfl) ?_
      refine lv_iload_n hx hb dX6_leftOf_8 rfl (lv_at hl 4 rfl) ?_
      refine lv_icmp_gt (tgt := 63) hx hb dX6_leftOf_9 (by decide) (fun c_9 => ?_) (fun c_9 => ?_)
      · exact absurd c_9 (nI_nlt (by omega) (by omega))
      ·
        refine lv_iload hx hb dX6_leftOf_12 (lv_at hl 1 rfl) ?_
        refine lv_iconst (v := 0) hx hb dX6_leftOf_14 (by decide) ?_
        refine va_mmax hx hb (hml.trans hl.1.symm) hown (zm_X6_292 hC.1) (ztm_max hC.1) (znm hC.1) (zkm_max hC.1) (Nat.le_of_ble_eq_true rfl) (Nat.le_of_ble_eq_true rfl) (Nat.zero_le _) (Nat.zero_le _) dX6_leftOf_15 ?_
        refine lv_aload_n hx hb dX6_leftOf_18 rfl (lv_at hl 2 rfl) ?_
        refine gf_X6_6 hx hb hown hC (RA.x hR) (zf_X6_37 hC.1) dX6_leftOf_19 ?_
        refine lv_iload_n hx hb dX6_leftOf_22 rfl (lv_at hl 3 rfl) ?_
        refine lv_iconst (v := 0) hx hb dX6_leftOf_23 (by decide) ?_
        refine rc_V (As := [.int (nI k9), .int (0)]) hx hb hml hown hC hl (c_X4_at l E hI (by decide : 2 < 4) (r9 := k9) (c9 := 0) hk (by decide)) (rec_of hC (RA.tb hR (by decide : 2 < 4)) rfl) (zm_X6_361 hC.1) kv_X4_at hR rfl rfl (rD_le (by decide) (by decide)) ⟨rfl, rfl⟩ (Nat.le_of_ble_eq_true rfl) ⟨Nat.zero_le _, Nat.zero_le _⟩ dX6_leftOf_24 ?_
        refine lv_imul hx hb dX6_leftOf_27 ?_
        refine lv_bipush (v := 100) hx hb dX6_leftOf_28 (by decide) ?_
        refine lv_idiv hx hb dX6_leftOf_30 (by decide) ?_
        refine lv_istore (lv' := [(6, .int (((maxI (leftL S k9 b i) (0)) * (S.tb 2 (k9 * 1 + 0))) / (100))), (5, .int (nI i)), (4, .int (leftL S k9 b i)), (0, .ref (g.ad 1 0)), (1, .int (nI k9)), (2, .int (nI per9)), (3, .int (b))]) hx hb dX6_leftOf_31 hl (by decide) rfl (fun ls hl => ?_)
        refine lv_aload_n hx hb dX6_leftOf_33 rfl (lv_at hl 3 rfl) ?_
        refine gf_X6_5 hx hb hown hC (RA.x hR) (zf_X6_34 hC.1) dX6_leftOf_34 ?_
        refine lv_iload_n hx hb dX6_leftOf_37 rfl (lv_at hl 4 rfl) ?_
        refine lv_iload hx hb dX6_leftOf_38 (lv_at hl 1 rfl) ?_
        refine rc_V (As := [.int (nI k9), .int (nI i)]) hx hb hml hown hC hl (c_X4_at l E hI (by decide : 1 < 4) (r9 := k9) (c9 := i) hk hi4) (rec_of hC (RA.tb hR (by decide : 1 < 4)) rfl) (zm_X6_361 hC.1) kv_X4_at hR rfl rfl (rD_le (by decide) (by decide)) ⟨rfl, rfl⟩ (Nat.le_of_ble_eq_true rfl) ⟨Nat.zero_le _, Nat.zero_le _⟩ dX6_leftOf_40 ?_
        refine lv_iload hx hb dX6_leftOf_43 (lv_at hl 0 rfl) ?_
        refine lv_iadd hx hb dX6_leftOf_45 ?_
        refine lv_aload_n hx hb dX6_leftOf_46 rfl (lv_at hl 3 rfl) ?_
        refine lv_iload_n hx hb dX6_leftOf_47 rfl (lv_at hl 4 rfl) ?_
        refine lv_iload hx hb dX6_leftOf_48 (lv_at hl 1 rfl) ?_
        refine lv_iload_n hx hb dX6_leftOf_50 rfl (lv_at hl 6 rfl) ?_
        refine rc_V (As := [.int (nI k9), .int (nI i), .int (b)]) hx hb hml hown hC hl (c_X6_costIn l E hI (nI k9) (nI i) (b)) (rec_of hC (RA.x hR) rfl) (zm_X6_368 hC.1) kv_X6_costIn hR rfl rfl (rD_le (by decide) (by decide)) ⟨rfl, rfl⟩ (Nat.le_of_ble_eq_true rfl) ⟨Nat.zero_le _, Nat.zero_le _⟩ dX6_leftOf_51 ?_
        refine lv_isub hx hb dX6_leftOf_54 ?_
        refine lv_istore (lv' := [(4, .int (((S.tb 1 (k9 * 4 + i)) + (((maxI (leftL S k9 b i) (0)) * (S.tb 2 (k9 * 1 + 0))) / (100))) - (costInA S (nI k9) (nI i) (b)))), (6, .int (((maxI (leftL S k9 b i) (0)) * (S.tb 2 (k9 * 1 + 0))) / (100))), (5, .int (nI i)), (0, .ref (g.ad 1 0)), (1, .int (nI k9)), (2, .int (nI per9)), (3, .int (b))]) hx hb dX6_leftOf_55 hl (by decide) rfl (fun ls hl => ?_)
        refine lv_iinc (v := nI i + 1) (lv' := [(5, .int (nI i + 1)), (4, .int (((S.tb 1 (k9 * 4 + i)) + (((maxI (leftL S k9 b i) (0)) * (S.tb 2 (k9 * 1 + 0))) / (100))) - (costInA S (nI k9) (nI i) (b)))), (6, .int (((maxI (leftL S k9 b i) (0)) * (S.tb 2 (k9 * 1 + 0))) / (100))), (0, .ref (g.ad 1 0)), (1, .int (nI k9)), (2, .int (nI per9)), (3, .int (b))]) hx hb dX6_leftOf_57 hl (k := 2) rfl rfl (by decide) rfl (fun ls hl => ?_)
        refine lv_goto (tgt := 6) hx hb dX6_leftOf_60 (by decide) ?_
        refine ih (i + 1) (by omega) ls ?_
        rw [nI_succ i]
        exact lv_sub hl [0, 1, 3, 4, 5, 6] rfl
  exact loop6 (per9 + 1) 0 (by omega) ls (lv_sub hl [0, 1, 2, 3, 4, 5] rfl)
set_option maxRecDepth 100000 in
set_option maxHeartbeats 4000000 in
theorem c_X6_numberOf6N (l : Launch) (E : EE) {S : St} {g : Gh} (hI : Inv S)  : RM l E yX6_numberOf cX6_numberOf 1 .int (rD 0) [.null] (RA E S g) (.int (-1)) := by
  refine rm_of rfl (Nat.le_of_ble_eq_true rfl) (fun p e s m below meth c ls hx hb hr hml (hown : s.vm.findClass RX6 = some m.cls) hC hlocks hR hl => ?_)
  have hl : lv_has ls 1 [(0, .null)] := hl
  refine lv_aload_nN hx hb dX6_numberOf_0 rfl (lv_at hl 0 rfl) ?_
  refine lv_ifnonnullN hx hb dX6_numberOf_1 ?_
  refine lv_iconst (v := (-1)) hx hb dX6_numberOf_4 (by decide) ?_
  refine lv_goto (tgt := 12) hx hb dX6_numberOf_5 (by decide) ?_
  exact rr_i hx hb hr hlocks rfl dX6_numberOf_12
set_option maxRecDepth 100000 in
set_option maxHeartbeats 4000000 in
theorem c_X6_numberOf6S (l : Launch) (E : EE) {S : St} {g : Gh} (hI : Inv S) {j9 : Nat} (hj : j9 < S.np) : RM l E yX6_numberOf cX6_numberOf 1 .int (rD 0) [.ref (g.ad 6 (j9))] (RA E S g) (.int (nI j9)) := by
  refine rm_of rfl (Nat.le_of_ble_eq_true rfl) (fun p e s m below meth c ls hx hb hr hml (hown : s.vm.findClass RX6 = some m.cls) hC hlocks hR hl => ?_)
  have hl : lv_has ls 1 [(0, .ref (g.ad 6 (j9)))] := hl
  refine lv_aload_n hx hb dX6_numberOf_0 rfl (lv_at hl 0 rfl) ?_
  refine lv_ifnonnull (tgt := 8) hx hb dX6_numberOf_1 (by decide) ?_
  refine lv_aload_n hx hb dX6_numberOf_8 rfl (lv_at hl 0 rfl) ?_
  refine gf_X2_0 hx hb hown hC (RA.pe hR hj) (zf_X6_341 hC.1) dX6_numberOf_9 ?_
  exact rr_i hx hb hr hlocks rfl dX6_numberOf_12
theorem c_X6_numberOf6 (l : Launch) (E : EE) {S : St} {g : Gh} (hI : Inv S) (o : Option Nat) (ho : ∀ j, o = some j → j < S.np) : RM l E yX6_numberOf cX6_numberOf 1 .int (rD 0) [va_rf (o.map (g.ad 6))] (RA E S g) (.int (irI o)) := by
  cases o with
  | none => exact c_X6_numberOf6N l E hI
  | some j => exact c_X6_numberOf6S l E hI (ho j rfl)
set_option maxRecDepth 100000 in
set_option maxHeartbeats 4000000 in
theorem c_X6_numberOf7S (l : Launch) (E : EE) {S : St} {g : Gh} (hI : Inv S) {j9 : Nat} (hj : j9 < S.nt) : RM l E yX6_numberOf cX6_numberOf 1 .int (rD 0) [.ref (g.ad 7 (j9))] (RA E S g) (.int (nI j9)) := by
  exact absurd hj (by show ¬ _ < S.nt; rw [hI.nt0]; exact Nat.not_lt_zero _)
theorem c_X6_numberOf7 (l : Launch) (E : EE) {S : St} {g : Gh} (hI : Inv S) (o : Option Nat) (ho : ∀ j, o = some j → j < S.nt) : RM l E yX6_numberOf cX6_numberOf 1 .int (rD 0) [va_rf (o.map (g.ad 7))] (RA E S g) (.int (irI o)) := by
  cases o with
  | none => exact c_X6_numberOf6N l E hI
  | some j => exact c_X6_numberOf7S l E hI (ho j rfl)
set_option maxRecDepth 100000 in
set_option maxHeartbeats 4000000 in
theorem c_X6_numberOf8S (l : Launch) (E : EE) {S : St} {g : Gh} (hI : Inv S) {j9 : Nat} (hj : j9 < S.nc) : RM l E yX6_numberOf cX6_numberOf 1 .int (rD 0) [.ref (g.ad 8 (j9))] (RA E S g) (.int (nI j9)) := by
  refine rm_of rfl (Nat.le_of_ble_eq_true rfl) (fun p e s m below meth c ls hx hb hr hml (hown : s.vm.findClass RX6 = some m.cls) hC hlocks hR hl => ?_)
  have hl : lv_has ls 1 [(0, .ref (g.ad 8 (j9)))] := hl
  refine lv_aload_n hx hb dX6_numberOf_0 rfl (lv_at hl 0 rfl) ?_
  refine lv_ifnonnull (tgt := 8) hx hb dX6_numberOf_1 (by decide) ?_
  refine lv_aload_n hx hb dX6_numberOf_8 rfl (lv_at hl 0 rfl) ?_
  refine gf_X0_0 hx hb hown hC (RA.ch hR hj) (zf_X6_341 hC.1) dX6_numberOf_9 ?_
  exact rr_i hx hb hr hlocks rfl dX6_numberOf_12
theorem c_X6_numberOf8 (l : Launch) (E : EE) {S : St} {g : Gh} (hI : Inv S) (o : Option Nat) (ho : ∀ j, o = some j → j < S.nc) : RM l E yX6_numberOf cX6_numberOf 1 .int (rD 0) [va_rf (o.map (g.ad 8))] (RA E S g) (.int (irI o)) := by
  cases o with
  | none => exact c_X6_numberOf6N l E hI
  | some j => exact c_X6_numberOf8S l E hI (ho j rfl)
set_option maxRecDepth 100000 in
set_option maxHeartbeats 4000000 in
theorem c_X6_numberOf9S (l : Launch) (E : EE) {S : St} {g : Gh} (hI : Inv S) {j9 : Nat} (hj : j9 < S.nr) : RM l E yX6_numberOf cX6_numberOf 1 .int (rD 0) [.ref (g.ad 9 (j9))] (RA E S g) (.int (nI j9)) := by
  refine rm_of rfl (Nat.le_of_ble_eq_true rfl) (fun p e s m below meth c ls hx hb hr hml (hown : s.vm.findClass RX6 = some m.cls) hC hlocks hR hl => ?_)
  have hl : lv_has ls 1 [(0, .ref (g.ad 9 (j9)))] := hl
  refine lv_aload_n hx hb dX6_numberOf_0 rfl (lv_at hl 0 rfl) ?_
  refine lv_ifnonnull (tgt := 8) hx hb dX6_numberOf_1 (by decide) ?_
  refine lv_aload_n hx hb dX6_numberOf_8 rfl (lv_at hl 0 rfl) ?_
  refine gf_X3_0 hx hb hown hC (RA.re hR hj) (zf_X6_341 hC.1) dX6_numberOf_9 ?_
  exact rr_i hx hb hr hlocks rfl dX6_numberOf_12
theorem c_X6_numberOf9 (l : Launch) (E : EE) {S : St} {g : Gh} (hI : Inv S) (o : Option Nat) (ho : ∀ j, o = some j → j < S.nr) : RM l E yX6_numberOf cX6_numberOf 1 .int (rD 0) [va_rf (o.map (g.ad 9))] (RA E S g) (.int (irI o)) := by
  cases o with
  | none => exact c_X6_numberOf6N l E hI
  | some j => exact c_X6_numberOf9S l E hI (ho j rfl)

