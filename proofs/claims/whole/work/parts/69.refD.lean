set_option maxRecDepth 100000 in
set_option maxHeartbeats 4000000 in
theorem c_X8_bossOf (l : Launch) (E : EE) {S : St} {th : Int32} {g : Gh} (hI : Inv S) {c9 : Nat} (hc : c9 < S.nc) : RM l E yX8_bossOf cX8_bossOf 5 (.object "ApprovalGridModel$Person") (rD 3) [.ref (g.ad 12 0), .ref (g.ad 8 (c9)), .int (nI (S.ce c9))] (RB E S th g) (va_rf ((bossN S c9).map (g.ad 6))) := by
  refine rm_of rfl (Nat.le_of_ble_eq_true rfl) (fun p e s m below meth c ls hx hb hr hml (hown : s.vm.findClass RX8 = some m.cls) hC hlocks hR hl => ?_)
  have hl : lv_has ls 5 [(0, .ref (g.ad 12 0)), (1, .ref (g.ad 8 (c9))), (2, .int (nI (S.ce c9)))] := hl
  refine lv_aload_n hx hb dX8_bossOf_0 rfl (lv_at hl 0 rfl) ?_
  refine gf_X8_0 hx hb hown hC (RB.dk hR) (zf_X8_12 hC.1) dX8_bossOf_1 ?_
  refine lv_aload_n hx hb dX8_bossOf_4 rfl (lv_at hl 1 rfl) ?_
  refine gf_X7_0 hx hb hown hC (RB.ch hR hc) (zf_X8_92 hC.1) dX8_bossOf_5 ?_
  refine rc_V (As := [.int (nI (S.cp (c9)))]) hx hb hml hown hC hl (c_getLB l E 0 rfl hR (by decide) (hI.cp hc)) (rec_of hC (RB.ls hR (by decide : 0 < 4)) rfl) (zm_X8_39 hC.1) kv_Jx4a65c_get_915e3 (RB.gp hR 0 (by decide) (hI.cp hc)) rfl rfl (rD_le (by decide) (by decide)) ⟨rfl, rfl⟩ (Nat.le_of_ble_eq_true rfl) ⟨Nat.zero_le _, Nat.zero_le _⟩ dX8_bossOf_8 ?_
  refine g_cast hx hb hown hC (RB.pe hR (hI.cp hc)) rfl (zc_X8_43 hC.1) dX8_bossOf_11 ?_
  refine gf_X9_1 hx hb hown hC (RB.pe hR (hI.cp hc)) (zf_X8_154 hC.1) dX8_bossOf_14 ?_
  refine lw_astore_n (lv' := [(3, va_rf ((S.bo (S.cp (c9))).map (g.ad 6))), (0, .ref (g.ad 12 0)), (1, .ref (g.ad 8 (c9))), (2, .int (nI (S.ce c9)))]) hx hb dX8_bossOf_17 rfl hl (by decide) rfl (fun ls hl => ?_)
  refine lv_iconst (v := 0) hx hb dX8_bossOf_18 (by decide) ?_
  refine lv_istore (i := 4) (lv' := [(4, .int (0)), (3, va_rf ((S.bo (S.cp (c9))).map (g.ad 6))), (0, .ref (g.ad 12 0)), (1, .ref (g.ad 8 (c9))), (2, .int (nI (S.ce c9)))]) hx hb dX8_bossOf_19 hl (by decide) (by simp [va_rf_cat, tC]) (fun ls hl => ?_)
  have loop21 : ∀ (r k : Nat), k + r = S.ce c9 → ∀ ls, lv_has ls 5 [(4, .int (nI k)), (3, va_rf ((itB S k (S.bo (S.cp (c9)))).map (g.ad 6))), (0, .ref (g.ad 12 0)), (1, .ref (g.ad 8 (c9))), (2, .int (nI (S.ce c9)))] → W p l e (rD 3) s m ([.ref (g.ad 12 0), .ref (g.ad 8 (c9)), .int (nI (S.ce c9))] : List Value).toArray below meth c s.heap [] 0 0 (MQ below (RQ (va_rf ((bossN S c9).map (g.ad 6)))) ([.ref (g.ad 12 0), .ref (g.ad 8 (c9)), .int (nI (S.ce c9))] : List Value).toArray s 0 0 (fun _ => False)) (F0 m 21 ls []) := by
    intro r
    induction r with
    | zero =>
      intro k hk ls hl
      have hk2 : k = S.ce c9 := by omega
      refine lv_iload hx hb dX8_bossOf_21 (lv_at hl 0 rfl) ?_
      refine lv_iload_n hx hb dX8_bossOf_23 rfl (lv_at hl 4 rfl) ?_
      refine lv_icmp_ge (tgt := 42) hx hb dX8_bossOf_24 (by decide) (fun c_24 => ?_) (fun c_24 => ?_)
      ·
        refine lv_iload_n hx hb dX8_bossOf_42 rfl (lv_at hl 4 rfl) ?_
        refine lv_aload_n hx hb dX8_bossOf_43 rfl (lv_at hl 3 rfl) ?_
        refine rc_V (As := []) hx hb hml hown hC hl (c_X7_needs l E hI hc) (rec_of hC (RB.ch hR hc) rfl) (zm_X8_158 hC.1) kv_X7_needs hR rfl rfl (rD_le (by decide) (by decide)) ⟨rfl, rfl⟩ (Nat.le_of_ble_eq_true rfl) ⟨Nat.zero_le _, Nat.zero_le _⟩ dX8_bossOf_44 ?_
        refine lv_icmp_ge (tgt := 54) hx hb dX8_bossOf_47 (by decide) (fun c_47 => ?_) (fun c_47 => ?_)
        ·
          refine lv_null hx hb dX8_bossOf_54 ?_
          exact rr_n hx hb hr hlocks (by rw [bossB_e, if_neg (Nat.not_lt.mpr ((nle (Nat.lt_of_le_of_lt (mostB_le S c9) (by decide)) (Nat.lt_of_le_of_lt (hI.ce hc) (by decide))).mp c_47))]; rfl) dX8_bossOf_55
        ·
          refine lw_aload_n hx hb dX8_bossOf_50 rfl (lv_at hl 1 rfl) ?_
          refine lv_goto (tgt := 55) hx hb dX8_bossOf_51 (by decide) ?_
          exact rr_a hx hb hr hlocks (by rw [bossB_e, if_pos (Nat.lt_of_not_le (fun h => c_47 ((nle (Nat.lt_of_le_of_lt (mostB_le S c9) (by decide)) (Nat.lt_of_le_of_lt (hI.ce hc) (by decide))).mpr h))), hk2]) dX8_bossOf_55
      · exact absurd (by rw [hk2]; exact Int32.le_refl _) c_24
    | succ r ih =>
      intro k hk ls hl
      refine lv_iload hx hb dX8_bossOf_21 (lv_at hl 0 rfl) ?_
      refine lv_iload_n hx hb dX8_bossOf_23 rfl (lv_at hl 4 rfl) ?_
      refine lv_icmp_ge (tgt := 42) hx hb dX8_bossOf_24 (by decide) (fun c_24 => ?_) (fun c_24 => ?_)
      · exact absurd c_24 (nI_ge (by omega) (by have := hI.ce hc; omega))
      ·
        refine lw_aload_n hx hb dX8_bossOf_27 rfl (lv_at hl 1 rfl) ?_
        refine lw_ifnull (tgt := 42) hx hb dX8_bossOf_28 (by decide) (fun o_28 => ?_) (fun j_28 o_28 => ?_)
        ·
          refine lv_iload_n hx hb dX8_bossOf_42 rfl (lv_at hl 4 rfl) ?_
          refine lv_aload_n hx hb dX8_bossOf_43 rfl (lv_at hl 3 rfl) ?_
          refine rc_V (As := []) hx hb hml hown hC hl (c_X7_needs l E hI hc) (rec_of hC (RB.ch hR hc) rfl) (zm_X8_158 hC.1) kv_X7_needs hR rfl rfl (rD_le (by decide) (by decide)) ⟨rfl, rfl⟩ (Nat.le_of_ble_eq_true rfl) ⟨Nat.zero_le _, Nat.zero_le _⟩ dX8_bossOf_44 ?_
          refine lv_icmp_ge (tgt := 54) hx hb dX8_bossOf_47 (by decide) (fun c_47 => ?_) (fun c_47 => ?_)
          ·
            refine lv_null hx hb dX8_bossOf_54 ?_
            exact rr_n hx hb hr hlocks (by rw [bossB_e, if_neg (Nat.not_lt.mpr ((nle (Nat.lt_of_le_of_lt (mostB_le S c9) (by decide)) (Nat.lt_of_le_of_lt (hI.ce hc) (by decide))).mp c_47))]; rfl) dX8_bossOf_55
          ·
            refine lw_aload_n hx hb dX8_bossOf_50 rfl (lv_at hl 1 rfl) ?_
            refine lv_goto (tgt := 55) hx hb dX8_bossOf_51 (by decide) ?_
            exact rr_a hx hb hr hlocks (by rw [bossB_e, if_pos (Nat.lt_of_not_le (fun h => c_47 ((nle (Nat.lt_of_le_of_lt (mostB_le S c9) (by decide)) (Nat.lt_of_le_of_lt (hI.ce hc) (by decide))).mpr h))), itB_none o_28 (by omega : k ≤ S.ce c9), o_28]) dX8_bossOf_55
        ·
          refine lw_aload_n hx hb dX8_bossOf_31 rfl (lv_at hl 1 rfl) ?_
          refine lw_some o_28 ?_
          refine gf_X9_1 hx hb hown hC (RB.pe hR (itB_lt hI (fun j h => hI.bo (hI.cp hc) h) o_28)) (zf_X8_154 hC.1) dX8_bossOf_32 ?_
          refine lw_astore_n (lv' := [(3, va_rf ((S.bo (j_28)).map (g.ad 6))), (4, .int (nI k)), (0, .ref (g.ad 12 0)), (1, .ref (g.ad 8 (c9))), (2, .int (nI (S.ce c9)))]) hx hb dX8_bossOf_35 rfl hl (by decide) rfl (fun ls hl => ?_)
          refine lv_iinc (v := nI k + 1) (lv' := [(4, .int (nI k + 1)), (3, va_rf ((S.bo (j_28)).map (g.ad 6))), (0, .ref (g.ad 12 0)), (1, .ref (g.ad 8 (c9))), (2, .int (nI (S.ce c9)))]) hx hb dX8_bossOf_36 hl (k := 1) rfl rfl (by decide) (by simp [va_rf_cat, tC]) (fun ls hl => ?_)
          refine lv_goto (tgt := 21) hx hb dX8_bossOf_39 (by decide) ?_
          refine ih (k + 1) (by omega) ls ?_
          rw [nI_succ k, show itB S (k + 1) (S.bo (S.cp (c9))) = S.bo j_28 from by show (itB S k (S.bo (S.cp (c9)))).bind S.bo = _; rw [o_28]; rfl]
          exact lv_sub hl [0, 1, 2, 3, 4] rfl
  exact loop21 (S.ce c9) 0 (by omega) ls (lv_sub hl [0, 1, 2, 3, 4] rfl)
set_option maxRecDepth 100000 in
set_option maxHeartbeats 4000000 in
theorem c_X8_approver (l : Launch) (E : EE) {S : St} {th : Int32} {g : Gh} (hI : Inv S) {c9 : Nat} (hc : c9 < S.nc) : RM l E yX8_approver cX8_approver 3 .int (rD 4) [.ref (g.ad 12 0), .ref (g.ad 8 (c9))] (RB E S th g) (.int (irI (apprA S c9))) := by
  refine rm_of rfl (Nat.le_of_ble_eq_true rfl) (fun p e s m below meth c ls hx hb hr hml (hown : s.vm.findClass RX8 = some m.cls) hC hlocks hR hl => ?_)
  have hl : lv_has ls 3 [(0, .ref (g.ad 12 0)), (1, .ref (g.ad 8 (c9)))] := hl
  refine lv_aload_n hx hb dX8_approver_0 rfl (lv_at hl 0 rfl) ?_
  refine lv_aload_n hx hb dX8_approver_1 rfl (lv_at hl 1 rfl) ?_
  refine lv_aload_n hx hb dX8_approver_2 rfl (lv_at hl 1 rfl) ?_
  refine gf_X7_10 hx hb hown hC (RB.ch hR hc) (zf_X8_137 hC.1) dX8_approver_3 ?_
  refine rc_V (As := [.ref (g.ad 8 (c9)), .int (nI (S.ce (c9)))]) hx hb hml hown hC hl (c_X8_bossOf l E hI hc) (rec_of hC (RB.dk hR) rfl) (zm_X8_161 hC.1) kv_X8_bossOf hR rfl rfl (rD_le (by decide) (by decide)) ⟨rfl, rfl⟩ (Nat.le_of_ble_eq_true rfl) ⟨Nat.zero_le _, Nat.zero_le _⟩ dX8_approver_6 ?_
  refine lw_astore_n (lv' := [(2, va_rf ((bossN S (c9)).map (g.ad 6))), (0, .ref (g.ad 12 0)), (1, .ref (g.ad 8 (c9)))]) hx hb dX8_approver_9 rfl hl (by decide) rfl (fun ls hl => ?_)
  refine lv_aload_n hx hb dX8_approver_10 rfl (lv_at hl 2 rfl) ?_
  refine gf_X7_8 hx hb hown hC (RB.ch hR hc) (zf_X8_101 hC.1) dX8_approver_11 ?_
  refine lv_iconst (v := 1) hx hb dX8_approver_14 (by decide) ?_
  refine lv_icmp_ne (tgt := 22) hx hb dX8_approver_15 (by decide) (fun c_15 => ?_) (fun c_15 => ?_)
  ·
    refine lv_iconst (v := (-1)) hx hb dX8_approver_22 (by decide) ?_
    exact rr_i hx hb hr hlocks (by simp [apprA, apprO, irI, c_15]) dX8_approver_23
  ·
    refine lw_aload_n hx hb dX8_approver_18 rfl (lv_at hl 0 rfl) ?_
    refine lw_ifnonnull (tgt := 24) hx hb dX8_approver_19 (by decide) (fun j_19 o_19 => ?_) (fun o_19 => ?_)
    ·
      refine lv_aload_n hx hb dX8_approver_24 rfl (lv_at hl 1 rfl) ?_
      refine lw_aload_n hx hb dX8_approver_25 rfl (lv_at hl 0 rfl) ?_
      refine lw_some o_19 ?_
      refine gf_X9_0 hx hb hown hC (RB.pe hR (bossN_lt hI hc o_19)) (zf_X8_165 hC.1) dX8_approver_26 ?_
      refine rc_V (As := [.int (nI (j_19))]) hx hb hml hown hC hl (c_X8_isAway l E hI (bossN_lt hI hc o_19)) (rec_of hC (RB.dk hR) rfl) (zm_X8_168 hC.1) kv_X8_isAway hR rfl rfl (rD_le (by decide) (by decide)) ⟨rfl, rfl⟩ (Nat.le_of_ble_eq_true rfl) ⟨Nat.zero_le _, Nat.zero_le _⟩ dX8_approver_29 ?_
      refine lv_if_ne (tgt := 40) hx hb dX8_approver_32 (by decide) (fun c_32 => ?_) (fun c_32 => ?_)
      ·
        refine lw_aload_n hx hb dX8_approver_40 rfl (lv_at hl 0 rfl) ?_
        refine lw_some o_19 ?_
        obtain ⟨t9, ht9⟩ := away_si hI (bossN_lt hI hc o_19) c_32
        refine gf_X9_6 hx hb hown hC (RB.pe hR (bossN_lt hI hc o_19)) (zf_X8_172 hC.1) dX8_approver_41 ?_
        rw [show irI (S.si (j_19)) = nI t9 by rw [ht9]; rfl]
        refine lv_aload_n hx hb dX8_approver_44 rfl (lv_at hl 2 rfl) ?_
        refine gf_X7_0 hx hb hown hC (RB.ch hR hc) (zf_X8_92 hC.1) dX8_approver_45 ?_
        refine lv_icmp_eq (tgt := 62) hx hb dX8_approver_48 (by decide) (fun c_48 => ?_) (fun c_48 => ?_)
        ·
          have c_48 : t9 = S.cp c9 := (nI_eq (Nat.lt_trans (hI.si (bossN_lt hI hc o_19) ht9) hI.np31) (Nat.lt_trans (hI.cp hc) hI.np31)).mp c_48
          refine lv_iconst (v := (-1)) hx hb dX8_approver_62 (by decide) ?_
          refine lv_goto (tgt := 70) hx hb dX8_approver_63 (by decide) ?_
          exact rr_i hx hb hr hlocks (by simp [apprA, apprO, irI, c_15, o_19, c_32, c_48, ht9]) dX8_approver_70
        ·
          have c_48 : ¬ t9 = S.cp c9 := fun h => c_48 (congrArg nI h)
          refine lv_aload_n hx hb dX8_approver_51 rfl (lv_at hl 1 rfl) ?_
          refine lw_aload_n hx hb dX8_approver_52 rfl (lv_at hl 0 rfl) ?_
          refine lw_some o_19 ?_
          refine gf_X9_6 hx hb hown hC (RB.pe hR (bossN_lt hI hc o_19)) (zf_X8_172 hC.1) dX8_approver_53 ?_
          rw [show irI (S.si (j_19)) = nI t9 by rw [ht9]; rfl]
          refine rc_V (As := [.int (nI t9)]) hx hb hml hown hC hl (c_X8_isAway l E hI (hI.si (bossN_lt hI hc o_19) ht9)) (rec_of hC (RB.dk hR) rfl) (zm_X8_168 hC.1) kv_X8_isAway hR rfl rfl (rD_le (by decide) (by decide)) ⟨rfl, rfl⟩ (Nat.le_of_ble_eq_true rfl) ⟨Nat.zero_le _, Nat.zero_le _⟩ dX8_approver_56 ?_
          refine lv_if_eq (tgt := 66) hx hb dX8_approver_59 (by decide) (fun c_59 => ?_) (fun c_59 => ?_)
          ·
            refine lw_aload_n hx hb dX8_approver_66 rfl (lv_at hl 0 rfl) ?_
            refine lw_some o_19 ?_
            refine gf_X9_6 hx hb hown hC (RB.pe hR (bossN_lt hI hc o_19)) (zf_X8_172 hC.1) dX8_approver_67 ?_
            rw [show irI (S.si (j_19)) = nI t9 by rw [ht9]; rfl]
            exact rr_i hx hb hr hlocks (by simp [apprA, apprO, irI, c_15, o_19, c_32, c_48, c_59, ht9]) dX8_approver_70
          ·
            refine lv_iconst (v := (-1)) hx hb dX8_approver_62 (by decide) ?_
            refine lv_goto (tgt := 70) hx hb dX8_approver_63 (by decide) ?_
            exact rr_i hx hb hr hlocks (by simp [apprA, apprO, irI, c_15, o_19, c_32, c_48, c_59, ht9]) dX8_approver_70
      ·
        refine lw_aload_n hx hb dX8_approver_35 rfl (lv_at hl 0 rfl) ?_
        refine lw_some o_19 ?_
        refine gf_X9_0 hx hb hown hC (RB.pe hR (bossN_lt hI hc o_19)) (zf_X8_165 hC.1) dX8_approver_36 ?_
        exact rr_i hx hb hr hlocks (by simp [apprA, apprO, irI, c_15, o_19, c_32]) dX8_approver_39
    ·
      refine lv_iconst (v := (-1)) hx hb dX8_approver_22 (by decide) ?_
      exact rr_i hx hb hr hlocks (by simp [apprA, apprO, irI, c_15, o_19]) dX8_approver_23
