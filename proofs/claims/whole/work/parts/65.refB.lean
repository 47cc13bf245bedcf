set_option maxRecDepth 100000 in
set_option maxHeartbeats 4000000 in
theorem c_X7_score (l : Launch) (E : EE) {S : St} {th : Int32} {g : Gh} (hI : Inv S) {c9 : Nat} (hc : c9 < S.nc) (rq : Nat) (am dy tx of : Int32) : RM l E yX7_score cX7_score 4 .int (rD 1) [.ref (g.ad 8 (c9)), .ref (rq)] (fun H => RB E S th g H ∧ va_at E.1 vwCl (rq, .inr (10, [.int am, .int dy, .int tx, .int of])) H) (.int (scA S c9 am dy tx)) := by
  refine rm_of rfl (Nat.le_of_ble_eq_true rfl) (fun p e s m below meth c ls hx hb hr hml (hown : s.vm.findClass RX7 = some m.cls) hC hlocks hR hl => ?_)
  have hl : lv_has ls 4 [(0, .ref (g.ad 8 (c9))), (1, .ref (rq))] := hl
  obtain ⟨hR, hq⟩ := hR
  refine lv_aload_n hx hb dX7_score_0 rfl (lv_at hl 0 rfl) ?_
  refine gf_X7_3 hx hb hown hC (RB.ch hR hc) (zf_X7_31 hC.1) dX7_score_1 ?_
  refine lv_aload_n hx hb dX7_score_4 rfl (lv_at hl 1 rfl) ?_
  refine gf_X10_0 hx hb hown hC hq (zf_X7_43 hC.1) dX7_score_5 ?_
  refine lv_isub hx hb dX7_score_8 ?_
  refine va_mabs hx hb (hml.trans hl.1.symm) hown (zm_X7_46 hC.1) (ztm_abs hC.1) (znm hC.1) (zkm_abs hC.1) (Nat.le_of_ble_eq_true rfl) (Nat.le_of_ble_eq_true rfl) (Nat.zero_le _) (Nat.zero_le _) dX7_score_9 ?_
  refine lv_istore_n (lv' := [(2, .int (absI ((S.ca (c9)) - (am)))), (0, .ref (g.ad 8 (c9))), (1, .ref (rq))]) hx hb dX7_score_12 rfl hl (by decide) rfl (fun ls hl => ?_)
  refine lv_aload_n hx hb dX7_score_13 rfl (lv_at hl 1 rfl) ?_
  refine gf_X7_5 hx hb hown hC (RB.ch hR hc) (zf_X7_37 hC.1) dX7_score_14 ?_
  refine lv_aload_n hx hb dX7_score_17 rfl (lv_at hl 2 rfl) ?_
  refine gf_X10_1 hx hb hown hC hq (zf_X7_52 hC.1) dX7_score_18 ?_
  refine lv_isub hx hb dX7_score_21 ?_
  refine va_mabs hx hb (hml.trans hl.1.symm) hown (zm_X7_46 hC.1) (ztm_abs hC.1) (znm hC.1) (zkm_abs hC.1) (Nat.le_of_ble_eq_true rfl) (Nat.le_of_ble_eq_true rfl) (Nat.zero_le _) (Nat.zero_le _) dX7_score_22 ?_
  refine lv_istore_n (lv' := [(3, .int (absI ((nI (S.cd (c9))) - (dy)))), (2, .int (absI ((S.ca (c9)) - (am)))), (0, .ref (g.ad 8 (c9))), (1, .ref (rq))]) hx hb dX7_score_25 rfl hl (by decide) rfl (fun ls hl => ?_)
  refine lv_iload_n hx hb dX7_score_26 rfl (lv_at hl 1 rfl) ?_
  refine lv_bipush (v := 10) hx hb dX7_score_27 (by decide) ?_
  refine lv_icmp_gt (tgt := 37) hx hb dX7_score_29 (by decide) (fun c_29 => ?_) (fun c_29 => ?_)
  ·
    refine lv_iconst (v := (-1)) hx hb dX7_score_37 (by decide) ?_
    refine lv_goto (tgt := 69) hx hb dX7_score_38 (by decide) ?_
    exact rr_i hx hb hr hlocks (by unfold scA scoreA; rw [if_pos c_29]) dX7_score_69
  ·
    refine lv_iload_n hx hb dX7_score_32 rfl (lv_at hl 0 rfl) ?_
    refine lv_iconst (v := 3) hx hb dX7_score_33 (by decide) ?_
    refine lv_icmp_le (tgt := 41) hx hb dX7_score_34 (by decide) (fun c_34 => ?_) (fun c_34 => ?_)
    ·
      refine lv_bipush (v := 40) hx hb dX7_score_41 (by decide) ?_
      refine lv_iconst (v := 2) hx hb dX7_score_43 (by decide) ?_
      refine lv_iload_n hx hb dX7_score_44 rfl (lv_at hl 1 rfl) ?_
      refine lv_imul hx hb dX7_score_45 ?_
      refine lv_isub hx hb dX7_score_46 ?_
      refine lv_iconst (v := 5) hx hb dX7_score_47 (by decide) ?_
      refine lv_iload_n hx hb dX7_score_48 rfl (lv_at hl 0 rfl) ?_
      refine lv_imul hx hb dX7_score_49 ?_
      refine lv_isub hx hb dX7_score_50 ?_
      refine lv_aload_n hx hb dX7_score_51 rfl (lv_at hl 2 rfl) ?_
      refine gf_X7_4 hx hb hown hC (RB.ch hR hc) (zf_X7_34 hC.1) dX7_score_52 ?_
      refine lv_aload_n hx hb dX7_score_55 rfl (lv_at hl 3 rfl) ?_
      refine gf_X10_2 hx hb hown hC hq (zf_X7_53 hC.1) dX7_score_56 ?_
      refine lv_icmp_ne (tgt := 67) hx hb dX7_score_59 (by decide) (fun c_59 => ?_) (fun c_59 => ?_)
      ·
        refine lv_iconst (v := 0) hx hb dX7_score_67 (by decide) ?_
        refine lv_iadd hx hb dX7_score_68 ?_
        exact rr_i hx hb hr hlocks (by unfold scA scoreA; rw [if_neg c_29, if_pos c_34, if_neg c_59, Int32.add_zero]) dX7_score_69
      ·
        refine lv_bipush (v := 20) hx hb dX7_score_62 (by decide) ?_
        refine lv_goto (tgt := 68) hx hb dX7_score_64 (by decide) ?_
        refine lv_iadd hx hb dX7_score_68 ?_
        exact rr_i hx hb hr hlocks (by unfold scA scoreA; rw [if_neg c_29, if_pos c_34, if_pos c_59]) dX7_score_69
    ·
      refine lv_iconst (v := (-1)) hx hb dX7_score_37 (by decide) ?_
      refine lv_goto (tgt := 69) hx hb dX7_score_38 (by decide) ?_
      exact rr_i hx hb hr hlocks (by unfold scA scoreA; rw [if_neg c_29, if_neg c_34]) dX7_score_69
set_option maxRecDepth 100000 in
set_option maxHeartbeats 4000000 in
theorem c_X8_tripOf (l : Launch) (E : EE) {S : St} {th : Int32} {g : Gh} (hI : Inv S) {p9 : Nat} (hp : p9 < S.np) (ld : Int32) : RM l E yX8_tripOf cX8_tripOf 5 .int (rD 3) [.ref (g.ad 12 0), .int (nI p9), .int (ld)] (RB E S th g) (.int (irI (tripA S p9 ld))) := by
  refine rm_of rfl (Nat.le_of_ble_eq_true rfl) (fun p e s m below meth c ls hx hb hr hml (hown : s.vm.findClass RX8 = some m.cls) hC hlocks hR hl => ?_)
  have hl : lv_has ls 5 [(0, .ref (g.ad 12 0)), (1, .int (nI p9)), (2, .int (ld))] := hl
  refine lv_iconst (v := 0) hx hb dX8_tripOf_0 (by decide) ?_
  refine lv_istore_n (lv' := [(3, .int (0)), (0, .ref (g.ad 12 0)), (1, .int (nI p9)), (2, .int (ld))]) hx hb dX8_tripOf_1 rfl hl (by decide) rfl (fun ls hl => ?_)
  have loop2 : ∀ (r2 i : Nat), i + r2 = S.nt → fstB (tripQ S p9 ld) i = none → ∀ ls, lv_has ls 5 [(3, .int (nI (i))), (0, .ref (g.ad 12 0)), (1, .int (nI p9)), (2, .int (ld))] → W p l e (rD 3) s m ([.ref (g.ad 12 0), .int (nI p9), .int (ld)] : List Value).toArray below meth c s.heap [] 0 0 (MQ below (RQ (.int (irI (tripA S p9 ld)))) ([.ref (g.ad 12 0), .int (nI p9), .int (ld)] : List Value).toArray s 0 0 (fun _ => False)) (F0 m 2 ls []) := by
    intro r2
    induction r2 with
    | zero =>
      intro i hE2 hf ls hl
      have hN2 : i = S.nt := by omega
      subst hN2
      refine lv_iload_n hx hb dX8_tripOf_2 rfl (lv_at hl 0 rfl) ?_
      refine lv_aload_n hx hb dX8_tripOf_3 rfl (lv_at hl 1 rfl) ?_
      refine gf_X8_1 hx hb hown hC (RB.dk hR) (zf_X8_18 hC.1) dX8_tripOf_4 ?_
      refine rc_V (As := []) hx hb hml hown hC hl (c_size l E _ _ _ _) (rec_of hC (RB.ls hR (by decide : 1 < 4)) rfl) (zm_X8_52 hC.1) kv_Jx4a65c_size_8abf5 (RB.ls hR (by decide : 1 < 4)) rfl rfl (rD_le (by decide) (by decide)) ⟨rfl, rfl⟩ (Nat.le_of_ble_eq_true rfl) ⟨Nat.zero_le _, Nat.zero_le _⟩ dX8_tripOf_7 ?_
      refine lv_icmp_ge (tgt := 76) hx hb dX8_tripOf_10 (by decide) (fun c_10 => ?_) (fun c_10 => ?_)
      ·
        refine lv_iconst (v := (-1)) hx hb dX8_tripOf_76 (by decide) ?_
        exact rr_i hx hb hr hlocks (by rw [show tripA S p9 ld = none from hf]; rfl) dX8_tripOf_77
      · exact absurd (Int32.le_refl _) c_10
    | succ r2 ih2 =>
      intro i hE2 hf ls hl
      have hlt2 : i < S.nt := by omega
      refine lv_iload_n hx hb dX8_tripOf_2 rfl (lv_at hl 0 rfl) ?_
      refine lv_aload_n hx hb dX8_tripOf_3 rfl (lv_at hl 1 rfl) ?_
      refine gf_X8_1 hx hb hown hC (RB.dk hR) (zf_X8_18 hC.1) dX8_tripOf_4 ?_
      refine rc_V (As := []) hx hb hml hown hC hl (c_size l E _ _ _ _) (rec_of hC (RB.ls hR (by decide : 1 < 4)) rfl) (zm_X8_52 hC.1) kv_Jx4a65c_size_8abf5 (RB.ls hR (by decide : 1 < 4)) rfl rfl (rD_le (by decide) (by decide)) ⟨rfl, rfl⟩ (Nat.le_of_ble_eq_true rfl) ⟨Nat.zero_le _, Nat.zero_le _⟩ dX8_tripOf_7 ?_
      refine lv_icmp_ge (tgt := 76) hx hb dX8_tripOf_10 (by decide) (fun c_10 => ?_) (fun c_10 => ?_)
      · exact absurd c_10 (nI_ge hlt2 hI.nt31)
      ·
        refine lv_aload_n hx hb dX8_tripOf_13 rfl (lv_at hl 1 rfl) ?_
        refine gf_X8_1 hx hb hown hC (RB.dk hR) (zf_X8_18 hC.1) dX8_tripOf_14 ?_
        refine lv_iload_n hx hb dX8_tripOf_17 rfl (lv_at hl 0 rfl) ?_
        refine rc_V (As := [.int (nI (i))]) hx hb hml hown hC hl (c_getLB l E 1 rfl hR (by decide) hlt2) (rec_of hC (RB.ls hR (by decide : 1 < 4)) rfl) (zm_X8_39 hC.1) kv_Jx4a65c_get_915e3 (RB.gp hR 1 (by decide) hlt2) rfl rfl (rD_le (by decide) (by decide)) ⟨rfl, rfl⟩ (Nat.le_of_ble_eq_true rfl) ⟨Nat.zero_le _, Nat.zero_le _⟩ dX8_tripOf_18 ?_
        refine g_cast hx hb hown hC (RB.tp hR hlt2) rfl (zc_X8_56 hC.1) dX8_tripOf_21 ?_
        refine lv_astore (lv' := [(4, .ref (g.ad 7 (i))), (3, .int (nI (i))), (0, .ref (g.ad 12 0)), (1, .int (nI p9)), (2, .int (ld))]) hx hb dX8_tripOf_24 hl (by decide) rfl (fun ls hl => ?_)
        refine lv_aload hx hb dX8_tripOf_26 (lv_at hl 0 rfl) ?_
        refine gf_X11_0 hx hb hown hC (RB.tp hR hlt2) (zf_X8_58 hC.1) dX8_tripOf_28 ?_
        refine lv_iload_n hx hb dX8_tripOf_31 rfl (lv_at hl 3 rfl) ?_
        refine lv_icmp_ne (tgt := 70) hx hb dX8_tripOf_32 (by decide) (fun c_32 => ?_) (fun c_32 => ?_)
        ·
          have c_32 : ¬ S.tp i = p9 := fun h => c_32 (congrArg nI h)
          refine lv_iinc (v := nI (i) + 1) (lv' := [(3, .int (nI (i) + 1)), (4, .ref (g.ad 7 (i))), (0, .ref (g.ad 12 0)), (1, .int (nI p9)), (2, .int (ld))]) hx hb dX8_tripOf_70 hl (k := 1) rfl rfl (by decide) rfl (fun ls hl => ?_)
          refine lv_goto (tgt := 2) hx hb dX8_tripOf_73 (by decide) ?_
          refine ih2 (i + 1) (by omega) (fstB_z hf (by unfold tripQ; rw [if_neg c_32])) ls ?_
          rw [nI_succ i]
          exact lv_sub hl [0, 2, 3, 4] rfl
        ·
          have c_32 : S.tp i = p9 := (nI_eq (Nat.lt_trans (hI.tp hlt2) hI.np31) (Nat.lt_trans hp hI.np31)).mp c_32
          refine lv_aload hx hb dX8_tripOf_35 (lv_at hl 0 rfl) ?_
          refine gf_X11_1 hx hb hown hC (RB.tp hR hlt2) (zf_X8_61 hC.1) dX8_tripOf_37 ?_
          refine lv_iload_n hx hb dX8_tripOf_40 rfl (lv_at hl 4 rfl) ?_
          refine lv_icmp_ne (tgt := 70) hx hb dX8_tripOf_41 (by decide) (fun c_41 => ?_) (fun c_41 => ?_)
          ·
            refine lv_iinc (v := nI (i) + 1) (lv' := [(3, .int (nI (i) + 1)), (4, .ref (g.ad 7 (i))), (0, .ref (g.ad 12 0)), (1, .int (nI p9)), (2, .int (ld))]) hx hb dX8_tripOf_70 hl (k := 1) rfl rfl (by decide) rfl (fun ls hl => ?_)
            refine lv_goto (tgt := 2) hx hb dX8_tripOf_73 (by decide) ?_
            refine ih2 (i + 1) (by omega) (fstB_z hf (by unfold tripQ; rw [if_pos c_32, if_neg c_41])) ls ?_
            rw [nI_succ i]
            exact lv_sub hl [0, 2, 3, 4] rfl
          ·
            refine lv_aload hx hb dX8_tripOf_44 (lv_at hl 0 rfl) ?_
            refine gf_X11_2 hx hb hown hC (RB.tp hR hlt2) (zf_X8_64 hC.1) dX8_tripOf_46 ?_
            refine lv_aload_n hx hb dX8_tripOf_49 rfl (lv_at hl 2 rfl) ?_
            refine gf_X8_7 hx hb hown hC (RB.dk hR) (zf_X8_49 hC.1) dX8_tripOf_50 ?_
            refine lv_icmp_gt (tgt := 70) hx hb dX8_tripOf_53 (by decide) (fun c_53 => ?_) (fun c_53 => ?_)
            ·
              refine lv_iinc (v := nI (i) + 1) (lv' := [(3, .int (nI (i) + 1)), (4, .ref (g.ad 7 (i))), (0, .ref (g.ad 12 0)), (1, .int (nI p9)), (2, .int (ld))]) hx hb dX8_tripOf_70 hl (k := 1) rfl rfl (by decide) rfl (fun ls hl => ?_)
              refine lv_goto (tgt := 2) hx hb dX8_tripOf_73 (by decide) ?_
              refine ih2 (i + 1) (by omega) (fstB_z hf (by unfold tripQ; rw [if_pos c_32, if_pos c_41, if_pos c_53])) ls ?_
              rw [nI_succ i]
              exact lv_sub hl [0, 2, 3, 4] rfl
            ·
              refine lv_aload hx hb dX8_tripOf_56 (lv_at hl 0 rfl) ?_
              refine gf_X11_3 hx hb hown hC (RB.tp hR hlt2) (zf_X8_67 hC.1) dX8_tripOf_58 ?_
              refine lv_aload_n hx hb dX8_tripOf_61 rfl (lv_at hl 2 rfl) ?_
              refine gf_X8_7 hx hb hown hC (RB.dk hR) (zf_X8_49 hC.1) dX8_tripOf_62 ?_
              refine lv_icmp_lt (tgt := 70) hx hb dX8_tripOf_65 (by decide) (fun c_65 => ?_) (fun c_65 => ?_)
              ·
                refine lv_iinc (v := nI (i) + 1) (lv' := [(3, .int (nI (i) + 1)), (4, .ref (g.ad 7 (i))), (0, .ref (g.ad 12 0)), (1, .int (nI p9)), (2, .int (ld))]) hx hb dX8_tripOf_70 hl (k := 1) rfl rfl (by decide) rfl (fun ls hl => ?_)
                refine lv_goto (tgt := 2) hx hb dX8_tripOf_73 (by decide) ?_
                refine ih2 (i + 1) (by omega) (fstB_z hf (by unfold tripQ; rw [if_pos c_32, if_pos c_41, if_neg c_53, if_pos c_65])) ls ?_
                rw [nI_succ i]
                exact lv_sub hl [0, 2, 3, 4] rfl
              ·
                refine lv_iload_n hx hb dX8_tripOf_68 rfl (lv_at hl 1 rfl) ?_
                exact rr_i hx hb hr hlocks (by rw [show tripA S p9 ld = some i from fstB_h hf (by unfold tripQ; rw [if_pos c_32, if_pos c_41, if_neg c_53, if_neg c_65]) hlt2]; rfl) dX8_tripOf_69
  exact loop2 (S.nt) 0 (by omega) rfl ls (lv_sub hl [0, 1, 2, 3] rfl)
set_option maxRecDepth 100000 in
set_option maxHeartbeats 4000000 in
theorem c_X8_tax (l : Launch) (E : EE) {S : St} {th : Int32} {g : Gh} (hI : Inv S) {c9 : Nat} (hc : c9 < S.nc) : RM l E yX8_tax cX8_tax 2 .int (rD 1) [.ref (g.ad 12 0), .ref (g.ad 8 (c9))] (RB E S th g) (.int (taxA S c9)) := by
  refine rm_of rfl (Nat.le_of_ble_eq_true rfl) (fun p e s m below meth c ls hx hb hr hml (hown : s.vm.findClass RX8 = some m.cls) hC hlocks hR hl => ?_)
  have hl : lv_has ls 2 [(0, .ref (g.ad 12 0)), (1, .ref (g.ad 8 (c9)))] := hl
  refine lv_aload_n hx hb dX8_tax_0 rfl (lv_at hl 1 rfl) ?_
  refine gf_X7_3 hx hb hown hC (RB.ch hR hc) (zf_X8_97 hC.1) dX8_tax_1 ?_
  refine lv_aload_n hx hb dX8_tax_4 rfl (lv_at hl 0 rfl) ?_
  refine gf_X8_6 hx hb hown hC (RB.dk hR) (zf_X8_36 hC.1) dX8_tax_5 ?_
  refine lv_aload_n hx hb dX8_tax_8 rfl (lv_at hl 1 rfl) ?_
  refine gf_X7_2 hx hb hown hC (RB.ch hR hc) (zf_X8_100 hC.1) dX8_tax_9 ?_
  refine g_rald hx hb hC (RB.rt hR) ⟨rfl, (hI.cl hc), by decide⟩ (if_pos (hI.cl hc)) dX8_tax_12 ?_
  refine lv_aload_n hx hb dX8_tax_13 rfl (lv_at hl 1 rfl) ?_
  refine gf_X7_1 hx hb hown hC (RB.ch hR hc) (zf_X8_93 hC.1) dX8_tax_14 ?_
  refine g_iald hx hb hC (RB.rtr hR (hI.cl hc)) ⟨rfl, (hI.ck hc), by decide⟩ dX8_tax_17 ?_
  refine lv_imul hx hb dX8_tax_18 ?_
  refine lv_bipush (v := 100) hx hb dX8_tax_19 (by decide) ?_
  refine lv_aload_n hx hb dX8_tax_21 rfl (lv_at hl 0 rfl) ?_
  refine gf_X8_6 hx hb hown hC (RB.dk hR) (zf_X8_36 hC.1) dX8_tax_22 ?_
  refine lv_aload_n hx hb dX8_tax_25 rfl (lv_at hl 1 rfl) ?_
  refine gf_X7_2 hx hb hown hC (RB.ch hR hc) (zf_X8_100 hC.1) dX8_tax_26 ?_
  refine g_rald hx hb hC (RB.rt hR) ⟨rfl, (hI.cl hc), by decide⟩ (if_pos (hI.cl hc)) dX8_tax_29 ?_
  refine lv_aload_n hx hb dX8_tax_30 rfl (lv_at hl 1 rfl) ?_
  refine gf_X7_1 hx hb hown hC (RB.ch hR hc) (zf_X8_93 hC.1) dX8_tax_31 ?_
  refine g_iald hx hb hC (RB.rtr hR (hI.cl hc)) ⟨rfl, (hI.ck hc), by decide⟩ dX8_tax_34 ?_
  refine lv_iadd hx hb dX8_tax_35 ?_
  refine lv_idiv hx hb dX8_tax_36 (rate_ne hI hc) ?_
  exact rr_i hx hb hr hlocks (congrArg Value.int (taxB_e hI hc)) dX8_tax_37
set_option maxRecDepth 100000 in
set_option maxHeartbeats 4000000 in
theorem c_X8_cost (l : Launch) (E : EE) {S : St} {th : Int32} {g : Gh} (hI : Inv S) {c9 : Nat} (hc : c9 < S.nc) (b : Int32) : RM l E yX8_cost cX8_cost 4 .int (rD 2) [.ref (g.ad 12 0), .ref (g.ad 8 (c9)), .int (b)] (RB E S th g) (.int (costA S c9 b)) := by
  refine rm_of rfl (Nat.le_of_ble_eq_true rfl) (fun p e s m below meth c ls hx hb hr hml (hown : s.vm.findClass RX8 = some m.cls) hC hlocks hR hl => ?_)
  have hl : lv_has ls 4 [(0, .ref (g.ad 12 0)), (1, .ref (g.ad 8 (c9))), (2, .int (b))] := hl
  refine lv_aload_n hx hb dX8_cost_0 rfl (lv_at hl 1 rfl) ?_
  refine rc_V (As := []) hx hb hml hown hC hl (c_X7_isRepaid l E hI hc) (rec_of hC (RB.ch hR hc) rfl) (zm_X8_85 hC.1) kv_X7_isRepaid hR rfl rfl (rD_le (by decide) (by decide)) ⟨rfl, rfl⟩ (Nat.le_of_ble_eq_true rfl) ⟨Nat.zero_le _, Nat.zero_le _⟩ dX8_cost_1 ?_
  refine lv_if_eq (tgt := 9) hx hb dX8_cost_4 (by decide) (fun c_4 => ?_) (fun c_4 => ?_)
  ·
    refine lv_aload_n hx hb dX8_cost_9 rfl (lv_at hl 1 rfl) ?_
    refine gf_X7_8 hx hb hown hC (RB.ch hR hc) (zf_X8_101 hC.1) dX8_cost_10 ?_
    refine lv_iconst (v := 1) hx hb dX8_cost_13 (by decide) ?_
    refine lv_icmp_eq (tgt := 36) hx hb dX8_cost_14 (by decide) (fun c_14 => ?_) (fun c_14 => ?_)
    ·
      refine lv_iconst (v := 1) hx hb dX8_cost_36 (by decide) ?_
      refine lv_goto (tgt := 41) hx hb dX8_cost_37 (by decide) ?_
      refine lv_istore_n (lv' := [(3, .int (1)), (0, .ref (g.ad 12 0)), (1, .ref (g.ad 8 (c9))), (2, .int (b))]) hx hb dX8_cost_41 rfl hl (by decide) rfl (fun ls hl => ?_)
      refine lv_aload_n hx hb dX8_cost_42 rfl (lv_at hl 2 rfl) ?_
      refine gf_X7_3 hx hb hown hC (RB.ch hR hc) (zf_X8_97 hC.1) dX8_cost_43 ?_
      refine lv_iload_n hx hb dX8_cost_46 rfl (lv_at hl 0 rfl) ?_
      refine lv_if_eq (tgt := 58) hx hb dX8_cost_47 (by decide) (fun c_47 => ?_) (fun c_47 => ?_)
      · exact absurd c_47 (by decide)
      ·
        refine lv_aload_n hx hb dX8_cost_50 rfl (lv_at hl 1 rfl) ?_
        refine lv_aload_n hx hb dX8_cost_51 rfl (lv_at hl 2 rfl) ?_
        refine rc_V (As := [.ref (g.ad 8 (c9))]) hx hb hml hown hC hl (c_X8_tax l E hI hc) (rec_of hC (RB.dk hR) rfl) (zm_X8_104 hC.1) kv_X8_tax hR rfl rfl (rD_le (by decide) (by decide)) ⟨rfl, rfl⟩ (Nat.le_of_ble_eq_true rfl) ⟨Nat.zero_le _, Nat.zero_le _⟩ dX8_cost_52 ?_
        refine lv_goto (tgt := 59) hx hb dX8_cost_55 (by decide) ?_
        refine lv_isub hx hb dX8_cost_59 ?_
        exact rr_i hx hb hr hlocks (by unfold costA; simp [isRep_0 c_4, c_14]) dX8_cost_60
    ·
      refine lv_aload_n hx hb dX8_cost_17 rfl (lv_at hl 1 rfl) ?_
      refine gf_X7_8 hx hb hown hC (RB.ch hR hc) (zf_X8_101 hC.1) dX8_cost_18 ?_
      refine lv_iconst (v := 2) hx hb dX8_cost_21 (by decide) ?_
      refine lv_icmp_eq (tgt := 36) hx hb dX8_cost_22 (by decide) (fun c_22 => ?_) (fun c_22 => ?_)
      ·
        refine lv_iconst (v := 1) hx hb dX8_cost_36 (by decide) ?_
        refine lv_goto (tgt := 41) hx hb dX8_cost_37 (by decide) ?_
        refine lv_istore_n (lv' := [(3, .int (1)), (0, .ref (g.ad 12 0)), (1, .ref (g.ad 8 (c9))), (2, .int (b))]) hx hb dX8_cost_41 rfl hl (by decide) rfl (fun ls hl => ?_)
        refine lv_aload_n hx hb dX8_cost_42 rfl (lv_at hl 2 rfl) ?_
        refine gf_X7_3 hx hb hown hC (RB.ch hR hc) (zf_X8_97 hC.1) dX8_cost_43 ?_
        refine lv_iload_n hx hb dX8_cost_46 rfl (lv_at hl 0 rfl) ?_
        refine lv_if_eq (tgt := 58) hx hb dX8_cost_47 (by decide) (fun c_47 => ?_) (fun c_47 => ?_)
        · exact absurd c_47 (by decide)
        ·
          refine lv_aload_n hx hb dX8_cost_50 rfl (lv_at hl 1 rfl) ?_
          refine lv_aload_n hx hb dX8_cost_51 rfl (lv_at hl 2 rfl) ?_
          refine rc_V (As := [.ref (g.ad 8 (c9))]) hx hb hml hown hC hl (c_X8_tax l E hI hc) (rec_of hC (RB.dk hR) rfl) (zm_X8_104 hC.1) kv_X8_tax hR rfl rfl (rD_le (by decide) (by decide)) ⟨rfl, rfl⟩ (Nat.le_of_ble_eq_true rfl) ⟨Nat.zero_le _, Nat.zero_le _⟩ dX8_cost_52 ?_
          refine lv_goto (tgt := 59) hx hb dX8_cost_55 (by decide) ?_
          refine lv_isub hx hb dX8_cost_59 ?_
          exact rr_i hx hb hr hlocks (by unfold costA; simp [isRep_0 c_4, c_14, c_22]) dX8_cost_60
      ·
        refine lv_aload_n hx hb dX8_cost_25 rfl (lv_at hl 1 rfl) ?_
        refine gf_X7_8 hx hb hown hC (RB.ch hR hc) (zf_X8_101 hC.1) dX8_cost_26 ?_
        refine lv_if_ne (tgt := 40) hx hb dX8_cost_29 (by decide) (fun c_29 => ?_) (fun c_29 => ?_)
        ·
          refine lv_iconst (v := 0) hx hb dX8_cost_40 (by decide) ?_
          refine lv_istore_n (lv' := [(3, .int (0)), (0, .ref (g.ad 12 0)), (1, .ref (g.ad 8 (c9))), (2, .int (b))]) hx hb dX8_cost_41 rfl hl (by decide) rfl (fun ls hl => ?_)
          refine lv_aload_n hx hb dX8_cost_42 rfl (lv_at hl 2 rfl) ?_
          refine gf_X7_3 hx hb hown hC (RB.ch hR hc) (zf_X8_97 hC.1) dX8_cost_43 ?_
          refine lv_iload_n hx hb dX8_cost_46 rfl (lv_at hl 0 rfl) ?_
          refine lv_if_eq (tgt := 58) hx hb dX8_cost_47 (by decide) (fun c_47 => ?_) (fun c_47 => ?_)
          ·
            refine lv_iconst (v := 0) hx hb dX8_cost_58 (by decide) ?_
            refine lv_isub hx hb dX8_cost_59 ?_
            exact rr_i hx hb hr hlocks (by unfold costA; simp [isRep_0 c_4, c_14, c_22, c_29]) dX8_cost_60
          · exact absurd (by decide) c_47
        ·
          refine lv_iload_n hx hb dX8_cost_32 rfl (lv_at hl 2 rfl) ?_
          refine lv_if_eq (tgt := 40) hx hb dX8_cost_33 (by decide) (fun c_33 => ?_) (fun c_33 => ?_)
          ·
            refine lv_iconst (v := 0) hx hb dX8_cost_40 (by decide) ?_
            refine lv_istore_n (lv' := [(3, .int (0)), (0, .ref (g.ad 12 0)), (1, .ref (g.ad 8 (c9))), (2, .int (b))]) hx hb dX8_cost_41 rfl hl (by decide) rfl (fun ls hl => ?_)
            refine lv_aload_n hx hb dX8_cost_42 rfl (lv_at hl 2 rfl) ?_
            refine gf_X7_3 hx hb hown hC (RB.ch hR hc) (zf_X8_97 hC.1) dX8_cost_43 ?_
            refine lv_iload_n hx hb dX8_cost_46 rfl (lv_at hl 0 rfl) ?_
            refine lv_if_eq (tgt := 58) hx hb dX8_cost_47 (by decide) (fun c_47 => ?_) (fun c_47 => ?_)
            ·
              refine lv_iconst (v := 0) hx hb dX8_cost_58 (by decide) ?_
              refine lv_isub hx hb dX8_cost_59 ?_
              exact rr_i hx hb hr hlocks (by unfold costA; simp [isRep_0 c_4, c_14, c_22, c_29, c_33]) dX8_cost_60
            · exact absurd (by decide) c_47
          ·
            refine lv_iconst (v := 1) hx hb dX8_cost_36 (by decide) ?_
            refine lv_goto (tgt := 41) hx hb dX8_cost_37 (by decide) ?_
            refine lv_istore_n (lv' := [(3, .int (1)), (0, .ref (g.ad 12 0)), (1, .ref (g.ad 8 (c9))), (2, .int (b))]) hx hb dX8_cost_41 rfl hl (by decide) rfl (fun ls hl => ?_)
            refine lv_aload_n hx hb dX8_cost_42 rfl (lv_at hl 2 rfl) ?_
            refine gf_X7_3 hx hb hown hC (RB.ch hR hc) (zf_X8_97 hC.1) dX8_cost_43 ?_
            refine lv_iload_n hx hb dX8_cost_46 rfl (lv_at hl 0 rfl) ?_
            refine lv_if_eq (tgt := 58) hx hb dX8_cost_47 (by decide) (fun c_47 => ?_) (fun c_47 => ?_)
            · exact absurd c_47 (by decide)
            ·
              refine lv_aload_n hx hb dX8_cost_50 rfl (lv_at hl 1 rfl) ?_
              refine lv_aload_n hx hb dX8_cost_51 rfl (lv_at hl 2 rfl) ?_
              refine rc_V (As := [.ref (g.ad 8 (c9))]) hx hb hml hown hC hl (c_X8_tax l E hI hc) (rec_of hC (RB.dk hR) rfl) (zm_X8_104 hC.1) kv_X8_tax hR rfl rfl (rD_le (by decide) (by decide)) ⟨rfl, rfl⟩ (Nat.le_of_ble_eq_true rfl) ⟨Nat.zero_le _, Nat.zero_le _⟩ dX8_cost_52 ?_
              refine lv_goto (tgt := 59) hx hb dX8_cost_55 (by decide) ?_
              refine lv_isub hx hb dX8_cost_59 ?_
              exact rr_i hx hb hr hlocks (by unfold costA; simp [isRep_0 c_4, c_14, c_22, c_29, c_33]) dX8_cost_60
  ·
    refine lv_iconst (v := 0) hx hb dX8_cost_7 (by decide) ?_
    exact rr_i hx hb hr hlocks (by unfold costA; simp [isRep_1 c_4]) dX8_cost_8
