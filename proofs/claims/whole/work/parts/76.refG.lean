set_option maxRecDepth 100000 in
set_option maxHeartbeats 4000000 in
theorem c_X8_left (l : Launch) (E : EE) {S : St} {th : Int32} {g : Gh} (hI : Inv S) {k9 : Nat} (hk : k9 < 4) (b : Int32) : ∀ per9 : Nat, per9 < 4 → RM l E yX8_left cX8_left 6 .int (rD (3 + per9)) [.ref (g.ad 12 0), .int (nI k9), .int (nI per9), .int (b)] (RB E S th g) (.int (leftL S k9 b (per9 + 1))) := by
  intro per9
  induction per9 with
  | zero =>
    intro hper
    refine rm_of rfl (Nat.le_of_ble_eq_true rfl) (fun p e s m below meth c ls hx hb hr hml (hown : s.vm.findClass RX8 = some m.cls) hC hlocks hR hl => ?_)
    have hl : lv_has ls 6 [(0, .ref (g.ad 12 0)), (1, .int (nI k9)), (2, .int (nI 0)), (3, .int (b))] := hl
    refine lv_aload_n hx hb dX8_left_0 rfl (lv_at hl 0 rfl) ?_
    refine gf_X8_4 hx hb hown hC (RB.dk hR) (zf_X8_29 hC.1) dX8_left_1 ?_
    refine lv_iload_n hx hb dX8_left_4 rfl (lv_at hl 1 rfl) ?_
    refine g_rald hx hb hC (RB.pl hR) ⟨rfl, hk, by decide⟩ (if_pos hk) dX8_left_5 ?_
    refine lv_iload_n hx hb dX8_left_6 rfl (lv_at hl 2 rfl) ?_
    refine g_iald hx hb hC (RB.plr hR hk) ⟨rfl, (by decide), by decide⟩ dX8_left_7 ?_
    rw [plB_e (by decide)]
    refine lv_istore (lv' := [(4, .int (S.tb 1 (k9 * 4 + 0))), (0, .ref (g.ad 12 0)), (1, .int (nI k9)), (2, .int (nI 0)), (3, .int (b))]) hx hb dX8_left_8 hl (by decide) rfl (fun ls hl => ?_)
    refine lv_iload_n hx hb dX8_left_10 rfl (lv_at hl 3 rfl) ?_
    refine lv_if_le (tgt := 42) hx hb dX8_left_11 (by decide) (fun c_11 => ?_) (fun c_11 => ?_)
    ·
      refine lv_iconst (v := 0) hx hb dX8_left_42 (by decide) ?_
      refine lv_istore (lv' := [(5, .int (0)), (4, .int (S.tb 1 (k9 * 4 + 0))), (0, .ref (g.ad 12 0)), (1, .int (nI k9)), (2, .int (nI 0)), (3, .int (b))]) hx hb dX8_left_43 hl (by decide) rfl (fun ls hl => ?_)
      have loop45 : ∀ (r45 i : Nat), i + r45 = S.nc → ∀ ls, lv_has ls 6 [(5, .int (nI (i))), (4, .int ((S.tb 1 (k9 * 4 + 0)) - sm (costInQ S (nI k9) (nI 0) b) i)), (0, .ref (g.ad 12 0)), (1, .int (nI k9)), (2, .int (nI 0)), (3, .int (b))] → W p l e (rD (3 + 0)) s m ([.ref (g.ad 12 0), .int (nI k9), .int (nI 0), .int (b)] : List Value).toArray below meth c s.heap [] 0 0 (MQ below (RQ (.int (leftL S k9 b (0 + 1)))) ([.ref (g.ad 12 0), .int (nI k9), .int (nI 0), .int (b)] : List Value).toArray s 0 0 (fun _ => False)) (F0 m 45 ls []) := by
        intro r45
        induction r45 with
        | zero =>
          intro i hE45 ls hl
          have hN45 : i = S.nc := by omega
          subst hN45
          refine lv_iload hx hb dX8_left_45 (lv_at hl 0 rfl) ?_
          refine lv_aload_n hx hb dX8_left_47 rfl (lv_at hl 2 rfl) ?_
          refine gf_X8_2 hx hb hown hC (RB.dk hR) (zf_X8_21 hC.1) dX8_left_48 ?_
          refine rc_V (As := []) hx hb hml hown hC hl (c_size l E _ _ _ _) (rec_of hC (RB.ls hR (by decide : 2 < 4)) rfl) (zm_X8_52 hC.1) kv_Jx4a65c_size_8abf5 (RB.ls hR (by decide : 2 < 4)) rfl rfl (rD_le (by omega) (by decide)) ⟨rfl, rfl⟩ (Nat.le_of_ble_eq_true rfl) ⟨Nat.zero_le _, Nat.zero_le _⟩ dX8_left_51 ?_
          refine lv_icmp_ge (tgt := 130) hx hb dX8_left_54 (by decide) (fun c_54 => ?_) (fun c_54 => ?_)
          ·
            refine lv_iload hx hb dX8_left_130 (lv_at hl 1 rfl) ?_
            exact rr_i hx hb hr hlocks (congrArg Value.int left_1.symm) dX8_left_132
          · exact absurd (Int32.le_refl _) c_54
        | succ r45 ih45 =>
          intro i hE45 ls hl
          have hlt45 : i < S.nc := by omega
          refine lv_iload hx hb dX8_left_45 (lv_at hl 0 rfl) ?_
          refine lv_aload_n hx hb dX8_left_47 rfl (lv_at hl 2 rfl) ?_
          refine gf_X8_2 hx hb hown hC (RB.dk hR) (zf_X8_21 hC.1) dX8_left_48 ?_
          refine rc_V (As := []) hx hb hml hown hC hl (c_size l E _ _ _ _) (rec_of hC (RB.ls hR (by decide : 2 < 4)) rfl) (zm_X8_52 hC.1) kv_Jx4a65c_size_8abf5 (RB.ls hR (by decide : 2 < 4)) rfl rfl (rD_le (by omega) (by decide)) ⟨rfl, rfl⟩ (Nat.le_of_ble_eq_true rfl) ⟨Nat.zero_le _, Nat.zero_le _⟩ dX8_left_51 ?_
          refine lv_icmp_ge (tgt := 130) hx hb dX8_left_54 (by decide) (fun c_54 => ?_) (fun c_54 => ?_)
          · exact absurd c_54 (nI_ge hlt45 hI.nc31)
          ·
            refine lv_iload hx hb dX8_left_57 (lv_at hl 1 rfl) ?_
            refine lv_aload_n hx hb dX8_left_59 rfl (lv_at hl 2 rfl) ?_
            refine gf_X8_2 hx hb hown hC (RB.dk hR) (zf_X8_21 hC.1) dX8_left_60 ?_
            refine lv_iload hx hb dX8_left_63 (lv_at hl 0 rfl) ?_
            refine rc_V (As := [.int (nI (i))]) hx hb hml hown hC hl (c_getLB l E 2 rfl hR (by decide) hlt45) (rec_of hC (RB.ls hR (by decide : 2 < 4)) rfl) (zm_X8_39 hC.1) kv_Jx4a65c_get_915e3 (RB.gp hR 2 (by decide) hlt45) rfl rfl (rD_le (by omega) (by decide)) ⟨rfl, rfl⟩ (Nat.le_of_ble_eq_true rfl) ⟨Nat.zero_le _, Nat.zero_le _⟩ dX8_left_65 ?_
            refine g_cast hx hb hown hC (RB.ch hR hlt45) rfl (zc_X8_83 hC.1) dX8_left_68 ?_
            refine gf_X7_1 hx hb hown hC (RB.ch hR hlt45) (zf_X8_93 hC.1) dX8_left_71 ?_
            refine lv_iload_n hx hb dX8_left_74 rfl (lv_at hl 3 rfl) ?_
            refine lv_icmp_ne (tgt := 120) hx hb dX8_left_75 (by decide) (fun c_75 => ?_) (fun c_75 => ?_)
            ·
              refine lv_iconst (v := 0) hx hb dX8_left_120 (by decide) ?_
              refine lv_isub hx hb dX8_left_121 ?_
              refine lv_istore (lv' := [(4, .int (((S.tb 1 (k9 * 4 + 0)) - sm (costInQ S (nI k9) (nI 0) b) i) - (0))), (5, .int (nI (i))), (0, .ref (g.ad 12 0)), (1, .int (nI k9)), (2, .int (nI 0)), (3, .int (b))]) hx hb dX8_left_122 hl (by decide) rfl (fun ls hl => ?_)
              refine lv_iinc (v := nI (i) + 1) (lv' := [(5, .int (nI (i) + 1)), (4, .int (((S.tb 1 (k9 * 4 + 0)) - sm (costInQ S (nI k9) (nI 0) b) i) - (0))), (0, .ref (g.ad 12 0)), (1, .int (nI k9)), (2, .int (nI 0)), (3, .int (b))]) hx hb dX8_left_124 hl (k := 1) rfl rfl (by decide) rfl (fun ls hl => ?_)
              refine lv_goto (tgt := 45) hx hb dX8_left_127 (by decide) ?_
              refine ih45 (i + 1) (by omega) ls ?_
              rw [nI_succ i, sm_m (f := costInQ S (nI k9) (nI 0) b) (by unfold costInQ; rw [if_neg c_75])]
              exact lv_sub hl [0, 1, 2, 3, 4, 5] rfl
            ·
              refine lv_aload_n hx hb dX8_left_78 rfl (lv_at hl 2 rfl) ?_
              refine gf_X8_2 hx hb hown hC (RB.dk hR) (zf_X8_21 hC.1) dX8_left_79 ?_
              refine lv_iload hx hb dX8_left_82 (lv_at hl 0 rfl) ?_
              refine rc_V (As := [.int (nI (i))]) hx hb hml hown hC hl (c_getLB l E 2 rfl hR (by decide) hlt45) (rec_of hC (RB.ls hR (by decide : 2 < 4)) rfl) (zm_X8_39 hC.1) kv_Jx4a65c_get_915e3 (RB.gp hR 2 (by decide) hlt45) rfl rfl (rD_le (by omega) (by decide)) ⟨rfl, rfl⟩ (Nat.le_of_ble_eq_true rfl) ⟨Nat.zero_le _, Nat.zero_le _⟩ dX8_left_84 ?_
              refine g_cast hx hb hown hC (RB.ch hR hlt45) rfl (zc_X8_83 hC.1) dX8_left_87 ?_
              refine gf_X7_5 hx hb hown hC (RB.ch hR hlt45) (zf_X8_96 hC.1) dX8_left_90 ?_
              refine lv_bipush (v := 30) hx hb dX8_left_93 (by decide) ?_
              refine lv_idiv hx hb dX8_left_95 (by decide) ?_
              refine lv_iload_n hx hb dX8_left_96 rfl (lv_at hl 4 rfl) ?_
              refine lv_icmp_ne (tgt := 120) hx hb dX8_left_97 (by decide) (fun c_97 => ?_) (fun c_97 => ?_)
              ·
                refine lv_iconst (v := 0) hx hb dX8_left_120 (by decide) ?_
                refine lv_isub hx hb dX8_left_121 ?_
                refine lv_istore (lv' := [(4, .int (((S.tb 1 (k9 * 4 + 0)) - sm (costInQ S (nI k9) (nI 0) b) i) - (0))), (5, .int (nI (i))), (0, .ref (g.ad 12 0)), (1, .int (nI k9)), (2, .int (nI 0)), (3, .int (b))]) hx hb dX8_left_122 hl (by decide) rfl (fun ls hl => ?_)
                refine lv_iinc (v := nI (i) + 1) (lv' := [(5, .int (nI (i) + 1)), (4, .int (((S.tb 1 (k9 * 4 + 0)) - sm (costInQ S (nI k9) (nI 0) b) i) - (0))), (0, .ref (g.ad 12 0)), (1, .int (nI k9)), (2, .int (nI 0)), (3, .int (b))]) hx hb dX8_left_124 hl (k := 1) rfl rfl (by decide) rfl (fun ls hl => ?_)
                refine lv_goto (tgt := 45) hx hb dX8_left_127 (by decide) ?_
                refine ih45 (i + 1) (by omega) ls ?_
                rw [nI_succ i, sm_m (f := costInQ S (nI k9) (nI 0) b) (by unfold costInQ; rw [if_pos c_75, if_neg c_97])]
                exact lv_sub hl [0, 1, 2, 3, 4, 5] rfl
              ·
                refine lv_aload_n hx hb dX8_left_100 rfl (lv_at hl 2 rfl) ?_
                refine lv_aload_n hx hb dX8_left_101 rfl (lv_at hl 2 rfl) ?_
                refine gf_X8_2 hx hb hown hC (RB.dk hR) (zf_X8_21 hC.1) dX8_left_102 ?_
                refine lv_iload hx hb dX8_left_105 (lv_at hl 0 rfl) ?_
                refine rc_V (As := [.int (nI (i))]) hx hb hml hown hC hl (c_getLB l E 2 rfl hR (by decide) hlt45) (rec_of hC (RB.ls hR (by decide : 2 < 4)) rfl) (zm_X8_39 hC.1) kv_Jx4a65c_get_915e3 (RB.gp hR 2 (by decide) hlt45) rfl rfl (rD_le (by omega) (by decide)) ⟨rfl, rfl⟩ (Nat.le_of_ble_eq_true rfl) ⟨Nat.zero_le _, Nat.zero_le _⟩ dX8_left_107 ?_
                refine g_cast hx hb hown hC (RB.ch hR hlt45) rfl (zc_X8_83 hC.1) dX8_left_110 ?_
                refine lv_iload_n hx hb dX8_left_113 rfl (lv_at hl 5 rfl) ?_
                refine rc_V (As := [.ref (g.ad 8 (i)), .int (b)]) hx hb hml hown hC hl (c_X8_cost l E hI hlt45 (b)) (rec_of hC (RB.dk hR) rfl) (zm_X8_117 hC.1) kv_X8_cost hR rfl rfl (rD_le (by omega) (by decide)) ⟨rfl, rfl⟩ (Nat.le_of_ble_eq_true rfl) ⟨Nat.zero_le _, Nat.zero_le _⟩ dX8_left_114 ?_
                refine lv_goto (tgt := 121) hx hb dX8_left_117 (by decide) ?_
                refine lv_isub hx hb dX8_left_121 ?_
                refine lv_istore (lv' := [(4, .int (((S.tb 1 (k9 * 4 + 0)) - sm (costInQ S (nI k9) (nI 0) b) i) - (costA S (i) (b)))), (5, .int (nI (i))), (0, .ref (g.ad 12 0)), (1, .int (nI k9)), (2, .int (nI 0)), (3, .int (b))]) hx hb dX8_left_122 hl (by decide) rfl (fun ls hl => ?_)
                refine lv_iinc (v := nI (i) + 1) (lv' := [(5, .int (nI (i) + 1)), (4, .int (((S.tb 1 (k9 * 4 + 0)) - sm (costInQ S (nI k9) (nI 0) b) i) - (costA S (i) (b)))), (0, .ref (g.ad 12 0)), (1, .int (nI k9)), (2, .int (nI 0)), (3, .int (b))]) hx hb dX8_left_124 hl (k := 1) rfl rfl (by decide) rfl (fun ls hl => ?_)
                refine lv_goto (tgt := 45) hx hb dX8_left_127 (by decide) ?_
                refine ih45 (i + 1) (by omega) ls ?_
                rw [nI_succ i, sm_m (f := costInQ S (nI k9) (nI 0) b) (by unfold costInQ; rw [if_pos c_75, if_pos c_97])]
                exact lv_sub hl [0, 1, 2, 3, 4, 5] rfl
      refine loop45 (S.nc) 0 (by omega) ls ?_
      rw [show sm (costInQ S (nI k9) (nI 0) b) 0 = 0 from rfl, Int32.sub_zero]
      exact lv_sub hl [0, 1, 2, 3, 4, 5] rfl
    · exact absurd (by decide) c_11
  | succ per ih =>
    intro hper
    refine rm_of rfl (Nat.le_of_ble_eq_true rfl) (fun p e s m below meth c ls hx hb hr hml (hown : s.vm.findClass RX8 = some m.cls) hC hlocks hR hl => ?_)
    have hl : lv_has ls 6 [(0, .ref (g.ad 12 0)), (1, .int (nI k9)), (2, .int (nI (per + 1))), (3, .int (b))] := hl
    refine lv_aload_n hx hb dX8_left_0 rfl (lv_at hl 0 rfl) ?_
    refine gf_X8_4 hx hb hown hC (RB.dk hR) (zf_X8_29 hC.1) dX8_left_1 ?_
    refine lv_iload_n hx hb dX8_left_4 rfl (lv_at hl 1 rfl) ?_
    refine g_rald hx hb hC (RB.pl hR) ⟨rfl, hk, by decide⟩ (if_pos hk) dX8_left_5 ?_
    refine lv_iload_n hx hb dX8_left_6 rfl (lv_at hl 2 rfl) ?_
    refine g_iald hx hb hC (RB.plr hR hk) ⟨rfl, hper, by decide⟩ dX8_left_7 ?_
    rw [plB_e hper]
    refine lv_istore (lv' := [(4, .int (S.tb 1 (k9 * 4 + (per + 1)))), (0, .ref (g.ad 12 0)), (1, .int (nI k9)), (2, .int (nI (per + 1))), (3, .int (b))]) hx hb dX8_left_8 hl (by decide) rfl (fun ls hl => ?_)
    refine lv_iload_n hx hb dX8_left_10 rfl (lv_at hl 3 rfl) ?_
    refine lv_if_le (tgt := 42) hx hb dX8_left_11 (by decide) (fun c_11 => ?_) (fun c_11 => ?_)
    · exact absurd c_11 (nI_nle (by omega) (by omega))
    ·
      refine lv_iload hx hb dX8_left_14 (lv_at hl 0 rfl) ?_
      refine lv_iconst (v := 0) hx hb dX8_left_16 (by decide) ?_
      refine lv_aload_n hx hb dX8_left_17 rfl (lv_at hl 1 rfl) ?_
      refine lv_iload_n hx hb dX8_left_18 rfl (lv_at hl 2 rfl) ?_
      refine lv_iload_n hx hb dX8_left_19 rfl (lv_at hl 3 rfl) ?_
      refine lv_iconst (v := 1) hx hb dX8_left_20 (by decide) ?_
      refine lv_isub hx hb dX8_left_21 ?_
      rw [nI_pred]
      refine lv_iload_n hx hb dX8_left_22 rfl (lv_at hl 4 rfl) ?_
      refine rc_V (As := [.int (nI k9), .int (nI per), .int (b)]) hx hb hml hown hC hl (ih (by omega)) (rec_of hC (RB.dk hR) rfl) (zm_X8_108 hC.1) kv_X8_left hR rfl rfl (rD_le (by omega) (by decide)) ⟨rfl, rfl⟩ (Nat.le_of_ble_eq_true rfl) ⟨Nat.zero_le _, Nat.zero_le _⟩ dX8_left_23 ?_
      refine lv_aload_n hx hb dX8_left_26 rfl (lv_at hl 1 rfl) ?_
      refine gf_X8_5 hx hb hown hC (RB.dk hR) (zf_X8_32 hC.1) dX8_left_27 ?_
      refine lv_iload_n hx hb dX8_left_30 rfl (lv_at hl 2 rfl) ?_
      refine g_iald hx hb hC (RB.ca hR) ⟨rfl, hk, by decide⟩ dX8_left_31 ?_
      rw [caB_e hk]
      refine lv_imul hx hb dX8_left_32 ?_
      refine lv_bipush (v := 100) hx hb dX8_left_33 (by decide) ?_
      refine lv_idiv hx hb dX8_left_35 (by decide) ?_
      refine va_mmax hx hb (hml.trans hl.1.symm) hown (zm_X8_112 hC.1) (ztm_max hC.1) (znm hC.1) (zkm_max hC.1) (by show 1 ≤ 3 + (per + 1); omega) (by show 1 + 13 ≤ 44 * (3 + (per + 1)); omega) (Nat.zero_le _) (Nat.zero_le _) dX8_left_36 ?_
      rw [show (if (0 : Int32) < leftL S k9 b (per + 1) * S.tb 2 (k9 * 1 + 0) / 100 then leftL S k9 b (per + 1) * S.tb 2 (k9 * 1 + 0) / 100 else 0) = maxI (leftL S k9 b (per + 1)) 0 * S.tb 2 (k9 * 1 + 0) / 100 from (carry_e (by have := left_bd hI k9 b (per + 1) (by omega); omega) (hI.2.2.2.2.2.2.2.1 (k9 * 1 + 0))).1]
      refine lv_iadd hx hb dX8_left_39 ?_
      refine lv_istore (lv' := [(4, .int ((S.tb 1 (k9 * 4 + (per + 1))) + (maxI (leftL S k9 b (per + 1)) 0 * S.tb 2 (k9 * 1 + 0) / 100))), (0, .ref (g.ad 12 0)), (1, .int (nI k9)), (2, .int (nI (per + 1))), (3, .int (b))]) hx hb dX8_left_40 hl (by decide) rfl (fun ls hl => ?_)
      refine lv_iconst (v := 0) hx hb dX8_left_42 (by decide) ?_
      refine lv_istore (lv' := [(5, .int (0)), (4, .int ((S.tb 1 (k9 * 4 + (per + 1))) + (maxI (leftL S k9 b (per + 1)) 0 * S.tb 2 (k9 * 1 + 0) / 100))), (0, .ref (g.ad 12 0)), (1, .int (nI k9)), (2, .int (nI (per + 1))), (3, .int (b))]) hx hb dX8_left_43 hl (by decide) rfl (fun ls hl => ?_)
      have loop45 : ∀ (r45 i : Nat), i + r45 = S.nc → ∀ ls, lv_has ls 6 [(5, .int (nI (i))), (4, .int (((S.tb 1 (k9 * 4 + (per + 1))) + (maxI (leftL S k9 b (per + 1)) 0 * S.tb 2 (k9 * 1 + 0) / 100)) - sm (costInQ S (nI k9) (nI (per + 1)) b) i)), (0, .ref (g.ad 12 0)), (1, .int (nI k9)), (2, .int (nI (per + 1))), (3, .int (b))] → W p l e (rD (3 + (per + 1))) s m ([.ref (g.ad 12 0), .int (nI k9), .int (nI (per + 1)), .int (b)] : List Value).toArray below meth c s.heap [] 0 0 (MQ below (RQ (.int (leftL S k9 b ((per + 1) + 1)))) ([.ref (g.ad 12 0), .int (nI k9), .int (nI (per + 1)), .int (b)] : List Value).toArray s 0 0 (fun _ => False)) (F0 m 45 ls []) := by
        intro r45
        induction r45 with
        | zero =>
          intro i hE45 ls hl
          have hN45 : i = S.nc := by omega
          subst hN45
          refine lv_iload hx hb dX8_left_45 (lv_at hl 0 rfl) ?_
          refine lv_aload_n hx hb dX8_left_47 rfl (lv_at hl 2 rfl) ?_
          refine gf_X8_2 hx hb hown hC (RB.dk hR) (zf_X8_21 hC.1) dX8_left_48 ?_
          refine rc_V (As := []) hx hb hml hown hC hl (c_size l E _ _ _ _) (rec_of hC (RB.ls hR (by decide : 2 < 4)) rfl) (zm_X8_52 hC.1) kv_Jx4a65c_size_8abf5 (RB.ls hR (by decide : 2 < 4)) rfl rfl (rD_le (by omega) (by decide)) ⟨rfl, rfl⟩ (Nat.le_of_ble_eq_true rfl) ⟨Nat.zero_le _, Nat.zero_le _⟩ dX8_left_51 ?_
          refine lv_icmp_ge (tgt := 130) hx hb dX8_left_54 (by decide) (fun c_54 => ?_) (fun c_54 => ?_)
          ·
            refine lv_iload hx hb dX8_left_130 (lv_at hl 1 rfl) ?_
            exact rr_i hx hb hr hlocks rfl dX8_left_132
          · exact absurd (Int32.le_refl _) c_54
        | succ r45 ih45 =>
          intro i hE45 ls hl
          have hlt45 : i < S.nc := by omega
          refine lv_iload hx hb dX8_left_45 (lv_at hl 0 rfl) ?_
          refine lv_aload_n hx hb dX8_left_47 rfl (lv_at hl 2 rfl) ?_
          refine gf_X8_2 hx hb hown hC (RB.dk hR) (zf_X8_21 hC.1) dX8_left_48 ?_
          refine rc_V (As := []) hx hb hml hown hC hl (c_size l E _ _ _ _) (rec_of hC (RB.ls hR (by decide : 2 < 4)) rfl) (zm_X8_52 hC.1) kv_Jx4a65c_size_8abf5 (RB.ls hR (by decide : 2 < 4)) rfl rfl (rD_le (by omega) (by decide)) ⟨rfl, rfl⟩ (Nat.le_of_ble_eq_true rfl) ⟨Nat.zero_le _, Nat.zero_le _⟩ dX8_left_51 ?_
          refine lv_icmp_ge (tgt := 130) hx hb dX8_left_54 (by decide) (fun c_54 => ?_) (fun c_54 => ?_)
          · exact absurd c_54 (nI_ge hlt45 hI.nc31)
          ·
            refine lv_iload hx hb dX8_left_57 (lv_at hl 1 rfl) ?_
            refine lv_aload_n hx hb dX8_left_59 rfl (lv_at hl 2 rfl) ?_
            refine gf_X8_2 hx hb hown hC (RB.dk hR) (zf_X8_21 hC.1) dX8_left_60 ?_
            refine lv_iload hx hb dX8_left_63 (lv_at hl 0 rfl) ?_
            refine rc_V (As := [.int (nI (i))]) hx hb hml hown hC hl (c_getLB l E 2 rfl hR (by decide) hlt45) (rec_of hC (RB.ls hR (by decide : 2 < 4)) rfl) (zm_X8_39 hC.1) kv_Jx4a65c_get_915e3 (RB.gp hR 2 (by decide) hlt45) rfl rfl (rD_le (by omega) (by decide)) ⟨rfl, rfl⟩ (Nat.le_of_ble_eq_true rfl) ⟨Nat.zero_le _, Nat.zero_le _⟩ dX8_left_65 ?_
            refine g_cast hx hb hown hC (RB.ch hR hlt45) rfl (zc_X8_83 hC.1) dX8_left_68 ?_
            refine gf_X7_1 hx hb hown hC (RB.ch hR hlt45) (zf_X8_93 hC.1) dX8_left_71 ?_
            refine lv_iload_n hx hb dX8_left_74 rfl (lv_at hl 3 rfl) ?_
            refine lv_icmp_ne (tgt := 120) hx hb dX8_left_75 (by decide) (fun c_75 => ?_) (fun c_75 => ?_)
            ·
              refine lv_iconst (v := 0) hx hb dX8_left_120 (by decide) ?_
              refine lv_isub hx hb dX8_left_121 ?_
              refine lv_istore (lv' := [(4, .int ((((S.tb 1 (k9 * 4 + (per + 1))) + (maxI (leftL S k9 b (per + 1)) 0 * S.tb 2 (k9 * 1 + 0) / 100)) - sm (costInQ S (nI k9) (nI (per + 1)) b) i) - (0))), (5, .int (nI (i))), (0, .ref (g.ad 12 0)), (1, .int (nI k9)), (2, .int (nI (per + 1))), (3, .int (b))]) hx hb dX8_left_122 hl (by decide) rfl (fun ls hl => ?_)
              refine lv_iinc (v := nI (i) + 1) (lv' := [(5, .int (nI (i) + 1)), (4, .int ((((S.tb 1 (k9 * 4 + (per + 1))) + (maxI (leftL S k9 b (per + 1)) 0 * S.tb 2 (k9 * 1 + 0) / 100)) - sm (costInQ S (nI k9) (nI (per + 1)) b) i) - (0))), (0, .ref (g.ad 12 0)), (1, .int (nI k9)), (2, .int (nI (per + 1))), (3, .int (b))]) hx hb dX8_left_124 hl (k := 1) rfl rfl (by decide) rfl (fun ls hl => ?_)
              refine lv_goto (tgt := 45) hx hb dX8_left_127 (by decide) ?_
              refine ih45 (i + 1) (by omega) ls ?_
              rw [nI_succ i, sm_m (f := costInQ S (nI k9) (nI (per + 1)) b) (by unfold costInQ; rw [if_neg c_75])]
              exact lv_sub hl [0, 1, 2, 3, 4, 5] rfl
            ·
              refine lv_aload_n hx hb dX8_left_78 rfl (lv_at hl 2 rfl) ?_
              refine gf_X8_2 hx hb hown hC (RB.dk hR) (zf_X8_21 hC.1) dX8_left_79 ?_
              refine lv_iload hx hb dX8_left_82 (lv_at hl 0 rfl) ?_
              refine rc_V (As := [.int (nI (i))]) hx hb hml hown hC hl (c_getLB l E 2 rfl hR (by decide) hlt45) (rec_of hC (RB.ls hR (by decide : 2 < 4)) rfl) (zm_X8_39 hC.1) kv_Jx4a65c_get_915e3 (RB.gp hR 2 (by decide) hlt45) rfl rfl (rD_le (by omega) (by decide)) ⟨rfl, rfl⟩ (Nat.le_of_ble_eq_true rfl) ⟨Nat.zero_le _, Nat.zero_le _⟩ dX8_left_84 ?_
              refine g_cast hx hb hown hC (RB.ch hR hlt45) rfl (zc_X8_83 hC.1) dX8_left_87 ?_
              refine gf_X7_5 hx hb hown hC (RB.ch hR hlt45) (zf_X8_96 hC.1) dX8_left_90 ?_
              refine lv_bipush (v := 30) hx hb dX8_left_93 (by decide) ?_
              refine lv_idiv hx hb dX8_left_95 (by decide) ?_
              refine lv_iload_n hx hb dX8_left_96 rfl (lv_at hl 4 rfl) ?_
              refine lv_icmp_ne (tgt := 120) hx hb dX8_left_97 (by decide) (fun c_97 => ?_) (fun c_97 => ?_)
              ·
                refine lv_iconst (v := 0) hx hb dX8_left_120 (by decide) ?_
                refine lv_isub hx hb dX8_left_121 ?_
                refine lv_istore (lv' := [(4, .int ((((S.tb 1 (k9 * 4 + (per + 1))) + (maxI (leftL S k9 b (per + 1)) 0 * S.tb 2 (k9 * 1 + 0) / 100)) - sm (costInQ S (nI k9) (nI (per + 1)) b) i) - (0))), (5, .int (nI (i))), (0, .ref (g.ad 12 0)), (1, .int (nI k9)), (2, .int (nI (per + 1))), (3, .int (b))]) hx hb dX8_left_122 hl (by decide) rfl (fun ls hl => ?_)
                refine lv_iinc (v := nI (i) + 1) (lv' := [(5, .int (nI (i) + 1)), (4, .int ((((S.tb 1 (k9 * 4 + (per + 1))) + (maxI (leftL S k9 b (per + 1)) 0 * S.tb 2 (k9 * 1 + 0) / 100)) - sm (costInQ S (nI k9) (nI (per + 1)) b) i) - (0))), (0, .ref (g.ad 12 0)), (1, .int (nI k9)), (2, .int (nI (per + 1))), (3, .int (b))]) hx hb dX8_left_124 hl (k := 1) rfl rfl (by decide) rfl (fun ls hl => ?_)
                refine lv_goto (tgt := 45) hx hb dX8_left_127 (by decide) ?_
                refine ih45 (i + 1) (by omega) ls ?_
                rw [nI_succ i, sm_m (f := costInQ S (nI k9) (nI (per + 1)) b) (by unfold costInQ; rw [if_pos c_75, if_neg c_97])]
                exact lv_sub hl [0, 1, 2, 3, 4, 5] rfl
              ·
                refine lv_aload_n hx hb dX8_left_100 rfl (lv_at hl 2 rfl) ?_
                refine lv_aload_n hx hb dX8_left_101 rfl (lv_at hl 2 rfl) ?_
                refine gf_X8_2 hx hb hown hC (RB.dk hR) (zf_X8_21 hC.1) dX8_left_102 ?_
                refine lv_iload hx hb dX8_left_105 (lv_at hl 0 rfl) ?_
                refine rc_V (As := [.int (nI (i))]) hx hb hml hown hC hl (c_getLB l E 2 rfl hR (by decide) hlt45) (rec_of hC (RB.ls hR (by decide : 2 < 4)) rfl) (zm_X8_39 hC.1) kv_Jx4a65c_get_915e3 (RB.gp hR 2 (by decide) hlt45) rfl rfl (rD_le (by omega) (by decide)) ⟨rfl, rfl⟩ (Nat.le_of_ble_eq_true rfl) ⟨Nat.zero_le _, Nat.zero_le _⟩ dX8_left_107 ?_
                refine g_cast hx hb hown hC (RB.ch hR hlt45) rfl (zc_X8_83 hC.1) dX8_left_110 ?_
                refine lv_iload_n hx hb dX8_left_113 rfl (lv_at hl 5 rfl) ?_
                refine rc_V (As := [.ref (g.ad 8 (i)), .int (b)]) hx hb hml hown hC hl (c_X8_cost l E hI hlt45 (b)) (rec_of hC (RB.dk hR) rfl) (zm_X8_117 hC.1) kv_X8_cost hR rfl rfl (rD_le (by omega) (by decide)) ⟨rfl, rfl⟩ (Nat.le_of_ble_eq_true rfl) ⟨Nat.zero_le _, Nat.zero_le _⟩ dX8_left_114 ?_
                refine lv_goto (tgt := 121) hx hb dX8_left_117 (by decide) ?_
                refine lv_isub hx hb dX8_left_121 ?_
                refine lv_istore (lv' := [(4, .int ((((S.tb 1 (k9 * 4 + (per + 1))) + (maxI (leftL S k9 b (per + 1)) 0 * S.tb 2 (k9 * 1 + 0) / 100)) - sm (costInQ S (nI k9) (nI (per + 1)) b) i) - (costA S (i) (b)))), (5, .int (nI (i))), (0, .ref (g.ad 12 0)), (1, .int (nI k9)), (2, .int (nI (per + 1))), (3, .int (b))]) hx hb dX8_left_122 hl (by decide) rfl (fun ls hl => ?_)
                refine lv_iinc (v := nI (i) + 1) (lv' := [(5, .int (nI (i) + 1)), (4, .int ((((S.tb 1 (k9 * 4 + (per + 1))) + (maxI (leftL S k9 b (per + 1)) 0 * S.tb 2 (k9 * 1 + 0) / 100)) - sm (costInQ S (nI k9) (nI (per + 1)) b) i) - (costA S (i) (b)))), (0, .ref (g.ad 12 0)), (1, .int (nI k9)), (2, .int (nI (per + 1))), (3, .int (b))]) hx hb dX8_left_124 hl (k := 1) rfl rfl (by decide) rfl (fun ls hl => ?_)
                refine lv_goto (tgt := 45) hx hb dX8_left_127 (by decide) ?_
                refine ih45 (i + 1) (by omega) ls ?_
                rw [nI_succ i, sm_m (f := costInQ S (nI k9) (nI (per + 1)) b) (by unfold costInQ; rw [if_pos c_75, if_pos c_97])]
                exact lv_sub hl [0, 1, 2, 3, 4, 5] rfl
      refine loop45 (S.nc) 0 (by omega) ls ?_
      rw [show sm (costInQ S (nI k9) (nI (per + 1)) b) 0 = 0 from rfl, Int32.sub_zero]
      exact lv_sub hl [0, 1, 2, 3, 4, 5] rfl
