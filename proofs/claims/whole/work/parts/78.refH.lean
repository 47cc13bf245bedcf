set_option maxRecDepth 100000 in
set_option maxHeartbeats 4000000 in
theorem c_X8_maySpend (l : Launch) (E : EE) {S : St} {th : Int32} {g : Gh} (hI : Inv S) {p9 : Nat} (hp : p9 < S.np) {k9 : Nat} (hk : k9 < 4) (ld : Int32) : RM l E yX8_maySpend cX8_maySpend 8 .int (rD 4) [.ref (g.ad 12 0), .int (nI p9), .int (nI k9), .int (ld)] (RB E S th g) (.int (spendA S p9 k9 ld)) := by
  cases ho : tripA S p9 ld with
  | none =>
    refine rm_of rfl (Nat.le_of_ble_eq_true rfl) (fun p e s m below meth c ls hx hb hr hml (hown : s.vm.findClass RX8 = some m.cls) hC hlocks hR hl => ?_)
    have hl : lv_has ls 8 [(0, .ref (g.ad 12 0)), (1, .int (nI p9)), (2, .int (nI k9)), (3, .int (ld))] := hl
    refine lv_aload_n hx hb dX8_maySpend_0 rfl (lv_at hl 0 rfl) ?_
    refine lv_iload_n hx hb dX8_maySpend_1 rfl (lv_at hl 1 rfl) ?_
    refine lv_iload_n hx hb dX8_maySpend_2 rfl (lv_at hl 3 rfl) ?_
    refine rc_V (As := [.int (nI p9), .int (ld)]) hx hb hml hown hC hl (c_X8_tripOf l E hI hp ld) (rec_of hC (RB.dk hR) rfl) (zm_X8_70 hC.1) kv_X8_tripOf hR rfl rfl (rD_le (by decide) (by decide)) ⟨rfl, rfl⟩ (Nat.le_of_ble_eq_true rfl) ⟨Nat.zero_le _, Nat.zero_le _⟩ dX8_maySpend_3 ?_
    rw [show irI (tripA S p9 ld) = -1 by rw [ho]; rfl]
    refine lv_istore (lv' := [(4, .int ((-1))), (0, .ref (g.ad 12 0)), (1, .int (nI p9)), (2, .int (nI k9)), (3, .int (ld))]) hx hb dX8_maySpend_6 hl (by decide) rfl (fun ls hl => ?_)
    refine lv_iload hx hb dX8_maySpend_8 (lv_at hl 0 rfl) ?_
    refine lv_iconst (v := (-1)) hx hb dX8_maySpend_10 (by decide) ?_
    refine lv_icmp_ne (tgt := 53) hx hb dX8_maySpend_11 (by decide) (fun c_11 => ?_) (fun c_11 => ?_)
    · exact absurd (by decide) c_11
    ·
      refine lv_aload_n hx hb dX8_maySpend_14 rfl (lv_at hl 1 rfl) ?_
      refine gf_X8_0 hx hb hown hC (RB.dk hR) (zf_X8_12 hC.1) dX8_maySpend_15 ?_
      refine lv_iload_n hx hb dX8_maySpend_18 rfl (lv_at hl 2 rfl) ?_
      refine rc_V (As := [.int (nI p9)]) hx hb hml hown hC hl (c_getLB l E 0 rfl hR (by decide) hp) (rec_of hC (RB.ls hR (by decide : 0 < 4)) rfl) (zm_X8_39 hC.1) kv_Jx4a65c_get_915e3 (RB.gp hR 0 (by decide) hp) rfl rfl (rD_le (by decide) (by decide)) ⟨rfl, rfl⟩ (Nat.le_of_ble_eq_true rfl) ⟨Nat.zero_le _, Nat.zero_le _⟩ dX8_maySpend_19 ?_
      refine g_cast hx hb hown hC (RB.pe hR hp) rfl (zc_X8_43 hC.1) dX8_maySpend_22 ?_
      refine gf_X9_4 hx hb hown hC (RB.pe hR hp) (zf_X8_74 hC.1) dX8_maySpend_25 ?_
      refine lv_iload_n hx hb dX8_maySpend_28 rfl (lv_at hl 3 rfl) ?_
      refine g_iald hx hb hC (RB.li hR hp) ⟨rfl, hk, by decide⟩ dX8_maySpend_29 ?_
      rw [show lmB S p9 k9 = S.tb 0 (p9 * 4 + k9) from if_pos hk]
      refine lv_iconst (v := 5) hx hb dX8_maySpend_30 (by decide) ?_
      refine lv_aload_n hx hb dX8_maySpend_31 rfl (lv_at hl 1 rfl) ?_
      refine gf_X8_0 hx hb hown hC (RB.dk hR) (zf_X8_12 hC.1) dX8_maySpend_32 ?_
      refine lv_iload_n hx hb dX8_maySpend_35 rfl (lv_at hl 2 rfl) ?_
      refine rc_V (As := [.int (nI p9)]) hx hb hml hown hC hl (c_getLB l E 0 rfl hR (by decide) hp) (rec_of hC (RB.ls hR (by decide : 0 < 4)) rfl) (zm_X8_39 hC.1) kv_Jx4a65c_get_915e3 (RB.gp hR 0 (by decide) hp) rfl rfl (rD_le (by decide) (by decide)) ⟨rfl, rfl⟩ (Nat.le_of_ble_eq_true rfl) ⟨Nat.zero_le _, Nat.zero_le _⟩ dX8_maySpend_36 ?_
      refine g_cast hx hb hown hC (RB.pe hR hp) rfl (zc_X8_43 hC.1) dX8_maySpend_39 ?_
      refine gf_X9_2 hx hb hown hC (RB.pe hR hp) (zf_X8_77 hC.1) dX8_maySpend_42 ?_
      refine lv_iadd hx hb dX8_maySpend_45 ?_
      refine lv_imul hx hb dX8_maySpend_46 ?_
      refine lv_bipush (v := 10) hx hb dX8_maySpend_47 (by decide) ?_
      refine lv_idiv hx hb dX8_maySpend_49 (by decide) ?_
      refine lv_goto (tgt := 68) hx hb dX8_maySpend_50 (by decide) ?_
      refine lv_istore (lv' := [(5, .int (((S.tb 0 (p9 * 4 + k9)) * ((5) + (S.tr (p9)))) / (10))), (4, .int ((-1))), (0, .ref (g.ad 12 0)), (1, .int (nI p9)), (2, .int (nI k9)), (3, .int (ld))]) hx hb dX8_maySpend_68 hl (by decide) rfl (fun ls hl => ?_)
      refine lv_iconst (v := 0) hx hb dX8_maySpend_70 (by decide) ?_
      refine lv_istore (lv' := [(6, .int (0)), (5, .int (((S.tb 0 (p9 * 4 + k9)) * ((5) + (S.tr (p9)))) / (10))), (4, .int ((-1))), (0, .ref (g.ad 12 0)), (1, .int (nI p9)), (2, .int (nI k9)), (3, .int (ld))]) hx hb dX8_maySpend_71 hl (by decide) rfl (fun ls hl => ?_)
      have loop73 : ∀ (r73 i : Nat), i + r73 = S.nc → ∀ ls, lv_has ls 8 [(6, .int (nI (i))), (5, .int ((S.tb 0 (p9 * 4 + k9) * (5 + S.tr p9) / 10) - sm (offQ S p9 (nI k9)) i)), (4, .int ((-1))), (0, .ref (g.ad 12 0)), (1, .int (nI p9)), (2, .int (nI k9)), (3, .int (ld))] → W p l e (rD 4) s m ([.ref (g.ad 12 0), .int (nI p9), .int (nI k9), .int (ld)] : List Value).toArray below meth c s.heap [] 0 0 (MQ below (RQ (.int (spendA S p9 k9 ld))) ([.ref (g.ad 12 0), .int (nI p9), .int (nI k9), .int (ld)] : List Value).toArray s 0 0 (fun _ => False)) (F0 m 73 ls []) := by
        intro r73
        induction r73 with
        | zero =>
          intro i hE73 ls hl
          have hN73 : i = S.nc := by omega
          subst hN73
          refine lv_iload hx hb dX8_maySpend_73 (lv_at hl 0 rfl) ?_
          refine lv_aload_n hx hb dX8_maySpend_75 rfl (lv_at hl 3 rfl) ?_
          refine gf_X8_2 hx hb hown hC (RB.dk hR) (zf_X8_21 hC.1) dX8_maySpend_76 ?_
          refine rc_V (As := []) hx hb hml hown hC hl (c_size l E _ _ _ _) (rec_of hC (RB.ls hR (by decide : 2 < 4)) rfl) (zm_X8_52 hC.1) kv_Jx4a65c_size_8abf5 (RB.ls hR (by decide : 2 < 4)) rfl rfl (rD_le (by decide) (by decide)) ⟨rfl, rfl⟩ (Nat.le_of_ble_eq_true rfl) ⟨Nat.zero_le _, Nat.zero_le _⟩ dX8_maySpend_79 ?_
          refine lv_icmp_ge (tgt := 175) hx hb dX8_maySpend_82 (by decide) (fun c_82 => ?_) (fun c_82 => ?_)
          ·
            refine lv_iload hx hb dX8_maySpend_175 (lv_at hl 1 rfl) ?_
            exact rr_i hx hb hr hlocks (by unfold spendA; rw [ho]; rfl) dX8_maySpend_177
          · exact absurd (Int32.le_refl _) c_82
        | succ r73 ih73 =>
          intro i hE73 ls hl
          have hlt73 : i < S.nc := by omega
          refine lv_iload hx hb dX8_maySpend_73 (lv_at hl 0 rfl) ?_
          refine lv_aload_n hx hb dX8_maySpend_75 rfl (lv_at hl 3 rfl) ?_
          refine gf_X8_2 hx hb hown hC (RB.dk hR) (zf_X8_21 hC.1) dX8_maySpend_76 ?_
          refine rc_V (As := []) hx hb hml hown hC hl (c_size l E _ _ _ _) (rec_of hC (RB.ls hR (by decide : 2 < 4)) rfl) (zm_X8_52 hC.1) kv_Jx4a65c_size_8abf5 (RB.ls hR (by decide : 2 < 4)) rfl rfl (rD_le (by decide) (by decide)) ⟨rfl, rfl⟩ (Nat.le_of_ble_eq_true rfl) ⟨Nat.zero_le _, Nat.zero_le _⟩ dX8_maySpend_79 ?_
          refine lv_icmp_ge (tgt := 175) hx hb dX8_maySpend_82 (by decide) (fun c_82 => ?_) (fun c_82 => ?_)
          · exact absurd c_82 (nI_ge hlt73 hI.nc31)
          ·
            refine lv_aload_n hx hb dX8_maySpend_85 rfl (lv_at hl 3 rfl) ?_
            refine gf_X8_2 hx hb hown hC (RB.dk hR) (zf_X8_21 hC.1) dX8_maySpend_86 ?_
            refine lv_iload hx hb dX8_maySpend_89 (lv_at hl 0 rfl) ?_
            refine rc_V (As := [.int (nI (i))]) hx hb hml hown hC hl (c_getLB l E 2 rfl hR (by decide) hlt73) (rec_of hC (RB.ls hR (by decide : 2 < 4)) rfl) (zm_X8_39 hC.1) kv_Jx4a65c_get_915e3 (RB.gp hR 2 (by decide) hlt73) rfl rfl (rD_le (by decide) (by decide)) ⟨rfl, rfl⟩ (Nat.le_of_ble_eq_true rfl) ⟨Nat.zero_le _, Nat.zero_le _⟩ dX8_maySpend_91 ?_
            refine g_cast hx hb hown hC (RB.ch hR hlt73) rfl (zc_X8_83 hC.1) dX8_maySpend_94 ?_
            refine lv_astore (lv' := [(7, .ref (g.ad 8 (i))), (6, .int (nI (i))), (5, .int ((S.tb 0 (p9 * 4 + k9) * (5 + S.tr p9) / 10) - sm (offQ S p9 (nI k9)) i)), (4, .int ((-1))), (0, .ref (g.ad 12 0)), (1, .int (nI p9)), (2, .int (nI k9)), (3, .int (ld))]) hx hb dX8_maySpend_97 hl (by decide) rfl (fun ls hl => ?_)
            refine lv_aload hx hb dX8_maySpend_99 (lv_at hl 0 rfl) ?_
            refine rc_V (As := []) hx hb hml hown hC hl (c_X7_isRepaid l E hI hlt73) (rec_of hC (RB.ch hR hlt73) rfl) (zm_X8_85 hC.1) kv_X7_isRepaid hR rfl rfl (rD_le (by decide) (by decide)) ⟨rfl, rfl⟩ (Nat.le_of_ble_eq_true rfl) ⟨Nat.zero_le _, Nat.zero_le _⟩ dX8_maySpend_101 ?_
            refine lv_if_ne (tgt := 169) hx hb dX8_maySpend_104 (by decide) (fun c_104 => ?_) (fun c_104 => ?_)
            ·
              have c_104 := isRep_1 c_104
              refine lv_iinc (v := nI (i) + 1) (lv' := [(6, .int (nI (i) + 1)), (7, .ref (g.ad 8 (i))), (5, .int ((S.tb 0 (p9 * 4 + k9) * (5 + S.tr p9) / 10) - sm (offQ S p9 (nI k9)) i)), (4, .int ((-1))), (0, .ref (g.ad 12 0)), (1, .int (nI p9)), (2, .int (nI k9)), (3, .int (ld))]) hx hb dX8_maySpend_169 hl (k := 1) rfl rfl (by decide) rfl (fun ls hl => ?_)
              refine lv_goto (tgt := 73) hx hb dX8_maySpend_172 (by decide) ?_
              refine ih73 (i + 1) (by omega) ls ?_
              rw [nI_succ i, sm_m (f := offQ S p9 (nI k9)) (x := 0) (by unfold offQ; simp [c_104]), Int32.sub_zero]
              exact lv_sub hl [0, 2, 3, 4, 5, 6, 7] rfl
            ·
              have c_104 := isRep_0 c_104
              refine lv_aload hx hb dX8_maySpend_107 (lv_at hl 0 rfl) ?_
              refine gf_X7_6 hx hb hown hC (RB.ch hR hlt73) (zf_X8_89 hC.1) dX8_maySpend_109 ?_
              refine lv_iload hx hb dX8_maySpend_112 (lv_at hl 3 rfl) ?_
              refine lv_icmp_eq (tgt := 120) hx hb dX8_maySpend_114 (by decide) (fun c_114 => ?_) (fun c_114 => ?_)
              ·
                have c_114 : S.ct i = none := (irI_m (fun j hj => Nat.lt_trans (hI.ct hlt73 hj) hI.nt31)).mp c_114
                refine lv_iload hx hb dX8_maySpend_120 (lv_at hl 3 rfl) ?_
                refine lv_iconst (v := (-1)) hx hb dX8_maySpend_122 (by decide) ?_
                refine lv_icmp_ne (tgt := 159) hx hb dX8_maySpend_123 (by decide) (fun c_123 => ?_) (fun c_123 => ?_)
                · exact absurd (by decide) c_123
                ·
                  refine lv_aload hx hb dX8_maySpend_126 (lv_at hl 0 rfl) ?_
                  refine gf_X7_0 hx hb hown hC (RB.ch hR hlt73) (zf_X8_92 hC.1) dX8_maySpend_128 ?_
                  refine lv_iload_n hx hb dX8_maySpend_131 rfl (lv_at hl 5 rfl) ?_
                  refine lv_icmp_ne (tgt := 169) hx hb dX8_maySpend_132 (by decide) (fun c_132 => ?_) (fun c_132 => ?_)
                  ·
                    have c_132 : ¬ S.cp i = p9 := fun h => c_132 (congrArg nI h)
                    refine lv_iinc (v := nI (i) + 1) (lv' := [(6, .int (nI (i) + 1)), (7, .ref (g.ad 8 (i))), (5, .int ((S.tb 0 (p9 * 4 + k9) * (5 + S.tr p9) / 10) - sm (offQ S p9 (nI k9)) i)), (4, .int ((-1))), (0, .ref (g.ad 12 0)), (1, .int (nI p9)), (2, .int (nI k9)), (3, .int (ld))]) hx hb dX8_maySpend_169 hl (k := 1) rfl rfl (by decide) rfl (fun ls hl => ?_)
                    refine lv_goto (tgt := 73) hx hb dX8_maySpend_172 (by decide) ?_
                    refine ih73 (i + 1) (by omega) ls ?_
                    rw [nI_succ i, sm_m (f := offQ S p9 (nI k9)) (x := 0) (by unfold offQ; simp [c_104, c_114, c_132]), Int32.sub_zero]
                    exact lv_sub hl [0, 2, 3, 4, 5, 6, 7] rfl
                  ·
                    have c_132 : S.cp i = p9 := (nI_eq (Nat.lt_trans (hI.cp hlt73) hI.np31) (Nat.lt_trans hp hI.np31)).mp c_132
                    refine lv_aload hx hb dX8_maySpend_135 (lv_at hl 0 rfl) ?_
                    refine gf_X7_1 hx hb hown hC (RB.ch hR hlt73) (zf_X8_93 hC.1) dX8_maySpend_137 ?_
                    refine lv_iload_n hx hb dX8_maySpend_140 rfl (lv_at hl 6 rfl) ?_
                    refine lv_icmp_ne (tgt := 169) hx hb dX8_maySpend_141 (by decide) (fun c_141 => ?_) (fun c_141 => ?_)
                    ·
                      refine lv_iinc (v := nI (i) + 1) (lv' := [(6, .int (nI (i) + 1)), (7, .ref (g.ad 8 (i))), (5, .int ((S.tb 0 (p9 * 4 + k9) * (5 + S.tr p9) / 10) - sm (offQ S p9 (nI k9)) i)), (4, .int ((-1))), (0, .ref (g.ad 12 0)), (1, .int (nI p9)), (2, .int (nI k9)), (3, .int (ld))]) hx hb dX8_maySpend_169 hl (k := 1) rfl rfl (by decide) rfl (fun ls hl => ?_)
                      refine lv_goto (tgt := 73) hx hb dX8_maySpend_172 (by decide) ?_
                      refine ih73 (i + 1) (by omega) ls ?_
                      rw [nI_succ i, sm_m (f := offQ S p9 (nI k9)) (x := 0) (by unfold offQ; simp [c_104, c_114, c_132, c_141]), Int32.sub_zero]
                      exact lv_sub hl [0, 2, 3, 4, 5, 6, 7] rfl
                    ·
                      refine lv_aload hx hb dX8_maySpend_144 (lv_at hl 0 rfl) ?_
                      refine gf_X7_5 hx hb hown hC (RB.ch hR hlt73) (zf_X8_96 hC.1) dX8_maySpend_146 ?_
                      refine lv_aload_n hx hb dX8_maySpend_149 rfl (lv_at hl 4 rfl) ?_
                      refine gf_X8_7 hx hb hown hC (RB.dk hR) (zf_X8_49 hC.1) dX8_maySpend_150 ?_
                      refine lv_bipush (v := 9) hx hb dX8_maySpend_153 (by decide) ?_
                      refine lv_isub hx hb dX8_maySpend_155 ?_
                      refine lv_icmp_lt (tgt := 169) hx hb dX8_maySpend_156 (by decide) (fun c_156 => ?_) (fun c_156 => ?_)
                      ·
                        have c_156 := (win_e (hI.cd hlt73) hI.td).mp c_156
                        refine lv_iinc (v := nI (i) + 1) (lv' := [(6, .int (nI (i) + 1)), (7, .ref (g.ad 8 (i))), (5, .int ((S.tb 0 (p9 * 4 + k9) * (5 + S.tr p9) / 10) - sm (offQ S p9 (nI k9)) i)), (4, .int ((-1))), (0, .ref (g.ad 12 0)), (1, .int (nI p9)), (2, .int (nI k9)), (3, .int (ld))]) hx hb dX8_maySpend_169 hl (k := 1) rfl rfl (by decide) rfl (fun ls hl => ?_)
                        refine lv_goto (tgt := 73) hx hb dX8_maySpend_172 (by decide) ?_
                        refine ih73 (i + 1) (by omega) ls ?_
                        rw [nI_succ i, sm_m (f := offQ S p9 (nI k9)) (x := 0) (by unfold offQ; simp [c_104, c_114, c_132, c_141, c_156]), Int32.sub_zero]
                        exact lv_sub hl [0, 2, 3, 4, 5, 6, 7] rfl
                      ·
                        have c_156 : ¬ 10 ≤ nI S.td - nI (S.cd i) := fun h => c_156 ((win_e (hI.cd hlt73) hI.td).mpr h)
                        refine lv_iload hx hb dX8_maySpend_159 (lv_at hl 2 rfl) ?_
                        refine lv_aload hx hb dX8_maySpend_161 (lv_at hl 0 rfl) ?_
                        refine gf_X7_3 hx hb hown hC (RB.ch hR hlt73) (zf_X8_97 hC.1) dX8_maySpend_163 ?_
                        refine lv_isub hx hb dX8_maySpend_166 ?_
                        refine lv_istore (lv' := [(5, .int (((S.tb 0 (p9 * 4 + k9) * (5 + S.tr p9) / 10) - sm (offQ S p9 (nI k9)) i) - (S.ca (i)))), (7, .ref (g.ad 8 (i))), (6, .int (nI (i))), (4, .int ((-1))), (0, .ref (g.ad 12 0)), (1, .int (nI p9)), (2, .int (nI k9)), (3, .int (ld))]) hx hb dX8_maySpend_167 hl (by decide) rfl (fun ls hl => ?_)
                        refine lv_iinc (v := nI (i) + 1) (lv' := [(6, .int (nI (i) + 1)), (5, .int (((S.tb 0 (p9 * 4 + k9) * (5 + S.tr p9) / 10) - sm (offQ S p9 (nI k9)) i) - (S.ca (i)))), (7, .ref (g.ad 8 (i))), (4, .int ((-1))), (0, .ref (g.ad 12 0)), (1, .int (nI p9)), (2, .int (nI k9)), (3, .int (ld))]) hx hb dX8_maySpend_169 hl (k := 2) rfl rfl (by decide) rfl (fun ls hl => ?_)
                        refine lv_goto (tgt := 73) hx hb dX8_maySpend_172 (by decide) ?_
                        refine ih73 (i + 1) (by omega) ls ?_
                        rw [nI_succ i, sm_m (f := offQ S p9 (nI k9)) (x := S.ca i) (by unfold offQ; simp [c_104, c_114, c_132, c_141, c_156])]
                        exact lv_sub hl [0, 1, 3, 4, 5, 6, 7] rfl
              ·
                have c_114 : ¬ S.ct i = none := fun h => c_114 ((irI_m (fun j hj => Nat.lt_trans (hI.ct hlt73 hj) hI.nt31)).mpr h)
                refine lv_goto (tgt := 169) hx hb dX8_maySpend_117 (by decide) ?_
                refine lv_iinc (v := nI (i) + 1) (lv' := [(6, .int (nI (i) + 1)), (7, .ref (g.ad 8 (i))), (5, .int ((S.tb 0 (p9 * 4 + k9) * (5 + S.tr p9) / 10) - sm (offQ S p9 (nI k9)) i)), (4, .int ((-1))), (0, .ref (g.ad 12 0)), (1, .int (nI p9)), (2, .int (nI k9)), (3, .int (ld))]) hx hb dX8_maySpend_169 hl (k := 1) rfl rfl (by decide) rfl (fun ls hl => ?_)
                refine lv_goto (tgt := 73) hx hb dX8_maySpend_172 (by decide) ?_
                refine ih73 (i + 1) (by omega) ls ?_
                rw [nI_succ i, sm_m (f := offQ S p9 (nI k9)) (x := 0) (by unfold offQ; simp [c_104, c_114]), Int32.sub_zero]
                exact lv_sub hl [0, 2, 3, 4, 5, 6, 7] rfl
      refine loop73 (S.nc) 0 (by omega) ls ?_
      rw [show sm (offQ S p9 (nI k9)) 0 = 0 from rfl, Int32.sub_zero]
      exact lv_sub hl [0, 1, 2, 3, 4, 5, 6] rfl
  | some t9 =>
    refine rm_of rfl (Nat.le_of_ble_eq_true rfl) (fun p e s m below meth c ls hx hb hr hml (hown : s.vm.findClass RX8 = some m.cls) hC hlocks hR hl => ?_)
    have hl : lv_has ls 8 [(0, .ref (g.ad 12 0)), (1, .int (nI p9)), (2, .int (nI k9)), (3, .int (ld))] := hl
    refine lv_aload_n hx hb dX8_maySpend_0 rfl (lv_at hl 0 rfl) ?_
    refine lv_iload_n hx hb dX8_maySpend_1 rfl (lv_at hl 1 rfl) ?_
    refine lv_iload_n hx hb dX8_maySpend_2 rfl (lv_at hl 3 rfl) ?_
    refine rc_V (As := [.int (nI p9), .int (ld)]) hx hb hml hown hC hl (c_X8_tripOf l E hI hp ld) (rec_of hC (RB.dk hR) rfl) (zm_X8_70 hC.1) kv_X8_tripOf hR rfl rfl (rD_le (by decide) (by decide)) ⟨rfl, rfl⟩ (Nat.le_of_ble_eq_true rfl) ⟨Nat.zero_le _, Nat.zero_le _⟩ dX8_maySpend_3 ?_
    rw [show irI (tripA S p9 ld) = nI t9 by rw [ho]; rfl]
    refine lv_istore (lv' := [(4, .int (nI t9)), (0, .ref (g.ad 12 0)), (1, .int (nI p9)), (2, .int (nI k9)), (3, .int (ld))]) hx hb dX8_maySpend_6 hl (by decide) rfl (fun ls hl => ?_)
    refine lv_iload hx hb dX8_maySpend_8 (lv_at hl 0 rfl) ?_
    refine lv_iconst (v := (-1)) hx hb dX8_maySpend_10 (by decide) ?_
    refine lv_icmp_ne (tgt := 53) hx hb dX8_maySpend_11 (by decide) (fun c_11 => ?_) (fun c_11 => ?_)
    ·
      refine lv_aload_n hx hb dX8_maySpend_53 rfl (lv_at hl 1 rfl) ?_
      refine gf_X8_1 hx hb hown hC (RB.dk hR) (zf_X8_18 hC.1) dX8_maySpend_54 ?_
      refine lv_iload hx hb dX8_maySpend_57 (lv_at hl 0 rfl) ?_
      refine rc_V (As := [.int (nI t9)]) hx hb hml hown hC hl (c_getLB l E 1 rfl hR (by decide) (fstB_lt ho)) (rec_of hC (RB.ls hR (by decide : 1 < 4)) rfl) (zm_X8_39 hC.1) kv_Jx4a65c_get_915e3 (RB.gp hR 1 (by decide) (fstB_lt ho)) rfl rfl (rD_le (by decide) (by decide)) ⟨rfl, rfl⟩ (Nat.le_of_ble_eq_true rfl) ⟨Nat.zero_le _, Nat.zero_le _⟩ dX8_maySpend_59 ?_
      refine g_cast hx hb hown hC (RB.tp hR (fstB_lt ho)) rfl (zc_X8_56 hC.1) dX8_maySpend_62 ?_
      refine gf_X11_4 hx hb hown hC (RB.tp hR (fstB_lt ho)) (zf_X8_80 hC.1) dX8_maySpend_65 ?_
      refine lv_istore (lv' := [(5, .int (S.te (t9))), (4, .int (nI t9)), (0, .ref (g.ad 12 0)), (1, .int (nI p9)), (2, .int (nI k9)), (3, .int (ld))]) hx hb dX8_maySpend_68 hl (by decide) rfl (fun ls hl => ?_)
      refine lv_iconst (v := 0) hx hb dX8_maySpend_70 (by decide) ?_
      refine lv_istore (lv' := [(6, .int (0)), (5, .int (S.te (t9))), (4, .int (nI t9)), (0, .ref (g.ad 12 0)), (1, .int (nI p9)), (2, .int (nI k9)), (3, .int (ld))]) hx hb dX8_maySpend_71 hl (by decide) rfl (fun ls hl => ?_)
      have loop73 : ∀ (r73 i : Nat), i + r73 = S.nc → ∀ ls, lv_has ls 8 [(6, .int (nI (i))), (5, .int ((S.te t9) - sm (onTripQ S t9) i)), (4, .int (nI t9)), (0, .ref (g.ad 12 0)), (1, .int (nI p9)), (2, .int (nI k9)), (3, .int (ld))] → W p l e (rD 4) s m ([.ref (g.ad 12 0), .int (nI p9), .int (nI k9), .int (ld)] : List Value).toArray below meth c s.heap [] 0 0 (MQ below (RQ (.int (spendA S p9 k9 ld))) ([.ref (g.ad 12 0), .int (nI p9), .int (nI k9), .int (ld)] : List Value).toArray s 0 0 (fun _ => False)) (F0 m 73 ls []) := by
        intro r73
        induction r73 with
        | zero =>
          intro i hE73 ls hl
          have hN73 : i = S.nc := by omega
          subst hN73
          refine lv_iload hx hb dX8_maySpend_73 (lv_at hl 0 rfl) ?_
          refine lv_aload_n hx hb dX8_maySpend_75 rfl (lv_at hl 3 rfl) ?_
          refine gf_X8_2 hx hb hown hC (RB.dk hR) (zf_X8_21 hC.1) dX8_maySpend_76 ?_
          refine rc_V (As := []) hx hb hml hown hC hl (c_size l E _ _ _ _) (rec_of hC (RB.ls hR (by decide : 2 < 4)) rfl) (zm_X8_52 hC.1) kv_Jx4a65c_size_8abf5 (RB.ls hR (by decide : 2 < 4)) rfl rfl (rD_le (by decide) (by decide)) ⟨rfl, rfl⟩ (Nat.le_of_ble_eq_true rfl) ⟨Nat.zero_le _, Nat.zero_le _⟩ dX8_maySpend_79 ?_
          refine lv_icmp_ge (tgt := 175) hx hb dX8_maySpend_82 (by decide) (fun c_82 => ?_) (fun c_82 => ?_)
          ·
            refine lv_iload hx hb dX8_maySpend_175 (lv_at hl 1 rfl) ?_
            exact rr_i hx hb hr hlocks (by unfold spendA; rw [ho]; rfl) dX8_maySpend_177
          · exact absurd (Int32.le_refl _) c_82
        | succ r73 ih73 =>
          intro i hE73 ls hl
          have hlt73 : i < S.nc := by omega
          refine lv_iload hx hb dX8_maySpend_73 (lv_at hl 0 rfl) ?_
          refine lv_aload_n hx hb dX8_maySpend_75 rfl (lv_at hl 3 rfl) ?_
          refine gf_X8_2 hx hb hown hC (RB.dk hR) (zf_X8_21 hC.1) dX8_maySpend_76 ?_
          refine rc_V (As := []) hx hb hml hown hC hl (c_size l E _ _ _ _) (rec_of hC (RB.ls hR (by decide : 2 < 4)) rfl) (zm_X8_52 hC.1) kv_Jx4a65c_size_8abf5 (RB.ls hR (by decide : 2 < 4)) rfl rfl (rD_le (by decide) (by decide)) ⟨rfl, rfl⟩ (Nat.le_of_ble_eq_true rfl) ⟨Nat.zero_le _, Nat.zero_le _⟩ dX8_maySpend_79 ?_
          refine lv_icmp_ge (tgt := 175) hx hb dX8_maySpend_82 (by decide) (fun c_82 => ?_) (fun c_82 => ?_)
          · exact absurd c_82 (nI_ge hlt73 hI.nc31)
          ·
            refine lv_aload_n hx hb dX8_maySpend_85 rfl (lv_at hl 3 rfl) ?_
            refine gf_X8_2 hx hb hown hC (RB.dk hR) (zf_X8_21 hC.1) dX8_maySpend_86 ?_
            refine lv_iload hx hb dX8_maySpend_89 (lv_at hl 0 rfl) ?_
            refine rc_V (As := [.int (nI (i))]) hx hb hml hown hC hl (c_getLB l E 2 rfl hR (by decide) hlt73) (rec_of hC (RB.ls hR (by decide : 2 < 4)) rfl) (zm_X8_39 hC.1) kv_Jx4a65c_get_915e3 (RB.gp hR 2 (by decide) hlt73) rfl rfl (rD_le (by decide) (by decide)) ⟨rfl, rfl⟩ (Nat.le_of_ble_eq_true rfl) ⟨Nat.zero_le _, Nat.zero_le _⟩ dX8_maySpend_91 ?_
            refine g_cast hx hb hown hC (RB.ch hR hlt73) rfl (zc_X8_83 hC.1) dX8_maySpend_94 ?_
            refine lv_astore (lv' := [(7, .ref (g.ad 8 (i))), (6, .int (nI (i))), (5, .int ((S.te t9) - sm (onTripQ S t9) i)), (4, .int (nI t9)), (0, .ref (g.ad 12 0)), (1, .int (nI p9)), (2, .int (nI k9)), (3, .int (ld))]) hx hb dX8_maySpend_97 hl (by decide) rfl (fun ls hl => ?_)
            refine lv_aload hx hb dX8_maySpend_99 (lv_at hl 0 rfl) ?_
            refine rc_V (As := []) hx hb hml hown hC hl (c_X7_isRepaid l E hI hlt73) (rec_of hC (RB.ch hR hlt73) rfl) (zm_X8_85 hC.1) kv_X7_isRepaid hR rfl rfl (rD_le (by decide) (by decide)) ⟨rfl, rfl⟩ (Nat.le_of_ble_eq_true rfl) ⟨Nat.zero_le _, Nat.zero_le _⟩ dX8_maySpend_101 ?_
            refine lv_if_ne (tgt := 169) hx hb dX8_maySpend_104 (by decide) (fun c_104 => ?_) (fun c_104 => ?_)
            ·
              have c_104 := isRep_1 c_104
              refine lv_iinc (v := nI (i) + 1) (lv' := [(6, .int (nI (i) + 1)), (7, .ref (g.ad 8 (i))), (5, .int ((S.te t9) - sm (onTripQ S t9) i)), (4, .int (nI t9)), (0, .ref (g.ad 12 0)), (1, .int (nI p9)), (2, .int (nI k9)), (3, .int (ld))]) hx hb dX8_maySpend_169 hl (k := 1) rfl rfl (by decide) rfl (fun ls hl => ?_)
              refine lv_goto (tgt := 73) hx hb dX8_maySpend_172 (by decide) ?_
              refine ih73 (i + 1) (by omega) ls ?_
              rw [nI_succ i, sm_m (f := onTripQ S t9) (x := 0) (by unfold onTripQ; simp [c_104]), Int32.sub_zero]
              exact lv_sub hl [0, 2, 3, 4, 5, 6, 7] rfl
            ·
              have c_104 := isRep_0 c_104
              refine lv_aload hx hb dX8_maySpend_107 (lv_at hl 0 rfl) ?_
              refine gf_X7_6 hx hb hown hC (RB.ch hR hlt73) (zf_X8_89 hC.1) dX8_maySpend_109 ?_
              refine lv_iload hx hb dX8_maySpend_112 (lv_at hl 3 rfl) ?_
              refine lv_icmp_eq (tgt := 120) hx hb dX8_maySpend_114 (by decide) (fun c_114 => ?_) (fun c_114 => ?_)
              ·
                have c_114 : S.ct i = some t9 := (irI_s (fun j hj => Nat.lt_trans (hI.ct hlt73 hj) hI.nt31) (Nat.lt_trans (fstB_lt ho) hI.nt31)).mp c_114
                refine lv_iload hx hb dX8_maySpend_120 (lv_at hl 3 rfl) ?_
                refine lv_iconst (v := (-1)) hx hb dX8_maySpend_122 (by decide) ?_
                refine lv_icmp_ne (tgt := 159) hx hb dX8_maySpend_123 (by decide) (fun c_123 => ?_) (fun c_123 => ?_)
                ·
                  refine lv_iload hx hb dX8_maySpend_159 (lv_at hl 2 rfl) ?_
                  refine lv_aload hx hb dX8_maySpend_161 (lv_at hl 0 rfl) ?_
                  refine gf_X7_3 hx hb hown hC (RB.ch hR hlt73) (zf_X8_97 hC.1) dX8_maySpend_163 ?_
                  refine lv_isub hx hb dX8_maySpend_166 ?_
                  refine lv_istore (lv' := [(5, .int (((S.te t9) - sm (onTripQ S t9) i) - (S.ca (i)))), (7, .ref (g.ad 8 (i))), (6, .int (nI (i))), (4, .int (nI t9)), (0, .ref (g.ad 12 0)), (1, .int (nI p9)), (2, .int (nI k9)), (3, .int (ld))]) hx hb dX8_maySpend_167 hl (by decide) rfl (fun ls hl => ?_)
                  refine lv_iinc (v := nI (i) + 1) (lv' := [(6, .int (nI (i) + 1)), (5, .int (((S.te t9) - sm (onTripQ S t9) i) - (S.ca (i)))), (7, .ref (g.ad 8 (i))), (4, .int (nI t9)), (0, .ref (g.ad 12 0)), (1, .int (nI p9)), (2, .int (nI k9)), (3, .int (ld))]) hx hb dX8_maySpend_169 hl (k := 2) rfl rfl (by decide) rfl (fun ls hl => ?_)
                  refine lv_goto (tgt := 73) hx hb dX8_maySpend_172 (by decide) ?_
                  refine ih73 (i + 1) (by omega) ls ?_
                  rw [nI_succ i, sm_m (f := onTripQ S t9) (x := S.ca i) (by unfold onTripQ; simp [c_104, c_114])]
                  exact lv_sub hl [0, 1, 3, 4, 5, 6, 7] rfl
                · exact absurd c_123 (nI_neg1 (Nat.lt_trans (fstB_lt ho) hI.nt31))
              ·
                have c_114 : ¬ S.ct i = some t9 := fun h => c_114 ((irI_s (fun j hj => Nat.lt_trans (hI.ct hlt73 hj) hI.nt31) (Nat.lt_trans (fstB_lt ho) hI.nt31)).mpr h)
                refine lv_goto (tgt := 169) hx hb dX8_maySpend_117 (by decide) ?_
                refine lv_iinc (v := nI (i) + 1) (lv' := [(6, .int (nI (i) + 1)), (7, .ref (g.ad 8 (i))), (5, .int ((S.te t9) - sm (onTripQ S t9) i)), (4, .int (nI t9)), (0, .ref (g.ad 12 0)), (1, .int (nI p9)), (2, .int (nI k9)), (3, .int (ld))]) hx hb dX8_maySpend_169 hl (k := 1) rfl rfl (by decide) rfl (fun ls hl => ?_)
                refine lv_goto (tgt := 73) hx hb dX8_maySpend_172 (by decide) ?_
                refine ih73 (i + 1) (by omega) ls ?_
                rw [nI_succ i, sm_m (f := onTripQ S t9) (x := 0) (by unfold onTripQ; simp [c_104, c_114]), Int32.sub_zero]
                exact lv_sub hl [0, 2, 3, 4, 5, 6, 7] rfl
      refine loop73 (S.nc) 0 (by omega) ls ?_
      rw [show sm (onTripQ S t9) 0 = 0 from rfl, Int32.sub_zero]
      exact lv_sub hl [0, 1, 2, 3, 4, 5, 6] rfl
    · exact absurd c_11 (nI_neg1 (Nat.lt_trans (fstB_lt ho) hI.nt31))
