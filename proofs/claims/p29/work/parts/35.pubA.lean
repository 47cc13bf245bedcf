set_option maxRecDepth 100000 in
set_option maxHeartbeats 4000000 in
theorem c_X6_ofPerson (l : Launch) (E : EE) {S : St} {g : Gh} (hI : Inv S) {p9 : Nat} (hp : p9 < S.np) {w9 : Nat} (hw : w9 ≤ 6) : RM l E yX6_ofPerson cX6_ofPerson 4 .int (rD 4) [.ref (g.ad 1 0), .int (nI p9), .int (nI w9)] (RA E S g) (.int (ofPersonA S p9 w9)) := by
  refine rm_of rfl (Nat.le_of_ble_eq_true rfl) (fun p e s m below meth c ls hx hb hr hml (hown : s.vm.findClass RX6 = some m.cls) hC hlocks hR hl => ?_)
  have hl : lv_has ls 4 [(0, .ref (g.ad 1 0)), (1, .int (nI p9)), (2, .int (nI w9))] := hl
  refine lv_aload_n hx hb dX6_ofPerson_0 rfl (lv_at hl 0 rfl) ?_
  refine lv_iload_n hx hb dX6_ofPerson_1 rfl (lv_at hl 1 rfl) ?_
  refine rc_V (As := [.int (nI p9)]) hx hb hml hown hC hl (c_X6_personAt l E hI hp) (rec_of hC (RA.x hR) rfl) (zm_X6_47 hC.1) kv_X6_personAt hR rfl rfl (rD_le (by decide) (by decide)) ⟨rfl, rfl⟩ (Nat.le_of_ble_eq_true rfl) ⟨Nat.zero_le _, Nat.zero_le _⟩ dX6_ofPerson_2 ?_
  refine lv_astore_n (lv' := [(3, .ref (g.ad 6 (p9))), (0, .ref (g.ad 1 0)), (1, .int (nI p9)), (2, .int (nI w9))]) hx hb dX6_ofPerson_5 rfl hl (by decide) rfl (fun ls hl => ?_)
  refine lv_iload_n hx hb dX6_ofPerson_6 rfl (lv_at hl 3 rfl) ?_
  refine lv_iconst (v := 0) hx hb dX6_ofPerson_7 (by decide) ?_
  refine lv_bipush (v := 6) hx hb dX6_ofPerson_8 (by decide) ?_
  refine rc_S0 (As := [.int (nI w9), .int (0), .int (6)]) hx hb hml hown hC hl (c_X6_checkRange l E hI (show ¬ nI w9 < 0 from nI_pos (by omega)) (show ¬ (6 : Int32) < nI w9 from nI_nlt (a := 6) (by omega) (by decide))) (zm_X6_78 hC.1) kv_X6_checkRange hR rfl rfl (rD_le (by decide) (by decide)) ⟨rfl, rfl⟩ (Nat.le_of_ble_eq_true rfl) ⟨Nat.zero_le _, Nat.zero_le _⟩ dX6_ofPerson_10 ?_
  refine lv_iload_n hx hb dX6_ofPerson_13 rfl (lv_at hl 3 rfl) ?_
  rcases (by omega : w9 = 0 ∨ w9 = 1 ∨ w9 = 2 ∨ w9 = 3 ∨ w9 = 4 ∨ w9 = 5 ∨ w9 = 6) with rfl | rfl | rfl | rfl | rfl | rfl | rfl
  · refine lv_tableIn (off := 38) (tgt := 52) hx hb dX6_ofPerson_14 (by decide) (by decide) (by decide) (by decide) ?_
    refine lv_aload_n hx hb dX6_ofPerson_52 rfl (lv_at hl 0 rfl) ?_
    refine gf_X2_1 hx hb hown hC (RA.pe hR hp) (zf_X6_116 hC.1) dX6_ofPerson_53 ?_
    refine rc_S (As := [va_rf ((S.bo (p9)).map (g.ad 6))]) hx hb hml hown hC hl (c_X6_numberOf6 l E hI (S.bo (p9)) (fun j h => (hI.bo hp h))) (zm_X6_119 hC.1) kv_X6_numberOf hR rfl rfl (rD_le (by decide) (by decide)) ⟨rfl, rfl⟩ (Nat.le_of_ble_eq_true rfl) ⟨Nat.zero_le _, Nat.zero_le _⟩ dX6_ofPerson_56 ?_
    exact rr_i hx hb hr hlocks rfl dX6_ofPerson_59
  · refine lv_tableIn (off := 46) (tgt := 60) hx hb dX6_ofPerson_14 (by decide) (by decide) (by decide) (by decide) ?_
    refine lv_aload_n hx hb dX6_ofPerson_60 rfl (lv_at hl 0 rfl) ?_
    refine gf_X2_2 hx hb hown hC (RA.pe hR hp) (zf_X6_123 hC.1) dX6_ofPerson_61 ?_
    exact rr_i hx hb hr hlocks rfl dX6_ofPerson_64
  · refine lv_tableIn (off := 51) (tgt := 65) hx hb dX6_ofPerson_14 (by decide) (by decide) (by decide) (by decide) ?_
    refine lv_aload_n hx hb dX6_ofPerson_65 rfl (lv_at hl 0 rfl) ?_
    refine gf_X2_3 hx hb hown hC (RA.pe hR hp) (zf_X6_126 hC.1) dX6_ofPerson_66 ?_
    exact rr_i hx hb hr hlocks rfl dX6_ofPerson_69
  · refine lv_tableIn (off := 56) (tgt := 70) hx hb dX6_ofPerson_14 (by decide) (by decide) (by decide) (by decide) ?_
    refine lv_aload_n hx hb dX6_ofPerson_70 rfl (lv_at hl 0 rfl) ?_
    refine lv_aload_n hx hb dX6_ofPerson_71 rfl (lv_at hl 1 rfl) ?_
    refine gf_X6_8 hx hb hown hC (RA.x hR) (zf_X6_43 hC.1) dX6_ofPerson_72 ?_
    refine rc_V (As := [.int (nI S.td)]) hx hb hml hown hC hl (c_X2_isAwayOn l E hI hp (nI S.td)) (rec_of hC (RA.pe hR hp) rfl) (zm_X6_91 hC.1) kv_X2_isAwayOn hR rfl rfl (rD_le (by decide) (by decide)) ⟨rfl, rfl⟩ (Nat.le_of_ble_eq_true rfl) ⟨Nat.zero_le _, Nat.zero_le _⟩ dX6_ofPerson_75 ?_
    refine lv_if_eq (tgt := 85) hx hb dX6_ofPerson_78 (by decide) (fun c_78 => ?_) (fun c_78 => ?_)
    ·
      refine lv_iconst (v := 0) hx hb dX6_ofPerson_85 (by decide) ?_
      exact rr_i hx hb hr hlocks (by show _ = Value.int (if awayA S p9 (nI S.td) = 0 then 0 else 1); rw [if_pos c_78]) dX6_ofPerson_86
    ·
      refine lv_iconst (v := 1) hx hb dX6_ofPerson_81 (by decide) ?_
      refine lv_goto (tgt := 86) hx hb dX6_ofPerson_82 (by decide) ?_
      exact rr_i hx hb hr hlocks (by show _ = Value.int (if awayA S p9 (nI S.td) = 0 then 0 else 1); rw [if_neg c_78]) dX6_ofPerson_86
  · refine lv_tableIn (off := 73) (tgt := 87) hx hb dX6_ofPerson_14 (by decide) (by decide) (by decide) (by decide) ?_
    refine lv_aload_n hx hb dX6_ofPerson_87 rfl (lv_at hl 1 rfl) ?_
    refine lv_aload_n hx hb dX6_ofPerson_88 rfl (lv_at hl 0 rfl) ?_
    refine rc_V (As := [.ref (g.ad 6 (p9))]) hx hb hml hown hC hl (c_X6_countOpenOf l E hI hp) (rec_of hC (RA.x hR) rfl) (zm_X6_129 hC.1) kv_X6_countOpenOf hR rfl rfl (rD_le (by decide) (by decide)) ⟨rfl, rfl⟩ (Nat.le_of_ble_eq_true rfl) ⟨Nat.zero_le _, Nat.zero_le _⟩ dX6_ofPerson_89 ?_
    exact rr_i hx hb hr hlocks rfl dX6_ofPerson_92
  · refine lv_tableIn (off := 79) (tgt := 93) hx hb dX6_ofPerson_14 (by decide) (by decide) (by decide) (by decide) ?_
    refine lv_aload_n hx hb dX6_ofPerson_93 rfl (lv_at hl 1 rfl) ?_
    refine lv_aload_n hx hb dX6_ofPerson_94 rfl (lv_at hl 0 rfl) ?_
    refine rc_V (As := [.ref (g.ad 6 (p9))]) hx hb hml hown hC hl (c_X6_repaidAmountOf l E hI hp) (rec_of hC (RA.x hR) rfl) (zm_X6_133 hC.1) kv_X6_repaidAmountOf hR rfl rfl (rD_le (by decide) (by decide)) ⟨rfl, rfl⟩ (Nat.le_of_ble_eq_true rfl) ⟨Nat.zero_le _, Nat.zero_le _⟩ dX6_ofPerson_95 ?_
    exact rr_i hx hb hr hlocks rfl dX6_ofPerson_98
  · refine lv_tableOut (tgt := 99) hx hb dX6_ofPerson_14 (Or.inr (by decide)) (by decide) ?_
    refine lv_aload_n hx hb dX6_ofPerson_99 rfl (lv_at hl 1 rfl) ?_
    refine lv_aload_n hx hb dX6_ofPerson_100 rfl (lv_at hl 0 rfl) ?_
    refine rc_V (As := [.ref (g.ad 6 (p9))]) hx hb hml hown hC hl (c_X6_countToApproveBy l E hI hp) (rec_of hC (RA.x hR) rfl) (zm_X6_136 hC.1) kv_X6_countToApproveBy hR rfl rfl (rD_le (by decide) (by decide)) ⟨rfl, rfl⟩ (Nat.le_of_ble_eq_true rfl) ⟨Nat.zero_le _, Nat.zero_le _⟩ dX6_ofPerson_101 ?_
    exact rr_i hx hb hr hlocks rfl dX6_ofPerson_104
set_option maxRecDepth 100000 in
set_option maxHeartbeats 4000000 in
theorem c_X6_maySpend (l : Launch) (E : EE) {S : St} {g : Gh} (hI : Inv S) {p9 : Nat} (hp : p9 < S.np) {k9 : Nat} (hk : k9 < 4) {l9 : Nat} (hl9 : l9 < 3) : RM l E yX6_maySpend cX6_maySpend 5 .int (rD 5) [.ref (g.ad 1 0), .int (nI p9), .int (nI k9), .int (nI l9)] (RA E S g) (.int (spendA S p9 k9 (nI l9))) := by
  refine rm_of rfl (Nat.le_of_ble_eq_true rfl) (fun p e s m below meth c ls hx hb hr hml (hown : s.vm.findClass RX6 = some m.cls) hC hlocks hR hl => ?_)
  have hl : lv_has ls 5 [(0, .ref (g.ad 1 0)), (1, .int (nI p9)), (2, .int (nI k9)), (3, .int (nI l9))] := hl
  refine lv_aload_n hx hb dX6_maySpend_0 rfl (lv_at hl 0 rfl) ?_
  refine lv_iload_n hx hb dX6_maySpend_1 rfl (lv_at hl 1 rfl) ?_
  refine rc_V (As := [.int (nI p9)]) hx hb hml hown hC hl (c_X6_personAt l E hI hp) (rec_of hC (RA.x hR) rfl) (zm_X6_47 hC.1) kv_X6_personAt hR rfl rfl (rD_le (by decide) (by decide)) ⟨rfl, rfl⟩ (Nat.le_of_ble_eq_true rfl) ⟨Nat.zero_le _, Nat.zero_le _⟩ dX6_maySpend_2 ?_
  refine lv_astore (lv' := [(4, .ref (g.ad 6 (p9))), (0, .ref (g.ad 1 0)), (1, .int (nI p9)), (2, .int (nI k9)), (3, .int (nI l9))]) hx hb dX6_maySpend_5 hl (by decide) rfl (fun ls hl => ?_)
  refine lv_iload_n hx hb dX6_maySpend_7 rfl (lv_at hl 3 rfl) ?_
  refine rc_S0 (As := [.int (nI k9)]) hx hb hml hown hC hl (c_X6_checkKind l E hI (k9 := k9) hk) (zm_X6_74 hC.1) kv_X6_checkKind hR rfl rfl (rD_le (by decide) (by decide)) ⟨rfl, rfl⟩ (Nat.le_of_ble_eq_true rfl) ⟨Nat.zero_le _, Nat.zero_le _⟩ dX6_maySpend_8 ?_
  refine lv_iload_n hx hb dX6_maySpend_11 rfl (lv_at hl 4 rfl) ?_
  refine rc_S0 (As := [.int (nI l9)]) hx hb hml hown hC hl (c_X6_checkLand l E hI (k9 := l9) hl9) (zm_X6_105 hC.1) kv_X6_checkLand hR rfl rfl (rD_le (by decide) (by decide)) ⟨rfl, rfl⟩ (Nat.le_of_ble_eq_true rfl) ⟨Nat.zero_le _, Nat.zero_le _⟩ dX6_maySpend_12 ?_
  refine lv_aload_n hx hb dX6_maySpend_15 rfl (lv_at hl 1 rfl) ?_
  refine lv_aload hx hb dX6_maySpend_16 (lv_at hl 0 rfl) ?_
  refine lv_iload_n hx hb dX6_maySpend_18 rfl (lv_at hl 3 rfl) ?_
  refine lv_iload_n hx hb dX6_maySpend_19 rfl (lv_at hl 4 rfl) ?_
  refine rc_V (As := [.ref (g.ad 6 (p9)), .int (nI k9), .int (nI l9)]) hx hb hml hown hC hl (c_X6_spendableBy l E hI hp hk (nI l9)) (rec_of hC (RA.x hR) rfl) (zm_X6_139 hC.1) kv_X6_spendableBy hR rfl rfl (rD_le (by decide) (by decide)) ⟨rfl, rfl⟩ (Nat.le_of_ble_eq_true rfl) ⟨Nat.zero_le _, Nat.zero_le _⟩ dX6_maySpend_20 ?_
  exact rr_i hx hb hr hlocks rfl dX6_maySpend_23
set_option maxRecDepth 100000 in
set_option maxHeartbeats 4000000 in
theorem c_X6_left (l : Launch) (E : EE) {S : St} {g : Gh} (hI : Inv S) {k9 : Nat} (hk : k9 < 4) {per9 : Nat} (hper : per9 < 4) : RM l E yX6_left cX6_left 3 .int (rD 6) [.ref (g.ad 1 0), .int (nI k9), .int (nI per9)] (RA E S g) (.int (leftL S k9 0 (per9 + 1))) := by
  refine rm_of rfl (Nat.le_of_ble_eq_true rfl) (fun p e s m below meth c ls hx hb hr hml (hown : s.vm.findClass RX6 = some m.cls) hC hlocks hR hl => ?_)
  have hl : lv_has ls 3 [(0, .ref (g.ad 1 0)), (1, .int (nI k9)), (2, .int (nI per9))] := hl
  refine lv_iload_n hx hb dX6_left_0 rfl (lv_at hl 1 rfl) ?_
  refine rc_S0 (As := [.int (nI k9)]) hx hb hml hown hC hl (c_X6_checkKind l E hI (k9 := k9) hk) (zm_X6_74 hC.1) kv_X6_checkKind hR rfl rfl (rD_le (by decide) (by decide)) ⟨rfl, rfl⟩ (Nat.le_of_ble_eq_true rfl) ⟨Nat.zero_le _, Nat.zero_le _⟩ dX6_left_1 ?_
  refine lv_iload_n hx hb dX6_left_4 rfl (lv_at hl 2 rfl) ?_
  refine rc_S0 (As := [.int (nI per9)]) hx hb hml hown hC hl (c_X6_checkPeriod l E hI (k9 := per9) hper) (zm_X6_143 hC.1) kv_X6_checkPeriod hR rfl rfl (rD_le (by decide) (by decide)) ⟨rfl, rfl⟩ (Nat.le_of_ble_eq_true rfl) ⟨Nat.zero_le _, Nat.zero_le _⟩ dX6_left_5 ?_
  refine lv_aload_n hx hb dX6_left_8 rfl (lv_at hl 0 rfl) ?_
  refine lv_iload_n hx hb dX6_left_9 rfl (lv_at hl 1 rfl) ?_
  refine lv_iload_n hx hb dX6_left_10 rfl (lv_at hl 2 rfl) ?_
  refine lv_iconst (v := 0) hx hb dX6_left_11 (by decide) ?_
  refine rc_V (As := [.int (nI k9), .int (nI per9), .int (0)]) hx hb hml hown hC hl (c_X6_leftOf l E hI hk hper (0)) (rec_of hC (RA.x hR) rfl) (zm_X6_147 hC.1) kv_X6_leftOf hR rfl rfl (rD_le (by decide) (by decide)) ⟨rfl, rfl⟩ (Nat.le_of_ble_eq_true rfl) ⟨Nat.zero_le _, Nat.zero_le _⟩ dX6_left_12 ?_
  exact rr_i hx hb hr hlocks rfl dX6_left_15
set_option maxRecDepth 100000 in
set_option maxHeartbeats 4000000 in
theorem c_X6_leftWith (l : Launch) (E : EE) {S : St} {g : Gh} (hI : Inv S) {k9 : Nat} (hk : k9 < 4) {per9 : Nat} (hper : per9 < 4) : RM l E yX6_leftWith cX6_leftWith 3 .int (rD 6) [.ref (g.ad 1 0), .int (nI k9), .int (nI per9)] (RA E S g) (.int (leftL S k9 1 (per9 + 1))) := by
  refine rm_of rfl (Nat.le_of_ble_eq_true rfl) (fun p e s m below meth c ls hx hb hr hml (hown : s.vm.findClass RX6 = some m.cls) hC hlocks hR hl => ?_)
  have hl : lv_has ls 3 [(0, .ref (g.ad 1 0)), (1, .int (nI k9)), (2, .int (nI per9))] := hl
  refine lv_iload_n hx hb dX6_leftWith_0 rfl (lv_at hl 1 rfl) ?_
  refine rc_S0 (As := [.int (nI k9)]) hx hb hml hown hC hl (c_X6_checkKind l E hI (k9 := k9) hk) (zm_X6_74 hC.1) kv_X6_checkKind hR rfl rfl (rD_le (by decide) (by decide)) ⟨rfl, rfl⟩ (Nat.le_of_ble_eq_true rfl) ⟨Nat.zero_le _, Nat.zero_le _⟩ dX6_leftWith_1 ?_
  refine lv_iload_n hx hb dX6_leftWith_4 rfl (lv_at hl 2 rfl) ?_
  refine rc_S0 (As := [.int (nI per9)]) hx hb hml hown hC hl (c_X6_checkPeriod l E hI (k9 := per9) hper) (zm_X6_143 hC.1) kv_X6_checkPeriod hR rfl rfl (rD_le (by decide) (by decide)) ⟨rfl, rfl⟩ (Nat.le_of_ble_eq_true rfl) ⟨Nat.zero_le _, Nat.zero_le _⟩ dX6_leftWith_5 ?_
  refine lv_aload_n hx hb dX6_leftWith_8 rfl (lv_at hl 0 rfl) ?_
  refine lv_iload_n hx hb dX6_leftWith_9 rfl (lv_at hl 1 rfl) ?_
  refine lv_iload_n hx hb dX6_leftWith_10 rfl (lv_at hl 2 rfl) ?_
  refine lv_iconst (v := 1) hx hb dX6_leftWith_11 (by decide) ?_
  refine rc_V (As := [.int (nI k9), .int (nI per9), .int (1)]) hx hb hml hown hC hl (c_X6_leftOf l E hI hk hper (1)) (rec_of hC (RA.x hR) rfl) (zm_X6_147 hC.1) kv_X6_leftOf hR rfl rfl (rD_le (by decide) (by decide)) ⟨rfl, rfl⟩ (Nat.le_of_ble_eq_true rfl) ⟨Nat.zero_le _, Nat.zero_le _⟩ dX6_leftWith_12 ?_
  exact rr_i hx hb hr hlocks rfl dX6_leftWith_15
set_option maxRecDepth 100000 in
set_option maxHeartbeats 4000000 in
theorem c_X6_ofCharge (l : Launch) (E : EE) {S : St} {g : Gh} (hI : Inv S) {c9 : Nat} (hc : c9 < S.nc) {w9 : Nat} (hw : w9 ≤ 11) : RM l E yX6_ofCharge cX6_ofCharge 4 .int (rD 4) [.ref (g.ad 1 0), .int (nI c9), .int (nI w9)] (RA E S g) (.int (ofChargeA S c9 w9)) := by
  refine rm_of rfl (Nat.le_of_ble_eq_true rfl) (fun p e s m below meth c ls hx hb hr hml (hown : s.vm.findClass RX6 = some m.cls) hC hlocks hR hl => ?_)
  have hl : lv_has ls 4 [(0, .ref (g.ad 1 0)), (1, .int (nI c9)), (2, .int (nI w9))] := hl
  refine lv_aload_n hx hb dX6_ofCharge_0 rfl (lv_at hl 0 rfl) ?_
  refine lv_iload_n hx hb dX6_ofCharge_1 rfl (lv_at hl 1 rfl) ?_
  refine rc_V (As := [.int (nI c9)]) hx hb hml hown hC hl (c_X6_chargeAt l E hI hc) (rec_of hC (RA.x hR) rfl) (zm_X6_186 hC.1) kv_X6_chargeAt hR rfl rfl (rD_le (by decide) (by decide)) ⟨rfl, rfl⟩ (Nat.le_of_ble_eq_true rfl) ⟨Nat.zero_le _, Nat.zero_le _⟩ dX6_ofCharge_2 ?_
  refine lv_astore_n (lv' := [(3, .ref (g.ad 8 (c9))), (0, .ref (g.ad 1 0)), (1, .int (nI c9)), (2, .int (nI w9))]) hx hb dX6_ofCharge_5 rfl hl (by decide) rfl (fun ls hl => ?_)
  refine lv_iload_n hx hb dX6_ofCharge_6 rfl (lv_at hl 3 rfl) ?_
  refine lv_iconst (v := 0) hx hb dX6_ofCharge_7 (by decide) ?_
  refine lv_bipush (v := 11) hx hb dX6_ofCharge_8 (by decide) ?_
  refine rc_S0 (As := [.int (nI w9), .int (0), .int (11)]) hx hb hml hown hC hl (c_X6_checkRange l E hI (show ¬ nI w9 < 0 from nI_pos (by omega)) (show ¬ (11 : Int32) < nI w9 from nI_nlt (a := 11) (by omega) (by decide))) (zm_X6_78 hC.1) kv_X6_checkRange hR rfl rfl (rD_le (by decide) (by decide)) ⟨rfl, rfl⟩ (Nat.le_of_ble_eq_true rfl) ⟨Nat.zero_le _, Nat.zero_le _⟩ dX6_ofCharge_10 ?_
  refine lv_iload_n hx hb dX6_ofCharge_13 rfl (lv_at hl 3 rfl) ?_
  rcases (by omega : w9 = 0 ∨ w9 = 1 ∨ w9 = 2 ∨ w9 = 3 ∨ w9 = 4 ∨ w9 = 5 ∨ w9 = 6 ∨ w9 = 7 ∨ w9 = 8 ∨ w9 = 9 ∨ w9 = 10 ∨ w9 = 11) with rfl | rfl | rfl | rfl | rfl | rfl | rfl | rfl | rfl | rfl | rfl | rfl
  · refine lv_tableIn (off := 58) (tgt := 72) hx hb dX6_ofCharge_14 (by decide) (by decide) (by decide) (by decide) ?_
    refine lv_aload_n hx hb dX6_ofCharge_72 rfl (lv_at hl 0 rfl) ?_
    refine gf_X0_1 hx hb hown hC (RA.ch hR hc) (zf_X6_211 hC.1) dX6_ofCharge_73 ?_
    refine gf_X2_0_s hx hb hown hC (RA.pe hR (hI.cp hc)) (zf_X6_71 hC.1) dX6_ofCharge_76 ?_
    exact rr_i hx hb hr hlocks rfl dX6_ofCharge_79
  · refine lv_tableIn (off := 66) (tgt := 80) hx hb dX6_ofCharge_14 (by decide) (by decide) (by decide) (by decide) ?_
    refine lv_aload_n hx hb dX6_ofCharge_80 rfl (lv_at hl 0 rfl) ?_
    refine gf_X0_2 hx hb hown hC (RA.ch hR hc) (zf_X6_214 hC.1) dX6_ofCharge_81 ?_
    exact rr_i hx hb hr hlocks rfl dX6_ofCharge_84
  · refine lv_tableIn (off := 71) (tgt := 85) hx hb dX6_ofCharge_14 (by decide) (by decide) (by decide) (by decide) ?_
    refine lv_aload_n hx hb dX6_ofCharge_85 rfl (lv_at hl 0 rfl) ?_
    refine gf_X0_4 hx hb hown hC (RA.ch hR hc) (zf_X6_217 hC.1) dX6_ofCharge_86 ?_
    exact rr_i hx hb hr hlocks rfl dX6_ofCharge_89
  · refine lv_tableIn (off := 76) (tgt := 90) hx hb dX6_ofCharge_14 (by decide) (by decide) (by decide) (by decide) ?_
    refine lv_aload_n hx hb dX6_ofCharge_90 rfl (lv_at hl 0 rfl) ?_
    refine gf_X0_6 hx hb hown hC (RA.ch hR hc) (zf_X6_220 hC.1) dX6_ofCharge_91 ?_
    exact rr_i hx hb hr hlocks rfl dX6_ofCharge_94
  · refine lv_tableIn (off := 81) (tgt := 95) hx hb dX6_ofCharge_14 (by decide) (by decide) (by decide) (by decide) ?_
    refine lv_aload_n hx hb dX6_ofCharge_95 rfl (lv_at hl 0 rfl) ?_
    refine gf_X0_8 hx hb hown hC (RA.ch hR hc) (zf_X6_197 hC.1) dX6_ofCharge_96 ?_
    exact rr_i hx hb hr hlocks rfl dX6_ofCharge_99
  · refine lv_tableIn (off := 86) (tgt := 100) hx hb dX6_ofCharge_14 (by decide) (by decide) (by decide) (by decide) ?_
    refine lv_aload_n hx hb dX6_ofCharge_100 rfl (lv_at hl 0 rfl) ?_
    refine gf_X0_9 hx hb hown hC (RA.ch hR hc) (zf_X6_223 hC.1) dX6_ofCharge_101 ?_
    refine rc_S (As := [va_rf ((S.cr (c9)).map (g.ad 9))]) hx hb hml hown hC hl (c_X6_numberOf9 l E hI (S.cr (c9)) (fun j h => (hI.cr hc h))) (zm_X6_119 hC.1) kv_X6_numberOf hR rfl rfl (rD_le (by decide) (by decide)) ⟨rfl, rfl⟩ (Nat.le_of_ble_eq_true rfl) ⟨Nat.zero_le _, Nat.zero_le _⟩ dX6_ofCharge_104 ?_
    exact rr_i hx hb hr hlocks rfl dX6_ofCharge_107
  · refine lv_tableIn (off := 94) (tgt := 108) hx hb dX6_ofCharge_14 (by decide) (by decide) (by decide) (by decide) ?_
    refine lv_aload_n hx hb dX6_ofCharge_108 rfl (lv_at hl 0 rfl) ?_
    refine gf_X0_7 hx hb hown hC (RA.ch hR hc) (zf_X6_164 hC.1) dX6_ofCharge_109 ?_
    refine rc_S (As := [va_rf ((S.ct (c9)).map (g.ad 7))]) hx hb hml hown hC hl (c_X6_numberOf7 l E hI (S.ct (c9)) (fun j h => (hI.ct hc h))) (zm_X6_119 hC.1) kv_X6_numberOf hR rfl rfl (rD_le (by decide) (by decide)) ⟨rfl, rfl⟩ (Nat.le_of_ble_eq_true rfl) ⟨Nat.zero_le _, Nat.zero_le _⟩ dX6_ofCharge_112 ?_
    exact rr_i hx hb hr hlocks rfl dX6_ofCharge_115
  · refine lv_tableIn (off := 102) (tgt := 116) hx hb dX6_ofCharge_14 (by decide) (by decide) (by decide) (by decide) ?_
    refine lv_aload_n hx hb dX6_ofCharge_116 rfl (lv_at hl 1 rfl) ?_
    refine lv_aload_n hx hb dX6_ofCharge_117 rfl (lv_at hl 0 rfl) ?_
    refine rc_V (As := [.ref (g.ad 8 (c9))]) hx hb hml hown hC hl (c_X6_taxOf l E hI hc) (rec_of hC (RA.x hR) rfl) (zm_X6_227 hC.1) kv_X6_taxOf hR rfl rfl (rD_le (by decide) (by decide)) ⟨rfl, rfl⟩ (Nat.le_of_ble_eq_true rfl) ⟨Nat.zero_le _, Nat.zero_le _⟩ dX6_ofCharge_118 ?_
    exact rr_i hx hb hr hlocks rfl dX6_ofCharge_121
  · refine lv_tableIn (off := 108) (tgt := 122) hx hb dX6_ofCharge_14 (by decide) (by decide) (by decide) (by decide) ?_
    refine lv_aload_n hx hb dX6_ofCharge_122 rfl (lv_at hl 1 rfl) ?_
    refine lv_aload_n hx hb dX6_ofCharge_123 rfl (lv_at hl 0 rfl) ?_
    refine lv_iconst (v := 0) hx hb dX6_ofCharge_124 (by decide) ?_
    refine rc_V (As := [.ref (g.ad 8 (c9)), .int (0)]) hx hb hml hown hC hl (c_X6_costOf l E hI hc (0)) (rec_of hC (RA.x hR) rfl) (zm_X6_231 hC.1) kv_X6_costOf hR rfl rfl (rD_le (by decide) (by decide)) ⟨rfl, rfl⟩ (Nat.le_of_ble_eq_true rfl) ⟨Nat.zero_le _, Nat.zero_le _⟩ dX6_ofCharge_125 ?_
    exact rr_i hx hb hr hlocks rfl dX6_ofCharge_128
  · refine lv_tableIn (off := 115) (tgt := 129) hx hb dX6_ofCharge_14 (by decide) (by decide) (by decide) (by decide) ?_
    refine lv_aload_n hx hb dX6_ofCharge_129 rfl (lv_at hl 0 rfl) ?_
    refine gf_X0_10 hx hb hown hC (RA.ch hR hc) (zf_X6_204 hC.1) dX6_ofCharge_130 ?_
    exact rr_i hx hb hr hlocks rfl dX6_ofCharge_133
  · refine lv_tableIn (off := 120) (tgt := 134) hx hb dX6_ofCharge_14 (by decide) (by decide) (by decide) (by decide) ?_
    refine lv_aload_n hx hb dX6_ofCharge_134 rfl (lv_at hl 1 rfl) ?_
    refine lv_aload_n hx hb dX6_ofCharge_135 rfl (lv_at hl 0 rfl) ?_
    refine rc_V (As := [.ref (g.ad 8 (c9))]) hx hb hml hown hC hl (c_X6_nextApproverOf l E hI hc) (rec_of hC (RA.x hR) rfl) (zm_X6_235 hC.1) kv_X6_nextApproverOf hR rfl rfl (rD_le (by decide) (by decide)) ⟨rfl, rfl⟩ (Nat.le_of_ble_eq_true rfl) ⟨Nat.zero_le _, Nat.zero_le _⟩ dX6_ofCharge_136 ?_
    refine rc_S (As := [va_rf ((apprA S (c9)).map (g.ad 6))]) hx hb hml hown hC hl (c_X6_numberOf6 l E hI (apprA S (c9)) (fun j h => (apprA_lt hI hc h))) (zm_X6_119 hC.1) kv_X6_numberOf hR rfl rfl (rD_le (by decide) (by decide)) ⟨rfl, rfl⟩ (Nat.le_of_ble_eq_true rfl) ⟨Nat.zero_le _, Nat.zero_le _⟩ dX6_ofCharge_139 ?_
    exact rr_i hx hb hr hlocks rfl dX6_ofCharge_142
  · refine lv_tableOut (tgt := 143) hx hb dX6_ofCharge_14 (Or.inr (by decide)) (by decide) ?_
    refine lv_aload_n hx hb dX6_ofCharge_143 rfl (lv_at hl 0 rfl) ?_
    refine gf_X0_11 hx hb hown hC (RA.ch hR hc) (zf_X6_239 hC.1) dX6_ofCharge_144 ?_
    refine lv_if_eq (tgt := 154) hx hb dX6_ofCharge_147 (by decide) (fun c_147 => ?_) (fun c_147 => ?_)
    ·
      refine lv_iconst (v := 0) hx hb dX6_ofCharge_154 (by decide) ?_
      exact rr_i hx hb hr hlocks (by show _ = Value.int (if S.cm c9 = 0 then 0 else 1); rw [if_pos c_147]) dX6_ofCharge_155
    ·
      refine lv_iconst (v := 1) hx hb dX6_ofCharge_150 (by decide) ?_
      refine lv_goto (tgt := 155) hx hb dX6_ofCharge_151 (by decide) ?_
      exact rr_i hx hb hr hlocks (by show _ = Value.int (if S.cm c9 = 0 then 0 else 1); rw [if_neg c_147]) dX6_ofCharge_155
set_option maxRecDepth 100000 in
set_option maxHeartbeats 4000000 in
theorem c_X6_ofReceipt (l : Launch) (E : EE) {S : St} {g : Gh} (hI : Inv S) {r9 : Nat} (hr9 : r9 < S.nr) : RM l E yX6_ofReceipt cX6_ofReceipt 2 .int (rD 4) [.ref (g.ad 1 0), .int (nI r9)] (RA E S g) (.int (irI (S.ro r9))) := by
  refine rm_of rfl (Nat.le_of_ble_eq_true rfl) (fun p e s m below meth c ls hx hb hr hml (hown : s.vm.findClass RX6 = some m.cls) hC hlocks hR hl => ?_)
  have hl : lv_has ls 2 [(0, .ref (g.ad 1 0)), (1, .int (nI r9))] := hl
  refine lv_aload_n hx hb dX6_ofReceipt_0 rfl (lv_at hl 0 rfl) ?_
  refine lv_iload_n hx hb dX6_ofReceipt_1 rfl (lv_at hl 1 rfl) ?_
  refine rc_V (As := [.int (nI r9)]) hx hb hml hown hC hl (c_X6_receiptAt l E hI hr9) (rec_of hC (RA.x hR) rfl) (zm_X6_243 hC.1) kv_X6_receiptAt hR rfl rfl (rD_le (by decide) (by decide)) ⟨rfl, rfl⟩ (Nat.le_of_ble_eq_true rfl) ⟨Nat.zero_le _, Nat.zero_le _⟩ dX6_ofReceipt_2 ?_
  refine gf_X3_4 hx hb hown hC (RA.re hR hr9) (zf_X6_182 hC.1) dX6_ofReceipt_5 ?_
  refine rc_S (As := [va_rf ((S.ro (r9)).map (g.ad 8))]) hx hb hml hown hC hl (c_X6_numberOf8 l E hI (S.ro (r9)) (fun j h => (hI.ro hr9 h))) (zm_X6_119 hC.1) kv_X6_numberOf hR rfl rfl (rD_le (by decide) (by decide)) ⟨rfl, rfl⟩ (Nat.le_of_ble_eq_true rfl) ⟨Nat.zero_le _, Nat.zero_le _⟩ dX6_ofReceipt_8 ?_
  exact rr_i hx hb hr hlocks rfl dX6_ofReceipt_11
set_option maxRecDepth 100000 in
set_option maxHeartbeats 4000000 in
theorem c_X6_score (l : Launch) (E : EE) {S : St} {g : Gh} (hI : Inv S) {c9 : Nat} (hc : c9 < S.nc) {r9 : Nat} (hr9 : r9 < S.nr) : RM l E yX6_score cX6_score 3 .int (rD 4) [.ref (g.ad 1 0), .int (nI c9), .int (nI r9)] (RA E S g) (.int (scA S c9 (S.ra r9) (S.rd r9) (S.rx r9))) := by
  refine rm_of rfl (Nat.le_of_ble_eq_true rfl) (fun p e s m below meth c ls hx hb hr hml (hown : s.vm.findClass RX6 = some m.cls) hC hlocks hR hl => ?_)
  have hl : lv_has ls 3 [(0, .ref (g.ad 1 0)), (1, .int (nI c9)), (2, .int (nI r9))] := hl
  refine lv_aload_n hx hb dX6_score_0 rfl (lv_at hl 0 rfl) ?_
  refine lv_iload_n hx hb dX6_score_1 rfl (lv_at hl 1 rfl) ?_
  refine rc_V (As := [.int (nI c9)]) hx hb hml hown hC hl (c_X6_chargeAt l E hI hc) (rec_of hC (RA.x hR) rfl) (zm_X6_186 hC.1) kv_X6_chargeAt hR rfl rfl (rD_le (by decide) (by decide)) ⟨rfl, rfl⟩ (Nat.le_of_ble_eq_true rfl) ⟨Nat.zero_le _, Nat.zero_le _⟩ dX6_score_2 ?_
  refine lv_aload_n hx hb dX6_score_5 rfl (lv_at hl 0 rfl) ?_
  refine lv_iload_n hx hb dX6_score_6 rfl (lv_at hl 2 rfl) ?_
  refine rc_V (As := [.int (nI r9)]) hx hb hml hown hC hl (c_X6_receiptAt l E hI hr9) (rec_of hC (RA.x hR) rfl) (zm_X6_243 hC.1) kv_X6_receiptAt hR rfl rfl (rD_le (by decide) (by decide)) ⟨rfl, rfl⟩ (Nat.le_of_ble_eq_true rfl) ⟨Nat.zero_le _, Nat.zero_le _⟩ dX6_score_7 ?_
  refine rc_S (As := [.ref (g.ad 8 (c9)), .ref (g.ad 9 (r9))]) hx hb hml hown hC hl (c_X6_scoreOf l E hI hc (g.ad 9 (r9)) (nI (r9)) (S.ra (r9)) (S.rd (r9)) (S.rx (r9)) (S.ro (r9))) (zm_X6_247 hC.1) kv_X6_scoreOf ⟨hR, (RA.re hR hr9)⟩ rfl rfl (rD_le (by decide) (by decide)) ⟨rfl, rfl⟩ (Nat.le_of_ble_eq_true rfl) ⟨Nat.zero_le _, Nat.zero_le _⟩ dX6_score_10 ?_
  exact rr_i hx hb hr hlocks rfl dX6_score_13
set_option maxRecDepth 100000 in
set_option maxHeartbeats 4000000 in
theorem c_X6_many (l : Launch) (E : EE) {S : St} {g : Gh} (hI : Inv S) {w9 : Nat} (hw : w9 ≤ 12) : RM l E yX6_many cX6_many 2 .int (rD 4) [.ref (g.ad 1 0), .int (nI w9)] (RA E S g) (.int (manyA S w9)) := by
  refine rm_of rfl (Nat.le_of_ble_eq_true rfl) (fun p e s m below meth c ls hx hb hr hml (hown : s.vm.findClass RX6 = some m.cls) hC hlocks hR hl => ?_)
  have hl : lv_has ls 2 [(0, .ref (g.ad 1 0)), (1, .int (nI w9))] := hl
  refine lv_iload_n hx hb dX6_many_0 rfl (lv_at hl 1 rfl) ?_
  refine lv_iconst (v := 0) hx hb dX6_many_1 (by decide) ?_
  refine lv_bipush (v := 12) hx hb dX6_many_2 (by decide) ?_
  refine rc_S0 (As := [.int (nI w9), .int (0), .int (12)]) hx hb hml hown hC hl (c_X6_checkRange l E hI (show ¬ nI w9 < 0 from nI_pos (by omega)) (show ¬ (12 : Int32) < nI w9 from nI_nlt (a := 12) (by omega) (by decide))) (zm_X6_78 hC.1) kv_X6_checkRange hR rfl rfl (rD_le (by decide) (by decide)) ⟨rfl, rfl⟩ (Nat.le_of_ble_eq_true rfl) ⟨Nat.zero_le _, Nat.zero_le _⟩ dX6_many_4 ?_
  refine lv_iload_n hx hb dX6_many_7 rfl (lv_at hl 1 rfl) ?_
  rcases (by omega : w9 = 0 ∨ w9 = 1 ∨ w9 = 2 ∨ w9 = 3 ∨ w9 = 4 ∨ w9 = 5 ∨ w9 = 6 ∨ w9 = 7 ∨ w9 = 8 ∨ w9 = 9 ∨ w9 = 10 ∨ w9 = 11 ∨ w9 = 12) with rfl | rfl | rfl | rfl | rfl | rfl | rfl | rfl | rfl | rfl | rfl | rfl | rfl
  · refine lv_tableIn (off := 68) (tgt := 76) hx hb dX6_many_8 (by decide) (by decide) (by decide) (by decide) ?_
    refine lv_aload_n hx hb dX6_many_76 rfl (lv_at hl 0 rfl) ?_
    refine gf_X6_0 hx hb hown hC (RA.x hR) (zf_X6_10 hC.1) dX6_many_77 ?_
    refine rc_V (As := []) hx hb hml hown hC hl (c_size l E _ _ _ _) (rec_of hC (RA.ls hR (by decide : 0 < 4)) rfl) (zm_X6_51 hC.1) kv_Jx4a65c_size_8abf5 (RA.ls hR (by decide : 0 < 4)) rfl rfl (rD_le (by decide) (by decide)) ⟨rfl, rfl⟩ (Nat.le_of_ble_eq_true rfl) ⟨Nat.zero_le _, Nat.zero_le _⟩ dX6_many_80 ?_
    exact rr_i hx hb hr hlocks rfl dX6_many_83
  · refine lv_tableIn (off := 76) (tgt := 84) hx hb dX6_many_8 (by decide) (by decide) (by decide) (by decide) ?_
    refine lv_aload_n hx hb dX6_many_84 rfl (lv_at hl 0 rfl) ?_
    refine gf_X6_1 hx hb hown hC (RA.x hR) (zf_X6_16 hC.1) dX6_many_85 ?_
    refine rc_V (As := []) hx hb hml hown hC hl (c_size l E _ _ _ _) (rec_of hC (RA.ls hR (by decide : 1 < 4)) rfl) (zm_X6_51 hC.1) kv_Jx4a65c_size_8abf5 (RA.ls hR (by decide : 1 < 4)) rfl rfl (rD_le (by decide) (by decide)) ⟨rfl, rfl⟩ (Nat.le_of_ble_eq_true rfl) ⟨Nat.zero_le _, Nat.zero_le _⟩ dX6_many_88 ?_
    exact rr_i hx hb hr hlocks rfl dX6_many_91
  · refine lv_tableIn (off := 84) (tgt := 92) hx hb dX6_many_8 (by decide) (by decide) (by decide) (by decide) ?_
    refine lv_aload_n hx hb dX6_many_92 rfl (lv_at hl 0 rfl) ?_
    refine gf_X6_2 hx hb hown hC (RA.x hR) (zf_X6_19 hC.1) dX6_many_93 ?_
    refine rc_V (As := []) hx hb hml hown hC hl (c_size l E _ _ _ _) (rec_of hC (RA.ls hR (by decide : 2 < 4)) rfl) (zm_X6_51 hC.1) kv_Jx4a65c_size_8abf5 (RA.ls hR (by decide : 2 < 4)) rfl rfl (rD_le (by decide) (by decide)) ⟨rfl, rfl⟩ (Nat.le_of_ble_eq_true rfl) ⟨Nat.zero_le _, Nat.zero_le _⟩ dX6_many_96 ?_
    exact rr_i hx hb hr hlocks rfl dX6_many_99
  · refine lv_tableIn (off := 120) (tgt := 128) hx hb dX6_many_8 (by decide) (by decide) (by decide) (by decide) ?_
    refine lv_aload_n hx hb dX6_many_128 rfl (lv_at hl 0 rfl) ?_
    refine lv_iload_n hx hb dX6_many_129 rfl (lv_at hl 1 rfl) ?_
    refine lv_iconst (v := 3) hx hb dX6_many_130 (by decide) ?_
    refine lv_isub hx hb dX6_many_131 ?_
    refine rc_V (As := [.int ((nI 3) - (3))]) hx hb hml hown hC hl (c_X6_countInState l E hI ((nI 3) - (3))) (rec_of hC (RA.x hR) rfl) (zm_X6_207 hC.1) kv_X6_countInState hR rfl rfl (rD_le (by decide) (by decide)) ⟨rfl, rfl⟩ (Nat.le_of_ble_eq_true rfl) ⟨Nat.zero_le _, Nat.zero_le _⟩ dX6_many_132 ?_
    exact rr_i hx hb hr hlocks rfl dX6_many_135
  · refine lv_tableIn (off := 120) (tgt := 128) hx hb dX6_many_8 (by decide) (by decide) (by decide) (by decide) ?_
    refine lv_aload_n hx hb dX6_many_128 rfl (lv_at hl 0 rfl) ?_
    refine lv_iload_n hx hb dX6_many_129 rfl (lv_at hl 1 rfl) ?_
    refine lv_iconst (v := 3) hx hb dX6_many_130 (by decide) ?_
    refine lv_isub hx hb dX6_many_131 ?_
    refine rc_V (As := [.int ((nI 4) - (3))]) hx hb hml hown hC hl (c_X6_countInState l E hI ((nI 4) - (3))) (rec_of hC (RA.x hR) rfl) (zm_X6_207 hC.1) kv_X6_countInState hR rfl rfl (rD_le (by decide) (by decide)) ⟨rfl, rfl⟩ (Nat.le_of_ble_eq_true rfl) ⟨Nat.zero_le _, Nat.zero_le _⟩ dX6_many_132 ?_
    exact rr_i hx hb hr hlocks rfl dX6_many_135
  · refine lv_tableIn (off := 120) (tgt := 128) hx hb dX6_many_8 (by decide) (by decide) (by decide) (by decide) ?_
    refine lv_aload_n hx hb dX6_many_128 rfl (lv_at hl 0 rfl) ?_
    refine lv_iload_n hx hb dX6_many_129 rfl (lv_at hl 1 rfl) ?_
    refine lv_iconst (v := 3) hx hb dX6_many_130 (by decide) ?_
    refine lv_isub hx hb dX6_many_131 ?_
    refine rc_V (As := [.int ((nI 5) - (3))]) hx hb hml hown hC hl (c_X6_countInState l E hI ((nI 5) - (3))) (rec_of hC (RA.x hR) rfl) (zm_X6_207 hC.1) kv_X6_countInState hR rfl rfl (rD_le (by decide) (by decide)) ⟨rfl, rfl⟩ (Nat.le_of_ble_eq_true rfl) ⟨Nat.zero_le _, Nat.zero_le _⟩ dX6_many_132 ?_
    exact rr_i hx hb hr hlocks rfl dX6_many_135
  · refine lv_tableIn (off := 120) (tgt := 128) hx hb dX6_many_8 (by decide) (by decide) (by decide) (by decide) ?_
    refine lv_aload_n hx hb dX6_many_128 rfl (lv_at hl 0 rfl) ?_
    refine lv_iload_n hx hb dX6_many_129 rfl (lv_at hl 1 rfl) ?_
    refine lv_iconst (v := 3) hx hb dX6_many_130 (by decide) ?_
    refine lv_isub hx hb dX6_many_131 ?_
    refine rc_V (As := [.int ((nI 6) - (3))]) hx hb hml hown hC hl (c_X6_countInState l E hI ((nI 6) - (3))) (rec_of hC (RA.x hR) rfl) (zm_X6_207 hC.1) kv_X6_countInState hR rfl rfl (rD_le (by decide) (by decide)) ⟨rfl, rfl⟩ (Nat.le_of_ble_eq_true rfl) ⟨Nat.zero_le _, Nat.zero_le _⟩ dX6_many_132 ?_
    exact rr_i hx hb hr hlocks rfl dX6_many_135
  · refine lv_tableIn (off := 120) (tgt := 128) hx hb dX6_many_8 (by decide) (by decide) (by decide) (by decide) ?_
    refine lv_aload_n hx hb dX6_many_128 rfl (lv_at hl 0 rfl) ?_
    refine lv_iload_n hx hb dX6_many_129 rfl (lv_at hl 1 rfl) ?_
    refine lv_iconst (v := 3) hx hb dX6_many_130 (by decide) ?_
    refine lv_isub hx hb dX6_many_131 ?_
    refine rc_V (As := [.int ((nI 7) - (3))]) hx hb hml hown hC hl (c_X6_countInState l E hI ((nI 7) - (3))) (rec_of hC (RA.x hR) rfl) (zm_X6_207 hC.1) kv_X6_countInState hR rfl rfl (rD_le (by decide) (by decide)) ⟨rfl, rfl⟩ (Nat.le_of_ble_eq_true rfl) ⟨Nat.zero_le _, Nat.zero_le _⟩ dX6_many_132 ?_
    exact rr_i hx hb hr hlocks rfl dX6_many_135
  · refine lv_tableIn (off := 92) (tgt := 100) hx hb dX6_many_8 (by decide) (by decide) (by decide) (by decide) ?_
    refine lv_aload_n hx hb dX6_many_100 rfl (lv_at hl 0 rfl) ?_
    refine gf_X6_3 hx hb hown hC (RA.x hR) (zf_X6_22 hC.1) dX6_many_101 ?_
    refine rc_V (As := []) hx hb hml hown hC hl (c_size l E _ _ _ _) (rec_of hC (RA.ls hR (by decide : 3 < 4)) rfl) (zm_X6_51 hC.1) kv_Jx4a65c_size_8abf5 (RA.ls hR (by decide : 3 < 4)) rfl rfl (rD_le (by decide) (by decide)) ⟨rfl, rfl⟩ (Nat.le_of_ble_eq_true rfl) ⟨Nat.zero_le _, Nat.zero_le _⟩ dX6_many_104 ?_
    exact rr_i hx hb hr hlocks rfl dX6_many_107
  · refine lv_tableIn (off := 100) (tgt := 108) hx hb dX6_many_8 (by decide) (by decide) (by decide) (by decide) ?_
    refine lv_aload_n hx hb dX6_many_108 rfl (lv_at hl 0 rfl) ?_
    refine rc_V (As := []) hx hb hml hown hC hl (c_X6_countFreeReceipts l E hI) (rec_of hC (RA.x hR) rfl) (zm_X6_265 hC.1) kv_X6_countFreeReceipts hR rfl rfl (rD_le (by decide) (by decide)) ⟨rfl, rfl⟩ (Nat.le_of_ble_eq_true rfl) ⟨Nat.zero_le _, Nat.zero_le _⟩ dX6_many_109 ?_
    exact rr_i hx hb hr hlocks rfl dX6_many_112
  · refine lv_tableIn (off := 105) (tgt := 113) hx hb dX6_many_8 (by decide) (by decide) (by decide) (by decide) ?_
    refine lv_aload_n hx hb dX6_many_113 rfl (lv_at hl 0 rfl) ?_
    refine gf_X6_8 hx hb hown hC (RA.x hR) (zf_X6_43 hC.1) dX6_many_114 ?_
    exact rr_i hx hb hr hlocks rfl dX6_many_117
  · refine lv_tableIn (off := 110) (tgt := 118) hx hb dX6_many_8 (by decide) (by decide) (by decide) (by decide) ?_
    refine lv_aload_n hx hb dX6_many_118 rfl (lv_at hl 0 rfl) ?_
    refine rc_V (As := []) hx hb hml hown hC hl (c_X6_amountNotRepaid l E hI) (rec_of hC (RA.x hR) rfl) (zm_X6_268 hC.1) kv_X6_amountNotRepaid hR rfl rfl (rD_le (by decide) (by decide)) ⟨rfl, rfl⟩ (Nat.le_of_ble_eq_true rfl) ⟨Nat.zero_le _, Nat.zero_le _⟩ dX6_many_119 ?_
    exact rr_i hx hb hr hlocks rfl dX6_many_122
  · refine lv_tableIn (off := 115) (tgt := 123) hx hb dX6_many_8 (by decide) (by decide) (by decide) (by decide) ?_
    refine lv_aload_n hx hb dX6_many_123 rfl (lv_at hl 0 rfl) ?_
    refine rc_V (As := []) hx hb hml hown hC hl (c_X6_costOfAll l E hI) (rec_of hC (RA.x hR) rfl) (zm_X6_271 hC.1) kv_X6_costOfAll hR rfl rfl (rD_le (by decide) (by decide)) ⟨rfl, rfl⟩ (Nat.le_of_ble_eq_true rfl) ⟨Nat.zero_le _, Nat.zero_le _⟩ dX6_many_124 ?_
    exact rr_i hx hb hr hlocks rfl dX6_many_127
set_option maxRecDepth 100000 in
set_option maxHeartbeats 4000000 in
theorem c_X6_trustBehind (l : Launch) (E : EE) {S : St} {g : Gh} (hI : Inv S) {p9 : Nat} (hp : p9 < S.np) {dy9 : Int32} (hd1 : ¬ dy9 < 0) (hd2 : ¬ 30 < dy9) : RM l E yX6_trustBehind cX6_trustBehind 8 .int (rD 4) [.ref (g.ad 1 0), .int (nI p9), .int (dy9)] (RA E S g) (.int (trustA S p9 dy9)) := by
  refine rm_of rfl (Nat.le_of_ble_eq_true rfl) (fun p e s m below meth c ls hx hb hr hml (hown : s.vm.findClass RX6 = some m.cls) hC hlocks hR hl => ?_)
  have hl : lv_has ls 8 [(0, .ref (g.ad 1 0)), (1, .int (nI p9)), (2, .int (dy9))] := hl
  refine lv_aload_n hx hb dX6_trustBehind_0 rfl (lv_at hl 0 rfl) ?_
  refine lv_iload_n hx hb dX6_trustBehind_1 rfl (lv_at hl 1 rfl) ?_
  refine rc_V (As := [.int (nI p9)]) hx hb hml hown hC hl (c_X6_personAt l E hI hp) (rec_of hC (RA.x hR) rfl) (zm_X6_47 hC.1) kv_X6_personAt hR rfl rfl (rD_le (by decide) (by decide)) ⟨rfl, rfl⟩ (Nat.le_of_ble_eq_true rfl) ⟨Nat.zero_le _, Nat.zero_le _⟩ dX6_trustBehind_2 ?_
  refine lv_astore_n (lv' := [(3, .ref (g.ad 6 (p9))), (0, .ref (g.ad 1 0)), (1, .int (nI p9)), (2, .int (dy9))]) hx hb dX6_trustBehind_5 rfl hl (by decide) rfl (fun ls hl => ?_)
  refine lv_iload_n hx hb dX6_trustBehind_6 rfl (lv_at hl 3 rfl) ?_
  refine lv_iconst (v := 0) hx hb dX6_trustBehind_7 (by decide) ?_
  refine lv_bipush (v := 30) hx hb dX6_trustBehind_8 (by decide) ?_
  refine rc_S0 (As := [.int (dy9), .int (0), .int (30)]) hx hb hml hown hC hl (c_X6_checkRange l E hI hd1 hd2) (zm_X6_78 hC.1) kv_X6_checkRange hR rfl rfl (rD_le (by decide) (by decide)) ⟨rfl, rfl⟩ (Nat.le_of_ble_eq_true rfl) ⟨Nat.zero_le _, Nat.zero_le _⟩ dX6_trustBehind_10 ?_
  refine lv_aload_n hx hb dX6_trustBehind_13 rfl (lv_at hl 1 rfl) ?_
  refine gf_X6_8 hx hb hown hC (RA.x hR) (zf_X6_43 hC.1) dX6_trustBehind_14 ?_
  refine lv_iload_n hx hb dX6_trustBehind_17 rfl (lv_at hl 3 rfl) ?_
  refine lv_iadd hx hb dX6_trustBehind_18 ?_
  refine lv_bipush (v := 119) hx hb dX6_trustBehind_19 (by decide) ?_
  refine va_mmin hx hb (hml.trans hl.1.symm) hown (zm_X6_282 hC.1) (ztm_min hC.1) (znm hC.1) (zkm_min hC.1) (Nat.le_of_ble_eq_true rfl) (Nat.le_of_ble_eq_true rfl) (Nat.zero_le _) (Nat.zero_le _) dX6_trustBehind_21 ?_
  refine lv_istore (lv' := [(4, .int (minI ((nI S.td) + (dy9)) (119))), (3, .ref (g.ad 6 (p9))), (0, .ref (g.ad 1 0)), (1, .int (nI p9)), (2, .int (dy9))]) hx hb dX6_trustBehind_24 hl (by decide) rfl (fun ls hl => ?_)
  refine lv_iconst (v := 0) hx hb dX6_trustBehind_26 (by decide) ?_
  refine lv_istore (lv' := [(5, .int (0)), (4, .int (minI ((nI S.td) + (dy9)) (119))), (3, .ref (g.ad 6 (p9))), (0, .ref (g.ad 1 0)), (1, .int (nI p9)), (2, .int (dy9))]) hx hb dX6_trustBehind_27 hl (by decide) rfl (fun ls hl => ?_)
  refine lv_iconst (v := 0) hx hb dX6_trustBehind_29 (by decide) ?_
  refine lv_istore (lv' := [(6, .int (0)), (5, .int (0)), (4, .int (minI ((nI S.td) + (dy9)) (119))), (3, .ref (g.ad 6 (p9))), (0, .ref (g.ad 1 0)), (1, .int (nI p9)), (2, .int (dy9))]) hx hb dX6_trustBehind_30 hl (by decide) rfl (fun ls hl => ?_)
  have loop32 : ∀ (r32 i : Nat), i + r32 = S.nc → ∀ ls, lv_has ls 8 [(6, .int (nI (i))), (5, .int (sm (lostQ S p9 (minI (nI S.td + dy9) 119)) i)), (4, .int (minI ((nI S.td) + (dy9)) (119))), (3, .ref (g.ad 6 (p9))), (0, .ref (g.ad 1 0)), (1, .int (nI p9)), (2, .int (dy9))] → W p l e (rD 4) s m ([.ref (g.ad 1 0), .int (nI p9), .int (dy9)] : List Value).toArray below meth c s.heap [] 0 0 (MQ below (RQ (.int (trustA S p9 dy9))) ([.ref (g.ad 1 0), .int (nI p9), .int (dy9)] : List Value).toArray s 0 0 (fun _ => False)) (F0 m 32 ls []) := by
    intro r32
    induction r32 with
    | zero =>
      intro i hE32 ls hl
      have hN32 : i = S.nc := by omega
      subst hN32
      refine lv_iload hx hb dX6_trustBehind_32 (lv_at hl 0 rfl) ?_
      refine lv_aload_n hx hb dX6_trustBehind_34 rfl (lv_at hl 4 rfl) ?_
      refine gf_X6_2 hx hb hown hC (RA.x hR) (zf_X6_19 hC.1) dX6_trustBehind_35 ?_
      refine rc_V (As := []) hx hb hml hown hC hl (c_size l E _ _ _ _) (rec_of hC (RA.ls hR (by decide : 2 < 4)) rfl) (zm_X6_51 hC.1) kv_Jx4a65c_size_8abf5 (RA.ls hR (by decide : 2 < 4)) rfl rfl (rD_le (by decide) (by decide)) ⟨rfl, rfl⟩ (Nat.le_of_ble_eq_true rfl) ⟨Nat.zero_le _, Nat.zero_le _⟩ dX6_trustBehind_38 ?_
      refine lv_icmp_ge (tgt := 94) hx hb dX6_trustBehind_41 (by decide) (fun c_41 => ?_) (fun c_41 => ?_)
      ·
        refine lv_aload_n hx hb dX6_trustBehind_94 rfl (lv_at hl 3 rfl) ?_
        refine gf_X2_2 hx hb hown hC (RA.pe hR hp) (zf_X6_123 hC.1) dX6_trustBehind_95 ?_
        refine lv_iload hx hb dX6_trustBehind_98 (lv_at hl 1 rfl) ?_
        refine lv_isub hx hb dX6_trustBehind_100 ?_
        refine lv_iconst (v := 0) hx hb dX6_trustBehind_101 (by decide) ?_
        refine va_mmax hx hb (hml.trans hl.1.symm) hown (zm_X6_292 hC.1) (ztm_max hC.1) (znm hC.1) (zkm_max hC.1) (Nat.le_of_ble_eq_true rfl) (Nat.le_of_ble_eq_true rfl) (Nat.zero_le _) (Nat.zero_le _) dX6_trustBehind_102 ?_
        exact rr_i hx hb hr hlocks rfl dX6_trustBehind_105
      · exact absurd (Int32.le_refl _) c_41
    | succ r32 ih32 =>
      intro i hE32 ls hl
      have hlt32 : i < S.nc := by omega
      refine lv_iload hx hb dX6_trustBehind_32 (lv_at hl 0 rfl) ?_
      refine lv_aload_n hx hb dX6_trustBehind_34 rfl (lv_at hl 4 rfl) ?_
      refine gf_X6_2 hx hb hown hC (RA.x hR) (zf_X6_19 hC.1) dX6_trustBehind_35 ?_
      refine rc_V (As := []) hx hb hml hown hC hl (c_size l E _ _ _ _) (rec_of hC (RA.ls hR (by decide : 2 < 4)) rfl) (zm_X6_51 hC.1) kv_Jx4a65c_size_8abf5 (RA.ls hR (by decide : 2 < 4)) rfl rfl (rD_le (by decide) (by decide)) ⟨rfl, rfl⟩ (Nat.le_of_ble_eq_true rfl) ⟨Nat.zero_le _, Nat.zero_le _⟩ dX6_trustBehind_38 ?_
      refine lv_icmp_ge (tgt := 94) hx hb dX6_trustBehind_41 (by decide) (fun c_41 => ?_) (fun c_41 => ?_)
      · exact absurd c_41 (nI_ge hlt32 hI.nc31)
      ·
        refine lv_aload_n hx hb dX6_trustBehind_44 rfl (lv_at hl 4 rfl) ?_
        refine gf_X6_2 hx hb hown hC (RA.x hR) (zf_X6_19 hC.1) dX6_trustBehind_45 ?_
        refine lv_iload hx hb dX6_trustBehind_48 (lv_at hl 0 rfl) ?_
        refine rc_V (As := [.int (nI (i))]) hx hb hml hown hC hl (c_getL l E 2 rfl hR (by decide) hlt32) (rec_of hC (RA.ls hR (by decide : 2 < 4)) rfl) (zm_X6_253 hC.1) kv_Jx4a65c_get_915e3 (RA.gp hR 2 (by decide) hlt32) rfl rfl (rD_le (by decide) (by decide)) ⟨rfl, rfl⟩ (Nat.le_of_ble_eq_true rfl) ⟨Nat.zero_le _, Nat.zero_le _⟩ dX6_trustBehind_50 ?_
        refine g_cast hx hb hown hC (RA.ch hR hlt32) rfl (zc_X6_155 hC.1) dX6_trustBehind_53 ?_
        refine lv_astore (lv' := [(7, .ref (g.ad 8 (i))), (6, .int (nI (i))), (5, .int (sm (lostQ S p9 (minI (nI S.td + dy9) 119)) i)), (4, .int (minI ((nI S.td) + (dy9)) (119))), (3, .ref (g.ad 6 (p9))), (0, .ref (g.ad 1 0)), (1, .int (nI p9)), (2, .int (dy9))]) hx hb dX6_trustBehind_56 hl (by decide) rfl (fun ls hl => ?_)
        refine lv_aload hx hb dX6_trustBehind_58 (lv_at hl 0 rfl) ?_
        refine gf_X0_1 hx hb hown hC (RA.ch hR hlt32) (zf_X6_211 hC.1) dX6_trustBehind_60 ?_
        refine lv_aload_n hx hb dX6_trustBehind_63 rfl (lv_at hl 4 rfl) ?_
        refine lw_acmp_ne (i := S.cp (i)) (j := p9) (tgt := 88) hx hb (RA.iff hR 6 (hI.cp hlt32) hp) dX6_trustBehind_64 (by decide) (fun c_64 => ?_) (fun c_64 => ?_)
        ·
          refine lv_iinc (v := nI (i) + 1) (lv' := [(6, .int (nI (i) + 1)), (7, .ref (g.ad 8 (i))), (5, .int (sm (lostQ S p9 (minI (nI S.td + dy9) 119)) i)), (4, .int (minI ((nI S.td) + (dy9)) (119))), (3, .ref (g.ad 6 (p9))), (0, .ref (g.ad 1 0)), (1, .int (nI p9)), (2, .int (dy9))]) hx hb dX6_trustBehind_88 hl (k := 1) rfl rfl (by decide) rfl (fun ls hl => ?_)
          refine lv_goto (tgt := 32) hx hb dX6_trustBehind_91 (by decide) ?_
          refine ih32 (i + 1) (by omega) ls ?_
          rw [nI_succ i, sm_z (f := lostQ S p9 (minI (nI S.td + dy9) 119)) (by unfold lostQ; rw [if_neg c_64])]
          exact lv_sub hl [0, 2, 3, 4, 5, 6, 7] rfl
        ·
          refine lv_aload hx hb dX6_trustBehind_67 (lv_at hl 0 rfl) ?_
          refine gf_X0_8 hx hb hown hC (RA.ch hR hlt32) (zf_X6_197 hC.1) dX6_trustBehind_69 ?_
          refine lv_if_ne (tgt := 88) hx hb dX6_trustBehind_72 (by decide) (fun c_72 => ?_) (fun c_72 => ?_)
          ·
            refine lv_iinc (v := nI (i) + 1) (lv' := [(6, .int (nI (i) + 1)), (7, .ref (g.ad 8 (i))), (5, .int (sm (lostQ S p9 (minI (nI S.td + dy9) 119)) i)), (4, .int (minI ((nI S.td) + (dy9)) (119))), (3, .ref (g.ad 6 (p9))), (0, .ref (g.ad 1 0)), (1, .int (nI p9)), (2, .int (dy9))]) hx hb dX6_trustBehind_88 hl (k := 1) rfl rfl (by decide) rfl (fun ls hl => ?_)
            refine lv_goto (tgt := 32) hx hb dX6_trustBehind_91 (by decide) ?_
            refine ih32 (i + 1) (by omega) ls ?_
            rw [nI_succ i, sm_z (f := lostQ S p9 (minI (nI S.td + dy9) 119)) (by unfold lostQ; rw [if_pos c_64, if_neg c_72])]
            exact lv_sub hl [0, 2, 3, 4, 5, 6, 7] rfl
          ·
            refine lv_iload hx hb dX6_trustBehind_75 (lv_at hl 2 rfl) ?_
            refine lv_aload_n hx hb dX6_trustBehind_77 rfl (lv_at hl 5 rfl) ?_
            refine lv_aload hx hb dX6_trustBehind_78 (lv_at hl 0 rfl) ?_
            refine lv_iload hx hb dX6_trustBehind_80 (lv_at hl 3 rfl) ?_
            refine rc_V (As := [.ref (g.ad 8 (i)), .int (minI ((nI S.td) + (dy9)) (119))]) hx hb hml hown hC hl (c_X6_trustLostBy l E hI hlt32 (minI ((nI S.td) + (dy9)) (119))) (rec_of hC (RA.x hR) rfl) (zm_X6_288 hC.1) kv_X6_trustLostBy hR rfl rfl (rD_le (by decide) (by decide)) ⟨rfl, rfl⟩ (Nat.le_of_ble_eq_true rfl) ⟨Nat.zero_le _, Nat.zero_le _⟩ dX6_trustBehind_82 ?_
            refine lv_iadd hx hb dX6_trustBehind_85 ?_
            refine lv_istore (lv' := [(5, .int ((sm (lostQ S p9 (minI (nI S.td + dy9) 119)) i) + (lostA S (i) (minI ((nI S.td) + (dy9)) (119))))), (7, .ref (g.ad 8 (i))), (6, .int (nI (i))), (4, .int (minI ((nI S.td) + (dy9)) (119))), (3, .ref (g.ad 6 (p9))), (0, .ref (g.ad 1 0)), (1, .int (nI p9)), (2, .int (dy9))]) hx hb dX6_trustBehind_86 hl (by decide) rfl (fun ls hl => ?_)
            refine lv_iinc (v := nI (i) + 1) (lv' := [(6, .int (nI (i) + 1)), (5, .int ((sm (lostQ S p9 (minI (nI S.td + dy9) 119)) i) + (lostA S (i) (minI ((nI S.td) + (dy9)) (119))))), (7, .ref (g.ad 8 (i))), (4, .int (minI ((nI S.td) + (dy9)) (119))), (3, .ref (g.ad 6 (p9))), (0, .ref (g.ad 1 0)), (1, .int (nI p9)), (2, .int (dy9))]) hx hb dX6_trustBehind_88 hl (k := 2) rfl rfl (by decide) rfl (fun ls hl => ?_)
            refine lv_goto (tgt := 32) hx hb dX6_trustBehind_91 (by decide) ?_
            refine ih32 (i + 1) (by omega) ls ?_
            rw [nI_succ i, sm_t (f := lostQ S p9 (minI (nI S.td + dy9) 119)) (by unfold lostQ; rw [if_pos c_64, if_pos c_72])]
            exact lv_sub hl [0, 1, 3, 4, 5, 6, 7] rfl
  exact loop32 (S.nc) 0 (by omega) ls (lv_sub hl [0, 1, 2, 3, 4, 5, 6] rfl)

