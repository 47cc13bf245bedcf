set_option maxRecDepth 100000 in
set_option maxHeartbeats 4000000 in
theorem t_X6_checkReceipt_1 (l : Launch) (E : EE) {S : St} {g : Gh} (hI : Inv S) (hst : l.stackTraces = false) {am : Int32} (hbad : am < 1 ∨ 9999 < am) {dy : Int32} {tx : Int32} : TM l E yX6_checkReceipt cX6_checkReceipt 3 (none) (tD 1) [.int (am), .int (dy), .int (tx)] (RA E S g) "java/lang/IllegalArgumentException" := by
  refine tm_of rfl (Nat.le_of_ble_eq_true rfl) (fun p e s m below meth c ls hx hb hr hml (hown : s.vm.findClass RX6 = some m.cls) hY hZ hnt hlocks hR hl => ?_)
  have hC := hY.1
  have hl : lv_has ls 3 [(0, .int (am)), (1, .int (dy)), (2, .int (tx))] := hl
  refine lv_iload_n hx hb dX6_checkReceipt_0 rfl (lv_at hl 0 rfl) ?_
  refine lv_iconst (v := 1) hx hb dX6_checkReceipt_1 (by decide) ?_
  refine lv_sipush (v := 9999) hx hb dX6_checkReceipt_2 (by decide) ?_
  exact tc_S (As := [.int (am), .int (1), .int (9999)]) hx hb hml hown hY hZ hnt hlocks hl (t_X6_checkRange l E hI hst hbad) (zm_X6_78 hC.1) kv_X6_checkRange hR rfl rfl (ttD_le (by decide) (by decide)) ⟨rfl, rfl⟩ (Nat.le_of_ble_eq_true rfl) ⟨Nat.le_refl 1, Nat.le_refl 6⟩ dX6_checkReceipt_5
set_option maxRecDepth 100000 in
set_option maxHeartbeats 4000000 in
theorem t_X6_checkReceipt_2 (l : Launch) (E : EE) {S : St} {g : Gh} (hI : Inv S) (hst : l.stackTraces = false) {am : Int32} (ham1 : ¬ am < 1) (ham2 : ¬ 9999 < am) {dy : Int32} (hbad : dy < 0 ∨ 119 < dy) {tx : Int32} : TM l E yX6_checkReceipt cX6_checkReceipt 3 (none) (tD 1) [.int (am), .int (dy), .int (tx)] (RA E S g) "java/lang/IllegalArgumentException" := by
  refine tm_of rfl (Nat.le_of_ble_eq_true rfl) (fun p e s m below meth c ls hx hb hr hml (hown : s.vm.findClass RX6 = some m.cls) hY hZ hnt hlocks hR hl => ?_)
  have hC := hY.1
  have hl : lv_has ls 3 [(0, .int (am)), (1, .int (dy)), (2, .int (tx))] := hl
  refine lv_iload_n hx hb dX6_checkReceipt_0 rfl (lv_at hl 0 rfl) ?_
  refine lv_iconst (v := 1) hx hb dX6_checkReceipt_1 (by decide) ?_
  refine lv_sipush (v := 9999) hx hb dX6_checkReceipt_2 (by decide) ?_
  refine rc_S0 (As := [.int (am), .int (1), .int (9999)]) hx hb hml hown hC hl (c_X6_checkRange l E hI ham1 ham2) (zm_X6_78 hC.1) kv_X6_checkRange hR rfl rfl (rtD_le (by decide) (by decide)) ⟨rfl, rfl⟩ (Nat.le_of_ble_eq_true rfl) ⟨Nat.zero_le _, Nat.zero_le _⟩ dX6_checkReceipt_5 ?_
  refine lv_iload_n hx hb dX6_checkReceipt_8 rfl (lv_at hl 1 rfl) ?_
  refine lv_iconst (v := 0) hx hb dX6_checkReceipt_9 (by decide) ?_
  refine lv_bipush (v := 119) hx hb dX6_checkReceipt_10 (by decide) ?_
  exact tc_S (As := [.int (dy), .int (0), .int (119)]) hx hb hml hown hY hZ hnt hlocks hl (t_X6_checkRange l E hI hst hbad) (zm_X6_78 hC.1) kv_X6_checkRange hR rfl rfl (ttD_le (by decide) (by decide)) ⟨rfl, rfl⟩ (Nat.le_of_ble_eq_true rfl) ⟨Nat.le_refl 1, Nat.le_refl 6⟩ dX6_checkReceipt_12
set_option maxRecDepth 100000 in
set_option maxHeartbeats 4000000 in
theorem t_X6_checkReceipt_3 (l : Launch) (E : EE) {S : St} {g : Gh} (hI : Inv S) (hst : l.stackTraces = false) {am : Int32} (ham1 : ¬ am < 1) (ham2 : ¬ 9999 < am) {dy : Int32} (hdy1 : ¬ dy < 0) (hdy2 : ¬ 119 < dy) {tx : Int32} (hbad : tx < 0 ∨ 9 < tx) : TM l E yX6_checkReceipt cX6_checkReceipt 3 (none) (tD 1) [.int (am), .int (dy), .int (tx)] (RA E S g) "java/lang/IllegalArgumentException" := by
  refine tm_of rfl (Nat.le_of_ble_eq_true rfl) (fun p e s m below meth c ls hx hb hr hml (hown : s.vm.findClass RX6 = some m.cls) hY hZ hnt hlocks hR hl => ?_)
  have hC := hY.1
  have hl : lv_has ls 3 [(0, .int (am)), (1, .int (dy)), (2, .int (tx))] := hl
  refine lv_iload_n hx hb dX6_checkReceipt_0 rfl (lv_at hl 0 rfl) ?_
  refine lv_iconst (v := 1) hx hb dX6_checkReceipt_1 (by decide) ?_
  refine lv_sipush (v := 9999) hx hb dX6_checkReceipt_2 (by decide) ?_
  refine rc_S0 (As := [.int (am), .int (1), .int (9999)]) hx hb hml hown hC hl (c_X6_checkRange l E hI ham1 ham2) (zm_X6_78 hC.1) kv_X6_checkRange hR rfl rfl (rtD_le (by decide) (by decide)) ⟨rfl, rfl⟩ (Nat.le_of_ble_eq_true rfl) ⟨Nat.zero_le _, Nat.zero_le _⟩ dX6_checkReceipt_5 ?_
  refine lv_iload_n hx hb dX6_checkReceipt_8 rfl (lv_at hl 1 rfl) ?_
  refine lv_iconst (v := 0) hx hb dX6_checkReceipt_9 (by decide) ?_
  refine lv_bipush (v := 119) hx hb dX6_checkReceipt_10 (by decide) ?_
  refine rc_S0 (As := [.int (dy), .int (0), .int (119)]) hx hb hml hown hC hl (c_X6_checkRange l E hI hdy1 hdy2) (zm_X6_78 hC.1) kv_X6_checkRange hR rfl rfl (rtD_le (by decide) (by decide)) ⟨rfl, rfl⟩ (Nat.le_of_ble_eq_true rfl) ⟨Nat.zero_le _, Nat.zero_le _⟩ dX6_checkReceipt_12 ?_
  refine lv_iload_n hx hb dX6_checkReceipt_15 rfl (lv_at hl 2 rfl) ?_
  refine lv_iconst (v := 0) hx hb dX6_checkReceipt_16 (by decide) ?_
  refine lv_bipush (v := 9) hx hb dX6_checkReceipt_17 (by decide) ?_
  exact tc_S (As := [.int (tx), .int (0), .int (9)]) hx hb hml hown hY hZ hnt hlocks hl (t_X6_checkRange l E hI hst hbad) (zm_X6_78 hC.1) kv_X6_checkRange hR rfl rfl (ttD_le (by decide) (by decide)) ⟨rfl, rfl⟩ (Nat.le_of_ble_eq_true rfl) ⟨Nat.le_refl 1, Nat.le_refl 6⟩ dX6_checkReceipt_19
set_option maxRecDepth 100000 in
set_option maxHeartbeats 4000000 in
theorem t_X6_person_1 (l : Launch) (E : EE) {S : St} {g : Gh} (hI : Inv S) (hst : l.stackTraces = false) {p9 : Int32} (hm : ¬ p9 = -1) (hbad : p9 < 0 ∨ nI S.np ≤ p9) : TM l E yX6_person cX6_person 4 (some .int) (tD 8) [.ref (g.ad 1 0), .int (p9)] (RA E S g) "java/lang/IndexOutOfBoundsException" := by
  refine tm_of rfl (Nat.le_of_ble_eq_true rfl) (fun p e s m below meth c ls hx hb hr hml (hown : s.vm.findClass RX6 = some m.cls) hY hZ hnt hlocks hR hl => ?_)
  have hC := hY.1
  have hl : lv_has ls 4 [(0, .ref (g.ad 1 0)), (1, .int (p9))] := hl
  refine lv_iload_n hx hb dX6_person_0 rfl (lv_at hl 1 rfl) ?_
  refine lv_iconst (v := (-1)) hx hb dX6_person_1 (by decide) ?_
  refine lv_icmp_ne (tgt := 9) hx hb dX6_person_2 (by decide) (fun c_2 => ?_) (fun c_2 => ?_)
  ·
    refine lv_aload_n hx hb dX6_person_9 rfl (lv_at hl 0 rfl) ?_
    refine lv_iload_n hx hb dX6_person_10 rfl (lv_at hl 1 rfl) ?_
    exact tc_V (As := [.int (p9)]) hx hb hml hown hY hZ hnt hlocks hl (t_X6_personAt l E hI hst hbad) (rec_of hC (RA.x hR) rfl) (zm_X6_47 hC.1) kv_X6_personAt hR rfl rfl (ttD_le (by decide) (by decide)) ⟨rfl, rfl⟩ (Nat.le_of_ble_eq_true rfl) ⟨Nat.le_refl 1, Nat.le_refl 6⟩ dX6_person_11
  · exact absurd c_2 hm
set_option maxRecDepth 100000 in
set_option maxHeartbeats 4000000 in
theorem t_X6_person_2 (l : Launch) (E : EE) {S : St} {g : Gh} (hI : Inv S) (hst : l.stackTraces = false) {p9 : Nat} (hp9 : p9 < S.np) (hfull : 8 ≤ S.np) : TM l E yX6_person cX6_person 4 (some .int) (tD 8) [.ref (g.ad 1 0), .int (nI p9)] (RA E S g) "java/lang/IllegalStateException" := by
  refine tm_of rfl (Nat.le_of_ble_eq_true rfl) (fun p e s m below meth c ls hx hb hr hml (hown : s.vm.findClass RX6 = some m.cls) hY hZ hnt hlocks hR hl => ?_)
  have hC := hY.1
  have hl : lv_has ls 4 [(0, .ref (g.ad 1 0)), (1, .int (nI p9))] := hl
  refine lv_iload_n hx hb dX6_person_0 rfl (lv_at hl 1 rfl) ?_
  refine lv_iconst (v := (-1)) hx hb dX6_person_1 (by decide) ?_
  refine lv_icmp_ne (tgt := 9) hx hb dX6_person_2 (by decide) (fun c_2 => ?_) (fun c_2 => ?_)
  ·
    refine lv_aload_n hx hb dX6_person_9 rfl (lv_at hl 0 rfl) ?_
    refine lv_iload_n hx hb dX6_person_10 rfl (lv_at hl 1 rfl) ?_
    refine rc_V (As := [.int (nI p9)]) hx hb hml hown hC hl (c_X6_personAt l E hI hp9) (rec_of hC (RA.x hR) rfl) (zm_X6_47 hC.1) kv_X6_personAt hR rfl rfl (rtD_le (by decide) (by decide)) ⟨rfl, rfl⟩ (Nat.le_of_ble_eq_true rfl) ⟨Nat.zero_le _, Nat.zero_le _⟩ dX6_person_11 ?_
    refine lv_astore_n (lv' := [(2, .ref (g.ad 6 (p9))), (0, .ref (g.ad 1 0)), (1, .int (nI p9))]) hx hb dX6_person_14 rfl hl (by decide) rfl (fun ls hl => ?_)
    refine lv_aload_n hx hb dX6_person_15 rfl (lv_at hl 1 rfl) ?_
    refine gf_X6_0 hx hb hown hC (RA.x hR) (zf_X6_10 hC.1) dX6_person_16 ?_
    refine rc_V (As := []) hx hb hml hown hC hl (c_size l E _ _ _ _) (rec_of hC (RA.ls hR (by decide : 0 < 4)) rfl) (zm_X6_51 hC.1) kv_Jx4a65c_size_8abf5 (RA.ls hR (by decide : 0 < 4)) rfl rfl (rtD_le (by decide) (by decide)) ⟨rfl, rfl⟩ (Nat.le_of_ble_eq_true rfl) ⟨Nat.zero_le _, Nat.zero_le _⟩ dX6_person_19 ?_
    refine lv_bipush (v := 8) hx hb dX6_person_22 (by decide) ?_
    refine lv_icmp_lt (tgt := 37) hx hb dX6_person_24 (by decide) (fun c_24 => ?_) (fun c_24 => ?_)
    · exact absurd c_24 (nI_nlt (a := S.np) (b := 8) hfull (by have := hI.1; omega))
    ·
      exact xt_ISE (is := 57) (text := "there are 8 people") hst hx hb hml hown hY hZ hnt hlocks hl (by decide) dX6_person_27 dX6_person_30 dX6_person_31 dX6_person_33 dX6_person_36
  · exact absurd c_2 (nI_neg1 (Nat.lt_trans hp9 hI.np31))
set_option maxRecDepth 100000 in
set_option maxHeartbeats 4000000 in
theorem t_X6_person_3 (l : Launch) (E : EE) {S : St} {g : Gh} (hI : Inv S) (hst : l.stackTraces = false) (hfull : 8 ≤ S.np) : TM l E yX6_person cX6_person 4 (some .int) (tD 8) [.ref (g.ad 1 0), .int ((-1))] (RA E S g) "java/lang/IllegalStateException" := by
  refine tm_of rfl (Nat.le_of_ble_eq_true rfl) (fun p e s m below meth c ls hx hb hr hml (hown : s.vm.findClass RX6 = some m.cls) hY hZ hnt hlocks hR hl => ?_)
  have hC := hY.1
  have hl : lv_has ls 4 [(0, .ref (g.ad 1 0)), (1, .int ((-1)))] := hl
  refine lv_iload_n hx hb dX6_person_0 rfl (lv_at hl 1 rfl) ?_
  refine lv_iconst (v := (-1)) hx hb dX6_person_1 (by decide) ?_
  refine lv_icmp_ne (tgt := 9) hx hb dX6_person_2 (by decide) (fun c_2 => ?_) (fun c_2 => ?_)
  · exact absurd c_2 (by decide)
  ·
    refine lv_null hx hb dX6_person_5 ?_
    refine lv_goto (tgt := 14) hx hb dX6_person_6 (by decide) ?_
    refine lv_astore_nN (lv' := [(2, .null), (0, .ref (g.ad 1 0)), (1, .int ((-1)))]) hx hb dX6_person_14 rfl hl (by decide) rfl (fun ls hl => ?_)
    refine lv_aload_n hx hb dX6_person_15 rfl (lv_at hl 1 rfl) ?_
    refine gf_X6_0 hx hb hown hC (RA.x hR) (zf_X6_10 hC.1) dX6_person_16 ?_
    refine rc_V (As := []) hx hb hml hown hC hl (c_size l E _ _ _ _) (rec_of hC (RA.ls hR (by decide : 0 < 4)) rfl) (zm_X6_51 hC.1) kv_Jx4a65c_size_8abf5 (RA.ls hR (by decide : 0 < 4)) rfl rfl (rtD_le (by decide) (by decide)) ⟨rfl, rfl⟩ (Nat.le_of_ble_eq_true rfl) ⟨Nat.zero_le _, Nat.zero_le _⟩ dX6_person_19 ?_
    refine lv_bipush (v := 8) hx hb dX6_person_22 (by decide) ?_
    refine lv_icmp_lt (tgt := 37) hx hb dX6_person_24 (by decide) (fun c_24 => ?_) (fun c_24 => ?_)
    · exact absurd c_24 (nI_nlt (a := S.np) (b := 8) hfull (by have := hI.1; omega))
    ·
      exact xt_ISE (is := 57) (text := "there are 8 people") hst hx hb hml hown hY hZ hnt hlocks hl (by decide) dX6_person_27 dX6_person_30 dX6_person_31 dX6_person_33 dX6_person_36
set_option maxRecDepth 100000 in
set_option maxHeartbeats 4000000 in
theorem t_X6_limit_1 (l : Launch) (E : EE) {S : St} {g : Gh} (hI : Inv S) (hst : l.stackTraces = false) {p9 : Int32} (hbad : p9 < 0 ∨ nI S.np ≤ p9) {k9 : Int32} {v9 : Int32} : TM l E yX6_limit cX6_limit 5 (some .int) (tD 8) [.ref (g.ad 1 0), .int (p9), .int (k9), .int (v9)] (RA E S g) "java/lang/IndexOutOfBoundsException" := by
  refine tm_of rfl (Nat.le_of_ble_eq_true rfl) (fun p e s m below meth c ls hx hb hr hml (hown : s.vm.findClass RX6 = some m.cls) hY hZ hnt hlocks hR hl => ?_)
  have hC := hY.1
  have hl : lv_has ls 5 [(0, .ref (g.ad 1 0)), (1, .int (p9)), (2, .int (k9)), (3, .int (v9))] := hl
  refine lv_aload_n hx hb dX6_limit_0 rfl (lv_at hl 0 rfl) ?_
  refine lv_iload_n hx hb dX6_limit_1 rfl (lv_at hl 1 rfl) ?_
  exact tc_V (As := [.int (p9)]) hx hb hml hown hY hZ hnt hlocks hl (t_X6_personAt l E hI hst hbad) (rec_of hC (RA.x hR) rfl) (zm_X6_47 hC.1) kv_X6_personAt hR rfl rfl (ttD_le (by decide) (by decide)) ⟨rfl, rfl⟩ (Nat.le_of_ble_eq_true rfl) ⟨Nat.le_refl 1, Nat.le_refl 6⟩ dX6_limit_2
set_option maxRecDepth 100000 in
set_option maxHeartbeats 4000000 in
theorem t_X6_limit_2 (l : Launch) (E : EE) {S : St} {g : Gh} (hI : Inv S) (hst : l.stackTraces = false) {p9 : Nat} (hp9 : p9 < S.np) {k9 : Int32} (hbad : k9 < 0 ∨ 4 ≤ k9) {v9 : Int32} : TM l E yX6_limit cX6_limit 5 (some .int) (tD 8) [.ref (g.ad 1 0), .int (nI p9), .int (k9), .int (v9)] (RA E S g) "java/lang/IndexOutOfBoundsException" := by
  refine tm_of rfl (Nat.le_of_ble_eq_true rfl) (fun p e s m below meth c ls hx hb hr hml (hown : s.vm.findClass RX6 = some m.cls) hY hZ hnt hlocks hR hl => ?_)
  have hC := hY.1
  have hl : lv_has ls 5 [(0, .ref (g.ad 1 0)), (1, .int (nI p9)), (2, .int (k9)), (3, .int (v9))] := hl
  refine lv_aload_n hx hb dX6_limit_0 rfl (lv_at hl 0 rfl) ?_
  refine lv_iload_n hx hb dX6_limit_1 rfl (lv_at hl 1 rfl) ?_
  refine rc_V (As := [.int (nI p9)]) hx hb hml hown hC hl (c_X6_personAt l E hI hp9) (rec_of hC (RA.x hR) rfl) (zm_X6_47 hC.1) kv_X6_personAt hR rfl rfl (rtD_le (by decide) (by decide)) ⟨rfl, rfl⟩ (Nat.le_of_ble_eq_true rfl) ⟨Nat.zero_le _, Nat.zero_le _⟩ dX6_limit_2 ?_
  refine lv_astore (lv' := [(4, .ref (g.ad 6 (p9))), (0, .ref (g.ad 1 0)), (1, .int (nI p9)), (2, .int (k9)), (3, .int (v9))]) hx hb dX6_limit_5 hl (by decide) rfl (fun ls hl => ?_)
  refine lv_iload_n hx hb dX6_limit_7 rfl (lv_at hl 3 rfl) ?_
  exact tc_S (As := [.int (k9)]) hx hb hml hown hY hZ hnt hlocks hl (t_X6_checkKind l E hI hst hbad) (zm_X6_74 hC.1) kv_X6_checkKind hR rfl rfl (ttD_le (by decide) (by decide)) ⟨rfl, rfl⟩ (Nat.le_of_ble_eq_true rfl) ⟨Nat.le_refl 1, Nat.le_refl 6⟩ dX6_limit_8
set_option maxRecDepth 100000 in
set_option maxHeartbeats 4000000 in
theorem t_X6_limit_3 (l : Launch) (E : EE) {S : St} {g : Gh} (hI : Inv S) (hst : l.stackTraces = false) {p9 : Nat} (hp9 : p9 < S.np) {k9 : Nat} (hk9 : k9 < 4) {v9 : Int32} (hbad : v9 < 0 ∨ 9999 < v9) : TM l E yX6_limit cX6_limit 5 (some .int) (tD 8) [.ref (g.ad 1 0), .int (nI p9), .int (nI k9), .int (v9)] (RA E S g) "java/lang/IllegalArgumentException" := by
  refine tm_of rfl (Nat.le_of_ble_eq_true rfl) (fun p e s m below meth c ls hx hb hr hml (hown : s.vm.findClass RX6 = some m.cls) hY hZ hnt hlocks hR hl => ?_)
  have hC := hY.1
  have hl : lv_has ls 5 [(0, .ref (g.ad 1 0)), (1, .int (nI p9)), (2, .int (nI k9)), (3, .int (v9))] := hl
  refine lv_aload_n hx hb dX6_limit_0 rfl (lv_at hl 0 rfl) ?_
  refine lv_iload_n hx hb dX6_limit_1 rfl (lv_at hl 1 rfl) ?_
  refine rc_V (As := [.int (nI p9)]) hx hb hml hown hC hl (c_X6_personAt l E hI hp9) (rec_of hC (RA.x hR) rfl) (zm_X6_47 hC.1) kv_X6_personAt hR rfl rfl (rtD_le (by decide) (by decide)) ⟨rfl, rfl⟩ (Nat.le_of_ble_eq_true rfl) ⟨Nat.zero_le _, Nat.zero_le _⟩ dX6_limit_2 ?_
  refine lv_astore (lv' := [(4, .ref (g.ad 6 (p9))), (0, .ref (g.ad 1 0)), (1, .int (nI p9)), (2, .int (nI k9)), (3, .int (v9))]) hx hb dX6_limit_5 hl (by decide) rfl (fun ls hl => ?_)
  refine lv_iload_n hx hb dX6_limit_7 rfl (lv_at hl 3 rfl) ?_
  refine rc_S0 (As := [.int (nI k9)]) hx hb hml hown hC hl (c_X6_checkKind l E hI (k9 := k9) hk9) (zm_X6_74 hC.1) kv_X6_checkKind hR rfl rfl (rtD_le (by decide) (by decide)) ⟨rfl, rfl⟩ (Nat.le_of_ble_eq_true rfl) ⟨Nat.zero_le _, Nat.zero_le _⟩ dX6_limit_8 ?_
  refine lv_iload_n hx hb dX6_limit_11 rfl (lv_at hl 4 rfl) ?_
  refine lv_iconst (v := 0) hx hb dX6_limit_12 (by decide) ?_
  refine lv_sipush (v := 9999) hx hb dX6_limit_13 (by decide) ?_
  exact tc_S (As := [.int (v9), .int (0), .int (9999)]) hx hb hml hown hY hZ hnt hlocks hl (t_X6_checkRange l E hI hst hbad) (zm_X6_78 hC.1) kv_X6_checkRange hR rfl rfl (ttD_le (by decide) (by decide)) ⟨rfl, rfl⟩ (Nat.le_of_ble_eq_true rfl) ⟨Nat.le_refl 1, Nat.le_refl 6⟩ dX6_limit_16
set_option maxRecDepth 100000 in
set_option maxHeartbeats 4000000 in
theorem t_X6_away_1 (l : Launch) (E : EE) {S : St} {g : Gh} (hI : Inv S) (hst : l.stackTraces = false) {p9 : Int32} (hbad : p9 < 0 ∨ nI S.np ≤ p9) {v9 : Int32} {o9 : Int32} : TM l E yX6_away cX6_away 7 (some .boolean) (tD 8) [.ref (g.ad 1 0), .int (p9), .int (v9), .int (o9)] (RA E S g) "java/lang/IndexOutOfBoundsException" := by
  refine tm_of rfl (Nat.le_of_ble_eq_true rfl) (fun p e s m below meth c ls hx hb hr hml (hown : s.vm.findClass RX6 = some m.cls) hY hZ hnt hlocks hR hl => ?_)
  have hC := hY.1
  have hl : lv_has ls 7 [(0, .ref (g.ad 1 0)), (1, .int (p9)), (2, .int (v9)), (3, .int (o9))] := hl
  refine lv_aload_n hx hb dX6_away_0 rfl (lv_at hl 0 rfl) ?_
  refine lv_iload_n hx hb dX6_away_1 rfl (lv_at hl 1 rfl) ?_
  exact tc_V (As := [.int (p9)]) hx hb hml hown hY hZ hnt hlocks hl (t_X6_personAt l E hI hst hbad) (rec_of hC (RA.x hR) rfl) (zm_X6_47 hC.1) kv_X6_personAt hR rfl rfl (ttD_le (by decide) (by decide)) ⟨rfl, rfl⟩ (Nat.le_of_ble_eq_true rfl) ⟨Nat.le_refl 1, Nat.le_refl 6⟩ dX6_away_2
set_option maxRecDepth 100000 in
set_option maxHeartbeats 4000000 in
theorem t_X6_away_2 (l : Launch) (E : EE) {S : St} {g : Gh} (hI : Inv S) (hst : l.stackTraces = false) {p9 : Nat} (hp9 : p9 < S.np) {v9 : Int32} {o9 : Int32} (hbad : o9 < 0 ∨ nI S.np ≤ o9) : TM l E yX6_away cX6_away 7 (some .boolean) (tD 8) [.ref (g.ad 1 0), .int (nI p9), .int (v9), .int (o9)] (RA E S g) "java/lang/IndexOutOfBoundsException" := by
  refine tm_of rfl (Nat.le_of_ble_eq_true rfl) (fun p e s m below meth c ls hx hb hr hml (hown : s.vm.findClass RX6 = some m.cls) hY hZ hnt hlocks hR hl => ?_)
  have hC := hY.1
  have hl : lv_has ls 7 [(0, .ref (g.ad 1 0)), (1, .int (nI p9)), (2, .int (v9)), (3, .int (o9))] := hl
  refine lv_aload_n hx hb dX6_away_0 rfl (lv_at hl 0 rfl) ?_
  refine lv_iload_n hx hb dX6_away_1 rfl (lv_at hl 1 rfl) ?_
  refine rc_V (As := [.int (nI p9)]) hx hb hml hown hC hl (c_X6_personAt l E hI hp9) (rec_of hC (RA.x hR) rfl) (zm_X6_47 hC.1) kv_X6_personAt hR rfl rfl (rtD_le (by decide) (by decide)) ⟨rfl, rfl⟩ (Nat.le_of_ble_eq_true rfl) ⟨Nat.zero_le _, Nat.zero_le _⟩ dX6_away_2 ?_
  refine lv_astore (lv' := [(4, .ref (g.ad 6 (p9))), (0, .ref (g.ad 1 0)), (1, .int (nI p9)), (2, .int (v9)), (3, .int (o9))]) hx hb dX6_away_5 hl (by decide) rfl (fun ls hl => ?_)
  refine lv_aload_n hx hb dX6_away_7 rfl (lv_at hl 1 rfl) ?_
  refine lv_iload_n hx hb dX6_away_8 rfl (lv_at hl 4 rfl) ?_
  exact tc_V (As := [.int (o9)]) hx hb hml hown hY hZ hnt hlocks hl (t_X6_personAt l E hI hst hbad) (rec_of hC (RA.x hR) rfl) (zm_X6_47 hC.1) kv_X6_personAt hR rfl rfl (ttD_le (by decide) (by decide)) ⟨rfl, rfl⟩ (Nat.le_of_ble_eq_true rfl) ⟨Nat.le_refl 1, Nat.le_refl 6⟩ dX6_away_9
set_option maxRecDepth 100000 in
set_option maxHeartbeats 4000000 in
theorem t_X6_away_3 (l : Launch) (E : EE) {S : St} {g : Gh} (hI : Inv S) (hst : l.stackTraces = false) {p9 : Nat} (hp9 : p9 < S.np) {v9 : Int32} (hbad : v9 < 0 ∨ 119 < v9) {o9 : Nat} (ho9 : o9 < S.np) : TM l E yX6_away cX6_away 7 (some .boolean) (tD 8) [.ref (g.ad 1 0), .int (nI p9), .int (v9), .int (nI o9)] (RA E S g) "java/lang/IllegalArgumentException" := by
  refine tm_of rfl (Nat.le_of_ble_eq_true rfl) (fun p e s m below meth c ls hx hb hr hml (hown : s.vm.findClass RX6 = some m.cls) hY hZ hnt hlocks hR hl => ?_)
  have hC := hY.1
  have hl : lv_has ls 7 [(0, .ref (g.ad 1 0)), (1, .int (nI p9)), (2, .int (v9)), (3, .int (nI o9))] := hl
  refine lv_aload_n hx hb dX6_away_0 rfl (lv_at hl 0 rfl) ?_
  refine lv_iload_n hx hb dX6_away_1 rfl (lv_at hl 1 rfl) ?_
  refine rc_V (As := [.int (nI p9)]) hx hb hml hown hC hl (c_X6_personAt l E hI hp9) (rec_of hC (RA.x hR) rfl) (zm_X6_47 hC.1) kv_X6_personAt hR rfl rfl (rtD_le (by decide) (by decide)) ⟨rfl, rfl⟩ (Nat.le_of_ble_eq_true rfl) ⟨Nat.zero_le _, Nat.zero_le _⟩ dX6_away_2 ?_
  refine lv_astore (lv' := [(4, .ref (g.ad 6 (p9))), (0, .ref (g.ad 1 0)), (1, .int (nI p9)), (2, .int (v9)), (3, .int (nI o9))]) hx hb dX6_away_5 hl (by decide) rfl (fun ls hl => ?_)
  refine lv_aload_n hx hb dX6_away_7 rfl (lv_at hl 1 rfl) ?_
  refine lv_iload_n hx hb dX6_away_8 rfl (lv_at hl 4 rfl) ?_
  refine rc_V (As := [.int (nI o9)]) hx hb hml hown hC hl (c_X6_personAt l E hI ho9) (rec_of hC (RA.x hR) rfl) (zm_X6_47 hC.1) kv_X6_personAt hR rfl rfl (rtD_le (by decide) (by decide)) ⟨rfl, rfl⟩ (Nat.le_of_ble_eq_true rfl) ⟨Nat.zero_le _, Nat.zero_le _⟩ dX6_away_9 ?_
  refine lv_astore (lv' := [(5, .ref (g.ad 6 (o9))), (4, .ref (g.ad 6 (p9))), (0, .ref (g.ad 1 0)), (1, .int (nI p9)), (2, .int (v9)), (3, .int (nI o9))]) hx hb dX6_away_12 hl (by decide) rfl (fun ls hl => ?_)
  refine lv_iload_n hx hb dX6_away_14 rfl (lv_at hl 4 rfl) ?_
  refine lv_iconst (v := 0) hx hb dX6_away_15 (by decide) ?_
  refine lv_bipush (v := 119) hx hb dX6_away_16 (by decide) ?_
  exact tc_S (As := [.int (v9), .int (0), .int (119)]) hx hb hml hown hY hZ hnt hlocks hl (t_X6_checkRange l E hI hst hbad) (zm_X6_78 hC.1) kv_X6_checkRange hR rfl rfl (ttD_le (by decide) (by decide)) ⟨rfl, rfl⟩ (Nat.le_of_ble_eq_true rfl) ⟨Nat.le_refl 1, Nat.le_refl 6⟩ dX6_away_18
set_option maxRecDepth 100000 in
set_option maxHeartbeats 4000000 in
theorem t_X6_away_4 (l : Launch) (E : EE) {S : St} {g : Gh} (hI : Inv S) (hst : l.stackTraces = false) {p9 : Nat} (hp9 : p9 < S.np) {v9 : Int32} (hv91 : ¬ v9 < 0) (hv92 : ¬ 119 < v9) : TM l E yX6_away cX6_away 7 (some .boolean) (tD 8) [.ref (g.ad 1 0), .int (nI p9), .int (v9), .int (nI p9)] (RA E S g) "java/lang/IllegalArgumentException" := by
  refine tm_of rfl (Nat.le_of_ble_eq_true rfl) (fun p e s m below meth c ls hx hb hr hml (hown : s.vm.findClass RX6 = some m.cls) hY hZ hnt hlocks hR hl => ?_)
  have hC := hY.1
  have hl : lv_has ls 7 [(0, .ref (g.ad 1 0)), (1, .int (nI p9)), (2, .int (v9)), (3, .int (nI p9))] := hl
  refine lv_aload_n hx hb dX6_away_0 rfl (lv_at hl 0 rfl) ?_
  refine lv_iload_n hx hb dX6_away_1 rfl (lv_at hl 1 rfl) ?_
  refine rc_V (As := [.int (nI p9)]) hx hb hml hown hC hl (c_X6_personAt l E hI hp9) (rec_of hC (RA.x hR) rfl) (zm_X6_47 hC.1) kv_X6_personAt hR rfl rfl (rtD_le (by decide) (by decide)) ⟨rfl, rfl⟩ (Nat.le_of_ble_eq_true rfl) ⟨Nat.zero_le _, Nat.zero_le _⟩ dX6_away_2 ?_
  refine lv_astore (lv' := [(4, .ref (g.ad 6 (p9))), (0, .ref (g.ad 1 0)), (1, .int (nI p9)), (2, .int (v9)), (3, .int (nI p9))]) hx hb dX6_away_5 hl (by decide) rfl (fun ls hl => ?_)
  refine lv_aload_n hx hb dX6_away_7 rfl (lv_at hl 1 rfl) ?_
  refine lv_iload_n hx hb dX6_away_8 rfl (lv_at hl 4 rfl) ?_
  refine rc_V (As := [.int (nI p9)]) hx hb hml hown hC hl (c_X6_personAt l E hI hp9) (rec_of hC (RA.x hR) rfl) (zm_X6_47 hC.1) kv_X6_personAt hR rfl rfl (rtD_le (by decide) (by decide)) ⟨rfl, rfl⟩ (Nat.le_of_ble_eq_true rfl) ⟨Nat.zero_le _, Nat.zero_le _⟩ dX6_away_9 ?_
  refine lv_astore (lv' := [(5, .ref (g.ad 6 (p9))), (4, .ref (g.ad 6 (p9))), (0, .ref (g.ad 1 0)), (1, .int (nI p9)), (2, .int (v9)), (3, .int (nI p9))]) hx hb dX6_away_12 hl (by decide) rfl (fun ls hl => ?_)
  refine lv_iload_n hx hb dX6_away_14 rfl (lv_at hl 4 rfl) ?_
  refine lv_iconst (v := 0) hx hb dX6_away_15 (by decide) ?_
  refine lv_bipush (v := 119) hx hb dX6_away_16 (by decide) ?_
  refine rc_S0 (As := [.int (v9), .int (0), .int (119)]) hx hb hml hown hC hl (c_X6_checkRange l E hI hv91 hv92) (zm_X6_78 hC.1) kv_X6_checkRange hR rfl rfl (rtD_le (by decide) (by decide)) ⟨rfl, rfl⟩ (Nat.le_of_ble_eq_true rfl) ⟨Nat.zero_le _, Nat.zero_le _⟩ dX6_away_18 ?_
  refine lv_iload_n hx hb dX6_away_21 rfl (lv_at hl 5 rfl) ?_
  refine lv_iload_n hx hb dX6_away_22 rfl (lv_at hl 3 rfl) ?_
  refine lv_icmp_ne (tgt := 36) hx hb dX6_away_23 (by decide) (fun c_23 => ?_) (fun c_23 => ?_)
  · exact absurd rfl c_23
  ·
    exact xt_IAE (is := 88) (text := "nobody stands in for oneself") hst hx hb hml hown hY hZ hnt hlocks hl (by decide) dX6_away_26 dX6_away_29 dX6_away_30 dX6_away_32 dX6_away_35
set_option maxRecDepth 100000 in
set_option maxHeartbeats 4000000 in
theorem t_X6_trip_1 (l : Launch) (E : EE) {S : St} {g : Gh} (hI : Inv S) (hst : l.stackTraces = false) {p9 : Int32} (hbad : p9 < 0 ∨ nI S.np ≤ p9) {l9 : Int32} {f9 : Int32} {t9 : Int32} {x9 : Int32} : TM l E yX6_trip cX6_trip 8 (some .int) (tD 8) [.ref (g.ad 1 0), .int (p9), .int (l9), .int (f9), .int (t9), .int (x9)] (RA E S g) "java/lang/IndexOutOfBoundsException" := by
  refine tm_of rfl (Nat.le_of_ble_eq_true rfl) (fun p e s m below meth c ls hx hb hr hml (hown : s.vm.findClass RX6 = some m.cls) hY hZ hnt hlocks hR hl => ?_)
  have hC := hY.1
  have hl : lv_has ls 8 [(0, .ref (g.ad 1 0)), (1, .int (p9)), (2, .int (l9)), (3, .int (f9)), (4, .int (t9)), (5, .int (x9))] := hl
  refine lv_aload_n hx hb dX6_trip_0 rfl (lv_at hl 0 rfl) ?_
  refine lv_iload_n hx hb dX6_trip_1 rfl (lv_at hl 1 rfl) ?_
  exact tc_V (As := [.int (p9)]) hx hb hml hown hY hZ hnt hlocks hl (t_X6_personAt l E hI hst hbad) (rec_of hC (RA.x hR) rfl) (zm_X6_47 hC.1) kv_X6_personAt hR rfl rfl (ttD_le (by decide) (by decide)) ⟨rfl, rfl⟩ (Nat.le_of_ble_eq_true rfl) ⟨Nat.le_refl 1, Nat.le_refl 6⟩ dX6_trip_2
set_option maxRecDepth 100000 in
set_option maxHeartbeats 4000000 in
theorem t_X6_trip_2 (l : Launch) (E : EE) {S : St} {g : Gh} (hI : Inv S) (hst : l.stackTraces = false) {p9 : Nat} (hp9 : p9 < S.np) {l9 : Int32} (hbad : l9 < 0 ∨ 3 ≤ l9) {f9 : Int32} {t9 : Int32} {x9 : Int32} : TM l E yX6_trip cX6_trip 8 (some .int) (tD 8) [.ref (g.ad 1 0), .int (nI p9), .int (l9), .int (f9), .int (t9), .int (x9)] (RA E S g) "java/lang/IndexOutOfBoundsException" := by
  refine tm_of rfl (Nat.le_of_ble_eq_true rfl) (fun p e s m below meth c ls hx hb hr hml (hown : s.vm.findClass RX6 = some m.cls) hY hZ hnt hlocks hR hl => ?_)
  have hC := hY.1
  have hl : lv_has ls 8 [(0, .ref (g.ad 1 0)), (1, .int (nI p9)), (2, .int (l9)), (3, .int (f9)), (4, .int (t9)), (5, .int (x9))] := hl
  refine lv_aload_n hx hb dX6_trip_0 rfl (lv_at hl 0 rfl) ?_
  refine lv_iload_n hx hb dX6_trip_1 rfl (lv_at hl 1 rfl) ?_
  refine rc_V (As := [.int (nI p9)]) hx hb hml hown hC hl (c_X6_personAt l E hI hp9) (rec_of hC (RA.x hR) rfl) (zm_X6_47 hC.1) kv_X6_personAt hR rfl rfl (rtD_le (by decide) (by decide)) ⟨rfl, rfl⟩ (Nat.le_of_ble_eq_true rfl) ⟨Nat.zero_le _, Nat.zero_le _⟩ dX6_trip_2 ?_
  refine lv_astore (lv' := [(6, .ref (g.ad 6 (p9))), (0, .ref (g.ad 1 0)), (1, .int (nI p9)), (2, .int (l9)), (3, .int (f9)), (4, .int (t9)), (5, .int (x9))]) hx hb dX6_trip_5 hl (by decide) rfl (fun ls hl => ?_)
  refine lv_iload_n hx hb dX6_trip_7 rfl (lv_at hl 3 rfl) ?_
  exact tc_S (As := [.int (l9)]) hx hb hml hown hY hZ hnt hlocks hl (t_X6_checkLand l E hI hst hbad) (zm_X6_105 hC.1) kv_X6_checkLand hR rfl rfl (ttD_le (by decide) (by decide)) ⟨rfl, rfl⟩ (Nat.le_of_ble_eq_true rfl) ⟨Nat.le_refl 1, Nat.le_refl 6⟩ dX6_trip_8
set_option maxRecDepth 100000 in
set_option maxHeartbeats 4000000 in
theorem t_X6_trip_3 (l : Launch) (E : EE) {S : St} {g : Gh} (hI : Inv S) (hst : l.stackTraces = false) {p9 : Nat} (hp9 : p9 < S.np) {l9 : Nat} (hl9 : l9 < 3) {f9 : Int32} (hbad : f9 < 0 ∨ 119 < f9) {t9 : Int32} {x9 : Int32} : TM l E yX6_trip cX6_trip 8 (some .int) (tD 8) [.ref (g.ad 1 0), .int (nI p9), .int (nI l9), .int (f9), .int (t9), .int (x9)] (RA E S g) "java/lang/IllegalArgumentException" := by
  refine tm_of rfl (Nat.le_of_ble_eq_true rfl) (fun p e s m below meth c ls hx hb hr hml (hown : s.vm.findClass RX6 = some m.cls) hY hZ hnt hlocks hR hl => ?_)
  have hC := hY.1
  have hl : lv_has ls 8 [(0, .ref (g.ad 1 0)), (1, .int (nI p9)), (2, .int (nI l9)), (3, .int (f9)), (4, .int (t9)), (5, .int (x9))] := hl
  refine lv_aload_n hx hb dX6_trip_0 rfl (lv_at hl 0 rfl) ?_
  refine lv_iload_n hx hb dX6_trip_1 rfl (lv_at hl 1 rfl) ?_
  refine rc_V (As := [.int (nI p9)]) hx hb hml hown hC hl (c_X6_personAt l E hI hp9) (rec_of hC (RA.x hR) rfl) (zm_X6_47 hC.1) kv_X6_personAt hR rfl rfl (rtD_le (by decide) (by decide)) ⟨rfl, rfl⟩ (Nat.le_of_ble_eq_true rfl) ⟨Nat.zero_le _, Nat.zero_le _⟩ dX6_trip_2 ?_
  refine lv_astore (lv' := [(6, .ref (g.ad 6 (p9))), (0, .ref (g.ad 1 0)), (1, .int (nI p9)), (2, .int (nI l9)), (3, .int (f9)), (4, .int (t9)), (5, .int (x9))]) hx hb dX6_trip_5 hl (by decide) rfl (fun ls hl => ?_)
  refine lv_iload_n hx hb dX6_trip_7 rfl (lv_at hl 3 rfl) ?_
  refine rc_S0 (As := [.int (nI l9)]) hx hb hml hown hC hl (c_X6_checkLand l E hI (k9 := l9) hl9) (zm_X6_105 hC.1) kv_X6_checkLand hR rfl rfl (rtD_le (by decide) (by decide)) ⟨rfl, rfl⟩ (Nat.le_of_ble_eq_true rfl) ⟨Nat.zero_le _, Nat.zero_le _⟩ dX6_trip_8 ?_
  refine lv_iload_n hx hb dX6_trip_11 rfl (lv_at hl 4 rfl) ?_
  refine lv_iconst (v := 0) hx hb dX6_trip_12 (by decide) ?_
  refine lv_bipush (v := 119) hx hb dX6_trip_13 (by decide) ?_
  exact tc_S (As := [.int (f9), .int (0), .int (119)]) hx hb hml hown hY hZ hnt hlocks hl (t_X6_checkRange l E hI hst hbad) (zm_X6_78 hC.1) kv_X6_checkRange hR rfl rfl (ttD_le (by decide) (by decide)) ⟨rfl, rfl⟩ (Nat.le_of_ble_eq_true rfl) ⟨Nat.le_refl 1, Nat.le_refl 6⟩ dX6_trip_15
set_option maxRecDepth 100000 in
set_option maxHeartbeats 4000000 in
theorem t_X6_trip_4 (l : Launch) (E : EE) {S : St} {g : Gh} (hI : Inv S) (hst : l.stackTraces = false) {p9 : Nat} (hp9 : p9 < S.np) {l9 : Nat} (hl9 : l9 < 3) {f9 : Int32} (hf91 : ¬ f9 < 0) (hf92 : ¬ 119 < f9) {t9 : Int32} (hbad : t9 < f9 ∨ 119 < t9) {x9 : Int32} : TM l E yX6_trip cX6_trip 8 (some .int) (tD 8) [.ref (g.ad 1 0), .int (nI p9), .int (nI l9), .int (f9), .int (t9), .int (x9)] (RA E S g) "java/lang/IllegalArgumentException" := by
  refine tm_of rfl (Nat.le_of_ble_eq_true rfl) (fun p e s m below meth c ls hx hb hr hml (hown : s.vm.findClass RX6 = some m.cls) hY hZ hnt hlocks hR hl => ?_)
  have hC := hY.1
  have hl : lv_has ls 8 [(0, .ref (g.ad 1 0)), (1, .int (nI p9)), (2, .int (nI l9)), (3, .int (f9)), (4, .int (t9)), (5, .int (x9))] := hl
  refine lv_aload_n hx hb dX6_trip_0 rfl (lv_at hl 0 rfl) ?_
  refine lv_iload_n hx hb dX6_trip_1 rfl (lv_at hl 1 rfl) ?_
  refine rc_V (As := [.int (nI p9)]) hx hb hml hown hC hl (c_X6_personAt l E hI hp9) (rec_of hC (RA.x hR) rfl) (zm_X6_47 hC.1) kv_X6_personAt hR rfl rfl (rtD_le (by decide) (by decide)) ⟨rfl, rfl⟩ (Nat.le_of_ble_eq_true rfl) ⟨Nat.zero_le _, Nat.zero_le _⟩ dX6_trip_2 ?_
  refine lv_astore (lv' := [(6, .ref (g.ad 6 (p9))), (0, .ref (g.ad 1 0)), (1, .int (nI p9)), (2, .int (nI l9)), (3, .int (f9)), (4, .int (t9)), (5, .int (x9))]) hx hb dX6_trip_5 hl (by decide) rfl (fun ls hl => ?_)
  refine lv_iload_n hx hb dX6_trip_7 rfl (lv_at hl 3 rfl) ?_
  refine rc_S0 (As := [.int (nI l9)]) hx hb hml hown hC hl (c_X6_checkLand l E hI (k9 := l9) hl9) (zm_X6_105 hC.1) kv_X6_checkLand hR rfl rfl (rtD_le (by decide) (by decide)) ⟨rfl, rfl⟩ (Nat.le_of_ble_eq_true rfl) ⟨Nat.zero_le _, Nat.zero_le _⟩ dX6_trip_8 ?_
  refine lv_iload_n hx hb dX6_trip_11 rfl (lv_at hl 4 rfl) ?_
  refine lv_iconst (v := 0) hx hb dX6_trip_12 (by decide) ?_
  refine lv_bipush (v := 119) hx hb dX6_trip_13 (by decide) ?_
  refine rc_S0 (As := [.int (f9), .int (0), .int (119)]) hx hb hml hown hC hl (c_X6_checkRange l E hI hf91 hf92) (zm_X6_78 hC.1) kv_X6_checkRange hR rfl rfl (rtD_le (by decide) (by decide)) ⟨rfl, rfl⟩ (Nat.le_of_ble_eq_true rfl) ⟨Nat.zero_le _, Nat.zero_le _⟩ dX6_trip_15 ?_
  refine lv_iload hx hb dX6_trip_18 (lv_at hl 5 rfl) ?_
  refine lv_iload_n hx hb dX6_trip_20 rfl (lv_at hl 4 rfl) ?_
  refine lv_bipush (v := 119) hx hb dX6_trip_21 (by decide) ?_
  exact tc_S (As := [.int (t9), .int (f9), .int (119)]) hx hb hml hown hY hZ hnt hlocks hl (t_X6_checkRange l E hI hst hbad) (zm_X6_78 hC.1) kv_X6_checkRange hR rfl rfl (ttD_le (by decide) (by decide)) ⟨rfl, rfl⟩ (Nat.le_of_ble_eq_true rfl) ⟨Nat.le_refl 1, Nat.le_refl 6⟩ dX6_trip_23
set_option maxRecDepth 100000 in
set_option maxHeartbeats 4000000 in
theorem t_X6_trip_5 (l : Launch) (E : EE) {S : St} {g : Gh} (hI : Inv S) (hst : l.stackTraces = false) {p9 : Nat} (hp9 : p9 < S.np) {l9 : Nat} (hl9 : l9 < 3) {f9 : Int32} (hf91 : ¬ f9 < 0) (hf92 : ¬ 119 < f9) {t9 : Int32} (ht91 : ¬ t9 < f9) (ht92 : ¬ 119 < t9) {x9 : Int32} (hbad : x9 < 0 ∨ 9999 < x9) : TM l E yX6_trip cX6_trip 8 (some .int) (tD 8) [.ref (g.ad 1 0), .int (nI p9), .int (nI l9), .int (f9), .int (t9), .int (x9)] (RA E S g) "java/lang/IllegalArgumentException" := by
  refine tm_of rfl (Nat.le_of_ble_eq_true rfl) (fun p e s m below meth c ls hx hb hr hml (hown : s.vm.findClass RX6 = some m.cls) hY hZ hnt hlocks hR hl => ?_)
  have hC := hY.1
  have hl : lv_has ls 8 [(0, .ref (g.ad 1 0)), (1, .int (nI p9)), (2, .int (nI l9)), (3, .int (f9)), (4, .int (t9)), (5, .int (x9))] := hl
  refine lv_aload_n hx hb dX6_trip_0 rfl (lv_at hl 0 rfl) ?_
  refine lv_iload_n hx hb dX6_trip_1 rfl (lv_at hl 1 rfl) ?_
  refine rc_V (As := [.int (nI p9)]) hx hb hml hown hC hl (c_X6_personAt l E hI hp9) (rec_of hC (RA.x hR) rfl) (zm_X6_47 hC.1) kv_X6_personAt hR rfl rfl (rtD_le (by decide) (by decide)) ⟨rfl, rfl⟩ (Nat.le_of_ble_eq_true rfl) ⟨Nat.zero_le _, Nat.zero_le _⟩ dX6_trip_2 ?_
  refine lv_astore (lv' := [(6, .ref (g.ad 6 (p9))), (0, .ref (g.ad 1 0)), (1, .int (nI p9)), (2, .int (nI l9)), (3, .int (f9)), (4, .int (t9)), (5, .int (x9))]) hx hb dX6_trip_5 hl (by decide) rfl (fun ls hl => ?_)
  refine lv_iload_n hx hb dX6_trip_7 rfl (lv_at hl 3 rfl) ?_
  refine rc_S0 (As := [.int (nI l9)]) hx hb hml hown hC hl (c_X6_checkLand l E hI (k9 := l9) hl9) (zm_X6_105 hC.1) kv_X6_checkLand hR rfl rfl (rtD_le (by decide) (by decide)) ⟨rfl, rfl⟩ (Nat.le_of_ble_eq_true rfl) ⟨Nat.zero_le _, Nat.zero_le _⟩ dX6_trip_8 ?_
  refine lv_iload_n hx hb dX6_trip_11 rfl (lv_at hl 4 rfl) ?_
  refine lv_iconst (v := 0) hx hb dX6_trip_12 (by decide) ?_
  refine lv_bipush (v := 119) hx hb dX6_trip_13 (by decide) ?_
  refine rc_S0 (As := [.int (f9), .int (0), .int (119)]) hx hb hml hown hC hl (c_X6_checkRange l E hI hf91 hf92) (zm_X6_78 hC.1) kv_X6_checkRange hR rfl rfl (rtD_le (by decide) (by decide)) ⟨rfl, rfl⟩ (Nat.le_of_ble_eq_true rfl) ⟨Nat.zero_le _, Nat.zero_le _⟩ dX6_trip_15 ?_
  refine lv_iload hx hb dX6_trip_18 (lv_at hl 5 rfl) ?_
  refine lv_iload_n hx hb dX6_trip_20 rfl (lv_at hl 4 rfl) ?_
  refine lv_bipush (v := 119) hx hb dX6_trip_21 (by decide) ?_
  refine rc_S0 (As := [.int (t9), .int (f9), .int (119)]) hx hb hml hown hC hl (c_X6_checkRange l E hI ht91 ht92) (zm_X6_78 hC.1) kv_X6_checkRange hR rfl rfl (rtD_le (by decide) (by decide)) ⟨rfl, rfl⟩ (Nat.le_of_ble_eq_true rfl) ⟨Nat.zero_le _, Nat.zero_le _⟩ dX6_trip_23 ?_
  refine lv_iload hx hb dX6_trip_26 (lv_at hl 6 rfl) ?_
  refine lv_iconst (v := 0) hx hb dX6_trip_28 (by decide) ?_
  refine lv_sipush (v := 9999) hx hb dX6_trip_29 (by decide) ?_
  exact tc_S (As := [.int (x9), .int (0), .int (9999)]) hx hb hml hown hY hZ hnt hlocks hl (t_X6_checkRange l E hI hst hbad) (zm_X6_78 hC.1) kv_X6_checkRange hR rfl rfl (ttD_le (by decide) (by decide)) ⟨rfl, rfl⟩ (Nat.le_of_ble_eq_true rfl) ⟨Nat.le_refl 1, Nat.le_refl 6⟩ dX6_trip_32
set_option maxRecDepth 100000 in
set_option maxHeartbeats 4000000 in
theorem t_X6_trip_6 (l : Launch) (E : EE) {S : St} {g : Gh} (hI : Inv S) (hst : l.stackTraces = false) {p9 : Nat} (hp9 : p9 < S.np) {l9 : Nat} (hl9 : l9 < 3) {f9 : Int32} (hf91 : ¬ f9 < 0) (hf92 : ¬ 119 < f9) {t9 : Int32} (ht91 : ¬ t9 < f9) (ht92 : ¬ 119 < t9) {x9 : Int32} (hx91 : ¬ x9 < 0) (hx92 : ¬ 9999 < x9) (hfull : 8 ≤ S.nt) : TM l E yX6_trip cX6_trip 8 (some .int) (tD 8) [.ref (g.ad 1 0), .int (nI p9), .int (nI l9), .int (f9), .int (t9), .int (x9)] (RA E S g) "java/lang/IllegalStateException" := by
  refine tm_of rfl (Nat.le_of_ble_eq_true rfl) (fun p e s m below meth c ls hx hb hr hml (hown : s.vm.findClass RX6 = some m.cls) hY hZ hnt hlocks hR hl => ?_)
  have hC := hY.1
  have hl : lv_has ls 8 [(0, .ref (g.ad 1 0)), (1, .int (nI p9)), (2, .int (nI l9)), (3, .int (f9)), (4, .int (t9)), (5, .int (x9))] := hl
  refine lv_aload_n hx hb dX6_trip_0 rfl (lv_at hl 0 rfl) ?_
  refine lv_iload_n hx hb dX6_trip_1 rfl (lv_at hl 1 rfl) ?_
  refine rc_V (As := [.int (nI p9)]) hx hb hml hown hC hl (c_X6_personAt l E hI hp9) (rec_of hC (RA.x hR) rfl) (zm_X6_47 hC.1) kv_X6_personAt hR rfl rfl (rtD_le (by decide) (by decide)) ⟨rfl, rfl⟩ (Nat.le_of_ble_eq_true rfl) ⟨Nat.zero_le _, Nat.zero_le _⟩ dX6_trip_2 ?_
  refine lv_astore (lv' := [(6, .ref (g.ad 6 (p9))), (0, .ref (g.ad 1 0)), (1, .int (nI p9)), (2, .int (nI l9)), (3, .int (f9)), (4, .int (t9)), (5, .int (x9))]) hx hb dX6_trip_5 hl (by decide) rfl (fun ls hl => ?_)
  refine lv_iload_n hx hb dX6_trip_7 rfl (lv_at hl 3 rfl) ?_
  refine rc_S0 (As := [.int (nI l9)]) hx hb hml hown hC hl (c_X6_checkLand l E hI (k9 := l9) hl9) (zm_X6_105 hC.1) kv_X6_checkLand hR rfl rfl (rtD_le (by decide) (by decide)) ⟨rfl, rfl⟩ (Nat.le_of_ble_eq_true rfl) ⟨Nat.zero_le _, Nat.zero_le _⟩ dX6_trip_8 ?_
  refine lv_iload_n hx hb dX6_trip_11 rfl (lv_at hl 4 rfl) ?_
  refine lv_iconst (v := 0) hx hb dX6_trip_12 (by decide) ?_
  refine lv_bipush (v := 119) hx hb dX6_trip_13 (by decide) ?_
  refine rc_S0 (As := [.int (f9), .int (0), .int (119)]) hx hb hml hown hC hl (c_X6_checkRange l E hI hf91 hf92) (zm_X6_78 hC.1) kv_X6_checkRange hR rfl rfl (rtD_le (by decide) (by decide)) ⟨rfl, rfl⟩ (Nat.le_of_ble_eq_true rfl) ⟨Nat.zero_le _, Nat.zero_le _⟩ dX6_trip_15 ?_
  refine lv_iload hx hb dX6_trip_18 (lv_at hl 5 rfl) ?_
  refine lv_iload_n hx hb dX6_trip_20 rfl (lv_at hl 4 rfl) ?_
  refine lv_bipush (v := 119) hx hb dX6_trip_21 (by decide) ?_
  refine rc_S0 (As := [.int (t9), .int (f9), .int (119)]) hx hb hml hown hC hl (c_X6_checkRange l E hI ht91 ht92) (zm_X6_78 hC.1) kv_X6_checkRange hR rfl rfl (rtD_le (by decide) (by decide)) ⟨rfl, rfl⟩ (Nat.le_of_ble_eq_true rfl) ⟨Nat.zero_le _, Nat.zero_le _⟩ dX6_trip_23 ?_
  refine lv_iload hx hb dX6_trip_26 (lv_at hl 6 rfl) ?_
  refine lv_iconst (v := 0) hx hb dX6_trip_28 (by decide) ?_
  refine lv_sipush (v := 9999) hx hb dX6_trip_29 (by decide) ?_
  refine rc_S0 (As := [.int (x9), .int (0), .int (9999)]) hx hb hml hown hC hl (c_X6_checkRange l E hI hx91 hx92) (zm_X6_78 hC.1) kv_X6_checkRange hR rfl rfl (rtD_le (by decide) (by decide)) ⟨rfl, rfl⟩ (Nat.le_of_ble_eq_true rfl) ⟨Nat.zero_le _, Nat.zero_le _⟩ dX6_trip_32 ?_
  refine lv_aload_n hx hb dX6_trip_35 rfl (lv_at hl 1 rfl) ?_
  refine gf_X6_1 hx hb hown hC (RA.x hR) (zf_X6_16 hC.1) dX6_trip_36 ?_
  refine rc_V (As := []) hx hb hml hown hC hl (c_size l E _ _ _ _) (rec_of hC (RA.ls hR (by decide : 1 < 4)) rfl) (zm_X6_51 hC.1) kv_Jx4a65c_size_8abf5 (RA.ls hR (by decide : 1 < 4)) rfl rfl (rtD_le (by decide) (by decide)) ⟨rfl, rfl⟩ (Nat.le_of_ble_eq_true rfl) ⟨Nat.zero_le _, Nat.zero_le _⟩ dX6_trip_39 ?_
  refine lv_bipush (v := 8) hx hb dX6_trip_42 (by decide) ?_
  refine lv_icmp_lt (tgt := 57) hx hb dX6_trip_44 (by decide) (fun c_44 => ?_) (fun c_44 => ?_)
  · exact absurd c_44 (nI_nlt (a := S.nt) (b := 8) hfull (by have := hI.1; omega))
  ·
    exact xt_ISE (is := 108) (text := "there are 8 trips") hst hx hb hml hown hY hZ hnt hlocks hl (by decide) dX6_trip_47 dX6_trip_50 dX6_trip_51 dX6_trip_53 dX6_trip_56
set_option maxRecDepth 100000 in
set_option maxHeartbeats 4000000 in
theorem t_X6_ofPerson_1 (l : Launch) (E : EE) {S : St} {g : Gh} (hI : Inv S) (hst : l.stackTraces = false) {p9 : Int32} (hbad : p9 < 0 ∨ nI S.np ≤ p9) {w9 : Int32} : TM l E yX6_ofPerson cX6_ofPerson 4 (some .int) (tD 8) [.ref (g.ad 1 0), .int (p9), .int (w9)] (RA E S g) "java/lang/IndexOutOfBoundsException" := by
  refine tm_of rfl (Nat.le_of_ble_eq_true rfl) (fun p e s m below meth c ls hx hb hr hml (hown : s.vm.findClass RX6 = some m.cls) hY hZ hnt hlocks hR hl => ?_)
  have hC := hY.1
  have hl : lv_has ls 4 [(0, .ref (g.ad 1 0)), (1, .int (p9)), (2, .int (w9))] := hl
  refine lv_aload_n hx hb dX6_ofPerson_0 rfl (lv_at hl 0 rfl) ?_
  refine lv_iload_n hx hb dX6_ofPerson_1 rfl (lv_at hl 1 rfl) ?_
  exact tc_V (As := [.int (p9)]) hx hb hml hown hY hZ hnt hlocks hl (t_X6_personAt l E hI hst hbad) (rec_of hC (RA.x hR) rfl) (zm_X6_47 hC.1) kv_X6_personAt hR rfl rfl (ttD_le (by decide) (by decide)) ⟨rfl, rfl⟩ (Nat.le_of_ble_eq_true rfl) ⟨Nat.le_refl 1, Nat.le_refl 6⟩ dX6_ofPerson_2
set_option maxRecDepth 100000 in
set_option maxHeartbeats 4000000 in
theorem t_X6_ofPerson_2 (l : Launch) (E : EE) {S : St} {g : Gh} (hI : Inv S) (hst : l.stackTraces = false) {p9 : Nat} (hp9 : p9 < S.np) {w9 : Int32} (hbad : w9 < 0 ∨ 6 < w9) : TM l E yX6_ofPerson cX6_ofPerson 4 (some .int) (tD 8) [.ref (g.ad 1 0), .int (nI p9), .int (w9)] (RA E S g) "java/lang/IllegalArgumentException" := by
  refine tm_of rfl (Nat.le_of_ble_eq_true rfl) (fun p e s m below meth c ls hx hb hr hml (hown : s.vm.findClass RX6 = some m.cls) hY hZ hnt hlocks hR hl => ?_)
  have hC := hY.1
  have hl : lv_has ls 4 [(0, .ref (g.ad 1 0)), (1, .int (nI p9)), (2, .int (w9))] := hl
  refine lv_aload_n hx hb dX6_ofPerson_0 rfl (lv_at hl 0 rfl) ?_
  refine lv_iload_n hx hb dX6_ofPerson_1 rfl (lv_at hl 1 rfl) ?_
  refine rc_V (As := [.int (nI p9)]) hx hb hml hown hC hl (c_X6_personAt l E hI hp9) (rec_of hC (RA.x hR) rfl) (zm_X6_47 hC.1) kv_X6_personAt hR rfl rfl (rtD_le (by decide) (by decide)) ⟨rfl, rfl⟩ (Nat.le_of_ble_eq_true rfl) ⟨Nat.zero_le _, Nat.zero_le _⟩ dX6_ofPerson_2 ?_
  refine lv_astore_n (lv' := [(3, .ref (g.ad 6 (p9))), (0, .ref (g.ad 1 0)), (1, .int (nI p9)), (2, .int (w9))]) hx hb dX6_ofPerson_5 rfl hl (by decide) rfl (fun ls hl => ?_)
  refine lv_iload_n hx hb dX6_ofPerson_6 rfl (lv_at hl 3 rfl) ?_
  refine lv_iconst (v := 0) hx hb dX6_ofPerson_7 (by decide) ?_
  refine lv_bipush (v := 6) hx hb dX6_ofPerson_8 (by decide) ?_
  exact tc_S (As := [.int (w9), .int (0), .int (6)]) hx hb hml hown hY hZ hnt hlocks hl (t_X6_checkRange l E hI hst hbad) (zm_X6_78 hC.1) kv_X6_checkRange hR rfl rfl (ttD_le (by decide) (by decide)) ⟨rfl, rfl⟩ (Nat.le_of_ble_eq_true rfl) ⟨Nat.le_refl 1, Nat.le_refl 6⟩ dX6_ofPerson_10
set_option maxRecDepth 100000 in
set_option maxHeartbeats 4000000 in
theorem t_X6_maySpend_1 (l : Launch) (E : EE) {S : St} {g : Gh} (hI : Inv S) (hst : l.stackTraces = false) {p9 : Int32} (hbad : p9 < 0 ∨ nI S.np ≤ p9) {k9 : Int32} {l9 : Int32} : TM l E yX6_maySpend cX6_maySpend 5 (some .int) (tD 8) [.ref (g.ad 1 0), .int (p9), .int (k9), .int (l9)] (RA E S g) "java/lang/IndexOutOfBoundsException" := by
  refine tm_of rfl (Nat.le_of_ble_eq_true rfl) (fun p e s m below meth c ls hx hb hr hml (hown : s.vm.findClass RX6 = some m.cls) hY hZ hnt hlocks hR hl => ?_)
  have hC := hY.1
  have hl : lv_has ls 5 [(0, .ref (g.ad 1 0)), (1, .int (p9)), (2, .int (k9)), (3, .int (l9))] := hl
  refine lv_aload_n hx hb dX6_maySpend_0 rfl (lv_at hl 0 rfl) ?_
  refine lv_iload_n hx hb dX6_maySpend_1 rfl (lv_at hl 1 rfl) ?_
  exact tc_V (As := [.int (p9)]) hx hb hml hown hY hZ hnt hlocks hl (t_X6_personAt l E hI hst hbad) (rec_of hC (RA.x hR) rfl) (zm_X6_47 hC.1) kv_X6_personAt hR rfl rfl (ttD_le (by decide) (by decide)) ⟨rfl, rfl⟩ (Nat.le_of_ble_eq_true rfl) ⟨Nat.le_refl 1, Nat.le_refl 6⟩ dX6_maySpend_2
set_option maxRecDepth 100000 in
set_option maxHeartbeats 4000000 in
theorem t_X6_maySpend_2 (l : Launch) (E : EE) {S : St} {g : Gh} (hI : Inv S) (hst : l.stackTraces = false) {p9 : Nat} (hp9 : p9 < S.np) {k9 : Int32} (hbad : k9 < 0 ∨ 4 ≤ k9) {l9 : Int32} : TM l E yX6_maySpend cX6_maySpend 5 (some .int) (tD 8) [.ref (g.ad 1 0), .int (nI p9), .int (k9), .int (l9)] (RA E S g) "java/lang/IndexOutOfBoundsException" := by
  refine tm_of rfl (Nat.le_of_ble_eq_true rfl) (fun p e s m below meth c ls hx hb hr hml (hown : s.vm.findClass RX6 = some m.cls) hY hZ hnt hlocks hR hl => ?_)
  have hC := hY.1
  have hl : lv_has ls 5 [(0, .ref (g.ad 1 0)), (1, .int (nI p9)), (2, .int (k9)), (3, .int (l9))] := hl
  refine lv_aload_n hx hb dX6_maySpend_0 rfl (lv_at hl 0 rfl) ?_
  refine lv_iload_n hx hb dX6_maySpend_1 rfl (lv_at hl 1 rfl) ?_
  refine rc_V (As := [.int (nI p9)]) hx hb hml hown hC hl (c_X6_personAt l E hI hp9) (rec_of hC (RA.x hR) rfl) (zm_X6_47 hC.1) kv_X6_personAt hR rfl rfl (rtD_le (by decide) (by decide)) ⟨rfl, rfl⟩ (Nat.le_of_ble_eq_true rfl) ⟨Nat.zero_le _, Nat.zero_le _⟩ dX6_maySpend_2 ?_
  refine lv_astore (lv' := [(4, .ref (g.ad 6 (p9))), (0, .ref (g.ad 1 0)), (1, .int (nI p9)), (2, .int (k9)), (3, .int (l9))]) hx hb dX6_maySpend_5 hl (by decide) rfl (fun ls hl => ?_)
  refine lv_iload_n hx hb dX6_maySpend_7 rfl (lv_at hl 3 rfl) ?_
  exact tc_S (As := [.int (k9)]) hx hb hml hown hY hZ hnt hlocks hl (t_X6_checkKind l E hI hst hbad) (zm_X6_74 hC.1) kv_X6_checkKind hR rfl rfl (ttD_le (by decide) (by decide)) ⟨rfl, rfl⟩ (Nat.le_of_ble_eq_true rfl) ⟨Nat.le_refl 1, Nat.le_refl 6⟩ dX6_maySpend_8
set_option maxRecDepth 100000 in
set_option maxHeartbeats 4000000 in
theorem t_X6_maySpend_3 (l : Launch) (E : EE) {S : St} {g : Gh} (hI : Inv S) (hst : l.stackTraces = false) {p9 : Nat} (hp9 : p9 < S.np) {k9 : Nat} (hk9 : k9 < 4) {l9 : Int32} (hbad : l9 < 0 ∨ 3 ≤ l9) : TM l E yX6_maySpend cX6_maySpend 5 (some .int) (tD 8) [.ref (g.ad 1 0), .int (nI p9), .int (nI k9), .int (l9)] (RA E S g) "java/lang/IndexOutOfBoundsException" := by
  refine tm_of rfl (Nat.le_of_ble_eq_true rfl) (fun p e s m below meth c ls hx hb hr hml (hown : s.vm.findClass RX6 = some m.cls) hY hZ hnt hlocks hR hl => ?_)
  have hC := hY.1
  have hl : lv_has ls 5 [(0, .ref (g.ad 1 0)), (1, .int (nI p9)), (2, .int (nI k9)), (3, .int (l9))] := hl
  refine lv_aload_n hx hb dX6_maySpend_0 rfl (lv_at hl 0 rfl) ?_
  refine lv_iload_n hx hb dX6_maySpend_1 rfl (lv_at hl 1 rfl) ?_
  refine rc_V (As := [.int (nI p9)]) hx hb hml hown hC hl (c_X6_personAt l E hI hp9) (rec_of hC (RA.x hR) rfl) (zm_X6_47 hC.1) kv_X6_personAt hR rfl rfl (rtD_le (by decide) (by decide)) ⟨rfl, rfl⟩ (Nat.le_of_ble_eq_true rfl) ⟨Nat.zero_le _, Nat.zero_le _⟩ dX6_maySpend_2 ?_
  refine lv_astore (lv' := [(4, .ref (g.ad 6 (p9))), (0, .ref (g.ad 1 0)), (1, .int (nI p9)), (2, .int (nI k9)), (3, .int (l9))]) hx hb dX6_maySpend_5 hl (by decide) rfl (fun ls hl => ?_)
  refine lv_iload_n hx hb dX6_maySpend_7 rfl (lv_at hl 3 rfl) ?_
  refine rc_S0 (As := [.int (nI k9)]) hx hb hml hown hC hl (c_X6_checkKind l E hI (k9 := k9) hk9) (zm_X6_74 hC.1) kv_X6_checkKind hR rfl rfl (rtD_le (by decide) (by decide)) ⟨rfl, rfl⟩ (Nat.le_of_ble_eq_true rfl) ⟨Nat.zero_le _, Nat.zero_le _⟩ dX6_maySpend_8 ?_
  refine lv_iload_n hx hb dX6_maySpend_11 rfl (lv_at hl 4 rfl) ?_
  exact tc_S (As := [.int (l9)]) hx hb hml hown hY hZ hnt hlocks hl (t_X6_checkLand l E hI hst hbad) (zm_X6_105 hC.1) kv_X6_checkLand hR rfl rfl (ttD_le (by decide) (by decide)) ⟨rfl, rfl⟩ (Nat.le_of_ble_eq_true rfl) ⟨Nat.le_refl 1, Nat.le_refl 6⟩ dX6_maySpend_12
set_option maxRecDepth 100000 in
set_option maxHeartbeats 4000000 in
theorem t_X6_plan_1 (l : Launch) (E : EE) {S : St} {g : Gh} (hI : Inv S) (hst : l.stackTraces = false) {k9 : Int32} (hbad : k9 < 0 ∨ 4 ≤ k9) {y9 : Int32} {v9 : Int32} : TM l E yX6_plan cX6_plan 4 (some .int) (tD 8) [.ref (g.ad 1 0), .int (k9), .int (y9), .int (v9)] (RA E S g) "java/lang/IndexOutOfBoundsException" := by
  refine tm_of rfl (Nat.le_of_ble_eq_true rfl) (fun p e s m below meth c ls hx hb hr hml (hown : s.vm.findClass RX6 = some m.cls) hY hZ hnt hlocks hR hl => ?_)
  have hC := hY.1
  have hl : lv_has ls 4 [(0, .ref (g.ad 1 0)), (1, .int (k9)), (2, .int (y9)), (3, .int (v9))] := hl
  refine lv_iload_n hx hb dX6_plan_0 rfl (lv_at hl 1 rfl) ?_
  exact tc_S (As := [.int (k9)]) hx hb hml hown hY hZ hnt hlocks hl (t_X6_checkKind l E hI hst hbad) (zm_X6_74 hC.1) kv_X6_checkKind hR rfl rfl (ttD_le (by decide) (by decide)) ⟨rfl, rfl⟩ (Nat.le_of_ble_eq_true rfl) ⟨Nat.le_refl 1, Nat.le_refl 6⟩ dX6_plan_1
set_option maxRecDepth 100000 in
set_option maxHeartbeats 4000000 in
theorem t_X6_plan_2 (l : Launch) (E : EE) {S : St} {g : Gh} (hI : Inv S) (hst : l.stackTraces = false) {k9 : Nat} (hk9 : k9 < 4) {y9 : Int32} (hbad : y9 < 0 ∨ 4 ≤ y9) {v9 : Int32} : TM l E yX6_plan cX6_plan 4 (some .int) (tD 8) [.ref (g.ad 1 0), .int (nI k9), .int (y9), .int (v9)] (RA E S g) "java/lang/IndexOutOfBoundsException" := by
  refine tm_of rfl (Nat.le_of_ble_eq_true rfl) (fun p e s m below meth c ls hx hb hr hml (hown : s.vm.findClass RX6 = some m.cls) hY hZ hnt hlocks hR hl => ?_)
  have hC := hY.1
  have hl : lv_has ls 4 [(0, .ref (g.ad 1 0)), (1, .int (nI k9)), (2, .int (y9)), (3, .int (v9))] := hl
  refine lv_iload_n hx hb dX6_plan_0 rfl (lv_at hl 1 rfl) ?_
  refine rc_S0 (As := [.int (nI k9)]) hx hb hml hown hC hl (c_X6_checkKind l E hI (k9 := k9) hk9) (zm_X6_74 hC.1) kv_X6_checkKind hR rfl rfl (rtD_le (by decide) (by decide)) ⟨rfl, rfl⟩ (Nat.le_of_ble_eq_true rfl) ⟨Nat.zero_le _, Nat.zero_le _⟩ dX6_plan_1 ?_
  refine lv_iload_n hx hb dX6_plan_4 rfl (lv_at hl 2 rfl) ?_
  exact tc_S (As := [.int (y9)]) hx hb hml hown hY hZ hnt hlocks hl (t_X6_checkPeriod l E hI hst hbad) (zm_X6_143 hC.1) kv_X6_checkPeriod hR rfl rfl (ttD_le (by decide) (by decide)) ⟨rfl, rfl⟩ (Nat.le_of_ble_eq_true rfl) ⟨Nat.le_refl 1, Nat.le_refl 6⟩ dX6_plan_5
set_option maxRecDepth 100000 in
set_option maxHeartbeats 4000000 in
theorem t_X6_plan_3 (l : Launch) (E : EE) {S : St} {g : Gh} (hI : Inv S) (hst : l.stackTraces = false) {k9 : Nat} (hk9 : k9 < 4) {y9 : Nat} (hy9 : y9 < 4) {v9 : Int32} (hbad : v9 < 0 ∨ 99999 < v9) : TM l E yX6_plan cX6_plan 4 (some .int) (tD 8) [.ref (g.ad 1 0), .int (nI k9), .int (nI y9), .int (v9)] (RA E S g) "java/lang/IllegalArgumentException" := by
  refine tm_of rfl (Nat.le_of_ble_eq_true rfl) (fun p e s m below meth c ls hx hb hr hml (hown : s.vm.findClass RX6 = some m.cls) hY hZ hnt hlocks hR hl => ?_)
  have hC := hY.1
  have hl : lv_has ls 4 [(0, .ref (g.ad 1 0)), (1, .int (nI k9)), (2, .int (nI y9)), (3, .int (v9))] := hl
  refine lv_iload_n hx hb dX6_plan_0 rfl (lv_at hl 1 rfl) ?_
  refine rc_S0 (As := [.int (nI k9)]) hx hb hml hown hC hl (c_X6_checkKind l E hI (k9 := k9) hk9) (zm_X6_74 hC.1) kv_X6_checkKind hR rfl rfl (rtD_le (by decide) (by decide)) ⟨rfl, rfl⟩ (Nat.le_of_ble_eq_true rfl) ⟨Nat.zero_le _, Nat.zero_le _⟩ dX6_plan_1 ?_
  refine lv_iload_n hx hb dX6_plan_4 rfl (lv_at hl 2 rfl) ?_
  refine rc_S0 (As := [.int (nI y9)]) hx hb hml hown hC hl (c_X6_checkPeriod l E hI (k9 := y9) hy9) (zm_X6_143 hC.1) kv_X6_checkPeriod hR rfl rfl (rtD_le (by decide) (by decide)) ⟨rfl, rfl⟩ (Nat.le_of_ble_eq_true rfl) ⟨Nat.zero_le _, Nat.zero_le _⟩ dX6_plan_5 ?_
  refine lv_iload_n hx hb dX6_plan_8 rfl (lv_at hl 3 rfl) ?_
  refine lv_iconst (v := 0) hx hb dX6_plan_9 (by decide) ?_
  refine lv_ldc hx hb hown (zC_X6_146 hC.1) dX6_plan_10 ?_
  exact tc_S (As := [.int (v9), .int (0), .int (99999)]) hx hb hml hown hY hZ hnt hlocks hl (t_X6_checkRange l E hI hst hbad) (zm_X6_78 hC.1) kv_X6_checkRange hR rfl rfl (ttD_le (by decide) (by decide)) ⟨rfl, rfl⟩ (Nat.le_of_ble_eq_true rfl) ⟨Nat.le_refl 1, Nat.le_refl 6⟩ dX6_plan_12
set_option maxRecDepth 100000 in
set_option maxHeartbeats 4000000 in
theorem t_X6_carry_1 (l : Launch) (E : EE) {S : St} {g : Gh} (hI : Inv S) (hst : l.stackTraces = false) {k9 : Int32} (hbad : k9 < 0 ∨ 4 ≤ k9) {v9 : Int32} : TM l E yX6_carry cX6_carry 3 (some .int) (tD 8) [.ref (g.ad 1 0), .int (k9), .int (v9)] (RA E S g) "java/lang/IndexOutOfBoundsException" := by
  refine tm_of rfl (Nat.le_of_ble_eq_true rfl) (fun p e s m below meth c ls hx hb hr hml (hown : s.vm.findClass RX6 = some m.cls) hY hZ hnt hlocks hR hl => ?_)
  have hC := hY.1
  have hl : lv_has ls 3 [(0, .ref (g.ad 1 0)), (1, .int (k9)), (2, .int (v9))] := hl
  refine lv_iload_n hx hb dX6_carry_0 rfl (lv_at hl 1 rfl) ?_
  exact tc_S (As := [.int (k9)]) hx hb hml hown hY hZ hnt hlocks hl (t_X6_checkKind l E hI hst hbad) (zm_X6_74 hC.1) kv_X6_checkKind hR rfl rfl (ttD_le (by decide) (by decide)) ⟨rfl, rfl⟩ (Nat.le_of_ble_eq_true rfl) ⟨Nat.le_refl 1, Nat.le_refl 6⟩ dX6_carry_1
set_option maxRecDepth 100000 in
set_option maxHeartbeats 4000000 in
theorem t_X6_carry_2 (l : Launch) (E : EE) {S : St} {g : Gh} (hI : Inv S) (hst : l.stackTraces = false) {k9 : Nat} (hk9 : k9 < 4) {v9 : Int32} (hbad : v9 < 0 ∨ 100 < v9) : TM l E yX6_carry cX6_carry 3 (some .int) (tD 8) [.ref (g.ad 1 0), .int (nI k9), .int (v9)] (RA E S g) "java/lang/IllegalArgumentException" := by
  refine tm_of rfl (Nat.le_of_ble_eq_true rfl) (fun p e s m below meth c ls hx hb hr hml (hown : s.vm.findClass RX6 = some m.cls) hY hZ hnt hlocks hR hl => ?_)
  have hC := hY.1
  have hl : lv_has ls 3 [(0, .ref (g.ad 1 0)), (1, .int (nI k9)), (2, .int (v9))] := hl
  refine lv_iload_n hx hb dX6_carry_0 rfl (lv_at hl 1 rfl) ?_
  refine rc_S0 (As := [.int (nI k9)]) hx hb hml hown hC hl (c_X6_checkKind l E hI (k9 := k9) hk9) (zm_X6_74 hC.1) kv_X6_checkKind hR rfl rfl (rtD_le (by decide) (by decide)) ⟨rfl, rfl⟩ (Nat.le_of_ble_eq_true rfl) ⟨Nat.zero_le _, Nat.zero_le _⟩ dX6_carry_1 ?_
  refine lv_iload_n hx hb dX6_carry_4 rfl (lv_at hl 2 rfl) ?_
  refine lv_iconst (v := 0) hx hb dX6_carry_5 (by decide) ?_
  refine lv_bipush (v := 100) hx hb dX6_carry_6 (by decide) ?_
  exact tc_S (As := [.int (v9), .int (0), .int (100)]) hx hb hml hown hY hZ hnt hlocks hl (t_X6_checkRange l E hI hst hbad) (zm_X6_78 hC.1) kv_X6_checkRange hR rfl rfl (ttD_le (by decide) (by decide)) ⟨rfl, rfl⟩ (Nat.le_of_ble_eq_true rfl) ⟨Nat.le_refl 1, Nat.le_refl 6⟩ dX6_carry_8
set_option maxRecDepth 100000 in
set_option maxHeartbeats 4000000 in
theorem t_X6_rate_1 (l : Launch) (E : EE) {S : St} {g : Gh} (hI : Inv S) (hst : l.stackTraces = false) {l9 : Int32} (hbad : l9 < 0 ∨ 3 ≤ l9) {k9 : Int32} {v9 : Int32} : TM l E yX6_rate cX6_rate 4 (some .int) (tD 8) [.ref (g.ad 1 0), .int (l9), .int (k9), .int (v9)] (RA E S g) "java/lang/IndexOutOfBoundsException" := by
  refine tm_of rfl (Nat.le_of_ble_eq_true rfl) (fun p e s m below meth c ls hx hb hr hml (hown : s.vm.findClass RX6 = some m.cls) hY hZ hnt hlocks hR hl => ?_)
  have hC := hY.1
  have hl : lv_has ls 4 [(0, .ref (g.ad 1 0)), (1, .int (l9)), (2, .int (k9)), (3, .int (v9))] := hl
  refine lv_iload_n hx hb dX6_rate_0 rfl (lv_at hl 1 rfl) ?_
  exact tc_S (As := [.int (l9)]) hx hb hml hown hY hZ hnt hlocks hl (t_X6_checkLand l E hI hst hbad) (zm_X6_105 hC.1) kv_X6_checkLand hR rfl rfl (ttD_le (by decide) (by decide)) ⟨rfl, rfl⟩ (Nat.le_of_ble_eq_true rfl) ⟨Nat.le_refl 1, Nat.le_refl 6⟩ dX6_rate_1
set_option maxRecDepth 100000 in
set_option maxHeartbeats 4000000 in
theorem t_X6_rate_2 (l : Launch) (E : EE) {S : St} {g : Gh} (hI : Inv S) (hst : l.stackTraces = false) {l9 : Nat} (hl9 : l9 < 3) {k9 : Int32} (hbad : k9 < 0 ∨ 4 ≤ k9) {v9 : Int32} : TM l E yX6_rate cX6_rate 4 (some .int) (tD 8) [.ref (g.ad 1 0), .int (nI l9), .int (k9), .int (v9)] (RA E S g) "java/lang/IndexOutOfBoundsException" := by
  refine tm_of rfl (Nat.le_of_ble_eq_true rfl) (fun p e s m below meth c ls hx hb hr hml (hown : s.vm.findClass RX6 = some m.cls) hY hZ hnt hlocks hR hl => ?_)
  have hC := hY.1
  have hl : lv_has ls 4 [(0, .ref (g.ad 1 0)), (1, .int (nI l9)), (2, .int (k9)), (3, .int (v9))] := hl
  refine lv_iload_n hx hb dX6_rate_0 rfl (lv_at hl 1 rfl) ?_
  refine rc_S0 (As := [.int (nI l9)]) hx hb hml hown hC hl (c_X6_checkLand l E hI (k9 := l9) hl9) (zm_X6_105 hC.1) kv_X6_checkLand hR rfl rfl (rtD_le (by decide) (by decide)) ⟨rfl, rfl⟩ (Nat.le_of_ble_eq_true rfl) ⟨Nat.zero_le _, Nat.zero_le _⟩ dX6_rate_1 ?_
  refine lv_iload_n hx hb dX6_rate_4 rfl (lv_at hl 2 rfl) ?_
  exact tc_S (As := [.int (k9)]) hx hb hml hown hY hZ hnt hlocks hl (t_X6_checkKind l E hI hst hbad) (zm_X6_74 hC.1) kv_X6_checkKind hR rfl rfl (ttD_le (by decide) (by decide)) ⟨rfl, rfl⟩ (Nat.le_of_ble_eq_true rfl) ⟨Nat.le_refl 1, Nat.le_refl 6⟩ dX6_rate_5
set_option maxRecDepth 100000 in
set_option maxHeartbeats 4000000 in
theorem t_X6_rate_3 (l : Launch) (E : EE) {S : St} {g : Gh} (hI : Inv S) (hst : l.stackTraces = false) {l9 : Nat} (hl9 : l9 < 3) {k9 : Nat} (hk9 : k9 < 4) {v9 : Int32} (hbad : v9 < 0 ∨ 30 < v9) : TM l E yX6_rate cX6_rate 4 (some .int) (tD 8) [.ref (g.ad 1 0), .int (nI l9), .int (nI k9), .int (v9)] (RA E S g) "java/lang/IllegalArgumentException" := by
  refine tm_of rfl (Nat.le_of_ble_eq_true rfl) (fun p e s m below meth c ls hx hb hr hml (hown : s.vm.findClass RX6 = some m.cls) hY hZ hnt hlocks hR hl => ?_)
  have hC := hY.1
  have hl : lv_has ls 4 [(0, .ref (g.ad 1 0)), (1, .int (nI l9)), (2, .int (nI k9)), (3, .int (v9))] := hl
  refine lv_iload_n hx hb dX6_rate_0 rfl (lv_at hl 1 rfl) ?_
  refine rc_S0 (As := [.int (nI l9)]) hx hb hml hown hC hl (c_X6_checkLand l E hI (k9 := l9) hl9) (zm_X6_105 hC.1) kv_X6_checkLand hR rfl rfl (rtD_le (by decide) (by decide)) ⟨rfl, rfl⟩ (Nat.le_of_ble_eq_true rfl) ⟨Nat.zero_le _, Nat.zero_le _⟩ dX6_rate_1 ?_
  refine lv_iload_n hx hb dX6_rate_4 rfl (lv_at hl 2 rfl) ?_
  refine rc_S0 (As := [.int (nI k9)]) hx hb hml hown hC hl (c_X6_checkKind l E hI (k9 := k9) hk9) (zm_X6_74 hC.1) kv_X6_checkKind hR rfl rfl (rtD_le (by decide) (by decide)) ⟨rfl, rfl⟩ (Nat.le_of_ble_eq_true rfl) ⟨Nat.zero_le _, Nat.zero_le _⟩ dX6_rate_5 ?_
  refine lv_iload_n hx hb dX6_rate_8 rfl (lv_at hl 3 rfl) ?_
  refine lv_iconst (v := 0) hx hb dX6_rate_9 (by decide) ?_
  refine lv_bipush (v := 30) hx hb dX6_rate_10 (by decide) ?_
  exact tc_S (As := [.int (v9), .int (0), .int (30)]) hx hb hml hown hY hZ hnt hlocks hl (t_X6_checkRange l E hI hst hbad) (zm_X6_78 hC.1) kv_X6_checkRange hR rfl rfl (ttD_le (by decide) (by decide)) ⟨rfl, rfl⟩ (Nat.le_of_ble_eq_true rfl) ⟨Nat.le_refl 1, Nat.le_refl 6⟩ dX6_rate_12
set_option maxRecDepth 100000 in
set_option maxHeartbeats 4000000 in
theorem t_X6_left_1 (l : Launch) (E : EE) {S : St} {g : Gh} (hI : Inv S) (hst : l.stackTraces = false) {k9 : Int32} (hbad : k9 < 0 ∨ 4 ≤ k9) {y9 : Int32} : TM l E yX6_left cX6_left 3 (some .int) (tD 8) [.ref (g.ad 1 0), .int (k9), .int (y9)] (RA E S g) "java/lang/IndexOutOfBoundsException" := by
  refine tm_of rfl (Nat.le_of_ble_eq_true rfl) (fun p e s m below meth c ls hx hb hr hml (hown : s.vm.findClass RX6 = some m.cls) hY hZ hnt hlocks hR hl => ?_)
  have hC := hY.1
  have hl : lv_has ls 3 [(0, .ref (g.ad 1 0)), (1, .int (k9)), (2, .int (y9))] := hl
  refine lv_iload_n hx hb dX6_left_0 rfl (lv_at hl 1 rfl) ?_
  exact tc_S (As := [.int (k9)]) hx hb hml hown hY hZ hnt hlocks hl (t_X6_checkKind l E hI hst hbad) (zm_X6_74 hC.1) kv_X6_checkKind hR rfl rfl (ttD_le (by decide) (by decide)) ⟨rfl, rfl⟩ (Nat.le_of_ble_eq_true rfl) ⟨Nat.le_refl 1, Nat.le_refl 6⟩ dX6_left_1
set_option maxRecDepth 100000 in
set_option maxHeartbeats 4000000 in
theorem t_X6_left_2 (l : Launch) (E : EE) {S : St} {g : Gh} (hI : Inv S) (hst : l.stackTraces = false) {k9 : Nat} (hk9 : k9 < 4) {y9 : Int32} (hbad : y9 < 0 ∨ 4 ≤ y9) : TM l E yX6_left cX6_left 3 (some .int) (tD 8) [.ref (g.ad 1 0), .int (nI k9), .int (y9)] (RA E S g) "java/lang/IndexOutOfBoundsException" := by
  refine tm_of rfl (Nat.le_of_ble_eq_true rfl) (fun p e s m below meth c ls hx hb hr hml (hown : s.vm.findClass RX6 = some m.cls) hY hZ hnt hlocks hR hl => ?_)
  have hC := hY.1
  have hl : lv_has ls 3 [(0, .ref (g.ad 1 0)), (1, .int (nI k9)), (2, .int (y9))] := hl
  refine lv_iload_n hx hb dX6_left_0 rfl (lv_at hl 1 rfl) ?_
  refine rc_S0 (As := [.int (nI k9)]) hx hb hml hown hC hl (c_X6_checkKind l E hI (k9 := k9) hk9) (zm_X6_74 hC.1) kv_X6_checkKind hR rfl rfl (rtD_le (by decide) (by decide)) ⟨rfl, rfl⟩ (Nat.le_of_ble_eq_true rfl) ⟨Nat.zero_le _, Nat.zero_le _⟩ dX6_left_1 ?_
  refine lv_iload_n hx hb dX6_left_4 rfl (lv_at hl 2 rfl) ?_
  exact tc_S (As := [.int (y9)]) hx hb hml hown hY hZ hnt hlocks hl (t_X6_checkPeriod l E hI hst hbad) (zm_X6_143 hC.1) kv_X6_checkPeriod hR rfl rfl (ttD_le (by decide) (by decide)) ⟨rfl, rfl⟩ (Nat.le_of_ble_eq_true rfl) ⟨Nat.le_refl 1, Nat.le_refl 6⟩ dX6_left_5
set_option maxRecDepth 100000 in
set_option maxHeartbeats 4000000 in
theorem t_X6_leftWith_1 (l : Launch) (E : EE) {S : St} {g : Gh} (hI : Inv S) (hst : l.stackTraces = false) {k9 : Int32} (hbad : k9 < 0 ∨ 4 ≤ k9) {y9 : Int32} : TM l E yX6_leftWith cX6_leftWith 3 (some .int) (tD 8) [.ref (g.ad 1 0), .int (k9), .int (y9)] (RA E S g) "java/lang/IndexOutOfBoundsException" := by
  refine tm_of rfl (Nat.le_of_ble_eq_true rfl) (fun p e s m below meth c ls hx hb hr hml (hown : s.vm.findClass RX6 = some m.cls) hY hZ hnt hlocks hR hl => ?_)
  have hC := hY.1
  have hl : lv_has ls 3 [(0, .ref (g.ad 1 0)), (1, .int (k9)), (2, .int (y9))] := hl
  refine lv_iload_n hx hb dX6_leftWith_0 rfl (lv_at hl 1 rfl) ?_
  exact tc_S (As := [.int (k9)]) hx hb hml hown hY hZ hnt hlocks hl (t_X6_checkKind l E hI hst hbad) (zm_X6_74 hC.1) kv_X6_checkKind hR rfl rfl (ttD_le (by decide) (by decide)) ⟨rfl, rfl⟩ (Nat.le_of_ble_eq_true rfl) ⟨Nat.le_refl 1, Nat.le_refl 6⟩ dX6_leftWith_1
set_option maxRecDepth 100000 in
set_option maxHeartbeats 4000000 in
theorem t_X6_leftWith_2 (l : Launch) (E : EE) {S : St} {g : Gh} (hI : Inv S) (hst : l.stackTraces = false) {k9 : Nat} (hk9 : k9 < 4) {y9 : Int32} (hbad : y9 < 0 ∨ 4 ≤ y9) : TM l E yX6_leftWith cX6_leftWith 3 (some .int) (tD 8) [.ref (g.ad 1 0), .int (nI k9), .int (y9)] (RA E S g) "java/lang/IndexOutOfBoundsException" := by
  refine tm_of rfl (Nat.le_of_ble_eq_true rfl) (fun p e s m below meth c ls hx hb hr hml (hown : s.vm.findClass RX6 = some m.cls) hY hZ hnt hlocks hR hl => ?_)
  have hC := hY.1
  have hl : lv_has ls 3 [(0, .ref (g.ad 1 0)), (1, .int (nI k9)), (2, .int (y9))] := hl
  refine lv_iload_n hx hb dX6_leftWith_0 rfl (lv_at hl 1 rfl) ?_
  refine rc_S0 (As := [.int (nI k9)]) hx hb hml hown hC hl (c_X6_checkKind l E hI (k9 := k9) hk9) (zm_X6_74 hC.1) kv_X6_checkKind hR rfl rfl (rtD_le (by decide) (by decide)) ⟨rfl, rfl⟩ (Nat.le_of_ble_eq_true rfl) ⟨Nat.zero_le _, Nat.zero_le _⟩ dX6_leftWith_1 ?_
  refine lv_iload_n hx hb dX6_leftWith_4 rfl (lv_at hl 2 rfl) ?_
  exact tc_S (As := [.int (y9)]) hx hb hml hown hY hZ hnt hlocks hl (t_X6_checkPeriod l E hI hst hbad) (zm_X6_143 hC.1) kv_X6_checkPeriod hR rfl rfl (ttD_le (by decide) (by decide)) ⟨rfl, rfl⟩ (Nat.le_of_ble_eq_true rfl) ⟨Nat.le_refl 1, Nat.le_refl 6⟩ dX6_leftWith_5
set_option maxRecDepth 100000 in
set_option maxHeartbeats 4000000 in
theorem t_X6_charge_1 (l : Launch) (E : EE) {S : St} {g : Gh} (hI : Inv S) (hst : l.stackTraces = false) {p9 : Int32} (hbad : p9 < 0 ∨ nI S.np ≤ p9) {k9 : Int32} {l9 : Int32} {a9 : Int32} {x9 : Int32} : TM l E yX6_charge cX6_charge 8 (some .int) (tD 8) [.ref (g.ad 1 0), .int (p9), .int (k9), .int (l9), .int (a9), .int (x9)] (RA E S g) "java/lang/IndexOutOfBoundsException" := by
  refine tm_of rfl (Nat.le_of_ble_eq_true rfl) (fun p e s m below meth c ls hx hb hr hml (hown : s.vm.findClass RX6 = some m.cls) hY hZ hnt hlocks hR hl => ?_)
  have hC := hY.1
  have hl : lv_has ls 8 [(0, .ref (g.ad 1 0)), (1, .int (p9)), (2, .int (k9)), (3, .int (l9)), (4, .int (a9)), (5, .int (x9))] := hl
  refine lv_aload_n hx hb dX6_charge_0 rfl (lv_at hl 0 rfl) ?_
  refine lv_iload_n hx hb dX6_charge_1 rfl (lv_at hl 1 rfl) ?_
  exact tc_V (As := [.int (p9)]) hx hb hml hown hY hZ hnt hlocks hl (t_X6_personAt l E hI hst hbad) (rec_of hC (RA.x hR) rfl) (zm_X6_47 hC.1) kv_X6_personAt hR rfl rfl (ttD_le (by decide) (by decide)) ⟨rfl, rfl⟩ (Nat.le_of_ble_eq_true rfl) ⟨Nat.le_refl 1, Nat.le_refl 6⟩ dX6_charge_2
set_option maxRecDepth 100000 in
set_option maxHeartbeats 4000000 in
theorem t_X6_charge_2 (l : Launch) (E : EE) {S : St} {g : Gh} (hI : Inv S) (hst : l.stackTraces = false) {p9 : Nat} (hp9 : p9 < S.np) {k9 : Int32} (hbad : k9 < 0 ∨ 4 ≤ k9) {l9 : Int32} {a9 : Int32} {x9 : Int32} : TM l E yX6_charge cX6_charge 8 (some .int) (tD 8) [.ref (g.ad 1 0), .int (nI p9), .int (k9), .int (l9), .int (a9), .int (x9)] (RA E S g) "java/lang/IndexOutOfBoundsException" := by
  refine tm_of rfl (Nat.le_of_ble_eq_true rfl) (fun p e s m below meth c ls hx hb hr hml (hown : s.vm.findClass RX6 = some m.cls) hY hZ hnt hlocks hR hl => ?_)
  have hC := hY.1
  have hl : lv_has ls 8 [(0, .ref (g.ad 1 0)), (1, .int (nI p9)), (2, .int (k9)), (3, .int (l9)), (4, .int (a9)), (5, .int (x9))] := hl
  refine lv_aload_n hx hb dX6_charge_0 rfl (lv_at hl 0 rfl) ?_
  refine lv_iload_n hx hb dX6_charge_1 rfl (lv_at hl 1 rfl) ?_
  refine rc_V (As := [.int (nI p9)]) hx hb hml hown hC hl (c_X6_personAt l E hI hp9) (rec_of hC (RA.x hR) rfl) (zm_X6_47 hC.1) kv_X6_personAt hR rfl rfl (rtD_le (by decide) (by decide)) ⟨rfl, rfl⟩ (Nat.le_of_ble_eq_true rfl) ⟨Nat.zero_le _, Nat.zero_le _⟩ dX6_charge_2 ?_
  refine lv_astore (lv' := [(6, .ref (g.ad 6 (p9))), (0, .ref (g.ad 1 0)), (1, .int (nI p9)), (2, .int (k9)), (3, .int (l9)), (4, .int (a9)), (5, .int (x9))]) hx hb dX6_charge_5 hl (by decide) rfl (fun ls hl => ?_)
  refine lv_iload_n hx hb dX6_charge_7 rfl (lv_at hl 3 rfl) ?_
  exact tc_S (As := [.int (k9)]) hx hb hml hown hY hZ hnt hlocks hl (t_X6_checkKind l E hI hst hbad) (zm_X6_74 hC.1) kv_X6_checkKind hR rfl rfl (ttD_le (by decide) (by decide)) ⟨rfl, rfl⟩ (Nat.le_of_ble_eq_true rfl) ⟨Nat.le_refl 1, Nat.le_refl 6⟩ dX6_charge_8
set_option maxRecDepth 100000 in
set_option maxHeartbeats 4000000 in
theorem t_X6_charge_3 (l : Launch) (E : EE) {S : St} {g : Gh} (hI : Inv S) (hst : l.stackTraces = false) {p9 : Nat} (hp9 : p9 < S.np) {k9 : Nat} (hk9 : k9 < 4) {l9 : Int32} (hbad : l9 < 0 ∨ 3 ≤ l9) {a9 : Int32} {x9 : Int32} : TM l E yX6_charge cX6_charge 8 (some .int) (tD 8) [.ref (g.ad 1 0), .int (nI p9), .int (nI k9), .int (l9), .int (a9), .int (x9)] (RA E S g) "java/lang/IndexOutOfBoundsException" := by
  refine tm_of rfl (Nat.le_of_ble_eq_true rfl) (fun p e s m below meth c ls hx hb hr hml (hown : s.vm.findClass RX6 = some m.cls) hY hZ hnt hlocks hR hl => ?_)
  have hC := hY.1
  have hl : lv_has ls 8 [(0, .ref (g.ad 1 0)), (1, .int (nI p9)), (2, .int (nI k9)), (3, .int (l9)), (4, .int (a9)), (5, .int (x9))] := hl
  refine lv_aload_n hx hb dX6_charge_0 rfl (lv_at hl 0 rfl) ?_
  refine lv_iload_n hx hb dX6_charge_1 rfl (lv_at hl 1 rfl) ?_
  refine rc_V (As := [.int (nI p9)]) hx hb hml hown hC hl (c_X6_personAt l E hI hp9) (rec_of hC (RA.x hR) rfl) (zm_X6_47 hC.1) kv_X6_personAt hR rfl rfl (rtD_le (by decide) (by decide)) ⟨rfl, rfl⟩ (Nat.le_of_ble_eq_true rfl) ⟨Nat.zero_le _, Nat.zero_le _⟩ dX6_charge_2 ?_
  refine lv_astore (lv' := [(6, .ref (g.ad 6 (p9))), (0, .ref (g.ad 1 0)), (1, .int (nI p9)), (2, .int (nI k9)), (3, .int (l9)), (4, .int (a9)), (5, .int (x9))]) hx hb dX6_charge_5 hl (by decide) rfl (fun ls hl => ?_)
  refine lv_iload_n hx hb dX6_charge_7 rfl (lv_at hl 3 rfl) ?_
  refine rc_S0 (As := [.int (nI k9)]) hx hb hml hown hC hl (c_X6_checkKind l E hI (k9 := k9) hk9) (zm_X6_74 hC.1) kv_X6_checkKind hR rfl rfl (rtD_le (by decide) (by decide)) ⟨rfl, rfl⟩ (Nat.le_of_ble_eq_true rfl) ⟨Nat.zero_le _, Nat.zero_le _⟩ dX6_charge_8 ?_
  refine lv_iload_n hx hb dX6_charge_11 rfl (lv_at hl 4 rfl) ?_
  exact tc_S (As := [.int (l9)]) hx hb hml hown hY hZ hnt hlocks hl (t_X6_checkLand l E hI hst hbad) (zm_X6_105 hC.1) kv_X6_checkLand hR rfl rfl (ttD_le (by decide) (by decide)) ⟨rfl, rfl⟩ (Nat.le_of_ble_eq_true rfl) ⟨Nat.le_refl 1, Nat.le_refl 6⟩ dX6_charge_12
set_option maxRecDepth 100000 in
set_option maxHeartbeats 4000000 in
theorem t_X6_charge_4 (l : Launch) (E : EE) {S : St} {g : Gh} (hI : Inv S) (hst : l.stackTraces = false) {p9 : Nat} (hp9 : p9 < S.np) {k9 : Nat} (hk9 : k9 < 4) {l9 : Nat} (hl9 : l9 < 3) {a9 : Int32} (hbad : a9 < 1 ∨ 9999 < a9) {x9 : Int32} : TM l E yX6_charge cX6_charge 8 (some .int) (tD 8) [.ref (g.ad 1 0), .int (nI p9), .int (nI k9), .int (nI l9), .int (a9), .int (x9)] (RA E S g) "java/lang/IllegalArgumentException" := by
  refine tm_of rfl (Nat.le_of_ble_eq_true rfl) (fun p e s m below meth c ls hx hb hr hml (hown : s.vm.findClass RX6 = some m.cls) hY hZ hnt hlocks hR hl => ?_)
  have hC := hY.1
  have hl : lv_has ls 8 [(0, .ref (g.ad 1 0)), (1, .int (nI p9)), (2, .int (nI k9)), (3, .int (nI l9)), (4, .int (a9)), (5, .int (x9))] := hl
  refine lv_aload_n hx hb dX6_charge_0 rfl (lv_at hl 0 rfl) ?_
  refine lv_iload_n hx hb dX6_charge_1 rfl (lv_at hl 1 rfl) ?_
  refine rc_V (As := [.int (nI p9)]) hx hb hml hown hC hl (c_X6_personAt l E hI hp9) (rec_of hC (RA.x hR) rfl) (zm_X6_47 hC.1) kv_X6_personAt hR rfl rfl (rtD_le (by decide) (by decide)) ⟨rfl, rfl⟩ (Nat.le_of_ble_eq_true rfl) ⟨Nat.zero_le _, Nat.zero_le _⟩ dX6_charge_2 ?_
  refine lv_astore (lv' := [(6, .ref (g.ad 6 (p9))), (0, .ref (g.ad 1 0)), (1, .int (nI p9)), (2, .int (nI k9)), (3, .int (nI l9)), (4, .int (a9)), (5, .int (x9))]) hx hb dX6_charge_5 hl (by decide) rfl (fun ls hl => ?_)
  refine lv_iload_n hx hb dX6_charge_7 rfl (lv_at hl 3 rfl) ?_
  refine rc_S0 (As := [.int (nI k9)]) hx hb hml hown hC hl (c_X6_checkKind l E hI (k9 := k9) hk9) (zm_X6_74 hC.1) kv_X6_checkKind hR rfl rfl (rtD_le (by decide) (by decide)) ⟨rfl, rfl⟩ (Nat.le_of_ble_eq_true rfl) ⟨Nat.zero_le _, Nat.zero_le _⟩ dX6_charge_8 ?_
  refine lv_iload_n hx hb dX6_charge_11 rfl (lv_at hl 4 rfl) ?_
  refine rc_S0 (As := [.int (nI l9)]) hx hb hml hown hC hl (c_X6_checkLand l E hI (k9 := l9) hl9) (zm_X6_105 hC.1) kv_X6_checkLand hR rfl rfl (rtD_le (by decide) (by decide)) ⟨rfl, rfl⟩ (Nat.le_of_ble_eq_true rfl) ⟨Nat.zero_le _, Nat.zero_le _⟩ dX6_charge_12 ?_
  refine lv_iload hx hb dX6_charge_15 (lv_at hl 5 rfl) ?_
  refine lv_iconst (v := 1) hx hb dX6_charge_17 (by decide) ?_
  refine lv_sipush (v := 9999) hx hb dX6_charge_18 (by decide) ?_
  exact tc_S (As := [.int (a9), .int (1), .int (9999)]) hx hb hml hown hY hZ hnt hlocks hl (t_X6_checkRange l E hI hst hbad) (zm_X6_78 hC.1) kv_X6_checkRange hR rfl rfl (ttD_le (by decide) (by decide)) ⟨rfl, rfl⟩ (Nat.le_of_ble_eq_true rfl) ⟨Nat.le_refl 1, Nat.le_refl 6⟩ dX6_charge_21
set_option maxRecDepth 100000 in
set_option maxHeartbeats 4000000 in
theorem t_X6_charge_5 (l : Launch) (E : EE) {S : St} {g : Gh} (hI : Inv S) (hst : l.stackTraces = false) {p9 : Nat} (hp9 : p9 < S.np) {k9 : Nat} (hk9 : k9 < 4) {l9 : Nat} (hl9 : l9 < 3) {a9 : Int32} (ha91 : ¬ a9 < 1) (ha92 : ¬ 9999 < a9) {x9 : Int32} (hbad : x9 < 0 ∨ 9 < x9) : TM l E yX6_charge cX6_charge 8 (some .int) (tD 8) [.ref (g.ad 1 0), .int (nI p9), .int (nI k9), .int (nI l9), .int (a9), .int (x9)] (RA E S g) "java/lang/IllegalArgumentException" := by
  refine tm_of rfl (Nat.le_of_ble_eq_true rfl) (fun p e s m below meth c ls hx hb hr hml (hown : s.vm.findClass RX6 = some m.cls) hY hZ hnt hlocks hR hl => ?_)
  have hC := hY.1
  have hl : lv_has ls 8 [(0, .ref (g.ad 1 0)), (1, .int (nI p9)), (2, .int (nI k9)), (3, .int (nI l9)), (4, .int (a9)), (5, .int (x9))] := hl
  refine lv_aload_n hx hb dX6_charge_0 rfl (lv_at hl 0 rfl) ?_
  refine lv_iload_n hx hb dX6_charge_1 rfl (lv_at hl 1 rfl) ?_
  refine rc_V (As := [.int (nI p9)]) hx hb hml hown hC hl (c_X6_personAt l E hI hp9) (rec_of hC (RA.x hR) rfl) (zm_X6_47 hC.1) kv_X6_personAt hR rfl rfl (rtD_le (by decide) (by decide)) ⟨rfl, rfl⟩ (Nat.le_of_ble_eq_true rfl) ⟨Nat.zero_le _, Nat.zero_le _⟩ dX6_charge_2 ?_
  refine lv_astore (lv' := [(6, .ref (g.ad 6 (p9))), (0, .ref (g.ad 1 0)), (1, .int (nI p9)), (2, .int (nI k9)), (3, .int (nI l9)), (4, .int (a9)), (5, .int (x9))]) hx hb dX6_charge_5 hl (by decide) rfl (fun ls hl => ?_)
  refine lv_iload_n hx hb dX6_charge_7 rfl (lv_at hl 3 rfl) ?_
  refine rc_S0 (As := [.int (nI k9)]) hx hb hml hown hC hl (c_X6_checkKind l E hI (k9 := k9) hk9) (zm_X6_74 hC.1) kv_X6_checkKind hR rfl rfl (rtD_le (by decide) (by decide)) ⟨rfl, rfl⟩ (Nat.le_of_ble_eq_true rfl) ⟨Nat.zero_le _, Nat.zero_le _⟩ dX6_charge_8 ?_
  refine lv_iload_n hx hb dX6_charge_11 rfl (lv_at hl 4 rfl) ?_
  refine rc_S0 (As := [.int (nI l9)]) hx hb hml hown hC hl (c_X6_checkLand l E hI (k9 := l9) hl9) (zm_X6_105 hC.1) kv_X6_checkLand hR rfl rfl (rtD_le (by decide) (by decide)) ⟨rfl, rfl⟩ (Nat.le_of_ble_eq_true rfl) ⟨Nat.zero_le _, Nat.zero_le _⟩ dX6_charge_12 ?_
  refine lv_iload hx hb dX6_charge_15 (lv_at hl 5 rfl) ?_
  refine lv_iconst (v := 1) hx hb dX6_charge_17 (by decide) ?_
  refine lv_sipush (v := 9999) hx hb dX6_charge_18 (by decide) ?_
  refine rc_S0 (As := [.int (a9), .int (1), .int (9999)]) hx hb hml hown hC hl (c_X6_checkRange l E hI ha91 ha92) (zm_X6_78 hC.1) kv_X6_checkRange hR rfl rfl (rtD_le (by decide) (by decide)) ⟨rfl, rfl⟩ (Nat.le_of_ble_eq_true rfl) ⟨Nat.zero_le _, Nat.zero_le _⟩ dX6_charge_21 ?_
  refine lv_iload hx hb dX6_charge_24 (lv_at hl 6 rfl) ?_
  refine lv_iconst (v := 0) hx hb dX6_charge_26 (by decide) ?_
  refine lv_bipush (v := 9) hx hb dX6_charge_27 (by decide) ?_
  exact tc_S (As := [.int (x9), .int (0), .int (9)]) hx hb hml hown hY hZ hnt hlocks hl (t_X6_checkRange l E hI hst hbad) (zm_X6_78 hC.1) kv_X6_checkRange hR rfl rfl (ttD_le (by decide) (by decide)) ⟨rfl, rfl⟩ (Nat.le_of_ble_eq_true rfl) ⟨Nat.le_refl 1, Nat.le_refl 6⟩ dX6_charge_29
set_option maxRecDepth 100000 in
set_option maxHeartbeats 4000000 in
theorem t_X6_charge_6 (l : Launch) (E : EE) {S : St} {g : Gh} (hI : Inv S) (hst : l.stackTraces = false) {p9 : Nat} (hp9 : p9 < S.np) {k9 : Nat} (hk9 : k9 < 4) {l9 : Nat} (hl9 : l9 < 3) {a9 : Int32} (ha91 : ¬ a9 < 1) (ha92 : ¬ 9999 < a9) {x9 : Int32} (hx91 : ¬ x9 < 0) (hx92 : ¬ 9 < x9) (hfull : 30 ≤ S.nc) : TM l E yX6_charge cX6_charge 8 (some .int) (tD 8) [.ref (g.ad 1 0), .int (nI p9), .int (nI k9), .int (nI l9), .int (a9), .int (x9)] (RA E S g) "java/lang/IllegalStateException" := by
  refine tm_of rfl (Nat.le_of_ble_eq_true rfl) (fun p e s m below meth c ls hx hb hr hml (hown : s.vm.findClass RX6 = some m.cls) hY hZ hnt hlocks hR hl => ?_)
  have hC := hY.1
  have hl : lv_has ls 8 [(0, .ref (g.ad 1 0)), (1, .int (nI p9)), (2, .int (nI k9)), (3, .int (nI l9)), (4, .int (a9)), (5, .int (x9))] := hl
  refine lv_aload_n hx hb dX6_charge_0 rfl (lv_at hl 0 rfl) ?_
  refine lv_iload_n hx hb dX6_charge_1 rfl (lv_at hl 1 rfl) ?_
  refine rc_V (As := [.int (nI p9)]) hx hb hml hown hC hl (c_X6_personAt l E hI hp9) (rec_of hC (RA.x hR) rfl) (zm_X6_47 hC.1) kv_X6_personAt hR rfl rfl (rtD_le (by decide) (by decide)) ⟨rfl, rfl⟩ (Nat.le_of_ble_eq_true rfl) ⟨Nat.zero_le _, Nat.zero_le _⟩ dX6_charge_2 ?_
  refine lv_astore (lv' := [(6, .ref (g.ad 6 (p9))), (0, .ref (g.ad 1 0)), (1, .int (nI p9)), (2, .int (nI k9)), (3, .int (nI l9)), (4, .int (a9)), (5, .int (x9))]) hx hb dX6_charge_5 hl (by decide) rfl (fun ls hl => ?_)
  refine lv_iload_n hx hb dX6_charge_7 rfl (lv_at hl 3 rfl) ?_
  refine rc_S0 (As := [.int (nI k9)]) hx hb hml hown hC hl (c_X6_checkKind l E hI (k9 := k9) hk9) (zm_X6_74 hC.1) kv_X6_checkKind hR rfl rfl (rtD_le (by decide) (by decide)) ⟨rfl, rfl⟩ (Nat.le_of_ble_eq_true rfl) ⟨Nat.zero_le _, Nat.zero_le _⟩ dX6_charge_8 ?_
  refine lv_iload_n hx hb dX6_charge_11 rfl (lv_at hl 4 rfl) ?_
  refine rc_S0 (As := [.int (nI l9)]) hx hb hml hown hC hl (c_X6_checkLand l E hI (k9 := l9) hl9) (zm_X6_105 hC.1) kv_X6_checkLand hR rfl rfl (rtD_le (by decide) (by decide)) ⟨rfl, rfl⟩ (Nat.le_of_ble_eq_true rfl) ⟨Nat.zero_le _, Nat.zero_le _⟩ dX6_charge_12 ?_
  refine lv_iload hx hb dX6_charge_15 (lv_at hl 5 rfl) ?_
  refine lv_iconst (v := 1) hx hb dX6_charge_17 (by decide) ?_
  refine lv_sipush (v := 9999) hx hb dX6_charge_18 (by decide) ?_
  refine rc_S0 (As := [.int (a9), .int (1), .int (9999)]) hx hb hml hown hC hl (c_X6_checkRange l E hI ha91 ha92) (zm_X6_78 hC.1) kv_X6_checkRange hR rfl rfl (rtD_le (by decide) (by decide)) ⟨rfl, rfl⟩ (Nat.le_of_ble_eq_true rfl) ⟨Nat.zero_le _, Nat.zero_le _⟩ dX6_charge_21 ?_
  refine lv_iload hx hb dX6_charge_24 (lv_at hl 6 rfl) ?_
  refine lv_iconst (v := 0) hx hb dX6_charge_26 (by decide) ?_
  refine lv_bipush (v := 9) hx hb dX6_charge_27 (by decide) ?_
  refine rc_S0 (As := [.int (x9), .int (0), .int (9)]) hx hb hml hown hC hl (c_X6_checkRange l E hI hx91 hx92) (zm_X6_78 hC.1) kv_X6_checkRange hR rfl rfl (rtD_le (by decide) (by decide)) ⟨rfl, rfl⟩ (Nat.le_of_ble_eq_true rfl) ⟨Nat.zero_le _, Nat.zero_le _⟩ dX6_charge_29 ?_
  refine lv_aload_n hx hb dX6_charge_32 rfl (lv_at hl 1 rfl) ?_
  refine gf_X6_2 hx hb hown hC (RA.x hR) (zf_X6_19 hC.1) dX6_charge_33 ?_
  refine rc_V (As := []) hx hb hml hown hC hl (c_size l E _ _ _ _) (rec_of hC (RA.ls hR (by decide : 2 < 4)) rfl) (zm_X6_51 hC.1) kv_Jx4a65c_size_8abf5 (RA.ls hR (by decide : 2 < 4)) rfl rfl (rtD_le (by decide) (by decide)) ⟨rfl, rfl⟩ (Nat.le_of_ble_eq_true rfl) ⟨Nat.zero_le _, Nat.zero_le _⟩ dX6_charge_36 ?_
  refine lv_bipush (v := 30) hx hb dX6_charge_39 (by decide) ?_
  refine lv_icmp_lt (tgt := 54) hx hb dX6_charge_41 (by decide) (fun c_41 => ?_) (fun c_41 => ?_)
  · exact absurd c_41 (nI_nlt (a := S.nc) (b := 30) hfull (by have := hI.1; omega))
  ·
    exact xt_ISE (is := 151) (text := "there are 30 charges") hst hx hb hml hown hY hZ hnt hlocks hl (by decide) dX6_charge_44 dX6_charge_47 dX6_charge_48 dX6_charge_50 dX6_charge_53
set_option maxRecDepth 100000 in
set_option maxHeartbeats 4000000 in
theorem t_X6_charge_7 (l : Launch) (E : EE) {S : St} {g : Gh} (hI : Inv S) (hst : l.stackTraces = false) {p9 : Nat} (hp9 : p9 < S.np) {k9 : Nat} (hk9 : k9 < 4) {l9 : Nat} (hl9 : l9 < 3) {a9 : Int32} (ha91 : ¬ a9 < 1) (ha92 : ¬ 9999 < a9) {x9 : Int32} (hx91 : ¬ x9 < 0) (hx92 : ¬ 9 < x9) (h30 : S.nc < 30) (hs1 : spendA S p9 k9 (nI l9) < a9) : TM l E yX6_charge cX6_charge 8 (some .int) (tD 8) [.ref (g.ad 1 0), .int (nI p9), .int (nI k9), .int (nI l9), .int (a9), .int (x9)] (RA E S g) "java/lang/IllegalStateException" := by
  refine tm_of rfl (Nat.le_of_ble_eq_true rfl) (fun p e s m below meth c ls hx hb hr hml (hown : s.vm.findClass RX6 = some m.cls) hY hZ hnt hlocks hR hl => ?_)
  have hC := hY.1
  have hl : lv_has ls 8 [(0, .ref (g.ad 1 0)), (1, .int (nI p9)), (2, .int (nI k9)), (3, .int (nI l9)), (4, .int (a9)), (5, .int (x9))] := hl
  refine lv_aload_n hx hb dX6_charge_0 rfl (lv_at hl 0 rfl) ?_
  refine lv_iload_n hx hb dX6_charge_1 rfl (lv_at hl 1 rfl) ?_
  refine rc_V (As := [.int (nI p9)]) hx hb hml hown hC hl (c_X6_personAt l E hI hp9) (rec_of hC (RA.x hR) rfl) (zm_X6_47 hC.1) kv_X6_personAt hR rfl rfl (rtD_le (by decide) (by decide)) ⟨rfl, rfl⟩ (Nat.le_of_ble_eq_true rfl) ⟨Nat.zero_le _, Nat.zero_le _⟩ dX6_charge_2 ?_
  refine lv_astore (lv' := [(6, .ref (g.ad 6 (p9))), (0, .ref (g.ad 1 0)), (1, .int (nI p9)), (2, .int (nI k9)), (3, .int (nI l9)), (4, .int (a9)), (5, .int (x9))]) hx hb dX6_charge_5 hl (by decide) rfl (fun ls hl => ?_)
  refine lv_iload_n hx hb dX6_charge_7 rfl (lv_at hl 3 rfl) ?_
  refine rc_S0 (As := [.int (nI k9)]) hx hb hml hown hC hl (c_X6_checkKind l E hI (k9 := k9) hk9) (zm_X6_74 hC.1) kv_X6_checkKind hR rfl rfl (rtD_le (by decide) (by decide)) ⟨rfl, rfl⟩ (Nat.le_of_ble_eq_true rfl) ⟨Nat.zero_le _, Nat.zero_le _⟩ dX6_charge_8 ?_
  refine lv_iload_n hx hb dX6_charge_11 rfl (lv_at hl 4 rfl) ?_
  refine rc_S0 (As := [.int (nI l9)]) hx hb hml hown hC hl (c_X6_checkLand l E hI (k9 := l9) hl9) (zm_X6_105 hC.1) kv_X6_checkLand hR rfl rfl (rtD_le (by decide) (by decide)) ⟨rfl, rfl⟩ (Nat.le_of_ble_eq_true rfl) ⟨Nat.zero_le _, Nat.zero_le _⟩ dX6_charge_12 ?_
  refine lv_iload hx hb dX6_charge_15 (lv_at hl 5 rfl) ?_
  refine lv_iconst (v := 1) hx hb dX6_charge_17 (by decide) ?_
  refine lv_sipush (v := 9999) hx hb dX6_charge_18 (by decide) ?_
  refine rc_S0 (As := [.int (a9), .int (1), .int (9999)]) hx hb hml hown hC hl (c_X6_checkRange l E hI ha91 ha92) (zm_X6_78 hC.1) kv_X6_checkRange hR rfl rfl (rtD_le (by decide) (by decide)) ⟨rfl, rfl⟩ (Nat.le_of_ble_eq_true rfl) ⟨Nat.zero_le _, Nat.zero_le _⟩ dX6_charge_21 ?_
  refine lv_iload hx hb dX6_charge_24 (lv_at hl 6 rfl) ?_
  refine lv_iconst (v := 0) hx hb dX6_charge_26 (by decide) ?_
  refine lv_bipush (v := 9) hx hb dX6_charge_27 (by decide) ?_
  refine rc_S0 (As := [.int (x9), .int (0), .int (9)]) hx hb hml hown hC hl (c_X6_checkRange l E hI hx91 hx92) (zm_X6_78 hC.1) kv_X6_checkRange hR rfl rfl (rtD_le (by decide) (by decide)) ⟨rfl, rfl⟩ (Nat.le_of_ble_eq_true rfl) ⟨Nat.zero_le _, Nat.zero_le _⟩ dX6_charge_29 ?_
  refine lv_aload_n hx hb dX6_charge_32 rfl (lv_at hl 1 rfl) ?_
  refine gf_X6_2 hx hb hown hC (RA.x hR) (zf_X6_19 hC.1) dX6_charge_33 ?_
  refine rc_V (As := []) hx hb hml hown hC hl (c_size l E _ _ _ _) (rec_of hC (RA.ls hR (by decide : 2 < 4)) rfl) (zm_X6_51 hC.1) kv_Jx4a65c_size_8abf5 (RA.ls hR (by decide : 2 < 4)) rfl rfl (rtD_le (by decide) (by decide)) ⟨rfl, rfl⟩ (Nat.le_of_ble_eq_true rfl) ⟨Nat.zero_le _, Nat.zero_le _⟩ dX6_charge_36 ?_
  refine lv_bipush (v := 30) hx hb dX6_charge_39 (by decide) ?_
  refine lv_icmp_lt (tgt := 54) hx hb dX6_charge_41 (by decide) (fun c_41 => ?_) (fun c_41 => ?_)
  ·
    refine lv_iload hx hb dX6_charge_54 (lv_at hl 5 rfl) ?_
    refine lv_aload_n hx hb dX6_charge_56 rfl (lv_at hl 1 rfl) ?_
    refine lv_aload hx hb dX6_charge_57 (lv_at hl 0 rfl) ?_
    refine lv_iload_n hx hb dX6_charge_59 rfl (lv_at hl 3 rfl) ?_
    refine lv_iload_n hx hb dX6_charge_60 rfl (lv_at hl 4 rfl) ?_
    refine rc_V (As := [.ref (g.ad 6 (p9)), .int (nI k9), .int (nI l9)]) hx hb hml hown hC hl (c_X6_spendableBy l E hI hp9 hk9 (nI l9)) (rec_of hC (RA.x hR) rfl) (zm_X6_139 hC.1) kv_X6_spendableBy hR rfl rfl (rtD_le (by decide) (by decide)) ⟨rfl, rfl⟩ (Nat.le_of_ble_eq_true rfl) ⟨Nat.zero_le _, Nat.zero_le _⟩ dX6_charge_61 ?_
    refine lv_icmp_gt (tgt := 85) hx hb dX6_charge_64 (by decide) (fun c_64 => ?_) (fun c_64 => ?_)
    ·
      exact xt_ISE (is := 153) (text := "the amount is more than there is") hst hx hb hml hown hY hZ hnt hlocks hl (by decide) dX6_charge_85 dX6_charge_88 dX6_charge_89 dX6_charge_91 dX6_charge_94
    · exact absurd hs1 c_64
  · exact absurd (nI_lt (b := 30) h30 (by decide)) c_41
set_option maxRecDepth 100000 in
set_option maxHeartbeats 4000000 in
theorem t_X6_charge_8 (l : Launch) (E : EE) {S : St} {g : Gh} (hI : Inv S) (hst : l.stackTraces = false) {p9 : Nat} (hp9 : p9 < S.np) {k9 : Nat} (hk9 : k9 < 4) {l9 : Nat} (hl9 : l9 < 3) {a9 : Int32} (ha91 : ¬ a9 < 1) (ha92 : ¬ 9999 < a9) {x9 : Int32} (hx91 : ¬ x9 < 0) (hx92 : ¬ 9 < x9) (h30 : S.nc < 30) (hs1 : ¬ spendA S p9 k9 (nI l9) < a9) (hs2 : ¬ a9 ≤ leftL S k9 0 (S.td / 30 + 1)) : TM l E yX6_charge cX6_charge 8 (some .int) (tD 8) [.ref (g.ad 1 0), .int (nI p9), .int (nI k9), .int (nI l9), .int (a9), .int (x9)] (RA E S g) "java/lang/IllegalStateException" := by
  refine tm_of rfl (Nat.le_of_ble_eq_true rfl) (fun p e s m below meth c ls hx hb hr hml (hown : s.vm.findClass RX6 = some m.cls) hY hZ hnt hlocks hR hl => ?_)
  have hC := hY.1
  have hl : lv_has ls 8 [(0, .ref (g.ad 1 0)), (1, .int (nI p9)), (2, .int (nI k9)), (3, .int (nI l9)), (4, .int (a9)), (5, .int (x9))] := hl
  have htd : S.td / 30 < 4 := by have := hI.td; omega
  refine lv_aload_n hx hb dX6_charge_0 rfl (lv_at hl 0 rfl) ?_
  refine lv_iload_n hx hb dX6_charge_1 rfl (lv_at hl 1 rfl) ?_
  refine rc_V (As := [.int (nI p9)]) hx hb hml hown hC hl (c_X6_personAt l E hI hp9) (rec_of hC (RA.x hR) rfl) (zm_X6_47 hC.1) kv_X6_personAt hR rfl rfl (rtD_le (by decide) (by decide)) ⟨rfl, rfl⟩ (Nat.le_of_ble_eq_true rfl) ⟨Nat.zero_le _, Nat.zero_le _⟩ dX6_charge_2 ?_
  refine lv_astore (lv' := [(6, .ref (g.ad 6 (p9))), (0, .ref (g.ad 1 0)), (1, .int (nI p9)), (2, .int (nI k9)), (3, .int (nI l9)), (4, .int (a9)), (5, .int (x9))]) hx hb dX6_charge_5 hl (by decide) rfl (fun ls hl => ?_)
  refine lv_iload_n hx hb dX6_charge_7 rfl (lv_at hl 3 rfl) ?_
  refine rc_S0 (As := [.int (nI k9)]) hx hb hml hown hC hl (c_X6_checkKind l E hI (k9 := k9) hk9) (zm_X6_74 hC.1) kv_X6_checkKind hR rfl rfl (rtD_le (by decide) (by decide)) ⟨rfl, rfl⟩ (Nat.le_of_ble_eq_true rfl) ⟨Nat.zero_le _, Nat.zero_le _⟩ dX6_charge_8 ?_
  refine lv_iload_n hx hb dX6_charge_11 rfl (lv_at hl 4 rfl) ?_
  refine rc_S0 (As := [.int (nI l9)]) hx hb hml hown hC hl (c_X6_checkLand l E hI (k9 := l9) hl9) (zm_X6_105 hC.1) kv_X6_checkLand hR rfl rfl (rtD_le (by decide) (by decide)) ⟨rfl, rfl⟩ (Nat.le_of_ble_eq_true rfl) ⟨Nat.zero_le _, Nat.zero_le _⟩ dX6_charge_12 ?_
  refine lv_iload hx hb dX6_charge_15 (lv_at hl 5 rfl) ?_
  refine lv_iconst (v := 1) hx hb dX6_charge_17 (by decide) ?_
  refine lv_sipush (v := 9999) hx hb dX6_charge_18 (by decide) ?_
  refine rc_S0 (As := [.int (a9), .int (1), .int (9999)]) hx hb hml hown hC hl (c_X6_checkRange l E hI ha91 ha92) (zm_X6_78 hC.1) kv_X6_checkRange hR rfl rfl (rtD_le (by decide) (by decide)) ⟨rfl, rfl⟩ (Nat.le_of_ble_eq_true rfl) ⟨Nat.zero_le _, Nat.zero_le _⟩ dX6_charge_21 ?_
  refine lv_iload hx hb dX6_charge_24 (lv_at hl 6 rfl) ?_
  refine lv_iconst (v := 0) hx hb dX6_charge_26 (by decide) ?_
  refine lv_bipush (v := 9) hx hb dX6_charge_27 (by decide) ?_
  refine rc_S0 (As := [.int (x9), .int (0), .int (9)]) hx hb hml hown hC hl (c_X6_checkRange l E hI hx91 hx92) (zm_X6_78 hC.1) kv_X6_checkRange hR rfl rfl (rtD_le (by decide) (by decide)) ⟨rfl, rfl⟩ (Nat.le_of_ble_eq_true rfl) ⟨Nat.zero_le _, Nat.zero_le _⟩ dX6_charge_29 ?_
  refine lv_aload_n hx hb dX6_charge_32 rfl (lv_at hl 1 rfl) ?_
  refine gf_X6_2 hx hb hown hC (RA.x hR) (zf_X6_19 hC.1) dX6_charge_33 ?_
  refine rc_V (As := []) hx hb hml hown hC hl (c_size l E _ _ _ _) (rec_of hC (RA.ls hR (by decide : 2 < 4)) rfl) (zm_X6_51 hC.1) kv_Jx4a65c_size_8abf5 (RA.ls hR (by decide : 2 < 4)) rfl rfl (rtD_le (by decide) (by decide)) ⟨rfl, rfl⟩ (Nat.le_of_ble_eq_true rfl) ⟨Nat.zero_le _, Nat.zero_le _⟩ dX6_charge_36 ?_
  refine lv_bipush (v := 30) hx hb dX6_charge_39 (by decide) ?_
  refine lv_icmp_lt (tgt := 54) hx hb dX6_charge_41 (by decide) (fun c_41 => ?_) (fun c_41 => ?_)
  ·
    refine lv_iload hx hb dX6_charge_54 (lv_at hl 5 rfl) ?_
    refine lv_aload_n hx hb dX6_charge_56 rfl (lv_at hl 1 rfl) ?_
    refine lv_aload hx hb dX6_charge_57 (lv_at hl 0 rfl) ?_
    refine lv_iload_n hx hb dX6_charge_59 rfl (lv_at hl 3 rfl) ?_
    refine lv_iload_n hx hb dX6_charge_60 rfl (lv_at hl 4 rfl) ?_
    refine rc_V (As := [.ref (g.ad 6 (p9)), .int (nI k9), .int (nI l9)]) hx hb hml hown hC hl (c_X6_spendableBy l E hI hp9 hk9 (nI l9)) (rec_of hC (RA.x hR) rfl) (zm_X6_139 hC.1) kv_X6_spendableBy hR rfl rfl (rtD_le (by decide) (by decide)) ⟨rfl, rfl⟩ (Nat.le_of_ble_eq_true rfl) ⟨Nat.zero_le _, Nat.zero_le _⟩ dX6_charge_61 ?_
    refine lv_icmp_gt (tgt := 85) hx hb dX6_charge_64 (by decide) (fun c_64 => ?_) (fun c_64 => ?_)
    · exact absurd c_64 hs1
    ·
      refine lv_iload hx hb dX6_charge_67 (lv_at hl 5 rfl) ?_
      refine lv_aload_n hx hb dX6_charge_69 rfl (lv_at hl 1 rfl) ?_
      refine lv_iload_n hx hb dX6_charge_70 rfl (lv_at hl 3 rfl) ?_
      refine lv_aload_n hx hb dX6_charge_71 rfl (lv_at hl 1 rfl) ?_
      refine gf_X6_8 hx hb hown hC (RA.x hR) (zf_X6_43 hC.1) dX6_charge_72 ?_
      refine lv_bipush (v := 30) hx hb dX6_charge_75 (by decide) ?_
      refine lv_idiv hx hb dX6_charge_77 (by decide) ?_
      rw [div30 S.td (Nat.lt_succ_of_le hI.td)]
      refine lv_iconst (v := 0) hx hb dX6_charge_78 (by decide) ?_
      refine rc_V (As := [.int (nI k9), .int (nI (S.td / 30)), .int (0)]) hx hb hml hown hC hl (c_X6_leftOf l E hI hk9 htd (0)) (rec_of hC (RA.x hR) rfl) (zm_X6_147 hC.1) kv_X6_leftOf hR rfl rfl (rtD_le (by decide) (by decide)) ⟨rfl, rfl⟩ (Nat.le_of_ble_eq_true rfl) ⟨Nat.zero_le _, Nat.zero_le _⟩ dX6_charge_79 ?_
      refine lv_icmp_le (tgt := 95) hx hb dX6_charge_82 (by decide) (fun c_82 => ?_) (fun c_82 => ?_)
      · exact absurd c_82 hs2
      ·
        exact xt_ISE (is := 153) (text := "the amount is more than there is") hst hx hb hml hown hY hZ hnt hlocks hl (by decide) dX6_charge_85 dX6_charge_88 dX6_charge_89 dX6_charge_91 dX6_charge_94
  · exact absurd (nI_lt (b := 30) h30 (by decide)) c_41
set_option maxRecDepth 100000 in
set_option maxHeartbeats 4000000 in
theorem t_X6_receipt_1 (l : Launch) (E : EE) {S : St} {g : Gh} (hI : Inv S) (hst : l.stackTraces = false) {am : Int32} (hbad : am < 1 ∨ 9999 < am) {dy : Int32} {tx : Int32} : TM l E yX6_receipt cX6_receipt 5 (some .int) (tD 8) [.ref (g.ad 1 0), .int (am), .int (dy), .int (tx)] (RA E S g) "java/lang/IllegalArgumentException" := by
  refine tm_of rfl (Nat.le_of_ble_eq_true rfl) (fun p e s m below meth c ls hx hb hr hml (hown : s.vm.findClass RX6 = some m.cls) hY hZ hnt hlocks hR hl => ?_)
  have hC := hY.1
  have hl : lv_has ls 5 [(0, .ref (g.ad 1 0)), (1, .int (am)), (2, .int (dy)), (3, .int (tx))] := hl
  refine lv_iload_n hx hb dX6_receipt_0 rfl (lv_at hl 1 rfl) ?_
  refine lv_iload_n hx hb dX6_receipt_1 rfl (lv_at hl 2 rfl) ?_
  refine lv_iload_n hx hb dX6_receipt_2 rfl (lv_at hl 3 rfl) ?_
  exact tc_S (As := [.int (am), .int (dy), .int (tx)]) hx hb hml hown hY hZ hnt hlocks hl (t_X6_checkReceipt_1 l E hI hst  hbad) (zm_X6_172 hC.1) kv_X6_checkReceipt hR rfl rfl (ttD_le (by decide) (by decide)) ⟨rfl, rfl⟩ (Nat.le_of_ble_eq_true rfl) ⟨Nat.le_refl 1, Nat.le_refl 6⟩ dX6_receipt_3
set_option maxRecDepth 100000 in
set_option maxHeartbeats 4000000 in
theorem t_X6_receipt_2 (l : Launch) (E : EE) {S : St} {g : Gh} (hI : Inv S) (hst : l.stackTraces = false) {am : Int32} (ham1 : ¬ am < 1) (ham2 : ¬ 9999 < am) {dy : Int32} (hbad : dy < 0 ∨ 119 < dy) {tx : Int32} : TM l E yX6_receipt cX6_receipt 5 (some .int) (tD 8) [.ref (g.ad 1 0), .int (am), .int (dy), .int (tx)] (RA E S g) "java/lang/IllegalArgumentException" := by
  refine tm_of rfl (Nat.le_of_ble_eq_true rfl) (fun p e s m below meth c ls hx hb hr hml (hown : s.vm.findClass RX6 = some m.cls) hY hZ hnt hlocks hR hl => ?_)
  have hC := hY.1
  have hl : lv_has ls 5 [(0, .ref (g.ad 1 0)), (1, .int (am)), (2, .int (dy)), (3, .int (tx))] := hl
  refine lv_iload_n hx hb dX6_receipt_0 rfl (lv_at hl 1 rfl) ?_
  refine lv_iload_n hx hb dX6_receipt_1 rfl (lv_at hl 2 rfl) ?_
  refine lv_iload_n hx hb dX6_receipt_2 rfl (lv_at hl 3 rfl) ?_
  exact tc_S (As := [.int (am), .int (dy), .int (tx)]) hx hb hml hown hY hZ hnt hlocks hl (t_X6_checkReceipt_2 l E hI hst ham1 ham2 hbad) (zm_X6_172 hC.1) kv_X6_checkReceipt hR rfl rfl (ttD_le (by decide) (by decide)) ⟨rfl, rfl⟩ (Nat.le_of_ble_eq_true rfl) ⟨Nat.le_refl 1, Nat.le_refl 6⟩ dX6_receipt_3
set_option maxRecDepth 100000 in
set_option maxHeartbeats 4000000 in
theorem t_X6_receipt_3 (l : Launch) (E : EE) {S : St} {g : Gh} (hI : Inv S) (hst : l.stackTraces = false) {am : Int32} (ham1 : ¬ am < 1) (ham2 : ¬ 9999 < am) {dy : Int32} (hdy1 : ¬ dy < 0) (hdy2 : ¬ 119 < dy) {tx : Int32} (hbad : tx < 0 ∨ 9 < tx) : TM l E yX6_receipt cX6_receipt 5 (some .int) (tD 8) [.ref (g.ad 1 0), .int (am), .int (dy), .int (tx)] (RA E S g) "java/lang/IllegalArgumentException" := by
  refine tm_of rfl (Nat.le_of_ble_eq_true rfl) (fun p e s m below meth c ls hx hb hr hml (hown : s.vm.findClass RX6 = some m.cls) hY hZ hnt hlocks hR hl => ?_)
  have hC := hY.1
  have hl : lv_has ls 5 [(0, .ref (g.ad 1 0)), (1, .int (am)), (2, .int (dy)), (3, .int (tx))] := hl
  refine lv_iload_n hx hb dX6_receipt_0 rfl (lv_at hl 1 rfl) ?_
  refine lv_iload_n hx hb dX6_receipt_1 rfl (lv_at hl 2 rfl) ?_
  refine lv_iload_n hx hb dX6_receipt_2 rfl (lv_at hl 3 rfl) ?_
  exact tc_S (As := [.int (am), .int (dy), .int (tx)]) hx hb hml hown hY hZ hnt hlocks hl (t_X6_checkReceipt_3 l E hI hst ham1 ham2 hdy1 hdy2 hbad) (zm_X6_172 hC.1) kv_X6_checkReceipt hR rfl rfl (ttD_le (by decide) (by decide)) ⟨rfl, rfl⟩ (Nat.le_of_ble_eq_true rfl) ⟨Nat.le_refl 1, Nat.le_refl 6⟩ dX6_receipt_3
set_option maxRecDepth 100000 in
set_option maxHeartbeats 4000000 in
theorem t_X6_wouldMatch_1 (l : Launch) (E : EE) {S : St} {g : Gh} (hI : Inv S) (hst : l.stackTraces = false) {am : Int32} (hbad : am < 1 ∨ 9999 < am) {dy : Int32} {tx : Int32} : TM l E yX6_wouldMatch cX6_wouldMatch 9 (some .int) (tD 8) [.ref (g.ad 1 0), .int (am), .int (dy), .int (tx)] (RA E S g) "java/lang/IllegalArgumentException" := by
  refine tm_of rfl (Nat.le_of_ble_eq_true rfl) (fun p e s m below meth c ls hx hb hr hml (hown : s.vm.findClass RX6 = some m.cls) hY hZ hnt hlocks hR hl => ?_)
  have hC := hY.1
  have hl : lv_has ls 9 [(0, .ref (g.ad 1 0)), (1, .int (am)), (2, .int (dy)), (3, .int (tx))] := hl
  refine lv_iload_n hx hb dX6_wouldMatch_0 rfl (lv_at hl 1 rfl) ?_
  refine lv_iload_n hx hb dX6_wouldMatch_1 rfl (lv_at hl 2 rfl) ?_
  refine lv_iload_n hx hb dX6_wouldMatch_2 rfl (lv_at hl 3 rfl) ?_
  exact tc_S (As := [.int (am), .int (dy), .int (tx)]) hx hb hml hown hY hZ hnt hlocks hl (t_X6_checkReceipt_1 l E hI hst  hbad) (zm_X6_172 hC.1) kv_X6_checkReceipt hR rfl rfl (ttD_le (by decide) (by decide)) ⟨rfl, rfl⟩ (Nat.le_of_ble_eq_true rfl) ⟨Nat.le_refl 1, Nat.le_refl 6⟩ dX6_wouldMatch_3
set_option maxRecDepth 100000 in
set_option maxHeartbeats 4000000 in
theorem t_X6_wouldMatch_2 (l : Launch) (E : EE) {S : St} {g : Gh} (hI : Inv S) (hst : l.stackTraces = false) {am : Int32} (ham1 : ¬ am < 1) (ham2 : ¬ 9999 < am) {dy : Int32} (hbad : dy < 0 ∨ 119 < dy) {tx : Int32} : TM l E yX6_wouldMatch cX6_wouldMatch 9 (some .int) (tD 8) [.ref (g.ad 1 0), .int (am), .int (dy), .int (tx)] (RA E S g) "java/lang/IllegalArgumentException" := by
  refine tm_of rfl (Nat.le_of_ble_eq_true rfl) (fun p e s m below meth c ls hx hb hr hml (hown : s.vm.findClass RX6 = some m.cls) hY hZ hnt hlocks hR hl => ?_)
  have hC := hY.1
  have hl : lv_has ls 9 [(0, .ref (g.ad 1 0)), (1, .int (am)), (2, .int (dy)), (3, .int (tx))] := hl
  refine lv_iload_n hx hb dX6_wouldMatch_0 rfl (lv_at hl 1 rfl) ?_
  refine lv_iload_n hx hb dX6_wouldMatch_1 rfl (lv_at hl 2 rfl) ?_
  refine lv_iload_n hx hb dX6_wouldMatch_2 rfl (lv_at hl 3 rfl) ?_
  exact tc_S (As := [.int (am), .int (dy), .int (tx)]) hx hb hml hown hY hZ hnt hlocks hl (t_X6_checkReceipt_2 l E hI hst ham1 ham2 hbad) (zm_X6_172 hC.1) kv_X6_checkReceipt hR rfl rfl (ttD_le (by decide) (by decide)) ⟨rfl, rfl⟩ (Nat.le_of_ble_eq_true rfl) ⟨Nat.le_refl 1, Nat.le_refl 6⟩ dX6_wouldMatch_3
set_option maxRecDepth 100000 in
set_option maxHeartbeats 4000000 in
theorem t_X6_wouldMatch_3 (l : Launch) (E : EE) {S : St} {g : Gh} (hI : Inv S) (hst : l.stackTraces = false) {am : Int32} (ham1 : ¬ am < 1) (ham2 : ¬ 9999 < am) {dy : Int32} (hdy1 : ¬ dy < 0) (hdy2 : ¬ 119 < dy) {tx : Int32} (hbad : tx < 0 ∨ 9 < tx) : TM l E yX6_wouldMatch cX6_wouldMatch 9 (some .int) (tD 8) [.ref (g.ad 1 0), .int (am), .int (dy), .int (tx)] (RA E S g) "java/lang/IllegalArgumentException" := by
  refine tm_of rfl (Nat.le_of_ble_eq_true rfl) (fun p e s m below meth c ls hx hb hr hml (hown : s.vm.findClass RX6 = some m.cls) hY hZ hnt hlocks hR hl => ?_)
  have hC := hY.1
  have hl : lv_has ls 9 [(0, .ref (g.ad 1 0)), (1, .int (am)), (2, .int (dy)), (3, .int (tx))] := hl
  refine lv_iload_n hx hb dX6_wouldMatch_0 rfl (lv_at hl 1 rfl) ?_
  refine lv_iload_n hx hb dX6_wouldMatch_1 rfl (lv_at hl 2 rfl) ?_
  refine lv_iload_n hx hb dX6_wouldMatch_2 rfl (lv_at hl 3 rfl) ?_
  exact tc_S (As := [.int (am), .int (dy), .int (tx)]) hx hb hml hown hY hZ hnt hlocks hl (t_X6_checkReceipt_3 l E hI hst ham1 ham2 hdy1 hdy2 hbad) (zm_X6_172 hC.1) kv_X6_checkReceipt hR rfl rfl (ttD_le (by decide) (by decide)) ⟨rfl, rfl⟩ (Nat.le_of_ble_eq_true rfl) ⟨Nat.le_refl 1, Nat.le_refl 6⟩ dX6_wouldMatch_3
set_option maxRecDepth 100000 in
set_option maxHeartbeats 4000000 in
theorem t_X6_receipt_4 (l : Launch) (E : EE) {S : St} {g : Gh} (hI : Inv S) (hst : l.stackTraces = false) {am : Int32} (ham1 : ¬ am < 1) (ham2 : ¬ 9999 < am) {dy : Int32} (hdy1 : ¬ dy < 0) (hdy2 : ¬ 119 < dy) {tx : Int32} (htx1 : ¬ tx < 0) (htx2 : ¬ 9 < tx) (hfull : 30 ≤ S.nr) : TM l E yX6_receipt cX6_receipt 5 (some .int) (tD 8) [.ref (g.ad 1 0), .int (am), .int (dy), .int (tx)] (RA E S g) "java/lang/IllegalStateException" := by
  refine tm_of rfl (Nat.le_of_ble_eq_true rfl) (fun p e s m below meth c ls hx hb hr hml (hown : s.vm.findClass RX6 = some m.cls) hY hZ hnt hlocks hR hl => ?_)
  have hC := hY.1
  have hl : lv_has ls 5 [(0, .ref (g.ad 1 0)), (1, .int (am)), (2, .int (dy)), (3, .int (tx))] := hl
  refine lv_iload_n hx hb dX6_receipt_0 rfl (lv_at hl 1 rfl) ?_
  refine lv_iload_n hx hb dX6_receipt_1 rfl (lv_at hl 2 rfl) ?_
  refine lv_iload_n hx hb dX6_receipt_2 rfl (lv_at hl 3 rfl) ?_
  refine rc_S0 (As := [.int (am), .int (dy), .int (tx)]) hx hb hml hown hC hl (c_X6_checkReceipt l E hI ham1 ham2 hdy1 hdy2 htx1 htx2) (zm_X6_172 hC.1) kv_X6_checkReceipt hR rfl rfl (rtD_le (by decide) (by decide)) ⟨rfl, rfl⟩ (Nat.le_of_ble_eq_true rfl) ⟨Nat.zero_le _, Nat.zero_le _⟩ dX6_receipt_3 ?_
  refine lv_aload_n hx hb dX6_receipt_6 rfl (lv_at hl 0 rfl) ?_
  refine gf_X6_3 hx hb hown hC (RA.x hR) (zf_X6_22 hC.1) dX6_receipt_7 ?_
  refine rc_V (As := []) hx hb hml hown hC hl (c_size l E _ _ _ _) (rec_of hC (RA.ls hR (by decide : 3 < 4)) rfl) (zm_X6_51 hC.1) kv_Jx4a65c_size_8abf5 (RA.ls hR (by decide : 3 < 4)) rfl rfl (rtD_le (by decide) (by decide)) ⟨rfl, rfl⟩ (Nat.le_of_ble_eq_true rfl) ⟨Nat.zero_le _, Nat.zero_le _⟩ dX6_receipt_10 ?_
  refine lv_bipush (v := 30) hx hb dX6_receipt_13 (by decide) ?_
  refine lv_icmp_lt (tgt := 28) hx hb dX6_receipt_15 (by decide) (fun c_15 => ?_) (fun c_15 => ?_)
  · exact absurd c_15 (nI_nlt (a := S.nr) (b := 30) hfull (by have := hI.1; omega))
  ·
    exact xt_ISE (is := 175) (text := "there are 30 receipts") hst hx hb hml hown hY hZ hnt hlocks hl (by decide) dX6_receipt_18 dX6_receipt_21 dX6_receipt_22 dX6_receipt_24 dX6_receipt_27
set_option maxRecDepth 100000 in
set_option maxHeartbeats 4000000 in
theorem t_X6_split_1 (l : Launch) (E : EE) {S : St} {g : Gh} (hI : Inv S) (hst : l.stackTraces = false) {c9 : Int32} (hbad : c9 < 0 ∨ nI S.nc ≤ c9) : TM l E yX6_split cX6_split 3 (some .int) (tD 8) [.ref (g.ad 1 0), .int (c9)] (RA E S g) "java/lang/IndexOutOfBoundsException" := by
  refine tm_of rfl (Nat.le_of_ble_eq_true rfl) (fun p e s m below meth c ls hx hb hr hml (hown : s.vm.findClass RX6 = some m.cls) hY hZ hnt hlocks hR hl => ?_)
  have hC := hY.1
  have hl : lv_has ls 3 [(0, .ref (g.ad 1 0)), (1, .int (c9))] := hl
  refine lv_aload_n hx hb dX6_split_0 rfl (lv_at hl 0 rfl) ?_
  refine lv_iload_n hx hb dX6_split_1 rfl (lv_at hl 1 rfl) ?_
  exact tc_V (As := [.int (c9)]) hx hb hml hown hY hZ hnt hlocks hl (t_X6_chargeAt l E hI hst hbad) (rec_of hC (RA.x hR) rfl) (zm_X6_186 hC.1) kv_X6_chargeAt hR rfl rfl (ttD_le (by decide) (by decide)) ⟨rfl, rfl⟩ (Nat.le_of_ble_eq_true rfl) ⟨Nat.le_refl 1, Nat.le_refl 6⟩ dX6_split_2
set_option maxRecDepth 100000 in
set_option maxHeartbeats 4000000 in
theorem t_X6_split_2 (l : Launch) (E : EE) {S : St} {g : Gh} (hI : Inv S) (hst : l.stackTraces = false) {c9 : Nat} (hc9 : c9 < S.nc) (hbad : ¬ S.cs c9 = 1) : TM l E yX6_split cX6_split 3 (some .int) (tD 8) [.ref (g.ad 1 0), .int (nI c9)] (RA E S g) "java/lang/IllegalStateException" := by
  refine tm_of rfl (Nat.le_of_ble_eq_true rfl) (fun p e s m below meth c ls hx hb hr hml (hown : s.vm.findClass RX6 = some m.cls) hY hZ hnt hlocks hR hl => ?_)
  have hC := hY.1
  have hl : lv_has ls 3 [(0, .ref (g.ad 1 0)), (1, .int (nI c9))] := hl
  refine lv_aload_n hx hb dX6_split_0 rfl (lv_at hl 0 rfl) ?_
  refine lv_iload_n hx hb dX6_split_1 rfl (lv_at hl 1 rfl) ?_
  refine rc_V (As := [.int (nI c9)]) hx hb hml hown hC hl (c_X6_chargeAt l E hI hc9) (rec_of hC (RA.x hR) rfl) (zm_X6_186 hC.1) kv_X6_chargeAt hR rfl rfl (rtD_le (by decide) (by decide)) ⟨rfl, rfl⟩ (Nat.le_of_ble_eq_true rfl) ⟨Nat.zero_le _, Nat.zero_le _⟩ dX6_split_2 ?_
  refine lv_astore_n (lv' := [(2, .ref (g.ad 8 (c9))), (0, .ref (g.ad 1 0)), (1, .int (nI c9))]) hx hb dX6_split_5 rfl hl (by decide) rfl (fun ls hl => ?_)
  refine lv_aload_n hx hb dX6_split_6 rfl (lv_at hl 0 rfl) ?_
  refine lv_iconst (v := 1) hx hb dX6_split_7 (by decide) ?_
  exact tc_S (As := [.ref (g.ad 8 (c9)), .int (1)]) hx hb hml hown hY hZ hnt hlocks hl (t_X6_checkState l E hI hst hc9 hbad) (zm_X6_190 hC.1) kv_X6_checkState hR rfl rfl (ttD_le (by decide) (by decide)) ⟨rfl, rfl⟩ (Nat.le_of_ble_eq_true rfl) ⟨Nat.le_refl 1, Nat.le_refl 6⟩ dX6_split_8
set_option maxRecDepth 100000 in
set_option maxHeartbeats 4000000 in
theorem t_X6_settle_1 (l : Launch) (E : EE) {S : St} {g : Gh} (hI : Inv S) (hst : l.stackTraces = false) {c9 : Int32} (hbad : c9 < 0 ∨ nI S.nc ≤ c9) {b9 : Int32} : TM l E yX6_settle cX6_settle 4 (some .int) (tD 8) [.ref (g.ad 1 0), .int (c9), .int (b9)] (RA E S g) "java/lang/IndexOutOfBoundsException" := by
  refine tm_of rfl (Nat.le_of_ble_eq_true rfl) (fun p e s m below meth c ls hx hb hr hml (hown : s.vm.findClass RX6 = some m.cls) hY hZ hnt hlocks hR hl => ?_)
  have hC := hY.1
  have hl : lv_has ls 4 [(0, .ref (g.ad 1 0)), (1, .int (c9)), (2, .int (b9))] := hl
  refine lv_aload_n hx hb dX6_settle_0 rfl (lv_at hl 0 rfl) ?_
  refine lv_iload_n hx hb dX6_settle_1 rfl (lv_at hl 1 rfl) ?_
  exact tc_V (As := [.int (c9)]) hx hb hml hown hY hZ hnt hlocks hl (t_X6_chargeAt l E hI hst hbad) (rec_of hC (RA.x hR) rfl) (zm_X6_186 hC.1) kv_X6_chargeAt hR rfl rfl (ttD_le (by decide) (by decide)) ⟨rfl, rfl⟩ (Nat.le_of_ble_eq_true rfl) ⟨Nat.le_refl 1, Nat.le_refl 6⟩ dX6_settle_2
set_option maxRecDepth 100000 in
set_option maxHeartbeats 4000000 in
theorem t_X6_settle_2 (l : Launch) (E : EE) {S : St} {g : Gh} (hI : Inv S) (hst : l.stackTraces = false) {c9 : Nat} (hc9 : c9 < S.nc) {b9 : Int32} (hbad : ¬ S.cs c9 = 4) : TM l E yX6_settle cX6_settle 4 (some .int) (tD 8) [.ref (g.ad 1 0), .int (nI c9), .int (b9)] (RA E S g) "java/lang/IllegalStateException" := by
  refine tm_of rfl (Nat.le_of_ble_eq_true rfl) (fun p e s m below meth c ls hx hb hr hml (hown : s.vm.findClass RX6 = some m.cls) hY hZ hnt hlocks hR hl => ?_)
  have hC := hY.1
  have hl : lv_has ls 4 [(0, .ref (g.ad 1 0)), (1, .int (nI c9)), (2, .int (b9))] := hl
  refine lv_aload_n hx hb dX6_settle_0 rfl (lv_at hl 0 rfl) ?_
  refine lv_iload_n hx hb dX6_settle_1 rfl (lv_at hl 1 rfl) ?_
  refine rc_V (As := [.int (nI c9)]) hx hb hml hown hC hl (c_X6_chargeAt l E hI hc9) (rec_of hC (RA.x hR) rfl) (zm_X6_186 hC.1) kv_X6_chargeAt hR rfl rfl (rtD_le (by decide) (by decide)) ⟨rfl, rfl⟩ (Nat.le_of_ble_eq_true rfl) ⟨Nat.zero_le _, Nat.zero_le _⟩ dX6_settle_2 ?_
  refine lv_astore_n (lv' := [(3, .ref (g.ad 8 (c9))), (0, .ref (g.ad 1 0)), (1, .int (nI c9)), (2, .int (b9))]) hx hb dX6_settle_5 rfl hl (by decide) rfl (fun ls hl => ?_)
  refine lv_aload_n hx hb dX6_settle_6 rfl (lv_at hl 0 rfl) ?_
  refine lv_iconst (v := 4) hx hb dX6_settle_7 (by decide) ?_
  exact tc_S (As := [.ref (g.ad 8 (c9)), .int (4)]) hx hb hml hown hY hZ hnt hlocks hl (t_X6_checkState l E hI hst hc9 hbad) (zm_X6_190 hC.1) kv_X6_checkState hR rfl rfl (ttD_le (by decide) (by decide)) ⟨rfl, rfl⟩ (Nat.le_of_ble_eq_true rfl) ⟨Nat.le_refl 1, Nat.le_refl 6⟩ dX6_settle_8
set_option maxRecDepth 100000 in
set_option maxHeartbeats 4000000 in
theorem t_X6_approve_1 (l : Launch) (E : EE) {S : St} {g : Gh} (hI : Inv S) (hst : l.stackTraces = false) {c9 : Int32} (hbad : c9 < 0 ∨ nI S.nc ≤ c9) {p9 : Int32} : TM l E yX6_approve cX6_approve 5 (some .int) (tD 8) [.ref (g.ad 1 0), .int (c9), .int (p9)] (RA E S g) "java/lang/IndexOutOfBoundsException" := by
  refine tm_of rfl (Nat.le_of_ble_eq_true rfl) (fun p e s m below meth c ls hx hb hr hml (hown : s.vm.findClass RX6 = some m.cls) hY hZ hnt hlocks hR hl => ?_)
  have hC := hY.1
  have hl : lv_has ls 5 [(0, .ref (g.ad 1 0)), (1, .int (c9)), (2, .int (p9))] := hl
  refine lv_aload_n hx hb dX6_approve_0 rfl (lv_at hl 0 rfl) ?_
  refine lv_iload_n hx hb dX6_approve_1 rfl (lv_at hl 1 rfl) ?_
  exact tc_V (As := [.int (c9)]) hx hb hml hown hY hZ hnt hlocks hl (t_X6_chargeAt l E hI hst hbad) (rec_of hC (RA.x hR) rfl) (zm_X6_186 hC.1) kv_X6_chargeAt hR rfl rfl (ttD_le (by decide) (by decide)) ⟨rfl, rfl⟩ (Nat.le_of_ble_eq_true rfl) ⟨Nat.le_refl 1, Nat.le_refl 6⟩ dX6_approve_2
set_option maxRecDepth 100000 in
set_option maxHeartbeats 4000000 in
theorem t_X6_approve_2 (l : Launch) (E : EE) {S : St} {g : Gh} (hI : Inv S) (hst : l.stackTraces = false) {c9 : Nat} (hc9 : c9 < S.nc) {p9 : Int32} (hbad : p9 < 0 ∨ nI S.np ≤ p9) : TM l E yX6_approve cX6_approve 5 (some .int) (tD 8) [.ref (g.ad 1 0), .int (nI c9), .int (p9)] (RA E S g) "java/lang/IndexOutOfBoundsException" := by
  refine tm_of rfl (Nat.le_of_ble_eq_true rfl) (fun p e s m below meth c ls hx hb hr hml (hown : s.vm.findClass RX6 = some m.cls) hY hZ hnt hlocks hR hl => ?_)
  have hC := hY.1
  have hl : lv_has ls 5 [(0, .ref (g.ad 1 0)), (1, .int (nI c9)), (2, .int (p9))] := hl
  refine lv_aload_n hx hb dX6_approve_0 rfl (lv_at hl 0 rfl) ?_
  refine lv_iload_n hx hb dX6_approve_1 rfl (lv_at hl 1 rfl) ?_
  refine rc_V (As := [.int (nI c9)]) hx hb hml hown hC hl (c_X6_chargeAt l E hI hc9) (rec_of hC (RA.x hR) rfl) (zm_X6_186 hC.1) kv_X6_chargeAt hR rfl rfl (rtD_le (by decide) (by decide)) ⟨rfl, rfl⟩ (Nat.le_of_ble_eq_true rfl) ⟨Nat.zero_le _, Nat.zero_le _⟩ dX6_approve_2 ?_
  refine lv_astore_n (lv' := [(3, .ref (g.ad 8 (c9))), (0, .ref (g.ad 1 0)), (1, .int (nI c9)), (2, .int (p9))]) hx hb dX6_approve_5 rfl hl (by decide) rfl (fun ls hl => ?_)
  refine lv_aload_n hx hb dX6_approve_6 rfl (lv_at hl 1 rfl) ?_
  refine lv_iload_n hx hb dX6_approve_7 rfl (lv_at hl 3 rfl) ?_
  exact tc_V (As := [.int (p9)]) hx hb hml hown hY hZ hnt hlocks hl (t_X6_personAt l E hI hst hbad) (rec_of hC (RA.x hR) rfl) (zm_X6_47 hC.1) kv_X6_personAt hR rfl rfl (ttD_le (by decide) (by decide)) ⟨rfl, rfl⟩ (Nat.le_of_ble_eq_true rfl) ⟨Nat.le_refl 1, Nat.le_refl 6⟩ dX6_approve_8
set_option maxRecDepth 100000 in
set_option maxHeartbeats 4000000 in
theorem t_X6_approve_3 (l : Launch) (E : EE) {S : St} {g : Gh} (hI : Inv S) (hst : l.stackTraces = false) {c9 : Nat} (hc9 : c9 < S.nc) {p9 : Nat} (hp9 : p9 < S.np) (hbad : ¬ apprA S c9 = some p9) : TM l E yX6_approve cX6_approve 5 (some .int) (tD 8) [.ref (g.ad 1 0), .int (nI c9), .int (nI p9)] (RA E S g) "java/lang/IllegalStateException" := by
  refine tm_of rfl (Nat.le_of_ble_eq_true rfl) (fun p e s m below meth c ls hx hb hr hml (hown : s.vm.findClass RX6 = some m.cls) hY hZ hnt hlocks hR hl => ?_)
  have hC := hY.1
  have hl : lv_has ls 5 [(0, .ref (g.ad 1 0)), (1, .int (nI c9)), (2, .int (nI p9))] := hl
  refine lv_aload_n hx hb dX6_approve_0 rfl (lv_at hl 0 rfl) ?_
  refine lv_iload_n hx hb dX6_approve_1 rfl (lv_at hl 1 rfl) ?_
  refine rc_V (As := [.int (nI c9)]) hx hb hml hown hC hl (c_X6_chargeAt l E hI hc9) (rec_of hC (RA.x hR) rfl) (zm_X6_186 hC.1) kv_X6_chargeAt hR rfl rfl (rtD_le (by decide) (by decide)) ⟨rfl, rfl⟩ (Nat.le_of_ble_eq_true rfl) ⟨Nat.zero_le _, Nat.zero_le _⟩ dX6_approve_2 ?_
  refine lv_astore_n (lv' := [(3, .ref (g.ad 8 (c9))), (0, .ref (g.ad 1 0)), (1, .int (nI c9)), (2, .int (nI p9))]) hx hb dX6_approve_5 rfl hl (by decide) rfl (fun ls hl => ?_)
  refine lv_aload_n hx hb dX6_approve_6 rfl (lv_at hl 1 rfl) ?_
  refine lv_iload_n hx hb dX6_approve_7 rfl (lv_at hl 3 rfl) ?_
  refine rc_V (As := [.int (nI p9)]) hx hb hml hown hC hl (c_X6_personAt l E hI hp9) (rec_of hC (RA.x hR) rfl) (zm_X6_47 hC.1) kv_X6_personAt hR rfl rfl (rtD_le (by decide) (by decide)) ⟨rfl, rfl⟩ (Nat.le_of_ble_eq_true rfl) ⟨Nat.zero_le _, Nat.zero_le _⟩ dX6_approve_8 ?_
  refine lv_astore (lv' := [(4, .ref (g.ad 6 (p9))), (3, .ref (g.ad 8 (c9))), (0, .ref (g.ad 1 0)), (1, .int (nI c9)), (2, .int (nI p9))]) hx hb dX6_approve_11 hl (by decide) rfl (fun ls hl => ?_)
  refine lv_aload_n hx hb dX6_approve_13 rfl (lv_at hl 2 rfl) ?_
  refine lv_aload_n hx hb dX6_approve_14 rfl (lv_at hl 1 rfl) ?_
  refine lv_aload hx hb dX6_approve_15 (lv_at hl 0 rfl) ?_
  exact tc_V (As := [.ref (g.ad 8 (c9)), .ref (g.ad 6 (p9))]) hx hb hml hown hY hZ hnt hlocks hl (t_X6_checkNextApprover l E hI hst hc9 hp9 hbad) (rec_of hC (RA.x hR) rfl) (zm_X6_200 hC.1) kv_X6_checkNextApprover hR rfl rfl (ttD_le (by decide) (by decide)) ⟨rfl, rfl⟩ (Nat.le_of_ble_eq_true rfl) ⟨Nat.le_refl 1, Nat.le_refl 6⟩ dX6_approve_17
set_option maxRecDepth 100000 in
set_option maxHeartbeats 4000000 in
theorem t_X6_refuse_1 (l : Launch) (E : EE) {S : St} {g : Gh} (hI : Inv S) (hst : l.stackTraces = false) {c9 : Int32} (hbad : c9 < 0 ∨ nI S.nc ≤ c9) {p9 : Int32} : TM l E yX6_refuse cX6_refuse 5 (some .int) (tD 8) [.ref (g.ad 1 0), .int (c9), .int (p9)] (RA E S g) "java/lang/IndexOutOfBoundsException" := by
  refine tm_of rfl (Nat.le_of_ble_eq_true rfl) (fun p e s m below meth c ls hx hb hr hml (hown : s.vm.findClass RX6 = some m.cls) hY hZ hnt hlocks hR hl => ?_)
  have hC := hY.1
  have hl : lv_has ls 5 [(0, .ref (g.ad 1 0)), (1, .int (c9)), (2, .int (p9))] := hl
  refine lv_aload_n hx hb dX6_refuse_0 rfl (lv_at hl 0 rfl) ?_
  refine lv_iload_n hx hb dX6_refuse_1 rfl (lv_at hl 1 rfl) ?_
  exact tc_V (As := [.int (c9)]) hx hb hml hown hY hZ hnt hlocks hl (t_X6_chargeAt l E hI hst hbad) (rec_of hC (RA.x hR) rfl) (zm_X6_186 hC.1) kv_X6_chargeAt hR rfl rfl (ttD_le (by decide) (by decide)) ⟨rfl, rfl⟩ (Nat.le_of_ble_eq_true rfl) ⟨Nat.le_refl 1, Nat.le_refl 6⟩ dX6_refuse_2
set_option maxRecDepth 100000 in
set_option maxHeartbeats 4000000 in
theorem t_X6_refuse_2 (l : Launch) (E : EE) {S : St} {g : Gh} (hI : Inv S) (hst : l.stackTraces = false) {c9 : Nat} (hc9 : c9 < S.nc) {p9 : Int32} (hbad : p9 < 0 ∨ nI S.np ≤ p9) : TM l E yX6_refuse cX6_refuse 5 (some .int) (tD 8) [.ref (g.ad 1 0), .int (nI c9), .int (p9)] (RA E S g) "java/lang/IndexOutOfBoundsException" := by
  refine tm_of rfl (Nat.le_of_ble_eq_true rfl) (fun p e s m below meth c ls hx hb hr hml (hown : s.vm.findClass RX6 = some m.cls) hY hZ hnt hlocks hR hl => ?_)
  have hC := hY.1
  have hl : lv_has ls 5 [(0, .ref (g.ad 1 0)), (1, .int (nI c9)), (2, .int (p9))] := hl
  refine lv_aload_n hx hb dX6_refuse_0 rfl (lv_at hl 0 rfl) ?_
  refine lv_iload_n hx hb dX6_refuse_1 rfl (lv_at hl 1 rfl) ?_
  refine rc_V (As := [.int (nI c9)]) hx hb hml hown hC hl (c_X6_chargeAt l E hI hc9) (rec_of hC (RA.x hR) rfl) (zm_X6_186 hC.1) kv_X6_chargeAt hR rfl rfl (rtD_le (by decide) (by decide)) ⟨rfl, rfl⟩ (Nat.le_of_ble_eq_true rfl) ⟨Nat.zero_le _, Nat.zero_le _⟩ dX6_refuse_2 ?_
  refine lv_astore_n (lv' := [(3, .ref (g.ad 8 (c9))), (0, .ref (g.ad 1 0)), (1, .int (nI c9)), (2, .int (p9))]) hx hb dX6_refuse_5 rfl hl (by decide) rfl (fun ls hl => ?_)
  refine lv_aload_n hx hb dX6_refuse_6 rfl (lv_at hl 1 rfl) ?_
  refine lv_iload_n hx hb dX6_refuse_7 rfl (lv_at hl 3 rfl) ?_
  exact tc_V (As := [.int (p9)]) hx hb hml hown hY hZ hnt hlocks hl (t_X6_personAt l E hI hst hbad) (rec_of hC (RA.x hR) rfl) (zm_X6_47 hC.1) kv_X6_personAt hR rfl rfl (ttD_le (by decide) (by decide)) ⟨rfl, rfl⟩ (Nat.le_of_ble_eq_true rfl) ⟨Nat.le_refl 1, Nat.le_refl 6⟩ dX6_refuse_8
set_option maxRecDepth 100000 in
set_option maxHeartbeats 4000000 in
theorem t_X6_refuse_3 (l : Launch) (E : EE) {S : St} {g : Gh} (hI : Inv S) (hst : l.stackTraces = false) {c9 : Nat} (hc9 : c9 < S.nc) {p9 : Nat} (hp9 : p9 < S.np) (hbad : ¬ apprA S c9 = some p9) : TM l E yX6_refuse cX6_refuse 5 (some .int) (tD 8) [.ref (g.ad 1 0), .int (nI c9), .int (nI p9)] (RA E S g) "java/lang/IllegalStateException" := by
  refine tm_of rfl (Nat.le_of_ble_eq_true rfl) (fun p e s m below meth c ls hx hb hr hml (hown : s.vm.findClass RX6 = some m.cls) hY hZ hnt hlocks hR hl => ?_)
  have hC := hY.1
  have hl : lv_has ls 5 [(0, .ref (g.ad 1 0)), (1, .int (nI c9)), (2, .int (nI p9))] := hl
  refine lv_aload_n hx hb dX6_refuse_0 rfl (lv_at hl 0 rfl) ?_
  refine lv_iload_n hx hb dX6_refuse_1 rfl (lv_at hl 1 rfl) ?_
  refine rc_V (As := [.int (nI c9)]) hx hb hml hown hC hl (c_X6_chargeAt l E hI hc9) (rec_of hC (RA.x hR) rfl) (zm_X6_186 hC.1) kv_X6_chargeAt hR rfl rfl (rtD_le (by decide) (by decide)) ⟨rfl, rfl⟩ (Nat.le_of_ble_eq_true rfl) ⟨Nat.zero_le _, Nat.zero_le _⟩ dX6_refuse_2 ?_
  refine lv_astore_n (lv' := [(3, .ref (g.ad 8 (c9))), (0, .ref (g.ad 1 0)), (1, .int (nI c9)), (2, .int (nI p9))]) hx hb dX6_refuse_5 rfl hl (by decide) rfl (fun ls hl => ?_)
  refine lv_aload_n hx hb dX6_refuse_6 rfl (lv_at hl 1 rfl) ?_
  refine lv_iload_n hx hb dX6_refuse_7 rfl (lv_at hl 3 rfl) ?_
  refine rc_V (As := [.int (nI p9)]) hx hb hml hown hC hl (c_X6_personAt l E hI hp9) (rec_of hC (RA.x hR) rfl) (zm_X6_47 hC.1) kv_X6_personAt hR rfl rfl (rtD_le (by decide) (by decide)) ⟨rfl, rfl⟩ (Nat.le_of_ble_eq_true rfl) ⟨Nat.zero_le _, Nat.zero_le _⟩ dX6_refuse_8 ?_
  refine lv_astore (lv' := [(4, .ref (g.ad 6 (p9))), (3, .ref (g.ad 8 (c9))), (0, .ref (g.ad 1 0)), (1, .int (nI c9)), (2, .int (nI p9))]) hx hb dX6_refuse_11 hl (by decide) rfl (fun ls hl => ?_)
  refine lv_aload_n hx hb dX6_refuse_13 rfl (lv_at hl 2 rfl) ?_
  refine lv_aload_n hx hb dX6_refuse_14 rfl (lv_at hl 1 rfl) ?_
  refine lv_aload hx hb dX6_refuse_15 (lv_at hl 0 rfl) ?_
  exact tc_V (As := [.ref (g.ad 8 (c9)), .ref (g.ad 6 (p9))]) hx hb hml hown hY hZ hnt hlocks hl (t_X6_checkNextApprover l E hI hst hc9 hp9 hbad) (rec_of hC (RA.x hR) rfl) (zm_X6_200 hC.1) kv_X6_checkNextApprover hR rfl rfl (ttD_le (by decide) (by decide)) ⟨rfl, rfl⟩ (Nat.le_of_ble_eq_true rfl) ⟨Nat.le_refl 1, Nat.le_refl 6⟩ dX6_refuse_17
set_option maxRecDepth 100000 in
set_option maxHeartbeats 4000000 in
theorem t_X6_ofCharge_1 (l : Launch) (E : EE) {S : St} {g : Gh} (hI : Inv S) (hst : l.stackTraces = false) {c9 : Int32} (hbad : c9 < 0 ∨ nI S.nc ≤ c9) {w9 : Int32} : TM l E yX6_ofCharge cX6_ofCharge 4 (some .int) (tD 8) [.ref (g.ad 1 0), .int (c9), .int (w9)] (RA E S g) "java/lang/IndexOutOfBoundsException" := by
  refine tm_of rfl (Nat.le_of_ble_eq_true rfl) (fun p e s m below meth c ls hx hb hr hml (hown : s.vm.findClass RX6 = some m.cls) hY hZ hnt hlocks hR hl => ?_)
  have hC := hY.1
  have hl : lv_has ls 4 [(0, .ref (g.ad 1 0)), (1, .int (c9)), (2, .int (w9))] := hl
  refine lv_aload_n hx hb dX6_ofCharge_0 rfl (lv_at hl 0 rfl) ?_
  refine lv_iload_n hx hb dX6_ofCharge_1 rfl (lv_at hl 1 rfl) ?_
  exact tc_V (As := [.int (c9)]) hx hb hml hown hY hZ hnt hlocks hl (t_X6_chargeAt l E hI hst hbad) (rec_of hC (RA.x hR) rfl) (zm_X6_186 hC.1) kv_X6_chargeAt hR rfl rfl (ttD_le (by decide) (by decide)) ⟨rfl, rfl⟩ (Nat.le_of_ble_eq_true rfl) ⟨Nat.le_refl 1, Nat.le_refl 6⟩ dX6_ofCharge_2
set_option maxRecDepth 100000 in
set_option maxHeartbeats 4000000 in
theorem t_X6_ofCharge_2 (l : Launch) (E : EE) {S : St} {g : Gh} (hI : Inv S) (hst : l.stackTraces = false) {c9 : Nat} (hc9 : c9 < S.nc) {w9 : Int32} (hbad : w9 < 0 ∨ 11 < w9) : TM l E yX6_ofCharge cX6_ofCharge 4 (some .int) (tD 8) [.ref (g.ad 1 0), .int (nI c9), .int (w9)] (RA E S g) "java/lang/IllegalArgumentException" := by
  refine tm_of rfl (Nat.le_of_ble_eq_true rfl) (fun p e s m below meth c ls hx hb hr hml (hown : s.vm.findClass RX6 = some m.cls) hY hZ hnt hlocks hR hl => ?_)
  have hC := hY.1
  have hl : lv_has ls 4 [(0, .ref (g.ad 1 0)), (1, .int (nI c9)), (2, .int (w9))] := hl
  refine lv_aload_n hx hb dX6_ofCharge_0 rfl (lv_at hl 0 rfl) ?_
  refine lv_iload_n hx hb dX6_ofCharge_1 rfl (lv_at hl 1 rfl) ?_
  refine rc_V (As := [.int (nI c9)]) hx hb hml hown hC hl (c_X6_chargeAt l E hI hc9) (rec_of hC (RA.x hR) rfl) (zm_X6_186 hC.1) kv_X6_chargeAt hR rfl rfl (rtD_le (by decide) (by decide)) ⟨rfl, rfl⟩ (Nat.le_of_ble_eq_true rfl) ⟨Nat.zero_le _, Nat.zero_le _⟩ dX6_ofCharge_2 ?_
  refine lv_astore_n (lv' := [(3, .ref (g.ad 8 (c9))), (0, .ref (g.ad 1 0)), (1, .int (nI c9)), (2, .int (w9))]) hx hb dX6_ofCharge_5 rfl hl (by decide) rfl (fun ls hl => ?_)
  refine lv_iload_n hx hb dX6_ofCharge_6 rfl (lv_at hl 3 rfl) ?_
  refine lv_iconst (v := 0) hx hb dX6_ofCharge_7 (by decide) ?_
  refine lv_bipush (v := 11) hx hb dX6_ofCharge_8 (by decide) ?_
  exact tc_S (As := [.int (w9), .int (0), .int (11)]) hx hb hml hown hY hZ hnt hlocks hl (t_X6_checkRange l E hI hst hbad) (zm_X6_78 hC.1) kv_X6_checkRange hR rfl rfl (ttD_le (by decide) (by decide)) ⟨rfl, rfl⟩ (Nat.le_of_ble_eq_true rfl) ⟨Nat.le_refl 1, Nat.le_refl 6⟩ dX6_ofCharge_10
set_option maxRecDepth 100000 in
set_option maxHeartbeats 4000000 in
theorem t_X6_ofReceipt_1 (l : Launch) (E : EE) {S : St} {g : Gh} (hI : Inv S) (hst : l.stackTraces = false) {r9 : Int32} (hbad : r9 < 0 ∨ nI S.nr ≤ r9) : TM l E yX6_ofReceipt cX6_ofReceipt 2 (some .int) (tD 8) [.ref (g.ad 1 0), .int (r9)] (RA E S g) "java/lang/IndexOutOfBoundsException" := by
  refine tm_of rfl (Nat.le_of_ble_eq_true rfl) (fun p e s m below meth c ls hx hb hr hml (hown : s.vm.findClass RX6 = some m.cls) hY hZ hnt hlocks hR hl => ?_)
  have hC := hY.1
  have hl : lv_has ls 2 [(0, .ref (g.ad 1 0)), (1, .int (r9))] := hl
  refine lv_aload_n hx hb dX6_ofReceipt_0 rfl (lv_at hl 0 rfl) ?_
  refine lv_iload_n hx hb dX6_ofReceipt_1 rfl (lv_at hl 1 rfl) ?_
  exact tc_V (As := [.int (r9)]) hx hb hml hown hY hZ hnt hlocks hl (t_X6_receiptAt l E hI hst hbad) (rec_of hC (RA.x hR) rfl) (zm_X6_243 hC.1) kv_X6_receiptAt hR rfl rfl (ttD_le (by decide) (by decide)) ⟨rfl, rfl⟩ (Nat.le_of_ble_eq_true rfl) ⟨Nat.le_refl 1, Nat.le_refl 6⟩ dX6_ofReceipt_2
set_option maxRecDepth 100000 in
set_option maxHeartbeats 4000000 in
theorem t_X6_score_1 (l : Launch) (E : EE) {S : St} {g : Gh} (hI : Inv S) (hst : l.stackTraces = false) {c9 : Int32} (hbad : c9 < 0 ∨ nI S.nc ≤ c9) {r9 : Int32} : TM l E yX6_score cX6_score 3 (some .int) (tD 8) [.ref (g.ad 1 0), .int (c9), .int (r9)] (RA E S g) "java/lang/IndexOutOfBoundsException" := by
  refine tm_of rfl (Nat.le_of_ble_eq_true rfl) (fun p e s m below meth c ls hx hb hr hml (hown : s.vm.findClass RX6 = some m.cls) hY hZ hnt hlocks hR hl => ?_)
  have hC := hY.1
  have hl : lv_has ls 3 [(0, .ref (g.ad 1 0)), (1, .int (c9)), (2, .int (r9))] := hl
  refine lv_aload_n hx hb dX6_score_0 rfl (lv_at hl 0 rfl) ?_
  refine lv_iload_n hx hb dX6_score_1 rfl (lv_at hl 1 rfl) ?_
  exact tc_V (As := [.int (c9)]) hx hb hml hown hY hZ hnt hlocks hl (t_X6_chargeAt l E hI hst hbad) (rec_of hC (RA.x hR) rfl) (zm_X6_186 hC.1) kv_X6_chargeAt hR rfl rfl (ttD_le (by decide) (by decide)) ⟨rfl, rfl⟩ (Nat.le_of_ble_eq_true rfl) ⟨Nat.le_refl 1, Nat.le_refl 6⟩ dX6_score_2
set_option maxRecDepth 100000 in
set_option maxHeartbeats 4000000 in
theorem t_X6_score_2 (l : Launch) (E : EE) {S : St} {g : Gh} (hI : Inv S) (hst : l.stackTraces = false) {c9 : Nat} (hc9 : c9 < S.nc) {r9 : Int32} (hbad : r9 < 0 ∨ nI S.nr ≤ r9) : TM l E yX6_score cX6_score 3 (some .int) (tD 8) [.ref (g.ad 1 0), .int (nI c9), .int (r9)] (RA E S g) "java/lang/IndexOutOfBoundsException" := by
  refine tm_of rfl (Nat.le_of_ble_eq_true rfl) (fun p e s m below meth c ls hx hb hr hml (hown : s.vm.findClass RX6 = some m.cls) hY hZ hnt hlocks hR hl => ?_)
  have hC := hY.1
  have hl : lv_has ls 3 [(0, .ref (g.ad 1 0)), (1, .int (nI c9)), (2, .int (r9))] := hl
  refine lv_aload_n hx hb dX6_score_0 rfl (lv_at hl 0 rfl) ?_
  refine lv_iload_n hx hb dX6_score_1 rfl (lv_at hl 1 rfl) ?_
  refine rc_V (As := [.int (nI c9)]) hx hb hml hown hC hl (c_X6_chargeAt l E hI hc9) (rec_of hC (RA.x hR) rfl) (zm_X6_186 hC.1) kv_X6_chargeAt hR rfl rfl (rtD_le (by decide) (by decide)) ⟨rfl, rfl⟩ (Nat.le_of_ble_eq_true rfl) ⟨Nat.zero_le _, Nat.zero_le _⟩ dX6_score_2 ?_
  refine lv_aload_n hx hb dX6_score_5 rfl (lv_at hl 0 rfl) ?_
  refine lv_iload_n hx hb dX6_score_6 rfl (lv_at hl 2 rfl) ?_
  exact tc_V (As := [.int (r9)]) hx hb hml hown hY hZ hnt hlocks hl (t_X6_receiptAt l E hI hst hbad) (rec_of hC (RA.x hR) rfl) (zm_X6_243 hC.1) kv_X6_receiptAt hR rfl rfl (ttD_le (by decide) (by decide)) ⟨rfl, rfl⟩ (Nat.le_of_ble_eq_true rfl) ⟨Nat.le_refl 1, Nat.le_refl 6⟩ dX6_score_7
set_option maxRecDepth 100000 in
set_option maxHeartbeats 4000000 in
theorem t_X6_many_1 (l : Launch) (E : EE) {S : St} {g : Gh} (hI : Inv S) (hst : l.stackTraces = false) {w9 : Int32} (hbad : w9 < 0 ∨ 12 < w9) : TM l E yX6_many cX6_many 2 (some .int) (tD 8) [.ref (g.ad 1 0), .int (w9)] (RA E S g) "java/lang/IllegalArgumentException" := by
  refine tm_of rfl (Nat.le_of_ble_eq_true rfl) (fun p e s m below meth c ls hx hb hr hml (hown : s.vm.findClass RX6 = some m.cls) hY hZ hnt hlocks hR hl => ?_)
  have hC := hY.1
  have hl : lv_has ls 2 [(0, .ref (g.ad 1 0)), (1, .int (w9))] := hl
  refine lv_iload_n hx hb dX6_many_0 rfl (lv_at hl 1 rfl) ?_
  refine lv_iconst (v := 0) hx hb dX6_many_1 (by decide) ?_
  refine lv_bipush (v := 12) hx hb dX6_many_2 (by decide) ?_
  exact tc_S (As := [.int (w9), .int (0), .int (12)]) hx hb hml hown hY hZ hnt hlocks hl (t_X6_checkRange l E hI hst hbad) (zm_X6_78 hC.1) kv_X6_checkRange hR rfl rfl (ttD_le (by decide) (by decide)) ⟨rfl, rfl⟩ (Nat.le_of_ble_eq_true rfl) ⟨Nat.le_refl 1, Nat.le_refl 6⟩ dX6_many_4
set_option maxRecDepth 100000 in
set_option maxHeartbeats 4000000 in
theorem t_X6_trustBehind_1 (l : Launch) (E : EE) {S : St} {g : Gh} (hI : Inv S) (hst : l.stackTraces = false) {p9 : Int32} (hbad : p9 < 0 ∨ nI S.np ≤ p9) {d9 : Int32} : TM l E yX6_trustBehind cX6_trustBehind 8 (some .int) (tD 8) [.ref (g.ad 1 0), .int (p9), .int (d9)] (RA E S g) "java/lang/IndexOutOfBoundsException" := by
  refine tm_of rfl (Nat.le_of_ble_eq_true rfl) (fun p e s m below meth c ls hx hb hr hml (hown : s.vm.findClass RX6 = some m.cls) hY hZ hnt hlocks hR hl => ?_)
  have hC := hY.1
  have hl : lv_has ls 8 [(0, .ref (g.ad 1 0)), (1, .int (p9)), (2, .int (d9))] := hl
  refine lv_aload_n hx hb dX6_trustBehind_0 rfl (lv_at hl 0 rfl) ?_
  refine lv_iload_n hx hb dX6_trustBehind_1 rfl (lv_at hl 1 rfl) ?_
  exact tc_V (As := [.int (p9)]) hx hb hml hown hY hZ hnt hlocks hl (t_X6_personAt l E hI hst hbad) (rec_of hC (RA.x hR) rfl) (zm_X6_47 hC.1) kv_X6_personAt hR rfl rfl (ttD_le (by decide) (by decide)) ⟨rfl, rfl⟩ (Nat.le_of_ble_eq_true rfl) ⟨Nat.le_refl 1, Nat.le_refl 6⟩ dX6_trustBehind_2
set_option maxRecDepth 100000 in
set_option maxHeartbeats 4000000 in
theorem t_X6_trustBehind_2 (l : Launch) (E : EE) {S : St} {g : Gh} (hI : Inv S) (hst : l.stackTraces = false) {p9 : Nat} (hp9 : p9 < S.np) {d9 : Int32} (hbad : d9 < 0 ∨ 30 < d9) : TM l E yX6_trustBehind cX6_trustBehind 8 (some .int) (tD 8) [.ref (g.ad 1 0), .int (nI p9), .int (d9)] (RA E S g) "java/lang/IllegalArgumentException" := by
  refine tm_of rfl (Nat.le_of_ble_eq_true rfl) (fun p e s m below meth c ls hx hb hr hml (hown : s.vm.findClass RX6 = some m.cls) hY hZ hnt hlocks hR hl => ?_)
  have hC := hY.1
  have hl : lv_has ls 8 [(0, .ref (g.ad 1 0)), (1, .int (nI p9)), (2, .int (d9))] := hl
  refine lv_aload_n hx hb dX6_trustBehind_0 rfl (lv_at hl 0 rfl) ?_
  refine lv_iload_n hx hb dX6_trustBehind_1 rfl (lv_at hl 1 rfl) ?_
  refine rc_V (As := [.int (nI p9)]) hx hb hml hown hC hl (c_X6_personAt l E hI hp9) (rec_of hC (RA.x hR) rfl) (zm_X6_47 hC.1) kv_X6_personAt hR rfl rfl (rtD_le (by decide) (by decide)) ⟨rfl, rfl⟩ (Nat.le_of_ble_eq_true rfl) ⟨Nat.zero_le _, Nat.zero_le _⟩ dX6_trustBehind_2 ?_
  refine lv_astore_n (lv' := [(3, .ref (g.ad 6 (p9))), (0, .ref (g.ad 1 0)), (1, .int (nI p9)), (2, .int (d9))]) hx hb dX6_trustBehind_5 rfl hl (by decide) rfl (fun ls hl => ?_)
  refine lv_iload_n hx hb dX6_trustBehind_6 rfl (lv_at hl 3 rfl) ?_
  refine lv_iconst (v := 0) hx hb dX6_trustBehind_7 (by decide) ?_
  refine lv_bipush (v := 30) hx hb dX6_trustBehind_8 (by decide) ?_
  exact tc_S (As := [.int (d9), .int (0), .int (30)]) hx hb hml hown hY hZ hnt hlocks hl (t_X6_checkRange l E hI hst hbad) (zm_X6_78 hC.1) kv_X6_checkRange hR rfl rfl (ttD_le (by decide) (by decide)) ⟨rfl, rfl⟩ (Nat.le_of_ble_eq_true rfl) ⟨Nat.le_refl 1, Nat.le_refl 6⟩ dX6_trustBehind_10
set_option maxRecDepth 100000 in
set_option maxHeartbeats 4000000 in
theorem t_X6_day_1 (l : Launch) (E : EE) {S : St} {g : Gh} (hI : Inv S) (hst : l.stackTraces = false) (hfull : 119 ≤ S.td) : TM l E yX6_day cX6_day 4 (some .int) (tD 8) [.ref (g.ad 1 0)] (RA E S g) "java/lang/IllegalStateException" := by
  refine tm_of rfl (Nat.le_of_ble_eq_true rfl) (fun p e s m below meth c ls hx hb hr hml (hown : s.vm.findClass RX6 = some m.cls) hY hZ hnt hlocks hR hl => ?_)
  have hC := hY.1
  have hl : lv_has ls 4 [(0, .ref (g.ad 1 0))] := hl
  refine lv_aload_n hx hb dX6_day_0 rfl (lv_at hl 0 rfl) ?_
  refine gf_X6_8 hx hb hown hC (RA.x hR) (zf_X6_43 hC.1) dX6_day_1 ?_
  refine lv_bipush (v := 119) hx hb dX6_day_4 (by decide) ?_
  refine lv_icmp_lt (tgt := 19) hx hb dX6_day_6 (by decide) (fun c_6 => ?_) (fun c_6 => ?_)
  · exact absurd c_6 (nI_nlt (a := S.td) (b := 119) hfull (by have := hI.1; omega))
  ·
    exact xt_ISE (is := 251) (text := "it is the last day") hst hx hb hml hown hY hZ hnt hlocks hl (by decide) dX6_day_9 dX6_day_12 dX6_day_13 dX6_day_15 dX6_day_18
