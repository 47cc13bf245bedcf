set_option maxRecDepth 100000 in
set_option maxHeartbeats 4000000 in
theorem t_X6_charge_6 (l : Launch) (E : EE) {S : St} {g : Gh} (hI : Inv S) (hst : l.stackTraces = false) {p9 : Nat} (hp9 : p9 < S.np) {k9 : Nat} (hk9 : k9 < 4) {l9 : Nat} (hl9 : l9 < 3) {a9 : Int32} (ha91 : ¬ a9 < 1) (ha92 : ¬ 9999 < a9) {x9 : Int32} (hx91 : ¬ x9 < 0) (hx92 : ¬ 9 < x9) (hfull : 30 ≤ S.nc) : TM l E yX6_charge cX6_charge 8 (some .int) (tD 4) [.ref (g.ad 1 0), .int (nI p9), .int (nI k9), .int (nI l9), .int (a9), .int (x9)] (RA E S g) "java/lang/IllegalStateException" := by
  refine tm_of rfl (Nat.le_of_ble_eq_true rfl) (fun p e s m below meth c ls hx hb hr hml (hown : s.vm.findClass RX6 = some m.cls) hY hZ hnt hlocks hR hl => ?_)
  have hC := hY.1
  have hl : lv_has ls 8 [(0, .ref (g.ad 1 0)), (1, .int (nI p9)), (2, .int (nI k9)), (3, .int (nI l9)), (4, .int (a9)), (5, .int (x9))] := hl
  refine lv_aload_n hx hb dX6_charge_0 rfl (lv_at hl 0 rfl) ?_
  refine lv_iload_n hx hb dX6_charge_1 rfl (lv_at hl 1 rfl) ?_
  refine rc_V (As := [.int (nI p9)]) hx hb hml hown hC hl (c_X6_personAt l E hI hp9) (rec_of hC (RA.x hR) rfl) (zm_X6_47 hC.1) kv_X6_personAt hR rfl rfl ⟨Nat.le_of_ble_eq_true rfl, Nat.le_of_ble_eq_true rfl⟩ ⟨rfl, rfl⟩ (Nat.le_of_ble_eq_true rfl) ⟨Nat.zero_le _, Nat.zero_le _⟩ dX6_charge_2 ?_
  refine lv_astore (lv' := [(6, .ref (g.ad 6 (p9))), (0, .ref (g.ad 1 0)), (1, .int (nI p9)), (2, .int (nI k9)), (3, .int (nI l9)), (4, .int (a9)), (5, .int (x9))]) hx hb dX6_charge_5 hl (by decide) rfl (fun ls hl => ?_)
  refine lv_iload_n hx hb dX6_charge_7 rfl (lv_at hl 3 rfl) ?_
  refine rc_S0 (As := [.int (nI k9)]) hx hb hml hown hC hl (c_X6_checkKind l E hI (k9 := k9) hk9) (zm_X6_74 hC.1) kv_X6_checkKind hR rfl rfl ⟨Nat.le_of_ble_eq_true rfl, Nat.le_of_ble_eq_true rfl⟩ ⟨rfl, rfl⟩ (Nat.le_of_ble_eq_true rfl) ⟨Nat.zero_le _, Nat.zero_le _⟩ dX6_charge_8 ?_
  refine lv_iload_n hx hb dX6_charge_11 rfl (lv_at hl 4 rfl) ?_
  refine rc_S0 (As := [.int (nI l9)]) hx hb hml hown hC hl (c_X6_checkLand l E hI (k9 := l9) hl9) (zm_X6_105 hC.1) kv_X6_checkLand hR rfl rfl ⟨Nat.le_of_ble_eq_true rfl, Nat.le_of_ble_eq_true rfl⟩ ⟨rfl, rfl⟩ (Nat.le_of_ble_eq_true rfl) ⟨Nat.zero_le _, Nat.zero_le _⟩ dX6_charge_12 ?_
  refine lv_iload hx hb dX6_charge_15 (lv_at hl 5 rfl) ?_
  refine lv_iconst (v := 1) hx hb dX6_charge_17 (by decide) ?_
  refine lv_sipush (v := 9999) hx hb dX6_charge_18 (by decide) ?_
  refine rc_S0 (As := [.int (a9), .int (1), .int (9999)]) hx hb hml hown hC hl (c_X6_checkRange l E hI ha91 ha92) (zm_X6_78 hC.1) kv_X6_checkRange hR rfl rfl ⟨Nat.le_of_ble_eq_true rfl, Nat.le_of_ble_eq_true rfl⟩ ⟨rfl, rfl⟩ (Nat.le_of_ble_eq_true rfl) ⟨Nat.zero_le _, Nat.zero_le _⟩ dX6_charge_21 ?_
  refine lv_iload hx hb dX6_charge_24 (lv_at hl 6 rfl) ?_
  refine lv_iconst (v := 0) hx hb dX6_charge_26 (by decide) ?_
  refine lv_bipush (v := 9) hx hb dX6_charge_27 (by decide) ?_
  refine rc_S0 (As := [.int (x9), .int (0), .int (9)]) hx hb hml hown hC hl (c_X6_checkRange l E hI hx91 hx92) (zm_X6_78 hC.1) kv_X6_checkRange hR rfl rfl ⟨Nat.le_of_ble_eq_true rfl, Nat.le_of_ble_eq_true rfl⟩ ⟨rfl, rfl⟩ (Nat.le_of_ble_eq_true rfl) ⟨Nat.zero_le _, Nat.zero_le _⟩ dX6_charge_29 ?_
  refine lv_aload_n hx hb dX6_charge_32 rfl (lv_at hl 1 rfl) ?_
  refine gf_X6_2 hx hb hown hC (RA.x hR) (zf_X6_19 hC.1) dX6_charge_33 ?_
  refine rc_V (As := []) hx hb hml hown hC hl (c_size l E _ _ _ _) (rec_of hC (RA.ls hR (by decide : 2 < 4)) rfl) (zm_X6_51 hC.1) kv_Jx4a65c_size_8abf5 (RA.ls hR (by decide : 2 < 4)) rfl rfl ⟨Nat.le_of_ble_eq_true rfl, Nat.le_of_ble_eq_true rfl⟩ ⟨rfl, rfl⟩ (Nat.le_of_ble_eq_true rfl) ⟨Nat.zero_le _, Nat.zero_le _⟩ dX6_charge_36 ?_
  refine lv_bipush (v := 30) hx hb dX6_charge_39 (by decide) ?_
  refine lv_icmp_lt (tgt := 54) hx hb dX6_charge_41 (by decide) (fun c_41 => ?_) (fun c_41 => ?_)
  · exact absurd c_41 (nI_nlt (a := S.nc) (b := 30) hfull (by have := hI.1; omega))
  ·
    exact xt_ISE (is := 151) (text := "there are 30 charges") hst hx hb hml hown hY hZ hnt hlocks hl (by decide) dX6_charge_44 dX6_charge_47 dX6_charge_48 dX6_charge_50 dX6_charge_53
set_option maxRecDepth 100000 in
set_option maxHeartbeats 4000000 in
theorem t_X6_charge_7 (l : Launch) (E : EE) {S : St} {g : Gh} (hI : Inv S) (hst : l.stackTraces = false) {p9 : Nat} (hp9 : p9 < S.np) {k9 : Nat} (hk9 : k9 < 4) {l9 : Nat} (hl9 : l9 < 3) {a9 : Int32} (ha91 : ¬ a9 < 1) (ha92 : ¬ 9999 < a9) {x9 : Int32} (hx91 : ¬ x9 < 0) (hx92 : ¬ 9 < x9) (h30 : S.nc < 30) (hs1 : spendA S p9 k9 (nI l9) < a9) : TM l E yX6_charge cX6_charge 8 (some .int) (tD 4) [.ref (g.ad 1 0), .int (nI p9), .int (nI k9), .int (nI l9), .int (a9), .int (x9)] (RA E S g) "java/lang/IllegalStateException" := by
  refine tm_of rfl (Nat.le_of_ble_eq_true rfl) (fun p e s m below meth c ls hx hb hr hml (hown : s.vm.findClass RX6 = some m.cls) hY hZ hnt hlocks hR hl => ?_)
  have hC := hY.1
  have hl : lv_has ls 8 [(0, .ref (g.ad 1 0)), (1, .int (nI p9)), (2, .int (nI k9)), (3, .int (nI l9)), (4, .int (a9)), (5, .int (x9))] := hl
  refine lv_aload_n hx hb dX6_charge_0 rfl (lv_at hl 0 rfl) ?_
  refine lv_iload_n hx hb dX6_charge_1 rfl (lv_at hl 1 rfl) ?_
  refine rc_V (As := [.int (nI p9)]) hx hb hml hown hC hl (c_X6_personAt l E hI hp9) (rec_of hC (RA.x hR) rfl) (zm_X6_47 hC.1) kv_X6_personAt hR rfl rfl ⟨Nat.le_of_ble_eq_true rfl, Nat.le_of_ble_eq_true rfl⟩ ⟨rfl, rfl⟩ (Nat.le_of_ble_eq_true rfl) ⟨Nat.zero_le _, Nat.zero_le _⟩ dX6_charge_2 ?_
  refine lv_astore (lv' := [(6, .ref (g.ad 6 (p9))), (0, .ref (g.ad 1 0)), (1, .int (nI p9)), (2, .int (nI k9)), (3, .int (nI l9)), (4, .int (a9)), (5, .int (x9))]) hx hb dX6_charge_5 hl (by decide) rfl (fun ls hl => ?_)
  refine lv_iload_n hx hb dX6_charge_7 rfl (lv_at hl 3 rfl) ?_
  refine rc_S0 (As := [.int (nI k9)]) hx hb hml hown hC hl (c_X6_checkKind l E hI (k9 := k9) hk9) (zm_X6_74 hC.1) kv_X6_checkKind hR rfl rfl ⟨Nat.le_of_ble_eq_true rfl, Nat.le_of_ble_eq_true rfl⟩ ⟨rfl, rfl⟩ (Nat.le_of_ble_eq_true rfl) ⟨Nat.zero_le _, Nat.zero_le _⟩ dX6_charge_8 ?_
  refine lv_iload_n hx hb dX6_charge_11 rfl (lv_at hl 4 rfl) ?_
  refine rc_S0 (As := [.int (nI l9)]) hx hb hml hown hC hl (c_X6_checkLand l E hI (k9 := l9) hl9) (zm_X6_105 hC.1) kv_X6_checkLand hR rfl rfl ⟨Nat.le_of_ble_eq_true rfl, Nat.le_of_ble_eq_true rfl⟩ ⟨rfl, rfl⟩ (Nat.le_of_ble_eq_true rfl) ⟨Nat.zero_le _, Nat.zero_le _⟩ dX6_charge_12 ?_
  refine lv_iload hx hb dX6_charge_15 (lv_at hl 5 rfl) ?_
  refine lv_iconst (v := 1) hx hb dX6_charge_17 (by decide) ?_
  refine lv_sipush (v := 9999) hx hb dX6_charge_18 (by decide) ?_
  refine rc_S0 (As := [.int (a9), .int (1), .int (9999)]) hx hb hml hown hC hl (c_X6_checkRange l E hI ha91 ha92) (zm_X6_78 hC.1) kv_X6_checkRange hR rfl rfl ⟨Nat.le_of_ble_eq_true rfl, Nat.le_of_ble_eq_true rfl⟩ ⟨rfl, rfl⟩ (Nat.le_of_ble_eq_true rfl) ⟨Nat.zero_le _, Nat.zero_le _⟩ dX6_charge_21 ?_
  refine lv_iload hx hb dX6_charge_24 (lv_at hl 6 rfl) ?_
  refine lv_iconst (v := 0) hx hb dX6_charge_26 (by decide) ?_
  refine lv_bipush (v := 9) hx hb dX6_charge_27 (by decide) ?_
  refine rc_S0 (As := [.int (x9), .int (0), .int (9)]) hx hb hml hown hC hl (c_X6_checkRange l E hI hx91 hx92) (zm_X6_78 hC.1) kv_X6_checkRange hR rfl rfl ⟨Nat.le_of_ble_eq_true rfl, Nat.le_of_ble_eq_true rfl⟩ ⟨rfl, rfl⟩ (Nat.le_of_ble_eq_true rfl) ⟨Nat.zero_le _, Nat.zero_le _⟩ dX6_charge_29 ?_
  refine lv_aload_n hx hb dX6_charge_32 rfl (lv_at hl 1 rfl) ?_
  refine gf_X6_2 hx hb hown hC (RA.x hR) (zf_X6_19 hC.1) dX6_charge_33 ?_
  refine rc_V (As := []) hx hb hml hown hC hl (c_size l E _ _ _ _) (rec_of hC (RA.ls hR (by decide : 2 < 4)) rfl) (zm_X6_51 hC.1) kv_Jx4a65c_size_8abf5 (RA.ls hR (by decide : 2 < 4)) rfl rfl ⟨Nat.le_of_ble_eq_true rfl, Nat.le_of_ble_eq_true rfl⟩ ⟨rfl, rfl⟩ (Nat.le_of_ble_eq_true rfl) ⟨Nat.zero_le _, Nat.zero_le _⟩ dX6_charge_36 ?_
  refine lv_bipush (v := 30) hx hb dX6_charge_39 (by decide) ?_
  refine lv_icmp_lt (tgt := 54) hx hb dX6_charge_41 (by decide) (fun c_41 => ?_) (fun c_41 => ?_)
  ·
    refine lv_iload hx hb dX6_charge_54 (lv_at hl 5 rfl) ?_
    refine lv_aload_n hx hb dX6_charge_56 rfl (lv_at hl 1 rfl) ?_
    refine lv_aload hx hb dX6_charge_57 (lv_at hl 0 rfl) ?_
    refine lv_iload_n hx hb dX6_charge_59 rfl (lv_at hl 3 rfl) ?_
    refine lv_iload_n hx hb dX6_charge_60 rfl (lv_at hl 4 rfl) ?_
    refine rc_V (As := [.ref (g.ad 6 (p9)), .int (nI k9), .int (nI l9)]) hx hb hml hown hC hl (c_X6_spendableBy l E hI hp9 hk9 (nI l9)) (rec_of hC (RA.x hR) rfl) (zm_X6_139 hC.1) kv_X6_spendableBy hR rfl rfl ⟨Nat.le_of_ble_eq_true rfl, Nat.le_of_ble_eq_true rfl⟩ ⟨rfl, rfl⟩ (Nat.le_of_ble_eq_true rfl) ⟨Nat.zero_le _, Nat.zero_le _⟩ dX6_charge_61 ?_
    refine lv_icmp_gt (tgt := 85) hx hb dX6_charge_64 (by decide) (fun c_64 => ?_) (fun c_64 => ?_)
    ·
      exact xt_ISE (is := 153) (text := "the amount is more than there is") hst hx hb hml hown hY hZ hnt hlocks hl (by decide) dX6_charge_85 dX6_charge_88 dX6_charge_89 dX6_charge_91 dX6_charge_94
    · exact absurd hs1 c_64
  · exact absurd (nI_lt (b := 30) h30 (by decide)) c_41
set_option maxRecDepth 100000 in
set_option maxHeartbeats 4000000 in
theorem t_X6_charge_8 (l : Launch) (E : EE) {S : St} {g : Gh} (hI : Inv S) (hst : l.stackTraces = false) {p9 : Nat} (hp9 : p9 < S.np) {k9 : Nat} (hk9 : k9 < 4) {l9 : Nat} (hl9 : l9 < 3) {a9 : Int32} (ha91 : ¬ a9 < 1) (ha92 : ¬ 9999 < a9) {x9 : Int32} (hx91 : ¬ x9 < 0) (hx92 : ¬ 9 < x9) (h30 : S.nc < 30) (hs1 : ¬ spendA S p9 k9 (nI l9) < a9) (hs2 : ¬ a9 ≤ leftL S k9 0 (S.td / 30 + 1)) : TM l E yX6_charge cX6_charge 8 (some .int) (tD 4) [.ref (g.ad 1 0), .int (nI p9), .int (nI k9), .int (nI l9), .int (a9), .int (x9)] (RA E S g) "java/lang/IllegalStateException" := by
  refine tm_of rfl (Nat.le_of_ble_eq_true rfl) (fun p e s m below meth c ls hx hb hr hml (hown : s.vm.findClass RX6 = some m.cls) hY hZ hnt hlocks hR hl => ?_)
  have hC := hY.1
  have hl : lv_has ls 8 [(0, .ref (g.ad 1 0)), (1, .int (nI p9)), (2, .int (nI k9)), (3, .int (nI l9)), (4, .int (a9)), (5, .int (x9))] := hl
  have htd : S.td / 30 < 4 := by have := hI.td; omega
  refine lv_aload_n hx hb dX6_charge_0 rfl (lv_at hl 0 rfl) ?_
  refine lv_iload_n hx hb dX6_charge_1 rfl (lv_at hl 1 rfl) ?_
  refine rc_V (As := [.int (nI p9)]) hx hb hml hown hC hl (c_X6_personAt l E hI hp9) (rec_of hC (RA.x hR) rfl) (zm_X6_47 hC.1) kv_X6_personAt hR rfl rfl ⟨Nat.le_of_ble_eq_true rfl, Nat.le_of_ble_eq_true rfl⟩ ⟨rfl, rfl⟩ (Nat.le_of_ble_eq_true rfl) ⟨Nat.zero_le _, Nat.zero_le _⟩ dX6_charge_2 ?_
  refine lv_astore (lv' := [(6, .ref (g.ad 6 (p9))), (0, .ref (g.ad 1 0)), (1, .int (nI p9)), (2, .int (nI k9)), (3, .int (nI l9)), (4, .int (a9)), (5, .int (x9))]) hx hb dX6_charge_5 hl (by decide) rfl (fun ls hl => ?_)
  refine lv_iload_n hx hb dX6_charge_7 rfl (lv_at hl 3 rfl) ?_
  refine rc_S0 (As := [.int (nI k9)]) hx hb hml hown hC hl (c_X6_checkKind l E hI (k9 := k9) hk9) (zm_X6_74 hC.1) kv_X6_checkKind hR rfl rfl ⟨Nat.le_of_ble_eq_true rfl, Nat.le_of_ble_eq_true rfl⟩ ⟨rfl, rfl⟩ (Nat.le_of_ble_eq_true rfl) ⟨Nat.zero_le _, Nat.zero_le _⟩ dX6_charge_8 ?_
  refine lv_iload_n hx hb dX6_charge_11 rfl (lv_at hl 4 rfl) ?_
  refine rc_S0 (As := [.int (nI l9)]) hx hb hml hown hC hl (c_X6_checkLand l E hI (k9 := l9) hl9) (zm_X6_105 hC.1) kv_X6_checkLand hR rfl rfl ⟨Nat.le_of_ble_eq_true rfl, Nat.le_of_ble_eq_true rfl⟩ ⟨rfl, rfl⟩ (Nat.le_of_ble_eq_true rfl) ⟨Nat.zero_le _, Nat.zero_le _⟩ dX6_charge_12 ?_
  refine lv_iload hx hb dX6_charge_15 (lv_at hl 5 rfl) ?_
  refine lv_iconst (v := 1) hx hb dX6_charge_17 (by decide) ?_
  refine lv_sipush (v := 9999) hx hb dX6_charge_18 (by decide) ?_
  refine rc_S0 (As := [.int (a9), .int (1), .int (9999)]) hx hb hml hown hC hl (c_X6_checkRange l E hI ha91 ha92) (zm_X6_78 hC.1) kv_X6_checkRange hR rfl rfl ⟨Nat.le_of_ble_eq_true rfl, Nat.le_of_ble_eq_true rfl⟩ ⟨rfl, rfl⟩ (Nat.le_of_ble_eq_true rfl) ⟨Nat.zero_le _, Nat.zero_le _⟩ dX6_charge_21 ?_
  refine lv_iload hx hb dX6_charge_24 (lv_at hl 6 rfl) ?_
  refine lv_iconst (v := 0) hx hb dX6_charge_26 (by decide) ?_
  refine lv_bipush (v := 9) hx hb dX6_charge_27 (by decide) ?_
  refine rc_S0 (As := [.int (x9), .int (0), .int (9)]) hx hb hml hown hC hl (c_X6_checkRange l E hI hx91 hx92) (zm_X6_78 hC.1) kv_X6_checkRange hR rfl rfl ⟨Nat.le_of_ble_eq_true rfl, Nat.le_of_ble_eq_true rfl⟩ ⟨rfl, rfl⟩ (Nat.le_of_ble_eq_true rfl) ⟨Nat.zero_le _, Nat.zero_le _⟩ dX6_charge_29 ?_
  refine lv_aload_n hx hb dX6_charge_32 rfl (lv_at hl 1 rfl) ?_
  refine gf_X6_2 hx hb hown hC (RA.x hR) (zf_X6_19 hC.1) dX6_charge_33 ?_
  refine rc_V (As := []) hx hb hml hown hC hl (c_size l E _ _ _ _) (rec_of hC (RA.ls hR (by decide : 2 < 4)) rfl) (zm_X6_51 hC.1) kv_Jx4a65c_size_8abf5 (RA.ls hR (by decide : 2 < 4)) rfl rfl ⟨Nat.le_of_ble_eq_true rfl, Nat.le_of_ble_eq_true rfl⟩ ⟨rfl, rfl⟩ (Nat.le_of_ble_eq_true rfl) ⟨Nat.zero_le _, Nat.zero_le _⟩ dX6_charge_36 ?_
  refine lv_bipush (v := 30) hx hb dX6_charge_39 (by decide) ?_
  refine lv_icmp_lt (tgt := 54) hx hb dX6_charge_41 (by decide) (fun c_41 => ?_) (fun c_41 => ?_)
  ·
    refine lv_iload hx hb dX6_charge_54 (lv_at hl 5 rfl) ?_
    refine lv_aload_n hx hb dX6_charge_56 rfl (lv_at hl 1 rfl) ?_
    refine lv_aload hx hb dX6_charge_57 (lv_at hl 0 rfl) ?_
    refine lv_iload_n hx hb dX6_charge_59 rfl (lv_at hl 3 rfl) ?_
    refine lv_iload_n hx hb dX6_charge_60 rfl (lv_at hl 4 rfl) ?_
    refine rc_V (As := [.ref (g.ad 6 (p9)), .int (nI k9), .int (nI l9)]) hx hb hml hown hC hl (c_X6_spendableBy l E hI hp9 hk9 (nI l9)) (rec_of hC (RA.x hR) rfl) (zm_X6_139 hC.1) kv_X6_spendableBy hR rfl rfl ⟨Nat.le_of_ble_eq_true rfl, Nat.le_of_ble_eq_true rfl⟩ ⟨rfl, rfl⟩ (Nat.le_of_ble_eq_true rfl) ⟨Nat.zero_le _, Nat.zero_le _⟩ dX6_charge_61 ?_
    refine lv_icmp_gt (tgt := 85) hx hb dX6_charge_64 (by decide) (fun c_64 => ?_) (fun c_64 => ?_)
    · exact absurd c_64 hs1
    ·
      refine lv_iload hx hb dX6_charge_67 (lv_at hl 5 rfl) ?_
      refine lv_aload_n hx hb dX6_charge_69 rfl (lv_at hl 1 rfl) ?_
      refine lv_iload_n hx hb dX6_charge_70 rfl (lv_at hl 3 rfl) ?_
      refine lv_aload_n hx hb dX6_charge_71 rfl (lv_at hl 1 rfl) ?_
      refine gf_X6_8 hx hb hown hC (RA.x hR) (zf_X6_43 hC.1) dX6_charge_72 ?_
      refine lv_bipush (v := 30) hx hb dX6_charge_75 (by decide) ?_
      refine lv_idiv hx hb dX6_charge_77 (by decide) ?_
      rw [div30 S.td (Nat.lt_succ_of_le hI.td)]
      refine lv_iconst (v := 0) hx hb dX6_charge_78 (by decide) ?_
      refine rc_V (As := [.int (nI k9), .int (nI (S.td / 30)), .int (0)]) hx hb hml hown hC hl (c_X6_leftOf l E hI hk9 htd (0)) (rec_of hC (RA.x hR) rfl) (zm_X6_147 hC.1) kv_X6_leftOf hR rfl rfl ⟨Nat.le_of_ble_eq_true rfl, Nat.le_of_ble_eq_true rfl⟩ ⟨rfl, rfl⟩ (Nat.le_of_ble_eq_true rfl) ⟨Nat.zero_le _, Nat.zero_le _⟩ dX6_charge_79 ?_
      refine lv_icmp_le (tgt := 95) hx hb dX6_charge_82 (by decide) (fun c_82 => ?_) (fun c_82 => ?_)
      · exact absurd c_82 hs2
      ·
        exact xt_ISE (is := 153) (text := "the amount is more than there is") hst hx hb hml hown hY hZ hnt hlocks hl (by decide) dX6_charge_85 dX6_charge_88 dX6_charge_89 dX6_charge_91 dX6_charge_94
  · exact absurd (nI_lt (b := 30) h30 (by decide)) c_41
