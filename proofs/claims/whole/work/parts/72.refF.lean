set_option maxRecDepth 100000 in
set_option maxHeartbeats 4000000 in
theorem c_X12_count (l : Launch) (E : EE) {S : St} {th : Int32} {g : Gh} (hI : Inv S) {w9 : Nat} (hw : w9 ≤ 12) : RM l E yX12_count cX12_count 2 .int (rD 6) [.ref (g.ad 1 0), .int (nI w9)] (RB E S th g) (.int (manyA S w9)) := by
  refine rm_of rfl (Nat.le_of_ble_eq_true rfl) (fun p e s m below meth c ls hx hb hr hml (hown : s.vm.findClass RX12 = some m.cls) hC hlocks hR hl => ?_)
  have hl : lv_has ls 2 [(0, .ref (g.ad 1 0)), (1, .int (nI w9))] := hl
  rcases (by omega : w9 = 0 ∨ w9 = 1 ∨ w9 = 2 ∨ w9 = 3 ∨ w9 = 4 ∨ w9 = 5 ∨ w9 = 6 ∨ w9 = 7 ∨ w9 = 8 ∨ w9 = 9 ∨ w9 = 10 ∨ w9 = 11 ∨ w9 = 12) with rfl | rfl | rfl | rfl | rfl | rfl | rfl | rfl | rfl | rfl | rfl | rfl | rfl
  ·
    have hl : lv_has ls 2 [(0, .ref (g.ad 1 0)), (1, .int (0))] := hl
    refine lv_iload_n hx hb dX12_count_0 rfl (lv_at hl 1 rfl) ?_
    refine lv_iconst (v := 2) hx hb dX12_count_1 (by decide) ?_
    refine lv_icmp_le (tgt := 22) hx hb dX12_count_2 (by decide) (fun c_2 => ?_) (fun c_2 => ?_)
    ·
      refine lv_iload_n hx hb dX12_count_22 rfl (lv_at hl 1 rfl) ?_
      refine lv_tableIn (off := 57) (tgt := 80) hx hb dX12_count_23 (by decide) (by decide) (by decide) (by decide) ?_
      refine lv_aload_n hx hb dX12_count_80 rfl (lv_at hl 0 rfl) ?_
      refine gf_X12_1 hx hb hown hC (RB.x hR) (zf_X12_10 hC.1) dX12_count_81 ?_
      refine gf_X8_0 hx hb hown hC (RB.dk hR) (zf_X12_24 hC.1) dX12_count_84 ?_
      refine rc_V (As := []) hx hb hml hown hC hl (c_size l E _ _ _ _) (rec_of hC (RB.ls hR (by decide : 0 < 4)) rfl) (zm_X12_28 hC.1) kv_Jx4a65c_size_8abf5 (RB.ls hR (by decide : 0 < 4)) rfl rfl (rD_le (by decide) (by decide)) ⟨rfl, rfl⟩ (Nat.le_of_ble_eq_true rfl) ⟨Nat.zero_le _, Nat.zero_le _⟩ dX12_count_87 ?_
      exact rr_i hx hb hr hlocks rfl dX12_count_90
    · exact absurd (by decide) c_2
  ·
    have hl : lv_has ls 2 [(0, .ref (g.ad 1 0)), (1, .int (1))] := hl
    refine lv_iload_n hx hb dX12_count_0 rfl (lv_at hl 1 rfl) ?_
    refine lv_iconst (v := 2) hx hb dX12_count_1 (by decide) ?_
    refine lv_icmp_le (tgt := 22) hx hb dX12_count_2 (by decide) (fun c_2 => ?_) (fun c_2 => ?_)
    ·
      refine lv_iload_n hx hb dX12_count_22 rfl (lv_at hl 1 rfl) ?_
      refine lv_tableIn (off := 68) (tgt := 91) hx hb dX12_count_23 (by decide) (by decide) (by decide) (by decide) ?_
      refine lv_aload_n hx hb dX12_count_91 rfl (lv_at hl 0 rfl) ?_
      refine gf_X12_1 hx hb hown hC (RB.x hR) (zf_X12_10 hC.1) dX12_count_92 ?_
      refine gf_X8_1 hx hb hown hC (RB.dk hR) (zf_X12_87 hC.1) dX12_count_95 ?_
      refine rc_V (As := []) hx hb hml hown hC hl (c_size l E _ _ _ _) (rec_of hC (RB.ls hR (by decide : 1 < 4)) rfl) (zm_X12_28 hC.1) kv_Jx4a65c_size_8abf5 (RB.ls hR (by decide : 1 < 4)) rfl rfl (rD_le (by decide) (by decide)) ⟨rfl, rfl⟩ (Nat.le_of_ble_eq_true rfl) ⟨Nat.zero_le _, Nat.zero_le _⟩ dX12_count_98 ?_
      exact rr_i hx hb hr hlocks rfl dX12_count_101
    · exact absurd (by decide) c_2
  ·
    have hl : lv_has ls 2 [(0, .ref (g.ad 1 0)), (1, .int (2))] := hl
    refine lv_iload_n hx hb dX12_count_0 rfl (lv_at hl 1 rfl) ?_
    refine lv_iconst (v := 2) hx hb dX12_count_1 (by decide) ?_
    refine lv_icmp_le (tgt := 22) hx hb dX12_count_2 (by decide) (fun c_2 => ?_) (fun c_2 => ?_)
    ·
      refine lv_iload_n hx hb dX12_count_22 rfl (lv_at hl 1 rfl) ?_
      refine lv_tableIn (off := 79) (tgt := 102) hx hb dX12_count_23 (by decide) (by decide) (by decide) (by decide) ?_
      refine lv_aload_n hx hb dX12_count_102 rfl (lv_at hl 0 rfl) ?_
      refine gf_X12_1 hx hb hown hC (RB.x hR) (zf_X12_10 hC.1) dX12_count_103 ?_
      refine gf_X8_2 hx hb hown hC (RB.dk hR) (zf_X12_95 hC.1) dX12_count_106 ?_
      refine rc_V (As := []) hx hb hml hown hC hl (c_size l E _ _ _ _) (rec_of hC (RB.ls hR (by decide : 2 < 4)) rfl) (zm_X12_28 hC.1) kv_Jx4a65c_size_8abf5 (RB.ls hR (by decide : 2 < 4)) rfl rfl (rD_le (by decide) (by decide)) ⟨rfl, rfl⟩ (Nat.le_of_ble_eq_true rfl) ⟨Nat.zero_le _, Nat.zero_le _⟩ dX12_count_109 ?_
      exact rr_i hx hb hr hlocks rfl dX12_count_112
    · exact absurd (by decide) c_2
  ·
    have hl : lv_has ls 2 [(0, .ref (g.ad 1 0)), (1, .int (3))] := hl
    refine lv_iload_n hx hb dX12_count_0 rfl (lv_at hl 1 rfl) ?_
    refine lv_iconst (v := 2) hx hb dX12_count_1 (by decide) ?_
    refine lv_icmp_le (tgt := 22) hx hb dX12_count_2 (by decide) (fun c_2 => ?_) (fun c_2 => ?_)
    · exact absurd c_2 (by decide)
    ·
      refine lv_iload_n hx hb dX12_count_5 rfl (lv_at hl 1 rfl) ?_
      refine lv_bipush (v := 8) hx hb dX12_count_6 (by decide) ?_
      refine lv_icmp_ge (tgt := 22) hx hb dX12_count_8 (by decide) (fun c_8 => ?_) (fun c_8 => ?_)
      · exact absurd c_8 (by decide)
      ·
        refine lv_aload_n hx hb dX12_count_11 rfl (lv_at hl 0 rfl) ?_
        refine gf_X12_1 hx hb hown hC (RB.x hR) (zf_X12_10 hC.1) dX12_count_12 ?_
        refine lv_iload_n hx hb dX12_count_15 rfl (lv_at hl 1 rfl) ?_
        refine lv_iconst (v := 3) hx hb dX12_count_16 (by decide) ?_
        refine lv_isub hx hb dX12_count_17 ?_
        refine rc_V (As := [.int ((3) - (3))]) hx hb hml hown hC hl (c_X8_in l E hI ((3) - (3))) (rec_of hC (RB.dk hR) rfl) (zm_X12_215 hC.1) kv_X8_in hR rfl rfl (rD_le (by decide) (by decide)) ⟨rfl, rfl⟩ (Nat.le_of_ble_eq_true rfl) ⟨Nat.zero_le _, Nat.zero_le _⟩ dX12_count_18 ?_
        exact rr_i hx hb hr hlocks rfl dX12_count_21
  ·
    have hl : lv_has ls 2 [(0, .ref (g.ad 1 0)), (1, .int (4))] := hl
    refine lv_iload_n hx hb dX12_count_0 rfl (lv_at hl 1 rfl) ?_
    refine lv_iconst (v := 2) hx hb dX12_count_1 (by decide) ?_
    refine lv_icmp_le (tgt := 22) hx hb dX12_count_2 (by decide) (fun c_2 => ?_) (fun c_2 => ?_)
    · exact absurd c_2 (by decide)
    ·
      refine lv_iload_n hx hb dX12_count_5 rfl (lv_at hl 1 rfl) ?_
      refine lv_bipush (v := 8) hx hb dX12_count_6 (by decide) ?_
      refine lv_icmp_ge (tgt := 22) hx hb dX12_count_8 (by decide) (fun c_8 => ?_) (fun c_8 => ?_)
      · exact absurd c_8 (by decide)
      ·
        refine lv_aload_n hx hb dX12_count_11 rfl (lv_at hl 0 rfl) ?_
        refine gf_X12_1 hx hb hown hC (RB.x hR) (zf_X12_10 hC.1) dX12_count_12 ?_
        refine lv_iload_n hx hb dX12_count_15 rfl (lv_at hl 1 rfl) ?_
        refine lv_iconst (v := 3) hx hb dX12_count_16 (by decide) ?_
        refine lv_isub hx hb dX12_count_17 ?_
        refine rc_V (As := [.int ((4) - (3))]) hx hb hml hown hC hl (c_X8_in l E hI ((4) - (3))) (rec_of hC (RB.dk hR) rfl) (zm_X12_215 hC.1) kv_X8_in hR rfl rfl (rD_le (by decide) (by decide)) ⟨rfl, rfl⟩ (Nat.le_of_ble_eq_true rfl) ⟨Nat.zero_le _, Nat.zero_le _⟩ dX12_count_18 ?_
        exact rr_i hx hb hr hlocks rfl dX12_count_21
  ·
    have hl : lv_has ls 2 [(0, .ref (g.ad 1 0)), (1, .int (5))] := hl
    refine lv_iload_n hx hb dX12_count_0 rfl (lv_at hl 1 rfl) ?_
    refine lv_iconst (v := 2) hx hb dX12_count_1 (by decide) ?_
    refine lv_icmp_le (tgt := 22) hx hb dX12_count_2 (by decide) (fun c_2 => ?_) (fun c_2 => ?_)
    · exact absurd c_2 (by decide)
    ·
      refine lv_iload_n hx hb dX12_count_5 rfl (lv_at hl 1 rfl) ?_
      refine lv_bipush (v := 8) hx hb dX12_count_6 (by decide) ?_
      refine lv_icmp_ge (tgt := 22) hx hb dX12_count_8 (by decide) (fun c_8 => ?_) (fun c_8 => ?_)
      · exact absurd c_8 (by decide)
      ·
        refine lv_aload_n hx hb dX12_count_11 rfl (lv_at hl 0 rfl) ?_
        refine gf_X12_1 hx hb hown hC (RB.x hR) (zf_X12_10 hC.1) dX12_count_12 ?_
        refine lv_iload_n hx hb dX12_count_15 rfl (lv_at hl 1 rfl) ?_
        refine lv_iconst (v := 3) hx hb dX12_count_16 (by decide) ?_
        refine lv_isub hx hb dX12_count_17 ?_
        refine rc_V (As := [.int ((5) - (3))]) hx hb hml hown hC hl (c_X8_in l E hI ((5) - (3))) (rec_of hC (RB.dk hR) rfl) (zm_X12_215 hC.1) kv_X8_in hR rfl rfl (rD_le (by decide) (by decide)) ⟨rfl, rfl⟩ (Nat.le_of_ble_eq_true rfl) ⟨Nat.zero_le _, Nat.zero_le _⟩ dX12_count_18 ?_
        exact rr_i hx hb hr hlocks rfl dX12_count_21
  ·
    have hl : lv_has ls 2 [(0, .ref (g.ad 1 0)), (1, .int (6))] := hl
    refine lv_iload_n hx hb dX12_count_0 rfl (lv_at hl 1 rfl) ?_
    refine lv_iconst (v := 2) hx hb dX12_count_1 (by decide) ?_
    refine lv_icmp_le (tgt := 22) hx hb dX12_count_2 (by decide) (fun c_2 => ?_) (fun c_2 => ?_)
    · exact absurd c_2 (by decide)
    ·
      refine lv_iload_n hx hb dX12_count_5 rfl (lv_at hl 1 rfl) ?_
      refine lv_bipush (v := 8) hx hb dX12_count_6 (by decide) ?_
      refine lv_icmp_ge (tgt := 22) hx hb dX12_count_8 (by decide) (fun c_8 => ?_) (fun c_8 => ?_)
      · exact absurd c_8 (by decide)
      ·
        refine lv_aload_n hx hb dX12_count_11 rfl (lv_at hl 0 rfl) ?_
        refine gf_X12_1 hx hb hown hC (RB.x hR) (zf_X12_10 hC.1) dX12_count_12 ?_
        refine lv_iload_n hx hb dX12_count_15 rfl (lv_at hl 1 rfl) ?_
        refine lv_iconst (v := 3) hx hb dX12_count_16 (by decide) ?_
        refine lv_isub hx hb dX12_count_17 ?_
        refine rc_V (As := [.int ((6) - (3))]) hx hb hml hown hC hl (c_X8_in l E hI ((6) - (3))) (rec_of hC (RB.dk hR) rfl) (zm_X12_215 hC.1) kv_X8_in hR rfl rfl (rD_le (by decide) (by decide)) ⟨rfl, rfl⟩ (Nat.le_of_ble_eq_true rfl) ⟨Nat.zero_le _, Nat.zero_le _⟩ dX12_count_18 ?_
        exact rr_i hx hb hr hlocks rfl dX12_count_21
  ·
    have hl : lv_has ls 2 [(0, .ref (g.ad 1 0)), (1, .int (7))] := hl
    refine lv_iload_n hx hb dX12_count_0 rfl (lv_at hl 1 rfl) ?_
    refine lv_iconst (v := 2) hx hb dX12_count_1 (by decide) ?_
    refine lv_icmp_le (tgt := 22) hx hb dX12_count_2 (by decide) (fun c_2 => ?_) (fun c_2 => ?_)
    · exact absurd c_2 (by decide)
    ·
      refine lv_iload_n hx hb dX12_count_5 rfl (lv_at hl 1 rfl) ?_
      refine lv_bipush (v := 8) hx hb dX12_count_6 (by decide) ?_
      refine lv_icmp_ge (tgt := 22) hx hb dX12_count_8 (by decide) (fun c_8 => ?_) (fun c_8 => ?_)
      · exact absurd c_8 (by decide)
      ·
        refine lv_aload_n hx hb dX12_count_11 rfl (lv_at hl 0 rfl) ?_
        refine gf_X12_1 hx hb hown hC (RB.x hR) (zf_X12_10 hC.1) dX12_count_12 ?_
        refine lv_iload_n hx hb dX12_count_15 rfl (lv_at hl 1 rfl) ?_
        refine lv_iconst (v := 3) hx hb dX12_count_16 (by decide) ?_
        refine lv_isub hx hb dX12_count_17 ?_
        refine rc_V (As := [.int ((7) - (3))]) hx hb hml hown hC hl (c_X8_in l E hI ((7) - (3))) (rec_of hC (RB.dk hR) rfl) (zm_X12_215 hC.1) kv_X8_in hR rfl rfl (rD_le (by decide) (by decide)) ⟨rfl, rfl⟩ (Nat.le_of_ble_eq_true rfl) ⟨Nat.zero_le _, Nat.zero_le _⟩ dX12_count_18 ?_
        exact rr_i hx hb hr hlocks rfl dX12_count_21
  ·
    have hl : lv_has ls 2 [(0, .ref (g.ad 1 0)), (1, .int (8))] := hl
    refine lv_iload_n hx hb dX12_count_0 rfl (lv_at hl 1 rfl) ?_
    refine lv_iconst (v := 2) hx hb dX12_count_1 (by decide) ?_
    refine lv_icmp_le (tgt := 22) hx hb dX12_count_2 (by decide) (fun c_2 => ?_) (fun c_2 => ?_)
    · exact absurd c_2 (by decide)
    ·
      refine lv_iload_n hx hb dX12_count_5 rfl (lv_at hl 1 rfl) ?_
      refine lv_bipush (v := 8) hx hb dX12_count_6 (by decide) ?_
      refine lv_icmp_ge (tgt := 22) hx hb dX12_count_8 (by decide) (fun c_8 => ?_) (fun c_8 => ?_)
      ·
        refine lv_iload_n hx hb dX12_count_22 rfl (lv_at hl 1 rfl) ?_
        refine lv_tableIn (off := 90) (tgt := 113) hx hb dX12_count_23 (by decide) (by decide) (by decide) (by decide) ?_
        refine lv_aload_n hx hb dX12_count_113 rfl (lv_at hl 0 rfl) ?_
        refine gf_X12_1 hx hb hown hC (RB.x hR) (zf_X12_10 hC.1) dX12_count_114 ?_
        refine gf_X8_3 hx hb hown hC (RB.dk hR) (zf_X12_185 hC.1) dX12_count_117 ?_
        refine rc_V (As := []) hx hb hml hown hC hl (c_size l E _ _ _ _) (rec_of hC (RB.ls hR (by decide : 3 < 4)) rfl) (zm_X12_28 hC.1) kv_Jx4a65c_size_8abf5 (RB.ls hR (by decide : 3 < 4)) rfl rfl (rD_le (by decide) (by decide)) ⟨rfl, rfl⟩ (Nat.le_of_ble_eq_true rfl) ⟨Nat.zero_le _, Nat.zero_le _⟩ dX12_count_120 ?_
        exact rr_i hx hb hr hlocks rfl dX12_count_123
      · exact absurd (by decide) c_8
  ·
    have hl : lv_has ls 2 [(0, .ref (g.ad 1 0)), (1, .int (9))] := hl
    refine lv_iload_n hx hb dX12_count_0 rfl (lv_at hl 1 rfl) ?_
    refine lv_iconst (v := 2) hx hb dX12_count_1 (by decide) ?_
    refine lv_icmp_le (tgt := 22) hx hb dX12_count_2 (by decide) (fun c_2 => ?_) (fun c_2 => ?_)
    · exact absurd c_2 (by decide)
    ·
      refine lv_iload_n hx hb dX12_count_5 rfl (lv_at hl 1 rfl) ?_
      refine lv_bipush (v := 8) hx hb dX12_count_6 (by decide) ?_
      refine lv_icmp_ge (tgt := 22) hx hb dX12_count_8 (by decide) (fun c_8 => ?_) (fun c_8 => ?_)
      ·
        refine lv_iload_n hx hb dX12_count_22 rfl (lv_at hl 1 rfl) ?_
        refine lv_tableIn (off := 101) (tgt := 124) hx hb dX12_count_23 (by decide) (by decide) (by decide) (by decide) ?_
        refine lv_aload_n hx hb dX12_count_124 rfl (lv_at hl 0 rfl) ?_
        refine rc_V (As := []) hx hb hml hown hC hl (c_X12_free l E hI) (rec_of hC (RB.x hR) rfl) (zm_X12_250 hC.1) kv_X12_free hR rfl rfl (rD_le (by decide) (by decide)) ⟨rfl, rfl⟩ (Nat.le_of_ble_eq_true rfl) ⟨Nat.zero_le _, Nat.zero_le _⟩ dX12_count_125 ?_
        exact rr_i hx hb hr hlocks rfl dX12_count_128
      · exact absurd (by decide) c_8
  ·
    have hl : lv_has ls 2 [(0, .ref (g.ad 1 0)), (1, .int (10))] := hl
    refine lv_iload_n hx hb dX12_count_0 rfl (lv_at hl 1 rfl) ?_
    refine lv_iconst (v := 2) hx hb dX12_count_1 (by decide) ?_
    refine lv_icmp_le (tgt := 22) hx hb dX12_count_2 (by decide) (fun c_2 => ?_) (fun c_2 => ?_)
    · exact absurd c_2 (by decide)
    ·
      refine lv_iload_n hx hb dX12_count_5 rfl (lv_at hl 1 rfl) ?_
      refine lv_bipush (v := 8) hx hb dX12_count_6 (by decide) ?_
      refine lv_icmp_ge (tgt := 22) hx hb dX12_count_8 (by decide) (fun c_8 => ?_) (fun c_8 => ?_)
      ·
        refine lv_iload_n hx hb dX12_count_22 rfl (lv_at hl 1 rfl) ?_
        refine lv_tableIn (off := 106) (tgt := 129) hx hb dX12_count_23 (by decide) (by decide) (by decide) (by decide) ?_
        refine lv_aload_n hx hb dX12_count_129 rfl (lv_at hl 0 rfl) ?_
        refine gf_X12_1 hx hb hown hC (RB.x hR) (zf_X12_10 hC.1) dX12_count_130 ?_
        refine gf_X8_7 hx hb hown hC (RB.dk hR) (zf_X12_170 hC.1) dX12_count_133 ?_
        exact rr_i hx hb hr hlocks rfl dX12_count_136
      · exact absurd (by decide) c_8
  ·
    have hl : lv_has ls 2 [(0, .ref (g.ad 1 0)), (1, .int (11))] := hl
    refine lv_iload_n hx hb dX12_count_0 rfl (lv_at hl 1 rfl) ?_
    refine lv_iconst (v := 2) hx hb dX12_count_1 (by decide) ?_
    refine lv_icmp_le (tgt := 22) hx hb dX12_count_2 (by decide) (fun c_2 => ?_) (fun c_2 => ?_)
    · exact absurd c_2 (by decide)
    ·
      refine lv_iload_n hx hb dX12_count_5 rfl (lv_at hl 1 rfl) ?_
      refine lv_bipush (v := 8) hx hb dX12_count_6 (by decide) ?_
      refine lv_icmp_ge (tgt := 22) hx hb dX12_count_8 (by decide) (fun c_8 => ?_) (fun c_8 => ?_)
      ·
        refine lv_iload_n hx hb dX12_count_22 rfl (lv_at hl 1 rfl) ?_
        refine lv_tableOut (tgt := 137) hx hb dX12_count_23 (Or.inr (by decide)) (by decide) ?_
        refine lv_aload_n hx hb dX12_count_137 rfl (lv_at hl 0 rfl) ?_
        refine lv_iload_n hx hb dX12_count_138 rfl (lv_at hl 1 rfl) ?_
        refine lv_bipush (v := 12) hx hb dX12_count_139 (by decide) ?_
        refine lv_icmp_ne (tgt := 148) hx hb dX12_count_141 (by decide) (fun c_141 => ?_) (fun c_141 => ?_)
        ·
          refine lv_iconst (v := 0) hx hb dX12_count_148 (by decide) ?_
          refine rc_V (As := [.int (0)]) hx hb hml hown hC hl (c_X12_sum0 l E hI) (rec_of hC (RB.x hR) rfl) (zm_X12_253 hC.1) kv_X12_sum hR rfl rfl (rD_le (by decide) (by decide)) ⟨rfl, rfl⟩ (Nat.le_of_ble_eq_true rfl) ⟨Nat.zero_le _, Nat.zero_le _⟩ dX12_count_149 ?_
          exact rr_i hx hb hr hlocks rfl dX12_count_152
        · exact absurd c_141 (by decide)
      · exact absurd (by decide) c_8
  ·
    have hl : lv_has ls 2 [(0, .ref (g.ad 1 0)), (1, .int (12))] := hl
    refine lv_iload_n hx hb dX12_count_0 rfl (lv_at hl 1 rfl) ?_
    refine lv_iconst (v := 2) hx hb dX12_count_1 (by decide) ?_
    refine lv_icmp_le (tgt := 22) hx hb dX12_count_2 (by decide) (fun c_2 => ?_) (fun c_2 => ?_)
    · exact absurd c_2 (by decide)
    ·
      refine lv_iload_n hx hb dX12_count_5 rfl (lv_at hl 1 rfl) ?_
      refine lv_bipush (v := 8) hx hb dX12_count_6 (by decide) ?_
      refine lv_icmp_ge (tgt := 22) hx hb dX12_count_8 (by decide) (fun c_8 => ?_) (fun c_8 => ?_)
      ·
        refine lv_iload_n hx hb dX12_count_22 rfl (lv_at hl 1 rfl) ?_
        refine lv_tableOut (tgt := 137) hx hb dX12_count_23 (Or.inr (by decide)) (by decide) ?_
        refine lv_aload_n hx hb dX12_count_137 rfl (lv_at hl 0 rfl) ?_
        refine lv_iload_n hx hb dX12_count_138 rfl (lv_at hl 1 rfl) ?_
        refine lv_bipush (v := 12) hx hb dX12_count_139 (by decide) ?_
        refine lv_icmp_ne (tgt := 148) hx hb dX12_count_141 (by decide) (fun c_141 => ?_) (fun c_141 => ?_)
        · exact absurd (by decide) c_141
        ·
          refine lv_iconst (v := 1) hx hb dX12_count_144 (by decide) ?_
          refine lv_goto (tgt := 149) hx hb dX12_count_145 (by decide) ?_
          refine rc_V (As := [.int (1)]) hx hb hml hown hC hl (c_X12_sum1 l E hI) (rec_of hC (RB.x hR) rfl) (zm_X12_253 hC.1) kv_X12_sum hR rfl rfl (rD_le (by decide) (by decide)) ⟨rfl, rfl⟩ (Nat.le_of_ble_eq_true rfl) ⟨Nat.zero_le _, Nat.zero_le _⟩ dX12_count_149 ?_
          exact rr_i hx hb hr hlocks rfl dX12_count_152
      · exact absurd (by decide) c_8
